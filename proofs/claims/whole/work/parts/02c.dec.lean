theorem dX4_init_0 : decode cX4_init 0 = .ok (.aload_n 0, 1) := by decide +kernel
theorem dX4_init_1 : decode cX4_init 1 = .ok (.invokespecial 1, 3) := by decide +kernel
theorem dX4_init_4 : decode cX4_init 4 = .ok (.aload_n 0, 1) := by decide +kernel
theorem dX4_init_5 : decode cX4_init 5 = .ok (.bipush 7, 2) := by decide +kernel
theorem dX4_init_7 : decode cX4_init 7 = .ok (.newarray .int, 2) := by decide +kernel
theorem dX4_init_9 : decode cX4_init 9 = .ok (.putfield 7, 3) := by decide +kernel
theorem dX4_init_12 : decode cX4_init 12 = .ok (.aload_n 0, 1) := by decide +kernel
theorem dX4_init_13 : decode cX4_init 13 = .ok (.bipush 8, 2) := by decide +kernel
theorem dX4_init_15 : decode cX4_init 15 = .ok (.newarray .int, 2) := by decide +kernel
theorem dX4_init_17 : decode cX4_init 17 = .ok (.putfield 13, 3) := by decide +kernel
theorem dX4_init_20 : decode cX4_init 20 = .ok (.aload_n 0, 1) := by decide +kernel
theorem dX4_init_21 : decode cX4_init 21 = .ok (.iconst 3, 1) := by decide +kernel
theorem dX4_init_22 : decode cX4_init 22 = .ok (.newarray .int, 2) := by decide +kernel
theorem dX4_init_24 : decode cX4_init 24 = .ok (.putfield 16, 3) := by decide +kernel
theorem dX4_init_27 : decode cX4_init 27 = .ok (.aload_n 0, 1) := by decide +kernel
theorem dX4_init_28 : decode cX4_init 28 = .ok (.bipush 7, 2) := by decide +kernel
theorem dX4_init_30 : decode cX4_init 30 = .ok (.newarray .int, 2) := by decide +kernel
theorem dX4_init_32 : decode cX4_init 32 = .ok (.putfield 19, 3) := by decide +kernel
theorem dX4_init_35 : decode cX4_init 35 = .ok (.aload_n 0, 1) := by decide +kernel
theorem dX4_init_36 : decode cX4_init 36 = .ok (.bipush 7, 2) := by decide +kernel
theorem dX4_init_38 : decode cX4_init 38 = .ok (.newarray .int, 2) := by decide +kernel
theorem dX4_init_40 : decode cX4_init 40 = .ok (.putfield 22, 3) := by decide +kernel
theorem dX4_init_43 : decode cX4_init 43 = .ok (.aload_n 0, 1) := by decide +kernel
theorem dX4_init_44 : decode cX4_init 44 = .ok (.bipush 7, 2) := by decide +kernel
theorem dX4_init_46 : decode cX4_init 46 = .ok (.newarray .int, 2) := by decide +kernel
theorem dX4_init_48 : decode cX4_init 48 = .ok (.putfield 25, 3) := by decide +kernel
theorem dX4_init_51 : decode cX4_init 51 = .ok (.aload_n 0, 1) := by decide +kernel
theorem dX4_init_52 : decode cX4_init 52 = .ok (.bipush 7, 2) := by decide +kernel
theorem dX4_init_54 : decode cX4_init 54 = .ok (.newarray .int, 2) := by decide +kernel
theorem dX4_init_56 : decode cX4_init 56 = .ok (.putfield 28, 3) := by decide +kernel
theorem dX4_init_59 : decode cX4_init 59 = .ok (.aload_n 0, 1) := by decide +kernel
theorem dX4_init_60 : decode cX4_init 60 = .ok (.bipush 7, 2) := by decide +kernel
theorem dX4_init_62 : decode cX4_init 62 = .ok (.newarray .int, 2) := by decide +kernel
theorem dX4_init_64 : decode cX4_init 64 = .ok (.putfield 31, 3) := by decide +kernel
theorem dX4_init_67 : decode cX4_init 67 = .ok (.aload_n 0, 1) := by decide +kernel
theorem dX4_init_68 : decode cX4_init 68 = .ok (.bipush 96, 2) := by decide +kernel
theorem dX4_init_70 : decode cX4_init 70 = .ok (.newarray .int, 2) := by decide +kernel
theorem dX4_init_72 : decode cX4_init 72 = .ok (.putfield 34, 3) := by decide +kernel
theorem dX4_init_75 : decode cX4_init 75 = .ok (.aload_n 0, 1) := by decide +kernel
theorem dX4_init_76 : decode cX4_init 76 = .ok (.bipush 48, 2) := by decide +kernel
theorem dX4_init_78 : decode cX4_init 78 = .ok (.newarray .int, 2) := by decide +kernel
theorem dX4_init_80 : decode cX4_init 80 = .ok (.putfield 37, 3) := by decide +kernel
theorem dX4_init_83 : decode cX4_init 83 = .ok (.aload_n 0, 1) := by decide +kernel
theorem dX4_init_84 : decode cX4_init 84 = .ok (.bipush 48, 2) := by decide +kernel
theorem dX4_init_86 : decode cX4_init 86 = .ok (.newarray .int, 2) := by decide +kernel
theorem dX4_init_88 : decode cX4_init 88 = .ok (.putfield 40, 3) := by decide +kernel
theorem dX4_init_91 : decode cX4_init 91 = .ok (.aload_n 0, 1) := by decide +kernel
theorem dX4_init_92 : decode cX4_init 92 = .ok (.sipush 240, 3) := by decide +kernel
theorem dX4_init_95 : decode cX4_init 95 = .ok (.newarray .int, 2) := by decide +kernel
theorem dX4_init_97 : decode cX4_init 97 = .ok (.putfield 43, 3) := by decide +kernel
theorem dX4_init_100 : decode cX4_init 100 = .ok (.aload_n 0, 1) := by decide +kernel
theorem dX4_init_101 : decode cX4_init 101 = .ok (.sipush 150, 3) := by decide +kernel
theorem dX4_init_104 : decode cX4_init 104 = .ok (.newarray .int, 2) := by decide +kernel
theorem dX4_init_106 : decode cX4_init 106 = .ok (.putfield 46, 3) := by decide +kernel
theorem dX4_init_109 : decode cX4_init 109 = .ok (.aload_n 0, 1) := by decide +kernel
theorem dX4_init_110 : decode cX4_init 110 = .ok (.bipush 7, 2) := by decide +kernel
theorem dX4_init_112 : decode cX4_init 112 = .ok (.newarray .int, 2) := by decide +kernel
theorem dX4_init_114 : decode cX4_init 114 = .ok (.putfield 49, 3) := by decide +kernel
theorem dX4_init_117 : decode cX4_init 117 = .ok (.aload_n 0, 1) := by decide +kernel
theorem dX4_init_118 : decode cX4_init 118 = .ok (.bipush 7, 2) := by decide +kernel
theorem dX4_init_120 : decode cX4_init 120 = .ok (.newarray .int, 2) := by decide +kernel
theorem dX4_init_122 : decode cX4_init 122 = .ok (.putfield 52, 3) := by decide +kernel
theorem dX4_init_125 : decode cX4_init 125 = .ok (.aload_n 0, 1) := by decide +kernel
theorem dX4_init_126 : decode cX4_init 126 = .ok (.bipush 11, 2) := by decide +kernel
theorem dX4_init_128 : decode cX4_init 128 = .ok (.newarray .int, 2) := by decide +kernel
theorem dX4_init_130 : decode cX4_init 130 = .ok (.putfield 55, 3) := by decide +kernel
theorem dX4_init_133 : decode cX4_init 133 = .ok (.aload_n 0, 1) := by decide +kernel
theorem dX4_init_134 : decode cX4_init 134 = .ok (.bipush 12, 2) := by decide +kernel
theorem dX4_init_136 : decode cX4_init 136 = .ok (.newarray .int, 2) := by decide +kernel
theorem dX4_init_138 : decode cX4_init 138 = .ok (.putfield 58, 3) := by decide +kernel
theorem dX4_init_141 : decode cX4_init 141 = .ok (.aload_n 0, 1) := by decide +kernel
theorem dX4_init_142 : decode cX4_init 142 = .ok (.bipush 12, 2) := by decide +kernel
theorem dX4_init_144 : decode cX4_init 144 = .ok (.newarray .int, 2) := by decide +kernel
theorem dX4_init_146 : decode cX4_init 146 = .ok (.putfield 61, 3) := by decide +kernel
theorem dX4_init_149 : decode cX4_init 149 = .ok (.aload_n 0, 1) := by decide +kernel
theorem dX4_init_150 : decode cX4_init 150 = .ok (.iconst 4, 1) := by decide +kernel
theorem dX4_init_151 : decode cX4_init 151 = .ok (.newarray .int, 2) := by decide +kernel
theorem dX4_init_153 : decode cX4_init 153 = .ok (.putfield 64, 3) := by decide +kernel
theorem dX4_init_156 : decode cX4_init 156 = .ok (.aload_n 0, 1) := by decide +kernel
theorem dX4_init_157 : decode cX4_init 157 = .ok (.iconst 4, 1) := by decide +kernel
theorem dX4_init_158 : decode cX4_init 158 = .ok (.newarray .int, 2) := by decide +kernel
theorem dX4_init_160 : decode cX4_init 160 = .ok (.putfield 67, 3) := by decide +kernel
theorem dX4_init_163 : decode cX4_init 163 = .ok (.aload_n 0, 1) := by decide +kernel
theorem dX4_init_164 : decode cX4_init 164 = .ok (.getfield 16, 3) := by decide +kernel
theorem dX4_init_167 : decode cX4_init 167 = .ok (.iconst 0, 1) := by decide +kernel
theorem dX4_init_168 : decode cX4_init 168 = .ok (.iconst 5, 1) := by decide +kernel
theorem dX4_init_169 : decode cX4_init 169 = .ok (.iastore, 1) := by decide +kernel
theorem dX4_init_170 : decode cX4_init 170 = .ok (.aload_n 0, 1) := by decide +kernel
theorem dX4_init_171 : decode cX4_init 171 = .ok (.getfield 16, 3) := by decide +kernel
theorem dX4_init_174 : decode cX4_init 174 = .ok (.iconst 2, 1) := by decide +kernel
theorem dX4_init_175 : decode cX4_init 175 = .ok (.bipush 10, 2) := by decide +kernel
theorem dX4_init_177 : decode cX4_init 177 = .ok (.iastore, 1) := by decide +kernel
theorem dX4_init_178 : decode cX4_init 178 = .ok (.return_, 1) := by decide +kernel
theorem dX4_no_0 : decode cX4_no 0 = .ok (.aload_n 0, 1) := by decide +kernel
theorem dX4_no_1 : decode cX4_no 1 = .ok (.getfield 7, 3) := by decide +kernel
theorem dX4_no_4 : decode cX4_no 4 = .ok (.iload_n 1, 1) := by decide +kernel
theorem dX4_no_5 : decode cX4_no 5 = .ok (.ineg, 1) := by decide +kernel
theorem dX4_no_6 : decode cX4_no 6 = .ok (.dup2, 1) := by decide +kernel
theorem dX4_no_7 : decode cX4_no 7 = .ok (.iaload, 1) := by decide +kernel
theorem dX4_no_8 : decode cX4_no 8 = .ok (.iconst 1, 1) := by decide +kernel
theorem dX4_no_9 : decode cX4_no 9 = .ok (.iadd, 1) := by decide +kernel
theorem dX4_no_10 : decode cX4_no 10 = .ok (.iastore, 1) := by decide +kernel
theorem dX4_no_11 : decode cX4_no 11 = .ok (.iload_n 1, 1) := by decide +kernel
theorem dX4_no_12 : decode cX4_no 12 = .ok (.ireturn, 1) := by decide +kernel
theorem dX4_isIn_0 : decode cX4_isIn 0 = .ok (.iload_n 0, 1) := by decide +kernel
theorem dX4_isIn_1 : decode cX4_isIn 1 = .ok (.iload_n 1, 1) := by decide +kernel
theorem dX4_isIn_2 : decode cX4_isIn 2 = .ok (.if_icmp .lt 12, 3) := by decide +kernel
theorem dX4_isIn_5 : decode cX4_isIn 5 = .ok (.iload_n 0, 1) := by decide +kernel
theorem dX4_isIn_6 : decode cX4_isIn 6 = .ok (.iload_n 2, 1) := by decide +kernel
theorem dX4_isIn_7 : decode cX4_isIn 7 = .ok (.if_icmp .gt 7, 3) := by decide +kernel
theorem dX4_isIn_10 : decode cX4_isIn 10 = .ok (.iconst 1, 1) := by decide +kernel
theorem dX4_isIn_11 : decode cX4_isIn 11 = .ok (.goto 4, 3) := by decide +kernel
theorem dX4_isIn_14 : decode cX4_isIn 14 = .ok (.iconst 0, 1) := by decide +kernel
theorem dX4_isIn_15 : decode cX4_isIn 15 = .ok (.ireturn, 1) := by decide +kernel
theorem dX4_bound_0 : decode cX4_bound 0 = .ok (.iload_n 0, 1) := by decide +kernel
theorem dX4_bound_1 : decode cX4_bound 1 = .ok (.iload_n 1, 1) := by decide +kernel
theorem dX4_bound_2 : decode cX4_bound 2 = .ok (.if_icmp .ge 8, 3) := by decide +kernel
theorem dX4_bound_5 : decode cX4_bound 5 = .ok (.bipush (-4), 2) := by decide +kernel
theorem dX4_bound_7 : decode cX4_bound 7 = .ok (.goto 14, 3) := by decide +kernel
theorem dX4_bound_10 : decode cX4_bound 10 = .ok (.iload_n 0, 1) := by decide +kernel
theorem dX4_bound_11 : decode cX4_bound 11 = .ok (.iload_n 2, 1) := by decide +kernel
theorem dX4_bound_12 : decode cX4_bound 12 = .ok (.if_icmp .le 8, 3) := by decide +kernel
theorem dX4_bound_15 : decode cX4_bound 15 = .ok (.bipush (-6), 2) := by decide +kernel
theorem dX4_bound_17 : decode cX4_bound 17 = .ok (.goto 4, 3) := by decide +kernel
theorem dX4_bound_20 : decode cX4_bound 20 = .ok (.iconst 0, 1) := by decide +kernel
theorem dX4_bound_21 : decode cX4_bound 21 = .ok (.ireturn, 1) := by decide +kernel
theorem dX4_has_0 : decode cX4_has 0 = .ok (.iload_n 0, 1) := by decide +kernel
theorem dX4_has_1 : decode cX4_has 1 = .ok (.iload_n 1, 1) := by decide +kernel
theorem dX4_has_2 : decode cX4_has 2 = .ok (.ishr, 1) := by decide +kernel
theorem dX4_has_3 : decode cX4_has 3 = .ok (.iconst 1, 1) := by decide +kernel
theorem dX4_has_4 : decode cX4_has 4 = .ok (.iand, 1) := by decide +kernel
theorem dX4_has_5 : decode cX4_has 5 = .ok (.iconst 1, 1) := by decide +kernel
theorem dX4_has_6 : decode cX4_has 6 = .ok (.if_icmp .ne 7, 3) := by decide +kernel
theorem dX4_has_9 : decode cX4_has 9 = .ok (.iconst 1, 1) := by decide +kernel
theorem dX4_has_10 : decode cX4_has 10 = .ok (.goto 4, 3) := by decide +kernel
theorem dX4_has_13 : decode cX4_has 13 = .ok (.iconst 0, 1) := by decide +kernel
theorem dX4_has_14 : decode cX4_has 14 = .ok (.ireturn, 1) := by decide +kernel
theorem dX4_bits_0 : decode cX4_bits 0 = .ok (.iconst 0, 1) := by decide +kernel
theorem dX4_bits_1 : decode cX4_bits 1 = .ok (.istore_n 1, 1) := by decide +kernel
theorem dX4_bits_2 : decode cX4_bits 2 = .ok (.iconst 0, 1) := by decide +kernel
theorem dX4_bits_3 : decode cX4_bits 3 = .ok (.istore_n 2, 1) := by decide +kernel
theorem dX4_bits_4 : decode cX4_bits 4 = .ok (.iload_n 2, 1) := by decide +kernel
theorem dX4_bits_5 : decode cX4_bits 5 = .ok (.bipush 31, 2) := by decide +kernel
theorem dX4_bits_7 : decode cX4_bits 7 = .ok (.if_icmp .ge 17, 3) := by decide +kernel
theorem dX4_bits_10 : decode cX4_bits 10 = .ok (.iload_n 1, 1) := by decide +kernel
theorem dX4_bits_11 : decode cX4_bits 11 = .ok (.iload_n 0, 1) := by decide +kernel
theorem dX4_bits_12 : decode cX4_bits 12 = .ok (.iload_n 2, 1) := by decide +kernel
theorem dX4_bits_13 : decode cX4_bits 13 = .ok (.ishr, 1) := by decide +kernel
theorem dX4_bits_14 : decode cX4_bits 14 = .ok (.iconst 1, 1) := by decide +kernel
theorem dX4_bits_15 : decode cX4_bits 15 = .ok (.iand, 1) := by decide +kernel
theorem dX4_bits_16 : decode cX4_bits 16 = .ok (.iadd, 1) := by decide +kernel
theorem dX4_bits_17 : decode cX4_bits 17 = .ok (.istore_n 1, 1) := by decide +kernel
theorem dX4_bits_18 : decode cX4_bits 18 = .ok (.iinc 2 1, 3) := by decide +kernel
theorem dX4_bits_21 : decode cX4_bits 21 = .ok (.goto (-17), 3) := by decide +kernel
theorem dX4_bits_24 : decode cX4_bits 24 = .ok (.iload_n 1, 1) := by decide +kernel
theorem dX4_bits_25 : decode cX4_bits 25 = .ok (.ireturn, 1) := by decide +kernel
theorem dX4_isCaller_0 : decode cX4_isCaller 0 = .ok (.iload_n 1, 1) := by decide +kernel
theorem dX4_isCaller_1 : decode cX4_isCaller 1 = .ok (.ifCond .lt 15, 3) := by decide +kernel
theorem dX4_isCaller_4 : decode cX4_isCaller 4 = .ok (.iload_n 1, 1) := by decide +kernel
theorem dX4_isCaller_5 : decode cX4_isCaller 5 = .ok (.aload_n 0, 1) := by decide +kernel
theorem dX4_isCaller_6 : decode cX4_isCaller 6 = .ok (.getfield 70, 3) := by decide +kernel
theorem dX4_isCaller_9 : decode cX4_isCaller 9 = .ok (.if_icmp .ge 7, 3) := by decide +kernel
theorem dX4_isCaller_12 : decode cX4_isCaller 12 = .ok (.iconst 1, 1) := by decide +kernel
theorem dX4_isCaller_13 : decode cX4_isCaller 13 = .ok (.goto 4, 3) := by decide +kernel
theorem dX4_isCaller_16 : decode cX4_isCaller 16 = .ok (.iconst 0, 1) := by decide +kernel
theorem dX4_isCaller_17 : decode cX4_isCaller 17 = .ok (.ireturn, 1) := by decide +kernel
theorem dX4_isWord_0 : decode cX4_isWord 0 = .ok (.iload_n 0, 1) := by decide +kernel
theorem dX4_isWord_1 : decode cX4_isWord 1 = .ok (.ifCond .lt 13, 3) := by decide +kernel
theorem dX4_isWord_4 : decode cX4_isWord 4 = .ok (.iload_n 0, 1) := by decide +kernel
theorem dX4_isWord_5 : decode cX4_isWord 5 = .ok (.bipush 8, 2) := by decide +kernel
theorem dX4_isWord_7 : decode cX4_isWord 7 = .ok (.if_icmp .ge 7, 3) := by decide +kernel
theorem dX4_isWord_10 : decode cX4_isWord 10 = .ok (.iconst 1, 1) := by decide +kernel
theorem dX4_isWord_11 : decode cX4_isWord 11 = .ok (.goto 4, 3) := by decide +kernel
theorem dX4_isWord_14 : decode cX4_isWord 14 = .ok (.iconst 0, 1) := by decide +kernel
theorem dX4_isWord_15 : decode cX4_isWord 15 = .ok (.ireturn, 1) := by decide +kernel
theorem dX4_isSetting_0 : decode cX4_isSetting 0 = .ok (.iload_n 0, 1) := by decide +kernel
theorem dX4_isSetting_1 : decode cX4_isSetting 1 = .ok (.ifCond .ne 13, 3) := by decide +kernel
theorem dX4_isSetting_4 : decode cX4_isSetting 4 = .ok (.iload_n 1, 1) := by decide +kernel
theorem dX4_isSetting_5 : decode cX4_isSetting 5 = .ok (.iconst 0, 1) := by decide +kernel
theorem dX4_isSetting_6 : decode cX4_isSetting 6 = .ok (.bipush 9, 2) := by decide +kernel
theorem dX4_isSetting_8 : decode cX4_isSetting 8 = .ok (.invokestatic 74, 3) := by decide +kernel
theorem dX4_isSetting_11 : decode cX4_isSetting 11 = .ok (.goto 25, 3) := by decide +kernel
theorem dX4_isSetting_14 : decode cX4_isSetting 14 = .ok (.iload_n 0, 1) := by decide +kernel
theorem dX4_isSetting_15 : decode cX4_isSetting 15 = .ok (.iconst 1, 1) := by decide +kernel
theorem dX4_isSetting_16 : decode cX4_isSetting 16 = .ok (.if_icmp .ne 13, 3) := by decide +kernel
theorem dX4_isSetting_19 : decode cX4_isSetting 19 = .ok (.iload_n 1, 1) := by decide +kernel
theorem dX4_isSetting_20 : decode cX4_isSetting 20 = .ok (.iconst 0, 1) := by decide +kernel
theorem dX4_isSetting_21 : decode cX4_isSetting 21 = .ok (.bipush 99, 2) := by decide +kernel
theorem dX4_isSetting_23 : decode cX4_isSetting 23 = .ok (.invokestatic 74, 3) := by decide +kernel
theorem dX4_isSetting_26 : decode cX4_isSetting 26 = .ok (.goto 10, 3) := by decide +kernel
theorem dX4_isSetting_29 : decode cX4_isSetting 29 = .ok (.iload_n 1, 1) := by decide +kernel
theorem dX4_isSetting_30 : decode cX4_isSetting 30 = .ok (.iconst 1, 1) := by decide +kernel
theorem dX4_isSetting_31 : decode cX4_isSetting 31 = .ok (.bipush 20, 2) := by decide +kernel
theorem dX4_isSetting_33 : decode cX4_isSetting 33 = .ok (.invokestatic 74, 3) := by decide +kernel
theorem dX4_isSetting_36 : decode cX4_isSetting 36 = .ok (.ireturn, 1) := by decide +kernel
theorem dX4_letter_0 : decode cX4_letter 0 = .ok (.iload_n 1, 1) := by decide +kernel
theorem dX4_letter_1 : decode cX4_letter 1 = .ok (.iconst 0, 1) := by decide +kernel
theorem dX4_letter_2 : decode cX4_letter 2 = .ok (.sipush 255, 3) := by decide +kernel
theorem dX4_letter_5 : decode cX4_letter 5 = .ok (.invokestatic 78, 3) := by decide +kernel
theorem dX4_letter_8 : decode cX4_letter 8 = .ok (.istore_n 2, 1) := by decide +kernel
theorem dX4_letter_9 : decode cX4_letter 9 = .ok (.iload_n 2, 1) := by decide +kernel
theorem dX4_letter_10 : decode cX4_letter 10 = .ok (.ifCond .ne 15, 3) := by decide +kernel
theorem dX4_letter_13 : decode cX4_letter 13 = .ok (.aload_n 0, 1) := by decide +kernel
theorem dX4_letter_14 : decode cX4_letter 14 = .ok (.getfield 82, 3) := by decide +kernel
theorem dX4_letter_17 : decode cX4_letter 17 = .ok (.bipush 96, 2) := by decide +kernel
theorem dX4_letter_19 : decode cX4_letter 19 = .ok (.if_icmp .ne 6, 3) := by decide +kernel
theorem dX4_letter_22 : decode cX4_letter 22 = .ok (.bipush (-6), 2) := by decide +kernel
theorem dX4_letter_24 : decode cX4_letter 24 = .ok (.istore_n 2, 1) := by decide +kernel
theorem dX4_letter_25 : decode cX4_letter 25 = .ok (.iload_n 2, 1) := by decide +kernel
theorem dX4_letter_26 : decode cX4_letter 26 = .ok (.ifCond .eq 9, 3) := by decide +kernel
theorem dX4_letter_29 : decode cX4_letter 29 = .ok (.aload_n 0, 1) := by decide +kernel
theorem dX4_letter_30 : decode cX4_letter 30 = .ok (.iload_n 2, 1) := by decide +kernel
theorem dX4_letter_31 : decode cX4_letter 31 = .ok (.invokevirtual 85, 3) := by decide +kernel
theorem dX4_letter_34 : decode cX4_letter 34 = .ok (.ireturn, 1) := by decide +kernel
theorem dX4_letter_35 : decode cX4_letter 35 = .ok (.aload_n 0, 1) := by decide +kernel
theorem dX4_letter_36 : decode cX4_letter 36 = .ok (.getfield 34, 3) := by decide +kernel
theorem dX4_letter_39 : decode cX4_letter 39 = .ok (.aload_n 0, 1) := by decide +kernel
theorem dX4_letter_40 : decode cX4_letter 40 = .ok (.getfield 82, 3) := by decide +kernel
theorem dX4_letter_43 : decode cX4_letter 43 = .ok (.iload_n 1, 1) := by decide +kernel
theorem dX4_letter_44 : decode cX4_letter 44 = .ok (.iastore, 1) := by decide +kernel
theorem dX4_letter_45 : decode cX4_letter 45 = .ok (.aload_n 0, 1) := by decide +kernel
theorem dX4_letter_46 : decode cX4_letter 46 = .ok (.dup, 1) := by decide +kernel
theorem dX4_letter_47 : decode cX4_letter 47 = .ok (.getfield 82, 3) := by decide +kernel
theorem dX4_letter_50 : decode cX4_letter 50 = .ok (.iconst 1, 1) := by decide +kernel
theorem dX4_letter_51 : decode cX4_letter 51 = .ok (.iadd, 1) := by decide +kernel
theorem dX4_letter_52 : decode cX4_letter 52 = .ok (.putfield 82, 3) := by decide +kernel
theorem dX4_letter_55 : decode cX4_letter 55 = .ok (.aload_n 0, 1) := by decide +kernel
theorem dX4_letter_56 : decode cX4_letter 56 = .ok (.getfield 82, 3) := by decide +kernel
theorem dX4_letter_59 : decode cX4_letter 59 = .ok (.ireturn, 1) := by decide +kernel
theorem dX4_next_0 : decode cX4_next 0 = .ok (.aload_n 0, 1) := by decide +kernel
theorem dX4_next_1 : decode cX4_next 1 = .ok (.getfield 89, 3) := by decide +kernel
theorem dX4_next_4 : decode cX4_next 4 = .ok (.aload_n 0, 1) := by decide +kernel
theorem dX4_next_5 : decode cX4_next 5 = .ok (.getfield 82, 3) := by decide +kernel
theorem dX4_next_8 : decode cX4_next 8 = .ok (.if_icmp .ge 15, 3) := by decide +kernel
theorem dX4_next_11 : decode cX4_next 11 = .ok (.aload_n 0, 1) := by decide +kernel
theorem dX4_next_12 : decode cX4_next 12 = .ok (.getfield 34, 3) := by decide +kernel
theorem dX4_next_15 : decode cX4_next 15 = .ok (.aload_n 0, 1) := by decide +kernel
theorem dX4_next_16 : decode cX4_next 16 = .ok (.getfield 89, 3) := by decide +kernel
theorem dX4_next_19 : decode cX4_next 19 = .ok (.iaload, 1) := by decide +kernel
theorem dX4_next_20 : decode cX4_next 20 = .ok (.goto 4, 3) := by decide +kernel
theorem dX4_next_23 : decode cX4_next 23 = .ok (.iconst (-1), 1) := by decide +kernel
theorem dX4_next_24 : decode cX4_next 24 = .ok (.ireturn, 1) := by decide +kernel
theorem dX4_readsDigits_0 : decode cX4_readsDigits 0 = .ok (.iconst 0, 1) := by decide +kernel
theorem dX4_readsDigits_1 : decode cX4_readsDigits 1 = .ok (.istore_n 3, 1) := by decide +kernel
theorem dX4_readsDigits_2 : decode cX4_readsDigits 2 = .ok (.iconst 0, 1) := by decide +kernel
theorem dX4_readsDigits_3 : decode cX4_readsDigits 3 = .ok (.istore 4, 2) := by decide +kernel
theorem dX4_readsDigits_5 : decode cX4_readsDigits 5 = .ok (.iload 4, 2) := by decide +kernel
theorem dX4_readsDigits_7 : decode cX4_readsDigits 7 = .ok (.iload_n 2, 1) := by decide +kernel
theorem dX4_readsDigits_8 : decode cX4_readsDigits 8 = .ok (.if_icmp .ge 48, 3) := by decide +kernel
theorem dX4_readsDigits_11 : decode cX4_readsDigits 11 = .ok (.aload_n 0, 1) := by decide +kernel
theorem dX4_readsDigits_12 : decode cX4_readsDigits 12 = .ok (.invokevirtual 92, 3) := by decide +kernel
theorem dX4_readsDigits_15 : decode cX4_readsDigits 15 = .ok (.bipush 48, 2) := by decide +kernel
theorem dX4_readsDigits_17 : decode cX4_readsDigits 17 = .ok (.bipush 57, 2) := by decide +kernel
theorem dX4_readsDigits_19 : decode cX4_readsDigits 19 = .ok (.invokestatic 74, 3) := by decide +kernel
theorem dX4_readsDigits_22 : decode cX4_readsDigits 22 = .ok (.ifCond .ne 5, 3) := by decide +kernel
theorem dX4_readsDigits_25 : decode cX4_readsDigits 25 = .ok (.iconst 0, 1) := by decide +kernel
theorem dX4_readsDigits_26 : decode cX4_readsDigits 26 = .ok (.ireturn, 1) := by decide +kernel
theorem dX4_readsDigits_27 : decode cX4_readsDigits 27 = .ok (.bipush 10, 2) := by decide +kernel
theorem dX4_readsDigits_29 : decode cX4_readsDigits 29 = .ok (.iload_n 3, 1) := by decide +kernel
theorem dX4_readsDigits_30 : decode cX4_readsDigits 30 = .ok (.imul, 1) := by decide +kernel
theorem dX4_readsDigits_31 : decode cX4_readsDigits 31 = .ok (.aload_n 0, 1) := by decide +kernel
theorem dX4_readsDigits_32 : decode cX4_readsDigits 32 = .ok (.invokevirtual 92, 3) := by decide +kernel
theorem dX4_readsDigits_35 : decode cX4_readsDigits 35 = .ok (.iadd, 1) := by decide +kernel
theorem dX4_readsDigits_36 : decode cX4_readsDigits 36 = .ok (.bipush 48, 2) := by decide +kernel
theorem dX4_readsDigits_38 : decode cX4_readsDigits 38 = .ok (.isub, 1) := by decide +kernel
theorem dX4_readsDigits_39 : decode cX4_readsDigits 39 = .ok (.istore_n 3, 1) := by decide +kernel
theorem dX4_readsDigits_40 : decode cX4_readsDigits 40 = .ok (.aload_n 0, 1) := by decide +kernel
theorem dX4_readsDigits_41 : decode cX4_readsDigits 41 = .ok (.dup, 1) := by decide +kernel
theorem dX4_readsDigits_42 : decode cX4_readsDigits 42 = .ok (.getfield 89, 3) := by decide +kernel
theorem dX4_readsDigits_45 : decode cX4_readsDigits 45 = .ok (.iconst 1, 1) := by decide +kernel
theorem dX4_readsDigits_46 : decode cX4_readsDigits 46 = .ok (.iadd, 1) := by decide +kernel
theorem dX4_readsDigits_47 : decode cX4_readsDigits 47 = .ok (.putfield 89, 3) := by decide +kernel
theorem dX4_readsDigits_50 : decode cX4_readsDigits 50 = .ok (.iinc 4 1, 3) := by decide +kernel
theorem dX4_readsDigits_53 : decode cX4_readsDigits 53 = .ok (.goto (-48), 3) := by decide +kernel
theorem dX4_readsDigits_56 : decode cX4_readsDigits 56 = .ok (.aload_n 0, 1) := by decide +kernel
theorem dX4_readsDigits_57 : decode cX4_readsDigits 57 = .ok (.getfield 43, 3) := by decide +kernel
theorem dX4_readsDigits_60 : decode cX4_readsDigits 60 = .ok (.iload_n 1, 1) := by decide +kernel
theorem dX4_readsDigits_61 : decode cX4_readsDigits 61 = .ok (.iload_n 3, 1) := by decide +kernel
theorem dX4_readsDigits_62 : decode cX4_readsDigits 62 = .ok (.iastore, 1) := by decide +kernel
theorem dX4_readsDigits_63 : decode cX4_readsDigits 63 = .ok (.iconst 1, 1) := by decide +kernel
theorem dX4_readsDigits_64 : decode cX4_readsDigits 64 = .ok (.ireturn, 1) := by decide +kernel
theorem dX4_kindOf_0 : decode cX4_kindOf 0 = .ok (.iload_n 0, 1) := by decide +kernel
theorem dX4_kindOf_1 : decode cX4_kindOf 1 = .ok (.lookupswitch 71 #[(99, 59), (103, 69), (104, 61), (115, 67), (116, 63), (119, 65)], 59) := by decide +kernel
theorem dX4_kindOf_60 : decode cX4_kindOf 60 = .ok (.iconst 0, 1) := by decide +kernel
theorem dX4_kindOf_61 : decode cX4_kindOf 61 = .ok (.ireturn, 1) := by decide +kernel
theorem dX4_kindOf_62 : decode cX4_kindOf 62 = .ok (.iconst 1, 1) := by decide +kernel
theorem dX4_kindOf_63 : decode cX4_kindOf 63 = .ok (.ireturn, 1) := by decide +kernel
theorem dX4_kindOf_64 : decode cX4_kindOf 64 = .ok (.iconst 2, 1) := by decide +kernel
theorem dX4_kindOf_65 : decode cX4_kindOf 65 = .ok (.ireturn, 1) := by decide +kernel
theorem dX4_kindOf_66 : decode cX4_kindOf 66 = .ok (.iconst 3, 1) := by decide +kernel
theorem dX4_kindOf_67 : decode cX4_kindOf 67 = .ok (.ireturn, 1) := by decide +kernel
theorem dX4_kindOf_68 : decode cX4_kindOf 68 = .ok (.iconst 4, 1) := by decide +kernel
theorem dX4_kindOf_69 : decode cX4_kindOf 69 = .ok (.ireturn, 1) := by decide +kernel
theorem dX4_kindOf_70 : decode cX4_kindOf 70 = .ok (.iconst 5, 1) := by decide +kernel
theorem dX4_kindOf_71 : decode cX4_kindOf 71 = .ok (.ireturn, 1) := by decide +kernel
theorem dX4_kindOf_72 : decode cX4_kindOf 72 = .ok (.iconst (-1), 1) := by decide +kernel
theorem dX4_kindOf_73 : decode cX4_kindOf 73 = .ok (.ireturn, 1) := by decide +kernel
theorem dX4_readsCaller_0 : decode cX4_readsCaller 0 = .ok (.aload_n 0, 1) := by decide +kernel
theorem dX4_readsCaller_1 : decode cX4_readsCaller 1 = .ok (.getfield 43, 3) := by decide +kernel
theorem dX4_readsCaller_4 : decode cX4_readsCaller 4 = .ok (.iload_n 1, 1) := by decide +kernel
theorem dX4_readsCaller_5 : decode cX4_readsCaller 5 = .ok (.aload_n 0, 1) := by decide +kernel
theorem dX4_readsCaller_6 : decode cX4_readsCaller 6 = .ok (.invokevirtual 92, 3) := by decide +kernel
theorem dX4_readsCaller_9 : decode cX4_readsCaller 9 = .ok (.invokestatic 96, 3) := by decide +kernel
theorem dX4_readsCaller_12 : decode cX4_readsCaller 12 = .ok (.iastore, 1) := by decide +kernel
theorem dX4_readsCaller_13 : decode cX4_readsCaller 13 = .ok (.aload_n 0, 1) := by decide +kernel
theorem dX4_readsCaller_14 : decode cX4_readsCaller 14 = .ok (.getfield 43, 3) := by decide +kernel
theorem dX4_readsCaller_17 : decode cX4_readsCaller 17 = .ok (.iload_n 1, 1) := by decide +kernel
theorem dX4_readsCaller_18 : decode cX4_readsCaller 18 = .ok (.iaload, 1) := by decide +kernel
theorem dX4_readsCaller_19 : decode cX4_readsCaller 19 = .ok (.ifCond .ge 5, 3) := by decide +kernel
theorem dX4_readsCaller_22 : decode cX4_readsCaller 22 = .ok (.iconst 0, 1) := by decide +kernel
theorem dX4_readsCaller_23 : decode cX4_readsCaller 23 = .ok (.ireturn, 1) := by decide +kernel
theorem dX4_readsCaller_24 : decode cX4_readsCaller 24 = .ok (.aload_n 0, 1) := by decide +kernel
theorem dX4_readsCaller_25 : decode cX4_readsCaller 25 = .ok (.dup, 1) := by decide +kernel
theorem dX4_readsCaller_26 : decode cX4_readsCaller 26 = .ok (.getfield 89, 3) := by decide +kernel
theorem dX4_readsCaller_29 : decode cX4_readsCaller 29 = .ok (.iconst 1, 1) := by decide +kernel
theorem dX4_readsCaller_30 : decode cX4_readsCaller 30 = .ok (.iadd, 1) := by decide +kernel
theorem dX4_readsCaller_31 : decode cX4_readsCaller 31 = .ok (.putfield 89, 3) := by decide +kernel
theorem dX4_readsCaller_34 : decode cX4_readsCaller 34 = .ok (.aload_n 0, 1) := by decide +kernel
theorem dX4_readsCaller_35 : decode cX4_readsCaller 35 = .ok (.iload_n 1, 1) := by decide +kernel
theorem dX4_readsCaller_36 : decode cX4_readsCaller 36 = .ok (.iconst 1, 1) := by decide +kernel
theorem dX4_readsCaller_37 : decode cX4_readsCaller 37 = .ok (.iadd, 1) := by decide +kernel
theorem dX4_readsCaller_38 : decode cX4_readsCaller 38 = .ok (.iconst 1, 1) := by decide +kernel
theorem dX4_readsCaller_39 : decode cX4_readsCaller 39 = .ok (.invokevirtual 99, 3) := by decide +kernel
theorem dX4_readsCaller_42 : decode cX4_readsCaller 42 = .ok (.ifCond .eq 40, 3) := by decide +kernel
theorem dX4_readsCaller_45 : decode cX4_readsCaller 45 = .ok (.aload_n 0, 1) := by decide +kernel
theorem dX4_readsCaller_46 : decode cX4_readsCaller 46 = .ok (.iload_n 1, 1) := by decide +kernel
theorem dX4_readsCaller_47 : decode cX4_readsCaller 47 = .ok (.iconst 2, 1) := by decide +kernel
theorem dX4_readsCaller_48 : decode cX4_readsCaller 48 = .ok (.iadd, 1) := by decide +kernel
theorem dX4_readsCaller_49 : decode cX4_readsCaller 49 = .ok (.iconst 1, 1) := by decide +kernel
theorem dX4_readsCaller_50 : decode cX4_readsCaller 50 = .ok (.invokevirtual 99, 3) := by decide +kernel
theorem dX4_readsCaller_53 : decode cX4_readsCaller 53 = .ok (.ifCond .eq 29, 3) := by decide +kernel
theorem dX4_readsCaller_56 : decode cX4_readsCaller 56 = .ok (.aload_n 0, 1) := by decide +kernel
theorem dX4_readsCaller_57 : decode cX4_readsCaller 57 = .ok (.iload_n 1, 1) := by decide +kernel
theorem dX4_readsCaller_58 : decode cX4_readsCaller 58 = .ok (.iconst 3, 1) := by decide +kernel
theorem dX4_readsCaller_59 : decode cX4_readsCaller 59 = .ok (.iadd, 1) := by decide +kernel
theorem dX4_readsCaller_60 : decode cX4_readsCaller 60 = .ok (.iconst 1, 1) := by decide +kernel
theorem dX4_readsCaller_61 : decode cX4_readsCaller 61 = .ok (.invokevirtual 99, 3) := by decide +kernel
theorem dX4_readsCaller_64 : decode cX4_readsCaller 64 = .ok (.ifCond .eq 18, 3) := by decide +kernel
theorem dX4_readsCaller_67 : decode cX4_readsCaller 67 = .ok (.aload_n 0, 1) := by decide +kernel
theorem dX4_readsCaller_68 : decode cX4_readsCaller 68 = .ok (.iload_n 1, 1) := by decide +kernel
theorem dX4_readsCaller_69 : decode cX4_readsCaller 69 = .ok (.iconst 4, 1) := by decide +kernel
theorem dX4_readsCaller_70 : decode cX4_readsCaller 70 = .ok (.iadd, 1) := by decide +kernel
theorem dX4_readsCaller_71 : decode cX4_readsCaller 71 = .ok (.iconst 2, 1) := by decide +kernel
theorem dX4_readsCaller_72 : decode cX4_readsCaller 72 = .ok (.invokevirtual 99, 3) := by decide +kernel
theorem dX4_readsCaller_75 : decode cX4_readsCaller 75 = .ok (.ifCond .eq 7, 3) := by decide +kernel
theorem dX4_readsCaller_78 : decode cX4_readsCaller 78 = .ok (.iconst 1, 1) := by decide +kernel
theorem dX4_readsCaller_79 : decode cX4_readsCaller 79 = .ok (.goto 4, 3) := by decide +kernel
theorem dX4_readsCaller_82 : decode cX4_readsCaller 82 = .ok (.iconst 0, 1) := by decide +kernel
theorem dX4_readsCaller_83 : decode cX4_readsCaller 83 = .ok (.ireturn, 1) := by decide +kernel
theorem dX4_readsAll_0 : decode cX4_readsAll 0 = .ok (.iload_n 1, 1) := by decide +kernel
theorem dX4_readsAll_1 : decode cX4_readsAll 1 = .ok (.lookupswitch 82 #[(99, 43), (104, 49), (107, 49), (116, 75)], 43) := by decide +kernel
theorem dX4_readsAll_44 : decode cX4_readsAll 44 = .ok (.aload_n 0, 1) := by decide +kernel
theorem dX4_readsAll_45 : decode cX4_readsAll 45 = .ok (.iload_n 2, 1) := by decide +kernel
theorem dX4_readsAll_46 : decode cX4_readsAll 46 = .ok (.invokevirtual 103, 3) := by decide +kernel
theorem dX4_readsAll_49 : decode cX4_readsAll 49 = .ok (.ireturn, 1) := by decide +kernel
theorem dX4_readsAll_50 : decode cX4_readsAll 50 = .ok (.aload_n 0, 1) := by decide +kernel
theorem dX4_readsAll_51 : decode cX4_readsAll 51 = .ok (.iload_n 2, 1) := by decide +kernel
theorem dX4_readsAll_52 : decode cX4_readsAll 52 = .ok (.iconst 1, 1) := by decide +kernel
theorem dX4_readsAll_53 : decode cX4_readsAll 53 = .ok (.invokevirtual 99, 3) := by decide +kernel
theorem dX4_readsAll_56 : decode cX4_readsAll 56 = .ok (.ifCond .eq 18, 3) := by decide +kernel
theorem dX4_readsAll_59 : decode cX4_readsAll 59 = .ok (.aload_n 0, 1) := by decide +kernel
theorem dX4_readsAll_60 : decode cX4_readsAll 60 = .ok (.iload_n 2, 1) := by decide +kernel
theorem dX4_readsAll_61 : decode cX4_readsAll 61 = .ok (.iconst 1, 1) := by decide +kernel
theorem dX4_readsAll_62 : decode cX4_readsAll 62 = .ok (.iadd, 1) := by decide +kernel
theorem dX4_readsAll_63 : decode cX4_readsAll 63 = .ok (.iconst 2, 1) := by decide +kernel
theorem dX4_readsAll_64 : decode cX4_readsAll 64 = .ok (.invokevirtual 99, 3) := by decide +kernel
theorem dX4_readsAll_67 : decode cX4_readsAll 67 = .ok (.ifCond .eq 7, 3) := by decide +kernel
theorem dX4_readsAll_70 : decode cX4_readsAll 70 = .ok (.iconst 1, 1) := by decide +kernel
theorem dX4_readsAll_71 : decode cX4_readsAll 71 = .ok (.goto 4, 3) := by decide +kernel
theorem dX4_readsAll_74 : decode cX4_readsAll 74 = .ok (.iconst 0, 1) := by decide +kernel
theorem dX4_readsAll_75 : decode cX4_readsAll 75 = .ok (.ireturn, 1) := by decide +kernel
theorem dX4_readsAll_76 : decode cX4_readsAll 76 = .ok (.aload_n 0, 1) := by decide +kernel
theorem dX4_readsAll_77 : decode cX4_readsAll 77 = .ok (.iload_n 2, 1) := by decide +kernel
theorem dX4_readsAll_78 : decode cX4_readsAll 78 = .ok (.iconst 1, 1) := by decide +kernel
theorem dX4_readsAll_79 : decode cX4_readsAll 79 = .ok (.invokevirtual 99, 3) := by decide +kernel
theorem dX4_readsAll_82 : decode cX4_readsAll 82 = .ok (.ireturn, 1) := by decide +kernel
theorem dX4_readsAll_83 : decode cX4_readsAll 83 = .ok (.aload_n 0, 1) := by decide +kernel
theorem dX4_readsAll_84 : decode cX4_readsAll 84 = .ok (.iload_n 2, 1) := by decide +kernel
theorem dX4_readsAll_85 : decode cX4_readsAll 85 = .ok (.iconst 2, 1) := by decide +kernel
theorem dX4_readsAll_86 : decode cX4_readsAll 86 = .ok (.invokevirtual 99, 3) := by decide +kernel
theorem dX4_readsAll_89 : decode cX4_readsAll 89 = .ok (.ireturn, 1) := by decide +kernel
theorem dX4_isLetter_0 : decode cX4_isLetter 0 = .ok (.iload_n 0, 1) := by decide +kernel
theorem dX4_isLetter_1 : decode cX4_isLetter 1 = .ok (.bipush 99, 2) := by decide +kernel
theorem dX4_isLetter_3 : decode cX4_isLetter 3 = .ok (.if_icmp .eq 39, 3) := by decide +kernel
theorem dX4_isLetter_6 : decode cX4_isLetter 6 = .ok (.iload_n 0, 1) := by decide +kernel
theorem dX4_isLetter_7 : decode cX4_isLetter 7 = .ok (.bipush 107, 2) := by decide +kernel
theorem dX4_isLetter_9 : decode cX4_isLetter 9 = .ok (.if_icmp .eq 33, 3) := by decide +kernel
theorem dX4_isLetter_12 : decode cX4_isLetter 12 = .ok (.iload_n 0, 1) := by decide +kernel
theorem dX4_isLetter_13 : decode cX4_isLetter 13 = .ok (.bipush 116, 2) := by decide +kernel
theorem dX4_isLetter_15 : decode cX4_isLetter 15 = .ok (.if_icmp .eq 27, 3) := by decide +kernel
theorem dX4_isLetter_18 : decode cX4_isLetter 18 = .ok (.iload_n 0, 1) := by decide +kernel
theorem dX4_isLetter_19 : decode cX4_isLetter 19 = .ok (.bipush 117, 2) := by decide +kernel
theorem dX4_isLetter_21 : decode cX4_isLetter 21 = .ok (.if_icmp .eq 21, 3) := by decide +kernel
theorem dX4_isLetter_24 : decode cX4_isLetter 24 = .ok (.iload_n 0, 1) := by decide +kernel
theorem dX4_isLetter_25 : decode cX4_isLetter 25 = .ok (.bipush 112, 2) := by decide +kernel
theorem dX4_isLetter_27 : decode cX4_isLetter 27 = .ok (.if_icmp .eq 15, 3) := by decide +kernel
theorem dX4_isLetter_30 : decode cX4_isLetter 30 = .ok (.iload_n 0, 1) := by decide +kernel
theorem dX4_isLetter_31 : decode cX4_isLetter 31 = .ok (.bipush 104, 2) := by decide +kernel
theorem dX4_isLetter_33 : decode cX4_isLetter 33 = .ok (.if_icmp .eq 9, 3) := by decide +kernel
theorem dX4_isLetter_36 : decode cX4_isLetter 36 = .ok (.iload_n 0, 1) := by decide +kernel
theorem dX4_isLetter_37 : decode cX4_isLetter 37 = .ok (.bipush 100, 2) := by decide +kernel
theorem dX4_isLetter_39 : decode cX4_isLetter 39 = .ok (.if_icmp .ne 7, 3) := by decide +kernel
theorem dX4_isLetter_42 : decode cX4_isLetter 42 = .ok (.iconst 1, 1) := by decide +kernel
theorem dX4_isLetter_43 : decode cX4_isLetter 43 = .ok (.goto 4, 3) := by decide +kernel
theorem dX4_isLetter_46 : decode cX4_isLetter 46 = .ok (.iconst 0, 1) := by decide +kernel
theorem dX4_isLetter_47 : decode cX4_isLetter 47 = .ok (.ireturn, 1) := by decide +kernel
theorem dX4_statement_0 : decode cX4_statement 0 = .ok (.aload_n 0, 1) := by decide +kernel
theorem dX4_statement_1 : decode cX4_statement 1 = .ok (.invokevirtual 92, 3) := by decide +kernel
theorem dX4_statement_4 : decode cX4_statement 4 = .ok (.istore_n 1, 1) := by decide +kernel
theorem dX4_statement_5 : decode cX4_statement 5 = .ok (.iload_n 1, 1) := by decide +kernel
theorem dX4_statement_6 : decode cX4_statement 6 = .ok (.invokestatic 107, 3) := by decide +kernel
theorem dX4_statement_9 : decode cX4_statement 9 = .ok (.ifCond .ne 5, 3) := by decide +kernel
theorem dX4_statement_12 : decode cX4_statement 12 = .ok (.iconst 0, 1) := by decide +kernel
theorem dX4_statement_13 : decode cX4_statement 13 = .ok (.ireturn, 1) := by decide +kernel
theorem dX4_statement_14 : decode cX4_statement 14 = .ok (.aload_n 0, 1) := by decide +kernel
theorem dX4_statement_15 : decode cX4_statement 15 = .ok (.getfield 37, 3) := by decide +kernel
theorem dX4_statement_18 : decode cX4_statement 18 = .ok (.aload_n 0, 1) := by decide +kernel
theorem dX4_statement_19 : decode cX4_statement 19 = .ok (.getfield 110, 3) := by decide +kernel
theorem dX4_statement_22 : decode cX4_statement 22 = .ok (.iload_n 1, 1) := by decide +kernel
theorem dX4_statement_23 : decode cX4_statement 23 = .ok (.iastore, 1) := by decide +kernel
theorem dX4_statement_24 : decode cX4_statement 24 = .ok (.aload_n 0, 1) := by decide +kernel
theorem dX4_statement_25 : decode cX4_statement 25 = .ok (.getfield 40, 3) := by decide +kernel
theorem dX4_statement_28 : decode cX4_statement 28 = .ok (.aload_n 0, 1) := by decide +kernel
theorem dX4_statement_29 : decode cX4_statement 29 = .ok (.getfield 110, 3) := by decide +kernel
theorem dX4_statement_32 : decode cX4_statement 32 = .ok (.aload_n 0, 1) := by decide +kernel
theorem dX4_statement_33 : decode cX4_statement 33 = .ok (.getfield 89, 3) := by decide +kernel
theorem dX4_statement_36 : decode cX4_statement 36 = .ok (.iastore, 1) := by decide +kernel
theorem dX4_statement_37 : decode cX4_statement 37 = .ok (.aload_n 0, 1) := by decide +kernel
theorem dX4_statement_38 : decode cX4_statement 38 = .ok (.dup, 1) := by decide +kernel
theorem dX4_statement_39 : decode cX4_statement 39 = .ok (.getfield 89, 3) := by decide +kernel
theorem dX4_statement_42 : decode cX4_statement 42 = .ok (.iconst 1, 1) := by decide +kernel
theorem dX4_statement_43 : decode cX4_statement 43 = .ok (.iadd, 1) := by decide +kernel
theorem dX4_statement_44 : decode cX4_statement 44 = .ok (.putfield 89, 3) := by decide +kernel
theorem dX4_statement_47 : decode cX4_statement 47 = .ok (.aload_n 0, 1) := by decide +kernel
theorem dX4_statement_48 : decode cX4_statement 48 = .ok (.iload_n 1, 1) := by decide +kernel
theorem dX4_statement_49 : decode cX4_statement 49 = .ok (.iconst 5, 1) := by decide +kernel
theorem dX4_statement_50 : decode cX4_statement 50 = .ok (.aload_n 0, 1) := by decide +kernel
theorem dX4_statement_51 : decode cX4_statement 51 = .ok (.getfield 110, 3) := by decide +kernel
theorem dX4_statement_54 : decode cX4_statement 54 = .ok (.imul, 1) := by decide +kernel
theorem dX4_statement_55 : decode cX4_statement 55 = .ok (.invokevirtual 113, 3) := by decide +kernel
theorem dX4_statement_58 : decode cX4_statement 58 = .ok (.ifCond .eq 12, 3) := by decide +kernel
theorem dX4_statement_61 : decode cX4_statement 61 = .ok (.aload_n 0, 1) := by decide +kernel
theorem dX4_statement_62 : decode cX4_statement 62 = .ok (.invokevirtual 92, 3) := by decide +kernel
theorem dX4_statement_65 : decode cX4_statement 65 = .ok (.bipush 59, 2) := by decide +kernel
theorem dX4_statement_67 : decode cX4_statement 67 = .ok (.if_icmp .eq 5, 3) := by decide +kernel
theorem dX4_statement_70 : decode cX4_statement 70 = .ok (.iconst 0, 1) := by decide +kernel
theorem dX4_statement_71 : decode cX4_statement 71 = .ok (.ireturn, 1) := by decide +kernel
theorem dX4_statement_72 : decode cX4_statement 72 = .ok (.aload_n 0, 1) := by decide +kernel
theorem dX4_statement_73 : decode cX4_statement 73 = .ok (.dup, 1) := by decide +kernel
theorem dX4_statement_74 : decode cX4_statement 74 = .ok (.getfield 89, 3) := by decide +kernel
theorem dX4_statement_77 : decode cX4_statement 77 = .ok (.iconst 1, 1) := by decide +kernel
theorem dX4_statement_78 : decode cX4_statement 78 = .ok (.iadd, 1) := by decide +kernel
theorem dX4_statement_79 : decode cX4_statement 79 = .ok (.putfield 89, 3) := by decide +kernel
theorem dX4_statement_82 : decode cX4_statement 82 = .ok (.iconst 1, 1) := by decide +kernel
theorem dX4_statement_83 : decode cX4_statement 83 = .ok (.ireturn, 1) := by decide +kernel
theorem dX4_comesCaller_0 : decode cX4_comesCaller 0 = .ok (.aload_n 0, 1) := by decide +kernel
theorem dX4_comesCaller_1 : decode cX4_comesCaller 1 = .ok (.getfield 43, 3) := by decide +kernel
theorem dX4_comesCaller_4 : decode cX4_comesCaller 4 = .ok (.iload_n 1, 1) := by decide +kernel
theorem dX4_comesCaller_5 : decode cX4_comesCaller 5 = .ok (.iconst 3, 1) := by decide +kernel
theorem dX4_comesCaller_6 : decode cX4_comesCaller 6 = .ok (.iadd, 1) := by decide +kernel
theorem dX4_comesCaller_7 : decode cX4_comesCaller 7 = .ok (.iaload, 1) := by decide +kernel
theorem dX4_comesCaller_8 : decode cX4_comesCaller 8 = .ok (.invokestatic 116, 3) := by decide +kernel
theorem dX4_comesCaller_11 : decode cX4_comesCaller 11 = .ok (.ifCond .eq 25, 3) := by decide +kernel
theorem dX4_comesCaller_14 : decode cX4_comesCaller 14 = .ok (.aload_n 0, 1) := by decide +kernel
theorem dX4_comesCaller_15 : decode cX4_comesCaller 15 = .ok (.getfield 43, 3) := by decide +kernel
theorem dX4_comesCaller_18 : decode cX4_comesCaller 18 = .ok (.iload_n 1, 1) := by decide +kernel
theorem dX4_comesCaller_19 : decode cX4_comesCaller 19 = .ok (.iconst 4, 1) := by decide +kernel
theorem dX4_comesCaller_20 : decode cX4_comesCaller 20 = .ok (.iadd, 1) := by decide +kernel
theorem dX4_comesCaller_21 : decode cX4_comesCaller 21 = .ok (.iaload, 1) := by decide +kernel
theorem dX4_comesCaller_22 : decode cX4_comesCaller 22 = .ok (.bipush 23, 2) := by decide +kernel
theorem dX4_comesCaller_24 : decode cX4_comesCaller 24 = .ok (.if_icmp .gt 12, 3) := by decide +kernel
theorem dX4_comesCaller_27 : decode cX4_comesCaller 27 = .ok (.aload_n 0, 1) := by decide +kernel
theorem dX4_comesCaller_28 : decode cX4_comesCaller 28 = .ok (.getfield 70, 3) := by decide +kernel
theorem dX4_comesCaller_31 : decode cX4_comesCaller 31 = .ok (.bipush 7, 2) := by decide +kernel
theorem dX4_comesCaller_33 : decode cX4_comesCaller 33 = .ok (.if_icmp .ne 5, 3) := by decide +kernel
theorem dX4_comesCaller_36 : decode cX4_comesCaller 36 = .ok (.iconst 0, 1) := by decide +kernel
theorem dX4_comesCaller_37 : decode cX4_comesCaller 37 = .ok (.ireturn, 1) := by decide +kernel
theorem dX4_comesCaller_38 : decode cX4_comesCaller 38 = .ok (.aload_n 0, 1) := by decide +kernel
theorem dX4_comesCaller_39 : decode cX4_comesCaller 39 = .ok (.getfield 19, 3) := by decide +kernel
theorem dX4_comesCaller_42 : decode cX4_comesCaller 42 = .ok (.aload_n 0, 1) := by decide +kernel
theorem dX4_comesCaller_43 : decode cX4_comesCaller 43 = .ok (.getfield 70, 3) := by decide +kernel
theorem dX4_comesCaller_46 : decode cX4_comesCaller 46 = .ok (.aload_n 0, 1) := by decide +kernel
theorem dX4_comesCaller_47 : decode cX4_comesCaller 47 = .ok (.getfield 43, 3) := by decide +kernel
theorem dX4_comesCaller_50 : decode cX4_comesCaller 50 = .ok (.iload_n 1, 1) := by decide +kernel
theorem dX4_comesCaller_51 : decode cX4_comesCaller 51 = .ok (.iaload, 1) := by decide +kernel
theorem dX4_comesCaller_52 : decode cX4_comesCaller 52 = .ok (.iastore, 1) := by decide +kernel
theorem dX4_comesCaller_53 : decode cX4_comesCaller 53 = .ok (.aload_n 0, 1) := by decide +kernel
theorem dX4_comesCaller_54 : decode cX4_comesCaller 54 = .ok (.getfield 22, 3) := by decide +kernel
theorem dX4_comesCaller_57 : decode cX4_comesCaller 57 = .ok (.aload_n 0, 1) := by decide +kernel
theorem dX4_comesCaller_58 : decode cX4_comesCaller 58 = .ok (.getfield 70, 3) := by decide +kernel
theorem dX4_comesCaller_61 : decode cX4_comesCaller 61 = .ok (.aload_n 0, 1) := by decide +kernel
theorem dX4_comesCaller_62 : decode cX4_comesCaller 62 = .ok (.getfield 43, 3) := by decide +kernel
theorem dX4_comesCaller_65 : decode cX4_comesCaller 65 = .ok (.iload_n 1, 1) := by decide +kernel
theorem dX4_comesCaller_66 : decode cX4_comesCaller 66 = .ok (.iconst 1, 1) := by decide +kernel
theorem dX4_comesCaller_67 : decode cX4_comesCaller 67 = .ok (.iadd, 1) := by decide +kernel
theorem dX4_comesCaller_68 : decode cX4_comesCaller 68 = .ok (.iaload, 1) := by decide +kernel
theorem dX4_comesCaller_69 : decode cX4_comesCaller 69 = .ok (.iastore, 1) := by decide +kernel
theorem dX4_comesCaller_70 : decode cX4_comesCaller 70 = .ok (.aload_n 0, 1) := by decide +kernel
theorem dX4_comesCaller_71 : decode cX4_comesCaller 71 = .ok (.getfield 25, 3) := by decide +kernel
theorem dX4_comesCaller_74 : decode cX4_comesCaller 74 = .ok (.aload_n 0, 1) := by decide +kernel
theorem dX4_comesCaller_75 : decode cX4_comesCaller 75 = .ok (.getfield 70, 3) := by decide +kernel
theorem dX4_comesCaller_78 : decode cX4_comesCaller 78 = .ok (.aload_n 0, 1) := by decide +kernel
theorem dX4_comesCaller_79 : decode cX4_comesCaller 79 = .ok (.getfield 43, 3) := by decide +kernel
theorem dX4_comesCaller_82 : decode cX4_comesCaller 82 = .ok (.iload_n 1, 1) := by decide +kernel
theorem dX4_comesCaller_83 : decode cX4_comesCaller 83 = .ok (.iconst 2, 1) := by decide +kernel
theorem dX4_comesCaller_84 : decode cX4_comesCaller 84 = .ok (.iadd, 1) := by decide +kernel
theorem dX4_comesCaller_85 : decode cX4_comesCaller 85 = .ok (.iaload, 1) := by decide +kernel
theorem dX4_comesCaller_86 : decode cX4_comesCaller 86 = .ok (.iastore, 1) := by decide +kernel
theorem dX4_comesCaller_87 : decode cX4_comesCaller 87 = .ok (.aload_n 0, 1) := by decide +kernel
theorem dX4_comesCaller_88 : decode cX4_comesCaller 88 = .ok (.getfield 28, 3) := by decide +kernel
theorem dX4_comesCaller_91 : decode cX4_comesCaller 91 = .ok (.aload_n 0, 1) := by decide +kernel
theorem dX4_comesCaller_92 : decode cX4_comesCaller 92 = .ok (.getfield 70, 3) := by decide +kernel
theorem dX4_comesCaller_95 : decode cX4_comesCaller 95 = .ok (.aload_n 0, 1) := by decide +kernel
theorem dX4_comesCaller_96 : decode cX4_comesCaller 96 = .ok (.getfield 43, 3) := by decide +kernel
theorem dX4_comesCaller_99 : decode cX4_comesCaller 99 = .ok (.iload_n 1, 1) := by decide +kernel
theorem dX4_comesCaller_100 : decode cX4_comesCaller 100 = .ok (.iconst 3, 1) := by decide +kernel
theorem dX4_comesCaller_101 : decode cX4_comesCaller 101 = .ok (.iadd, 1) := by decide +kernel
theorem dX4_comesCaller_102 : decode cX4_comesCaller 102 = .ok (.iaload, 1) := by decide +kernel
theorem dX4_comesCaller_103 : decode cX4_comesCaller 103 = .ok (.iastore, 1) := by decide +kernel
theorem dX4_comesCaller_104 : decode cX4_comesCaller 104 = .ok (.aload_n 0, 1) := by decide +kernel
theorem dX4_comesCaller_105 : decode cX4_comesCaller 105 = .ok (.getfield 31, 3) := by decide +kernel
theorem dX4_comesCaller_108 : decode cX4_comesCaller 108 = .ok (.aload_n 0, 1) := by decide +kernel
theorem dX4_comesCaller_109 : decode cX4_comesCaller 109 = .ok (.getfield 70, 3) := by decide +kernel
theorem dX4_comesCaller_112 : decode cX4_comesCaller 112 = .ok (.aload_n 0, 1) := by decide +kernel
theorem dX4_comesCaller_113 : decode cX4_comesCaller 113 = .ok (.getfield 43, 3) := by decide +kernel
theorem dX4_comesCaller_116 : decode cX4_comesCaller 116 = .ok (.iload_n 1, 1) := by decide +kernel
theorem dX4_comesCaller_117 : decode cX4_comesCaller 117 = .ok (.iconst 4, 1) := by decide +kernel
theorem dX4_comesCaller_118 : decode cX4_comesCaller 118 = .ok (.iadd, 1) := by decide +kernel
theorem dX4_comesCaller_119 : decode cX4_comesCaller 119 = .ok (.iaload, 1) := by decide +kernel
theorem dX4_comesCaller_120 : decode cX4_comesCaller 120 = .ok (.iastore, 1) := by decide +kernel
theorem dX4_comesCaller_121 : decode cX4_comesCaller 121 = .ok (.aload_n 0, 1) := by decide +kernel
theorem dX4_comesCaller_122 : decode cX4_comesCaller 122 = .ok (.dup, 1) := by decide +kernel
theorem dX4_comesCaller_123 : decode cX4_comesCaller 123 = .ok (.getfield 70, 3) := by decide +kernel
theorem dX4_comesCaller_126 : decode cX4_comesCaller 126 = .ok (.iconst 1, 1) := by decide +kernel
theorem dX4_comesCaller_127 : decode cX4_comesCaller 127 = .ok (.iadd, 1) := by decide +kernel
theorem dX4_comesCaller_128 : decode cX4_comesCaller 128 = .ok (.putfield 70, 3) := by decide +kernel
theorem dX4_comesCaller_131 : decode cX4_comesCaller 131 = .ok (.iconst 1, 1) := by decide +kernel
theorem dX4_comesCaller_132 : decode cX4_comesCaller 132 = .ok (.ireturn, 1) := by decide +kernel
theorem dX4_comesSet_0 : decode cX4_comesSet 0 = .ok (.iload_n 1, 1) := by decide +kernel
theorem dX4_comesSet_1 : decode cX4_comesSet 1 = .ok (.iload_n 2, 1) := by decide +kernel
theorem dX4_comesSet_2 : decode cX4_comesSet 2 = .ok (.invokestatic 119, 3) := by decide +kernel
theorem dX4_comesSet_5 : decode cX4_comesSet 5 = .ok (.ifCond .ne 5, 3) := by decide +kernel
theorem dX4_comesSet_8 : decode cX4_comesSet 8 = .ok (.iconst 0, 1) := by decide +kernel
theorem dX4_comesSet_9 : decode cX4_comesSet 9 = .ok (.ireturn, 1) := by decide +kernel
theorem dX4_comesSet_10 : decode cX4_comesSet 10 = .ok (.aload_n 0, 1) := by decide +kernel
theorem dX4_comesSet_11 : decode cX4_comesSet 11 = .ok (.getfield 16, 3) := by decide +kernel
theorem dX4_comesSet_14 : decode cX4_comesSet 14 = .ok (.iload_n 1, 1) := by decide +kernel
theorem dX4_comesSet_15 : decode cX4_comesSet 15 = .ok (.iload_n 2, 1) := by decide +kernel
theorem dX4_comesSet_16 : decode cX4_comesSet 16 = .ok (.iastore, 1) := by decide +kernel
theorem dX4_comesSet_17 : decode cX4_comesSet 17 = .ok (.iconst 1, 1) := by decide +kernel
theorem dX4_comesSet_18 : decode cX4_comesSet 18 = .ok (.ireturn, 1) := by decide +kernel
theorem dX4_comes_0 : decode cX4_comes 0 = .ok (.aload_n 0, 1) := by decide +kernel
theorem dX4_comes_1 : decode cX4_comes 1 = .ok (.getfield 43, 3) := by decide +kernel
theorem dX4_comes_4 : decode cX4_comes 4 = .ok (.iconst 5, 1) := by decide +kernel
theorem dX4_comes_5 : decode cX4_comes 5 = .ok (.iload_n 1, 1) := by decide +kernel
theorem dX4_comes_6 : decode cX4_comes 6 = .ok (.imul, 1) := by decide +kernel
theorem dX4_comes_7 : decode cX4_comes 7 = .ok (.iaload, 1) := by decide +kernel
theorem dX4_comes_8 : decode cX4_comes 8 = .ok (.istore_n 2, 1) := by decide +kernel
theorem dX4_comes_9 : decode cX4_comes 9 = .ok (.aload_n 0, 1) := by decide +kernel
theorem dX4_comes_10 : decode cX4_comes 10 = .ok (.getfield 43, 3) := by decide +kernel
theorem dX4_comes_13 : decode cX4_comes 13 = .ok (.iconst 5, 1) := by decide +kernel
theorem dX4_comes_14 : decode cX4_comes 14 = .ok (.iload_n 1, 1) := by decide +kernel
theorem dX4_comes_15 : decode cX4_comes 15 = .ok (.imul, 1) := by decide +kernel
theorem dX4_comes_16 : decode cX4_comes 16 = .ok (.iconst 1, 1) := by decide +kernel
theorem dX4_comes_17 : decode cX4_comes 17 = .ok (.iadd, 1) := by decide +kernel
theorem dX4_comes_18 : decode cX4_comes 18 = .ok (.iaload, 1) := by decide +kernel
theorem dX4_comes_19 : decode cX4_comes 19 = .ok (.istore_n 3, 1) := by decide +kernel
theorem dX4_comes_20 : decode cX4_comes 20 = .ok (.aload_n 0, 1) := by decide +kernel
theorem dX4_comes_21 : decode cX4_comes 21 = .ok (.getfield 37, 3) := by decide +kernel
theorem dX4_comes_24 : decode cX4_comes 24 = .ok (.iload_n 1, 1) := by decide +kernel
theorem dX4_comes_25 : decode cX4_comes 25 = .ok (.iaload, 1) := by decide +kernel
theorem dX4_comes_26 : decode cX4_comes 26 = .ok (.tableswitch 168 99 117 #[90, 168, 168, 168, 168, 143, 168, 168, 98, 168, 168, 168, 168, 136, 168, 168, 168, 122, 129], 90) := by decide +kernel
theorem dX4_comes_116 : decode cX4_comes 116 = .ok (.aload_n 0, 1) := by decide +kernel
theorem dX4_comes_117 : decode cX4_comes 117 = .ok (.iconst 5, 1) := by decide +kernel
theorem dX4_comes_118 : decode cX4_comes 118 = .ok (.iload_n 1, 1) := by decide +kernel
theorem dX4_comes_119 : decode cX4_comes 119 = .ok (.imul, 1) := by decide +kernel
theorem dX4_comes_120 : decode cX4_comes 120 = .ok (.invokevirtual 122, 3) := by decide +kernel
theorem dX4_comes_123 : decode cX4_comes 123 = .ok (.ireturn, 1) := by decide +kernel
theorem dX4_comes_124 : decode cX4_comes 124 = .ok (.iload_n 2, 1) := by decide +kernel
theorem dX4_comes_125 : decode cX4_comes 125 = .ok (.invokestatic 116, 3) := by decide +kernel
theorem dX4_comes_128 : decode cX4_comes 128 = .ok (.ifCond .eq 9, 3) := by decide +kernel
theorem dX4_comes_131 : decode cX4_comes 131 = .ok (.iload_n 3, 1) := by decide +kernel
theorem dX4_comes_132 : decode cX4_comes 132 = .ok (.bipush 20, 2) := by decide +kernel
theorem dX4_comes_134 : decode cX4_comes 134 = .ok (.if_icmp .le 5, 3) := by decide +kernel
theorem dX4_comes_137 : decode cX4_comes 137 = .ok (.iconst 0, 1) := by decide +kernel
theorem dX4_comes_138 : decode cX4_comes 138 = .ok (.ireturn, 1) := by decide +kernel
theorem dX4_comes_139 : decode cX4_comes 139 = .ok (.aload_n 0, 1) := by decide +kernel
theorem dX4_comes_140 : decode cX4_comes 140 = .ok (.getfield 13, 3) := by decide +kernel
theorem dX4_comes_143 : decode cX4_comes 143 = .ok (.iload_n 2, 1) := by decide +kernel
theorem dX4_comes_144 : decode cX4_comes 144 = .ok (.iload_n 3, 1) := by decide +kernel
theorem dX4_comes_145 : decode cX4_comes 145 = .ok (.iastore, 1) := by decide +kernel
theorem dX4_comes_146 : decode cX4_comes 146 = .ok (.iconst 1, 1) := by decide +kernel
theorem dX4_comes_147 : decode cX4_comes 147 = .ok (.ireturn, 1) := by decide +kernel
theorem dX4_comes_148 : decode cX4_comes 148 = .ok (.aload_n 0, 1) := by decide +kernel
theorem dX4_comes_149 : decode cX4_comes 149 = .ok (.iconst 0, 1) := by decide +kernel
theorem dX4_comes_150 : decode cX4_comes 150 = .ok (.iload_n 2, 1) := by decide +kernel
theorem dX4_comes_151 : decode cX4_comes 151 = .ok (.invokevirtual 125, 3) := by decide +kernel
theorem dX4_comes_154 : decode cX4_comes 154 = .ok (.ireturn, 1) := by decide +kernel
theorem dX4_comes_155 : decode cX4_comes 155 = .ok (.aload_n 0, 1) := by decide +kernel
theorem dX4_comes_156 : decode cX4_comes 156 = .ok (.iconst 1, 1) := by decide +kernel
theorem dX4_comes_157 : decode cX4_comes 157 = .ok (.iload_n 2, 1) := by decide +kernel
theorem dX4_comes_158 : decode cX4_comes 158 = .ok (.invokevirtual 125, 3) := by decide +kernel
theorem dX4_comes_161 : decode cX4_comes 161 = .ok (.ireturn, 1) := by decide +kernel
theorem dX4_comes_162 : decode cX4_comes 162 = .ok (.aload_n 0, 1) := by decide +kernel
theorem dX4_comes_163 : decode cX4_comes 163 = .ok (.iconst 2, 1) := by decide +kernel
theorem dX4_comes_164 : decode cX4_comes 164 = .ok (.iload_n 2, 1) := by decide +kernel
theorem dX4_comes_165 : decode cX4_comes 165 = .ok (.invokevirtual 125, 3) := by decide +kernel
theorem dX4_comes_168 : decode cX4_comes 168 = .ok (.ireturn, 1) := by decide +kernel
theorem dX4_comes_169 : decode cX4_comes 169 = .ok (.aload_n 0, 1) := by decide +kernel
theorem dX4_comes_170 : decode cX4_comes 170 = .ok (.iload_n 2, 1) := by decide +kernel
theorem dX4_comes_171 : decode cX4_comes 171 = .ok (.invokevirtual 128, 3) := by decide +kernel
theorem dX4_comes_174 : decode cX4_comes 174 = .ok (.ifCond .eq 9, 3) := by decide +kernel
theorem dX4_comes_177 : decode cX4_comes 177 = .ok (.iload_n 3, 1) := by decide +kernel
theorem dX4_comes_178 : decode cX4_comes 178 = .ok (.bipush 23, 2) := by decide +kernel
theorem dX4_comes_180 : decode cX4_comes 180 = .ok (.if_icmp .le 5, 3) := by decide +kernel
theorem dX4_comes_183 : decode cX4_comes 183 = .ok (.iconst 0, 1) := by decide +kernel
theorem dX4_comes_184 : decode cX4_comes 184 = .ok (.ireturn, 1) := by decide +kernel
theorem dX4_comes_185 : decode cX4_comes 185 = .ok (.aload_n 0, 1) := by decide +kernel
theorem dX4_comes_186 : decode cX4_comes 186 = .ok (.getfield 31, 3) := by decide +kernel
theorem dX4_comes_189 : decode cX4_comes 189 = .ok (.iload_n 2, 1) := by decide +kernel
theorem dX4_comes_190 : decode cX4_comes 190 = .ok (.iload_n 3, 1) := by decide +kernel
theorem dX4_comes_191 : decode cX4_comes 191 = .ok (.iastore, 1) := by decide +kernel
theorem dX4_comes_192 : decode cX4_comes 192 = .ok (.iconst 1, 1) := by decide +kernel
theorem dX4_comes_193 : decode cX4_comes 193 = .ok (.ireturn, 1) := by decide +kernel
theorem dX4_comes_194 : decode cX4_comes 194 = .ok (.iload_n 2, 1) := by decide +kernel
theorem dX4_comes_195 : decode cX4_comes 195 = .ok (.iconst 1, 1) := by decide +kernel
theorem dX4_comes_196 : decode cX4_comes 196 = .ok (.bipush 60, 2) := by decide +kernel
theorem dX4_comes_198 : decode cX4_comes 198 = .ok (.invokestatic 74, 3) := by decide +kernel
theorem dX4_comes_201 : decode cX4_comes 201 = .ok (.ifCond .eq 15, 3) := by decide +kernel
theorem dX4_comes_204 : decode cX4_comes 204 = .ok (.aload_n 0, 1) := by decide +kernel
theorem dX4_comes_205 : decode cX4_comes 205 = .ok (.getfield 131, 3) := by decide +kernel
theorem dX4_comes_208 : decode cX4_comes 208 = .ok (.iload_n 2, 1) := by decide +kernel
theorem dX4_comes_209 : decode cX4_comes 209 = .ok (.iadd, 1) := by decide +kernel
theorem dX4_comes_210 : decode cX4_comes 210 = .ok (.sipush 999, 3) := by decide +kernel
theorem dX4_comes_213 : decode cX4_comes 213 = .ok (.if_icmp .le 5, 3) := by decide +kernel
theorem dX4_comes_216 : decode cX4_comes 216 = .ok (.iconst 0, 1) := by decide +kernel
theorem dX4_comes_217 : decode cX4_comes 217 = .ok (.ireturn, 1) := by decide +kernel
theorem dX4_comes_218 : decode cX4_comes 218 = .ok (.aload_n 0, 1) := by decide +kernel
theorem dX4_comes_219 : decode cX4_comes 219 = .ok (.iload_n 2, 1) := by decide +kernel
theorem dX4_comes_220 : decode cX4_comes 220 = .ok (.invokevirtual 134, 3) := by decide +kernel
theorem dX4_comes_223 : decode cX4_comes 223 = .ok (.pop, 1) := by decide +kernel
theorem dX4_comes_224 : decode cX4_comes 224 = .ok (.iconst 1, 1) := by decide +kernel
theorem dX4_comes_225 : decode cX4_comes 225 = .ok (.ireturn, 1) := by decide +kernel
theorem dX4_gorge_0 : decode cX4_gorge 0 = .ok (.aload_n 0, 1) := by decide +kernel
theorem dX4_gorge_1 : decode cX4_gorge 1 = .ok (.iconst 0, 1) := by decide +kernel
theorem dX4_gorge_2 : decode cX4_gorge 2 = .ok (.putfield 89, 3) := by decide +kernel
theorem dX4_gorge_5 : decode cX4_gorge 5 = .ok (.aload_n 0, 1) := by decide +kernel
theorem dX4_gorge_6 : decode cX4_gorge 6 = .ok (.iconst 0, 1) := by decide +kernel
theorem dX4_gorge_7 : decode cX4_gorge 7 = .ok (.putfield 110, 3) := by decide +kernel
theorem dX4_gorge_10 : decode cX4_gorge 10 = .ok (.iconst 1, 1) := by decide +kernel
theorem dX4_gorge_11 : decode cX4_gorge 11 = .ok (.istore_n 1, 1) := by decide +kernel
theorem dX4_gorge_12 : decode cX4_gorge 12 = .ok (.iload_n 1, 1) := by decide +kernel
theorem dX4_gorge_13 : decode cX4_gorge 13 = .ok (.ifCond .eq 47, 3) := by decide +kernel
theorem dX4_gorge_16 : decode cX4_gorge 16 = .ok (.aload_n 0, 1) := by decide +kernel
theorem dX4_gorge_17 : decode cX4_gorge 17 = .ok (.getfield 89, 3) := by decide +kernel
theorem dX4_gorge_20 : decode cX4_gorge 20 = .ok (.aload_n 0, 1) := by decide +kernel
theorem dX4_gorge_21 : decode cX4_gorge 21 = .ok (.getfield 82, 3) := by decide +kernel
theorem dX4_gorge_24 : decode cX4_gorge 24 = .ok (.if_icmp .lt 10, 3) := by decide +kernel
theorem dX4_gorge_27 : decode cX4_gorge 27 = .ok (.aload_n 0, 1) := by decide +kernel
theorem dX4_gorge_28 : decode cX4_gorge 28 = .ok (.getfield 110, 3) := by decide +kernel
theorem dX4_gorge_31 : decode cX4_gorge 31 = .ok (.ifCond .ne 29, 3) := by decide +kernel
theorem dX4_gorge_34 : decode cX4_gorge 34 = .ok (.aload_n 0, 1) := by decide +kernel
theorem dX4_gorge_35 : decode cX4_gorge 35 = .ok (.invokevirtual 137, 3) := by decide +kernel
theorem dX4_gorge_38 : decode cX4_gorge 38 = .ok (.istore_n 1, 1) := by decide +kernel
theorem dX4_gorge_39 : decode cX4_gorge 39 = .ok (.aload_n 0, 1) := by decide +kernel
theorem dX4_gorge_40 : decode cX4_gorge 40 = .ok (.dup, 1) := by decide +kernel
theorem dX4_gorge_41 : decode cX4_gorge 41 = .ok (.getfield 110, 3) := by decide +kernel
theorem dX4_gorge_44 : decode cX4_gorge 44 = .ok (.iload_n 1, 1) := by decide +kernel
theorem dX4_gorge_45 : decode cX4_gorge 45 = .ok (.ifCond .eq 7, 3) := by decide +kernel
theorem dX4_gorge_48 : decode cX4_gorge 48 = .ok (.iconst 1, 1) := by decide +kernel
theorem dX4_gorge_49 : decode cX4_gorge 49 = .ok (.goto 4, 3) := by decide +kernel
theorem dX4_gorge_52 : decode cX4_gorge 52 = .ok (.iconst 0, 1) := by decide +kernel
theorem dX4_gorge_53 : decode cX4_gorge 53 = .ok (.iadd, 1) := by decide +kernel
theorem dX4_gorge_54 : decode cX4_gorge 54 = .ok (.putfield 110, 3) := by decide +kernel
theorem dX4_gorge_57 : decode cX4_gorge 57 = .ok (.goto (-45), 3) := by decide +kernel
theorem dX4_gorge_60 : decode cX4_gorge 60 = .ok (.aload_n 0, 1) := by decide +kernel
theorem dX4_gorge_61 : decode cX4_gorge 61 = .ok (.iconst 0, 1) := by decide +kernel
theorem dX4_gorge_62 : decode cX4_gorge 62 = .ok (.putfield 82, 3) := by decide +kernel
theorem dX4_gorge_65 : decode cX4_gorge 65 = .ok (.iload_n 1, 1) := by decide +kernel
theorem dX4_gorge_66 : decode cX4_gorge 66 = .ok (.ifCond .ne 12, 3) := by decide +kernel
theorem dX4_gorge_69 : decode cX4_gorge 69 = .ok (.sipush (-1000), 3) := by decide +kernel
theorem dX4_gorge_72 : decode cX4_gorge 72 = .ok (.aload_n 0, 1) := by decide +kernel
theorem dX4_gorge_73 : decode cX4_gorge 73 = .ok (.getfield 89, 3) := by decide +kernel
theorem dX4_gorge_76 : decode cX4_gorge 76 = .ok (.isub, 1) := by decide +kernel
theorem dX4_gorge_77 : decode cX4_gorge 77 = .ok (.ireturn, 1) := by decide +kernel
theorem dX4_gorge_78 : decode cX4_gorge 78 = .ok (.aload_n 0, 1) := by decide +kernel
theorem dX4_gorge_79 : decode cX4_gorge 79 = .ok (.iconst 1, 1) := by decide +kernel
theorem dX4_gorge_80 : decode cX4_gorge 80 = .ok (.iconst 1, 1) := by decide +kernel
theorem dX4_gorge_81 : decode cX4_gorge 81 = .ok (.invokevirtual 141, 3) := by decide +kernel
theorem dX4_gorge_84 : decode cX4_gorge 84 = .ok (.iconst 0, 1) := by decide +kernel
theorem dX4_gorge_85 : decode cX4_gorge 85 = .ok (.istore_n 2, 1) := by decide +kernel
theorem dX4_gorge_86 : decode cX4_gorge 86 = .ok (.iload_n 2, 1) := by decide +kernel
theorem dX4_gorge_87 : decode cX4_gorge 87 = .ok (.aload_n 0, 1) := by decide +kernel
theorem dX4_gorge_88 : decode cX4_gorge 88 = .ok (.getfield 110, 3) := by decide +kernel
theorem dX4_gorge_91 : decode cX4_gorge 91 = .ok (.if_icmp .ge 37, 3) := by decide +kernel
theorem dX4_gorge_94 : decode cX4_gorge 94 = .ok (.aload_n 0, 1) := by decide +kernel
theorem dX4_gorge_95 : decode cX4_gorge 95 = .ok (.iload_n 2, 1) := by decide +kernel
theorem dX4_gorge_96 : decode cX4_gorge 96 = .ok (.invokevirtual 145, 3) := by decide +kernel
theorem dX4_gorge_99 : decode cX4_gorge 99 = .ok (.ifCond .eq 6, 3) := by decide +kernel
theorem dX4_gorge_102 : decode cX4_gorge 102 = .ok (.goto 20, 3) := by decide +kernel
theorem dX4_gorge_105 : decode cX4_gorge 105 = .ok (.aload_n 0, 1) := by decide +kernel
theorem dX4_gorge_106 : decode cX4_gorge 106 = .ok (.iconst 1, 1) := by decide +kernel
theorem dX4_gorge_107 : decode cX4_gorge 107 = .ok (.iconst 0, 1) := by decide +kernel
theorem dX4_gorge_108 : decode cX4_gorge 108 = .ok (.invokevirtual 141, 3) := by decide +kernel
theorem dX4_gorge_111 : decode cX4_gorge 111 = .ok (.sipush (-2000), 3) := by decide +kernel
theorem dX4_gorge_114 : decode cX4_gorge 114 = .ok (.aload_n 0, 1) := by decide +kernel
theorem dX4_gorge_115 : decode cX4_gorge 115 = .ok (.getfield 40, 3) := by decide +kernel
theorem dX4_gorge_118 : decode cX4_gorge 118 = .ok (.iload_n 2, 1) := by decide +kernel
theorem dX4_gorge_119 : decode cX4_gorge 119 = .ok (.iaload, 1) := by decide +kernel
theorem dX4_gorge_120 : decode cX4_gorge 120 = .ok (.isub, 1) := by decide +kernel
theorem dX4_gorge_121 : decode cX4_gorge 121 = .ok (.ireturn, 1) := by decide +kernel
theorem dX4_gorge_122 : decode cX4_gorge 122 = .ok (.iinc 2 1, 3) := by decide +kernel
theorem dX4_gorge_125 : decode cX4_gorge 125 = .ok (.goto (-39), 3) := by decide +kernel
theorem dX4_gorge_128 : decode cX4_gorge 128 = .ok (.aload_n 0, 1) := by decide +kernel
theorem dX4_gorge_129 : decode cX4_gorge 129 = .ok (.getfield 110, 3) := by decide +kernel
theorem dX4_gorge_132 : decode cX4_gorge 132 = .ok (.ireturn, 1) := by decide +kernel
theorem dX4_passes_0 : decode cX4_passes 0 = .ok (.iconst 0, 1) := by decide +kernel
theorem dX4_passes_1 : decode cX4_passes 1 = .ok (.istore_n 2, 1) := by decide +kernel
theorem dX4_passes_2 : decode cX4_passes 2 = .ok (.iload_n 2, 1) := by decide +kernel
theorem dX4_passes_3 : decode cX4_passes 3 = .ok (.aload_n 1, 1) := by decide +kernel
theorem dX4_passes_4 : decode cX4_passes 4 = .ok (.arraylength, 1) := by decide +kernel
theorem dX4_passes_5 : decode cX4_passes 5 = .ok (.if_icmp .ge 53, 3) := by decide +kernel
theorem dX4_passes_8 : decode cX4_passes 8 = .ok (.aload_n 0, 1) := by decide +kernel
theorem dX4_passes_9 : decode cX4_passes 9 = .ok (.getfield 148, 3) := by decide +kernel
theorem dX4_passes_12 : decode cX4_passes 12 = .ok (.ifCond .eq 18, 3) := by decide +kernel
theorem dX4_passes_15 : decode cX4_passes 15 = .ok (.aload_n 0, 1) := by decide +kernel
theorem dX4_passes_16 : decode cX4_passes 16 = .ok (.getfield 46, 3) := by decide +kernel
theorem dX4_passes_19 : decode cX4_passes 19 = .ok (.aload_n 0, 1) := by decide +kernel
theorem dX4_passes_20 : decode cX4_passes 20 = .ok (.getfield 152, 3) := by decide +kernel
theorem dX4_passes_23 : decode cX4_passes 23 = .ok (.aload_n 1, 1) := by decide +kernel
theorem dX4_passes_24 : decode cX4_passes 24 = .ok (.iload_n 2, 1) := by decide +kernel
theorem dX4_passes_25 : decode cX4_passes 25 = .ok (.iaload, 1) := by decide +kernel
theorem dX4_passes_26 : decode cX4_passes 26 = .ok (.iastore, 1) := by decide +kernel
theorem dX4_passes_27 : decode cX4_passes 27 = .ok (.goto 15, 3) := by decide +kernel
theorem dX4_passes_30 : decode cX4_passes 30 = .ok (.aload_n 1, 1) := by decide +kernel
theorem dX4_passes_31 : decode cX4_passes 31 = .ok (.iload_n 2, 1) := by decide +kernel
theorem dX4_passes_32 : decode cX4_passes 32 = .ok (.aload_n 0, 1) := by decide +kernel
theorem dX4_passes_33 : decode cX4_passes 33 = .ok (.getfield 46, 3) := by decide +kernel
theorem dX4_passes_36 : decode cX4_passes 36 = .ok (.aload_n 0, 1) := by decide +kernel
theorem dX4_passes_37 : decode cX4_passes 37 = .ok (.getfield 152, 3) := by decide +kernel
theorem dX4_passes_40 : decode cX4_passes 40 = .ok (.iaload, 1) := by decide +kernel
theorem dX4_passes_41 : decode cX4_passes 41 = .ok (.iastore, 1) := by decide +kernel
theorem dX4_passes_42 : decode cX4_passes 42 = .ok (.aload_n 0, 1) := by decide +kernel
theorem dX4_passes_43 : decode cX4_passes 43 = .ok (.dup, 1) := by decide +kernel
theorem dX4_passes_44 : decode cX4_passes 44 = .ok (.getfield 152, 3) := by decide +kernel
theorem dX4_passes_47 : decode cX4_passes 47 = .ok (.iconst 1, 1) := by decide +kernel
theorem dX4_passes_48 : decode cX4_passes 48 = .ok (.iadd, 1) := by decide +kernel
theorem dX4_passes_49 : decode cX4_passes 49 = .ok (.putfield 152, 3) := by decide +kernel
theorem dX4_passes_52 : decode cX4_passes 52 = .ok (.iinc 2 1, 3) := by decide +kernel
theorem dX4_passes_55 : decode cX4_passes 55 = .ok (.goto (-53), 3) := by decide +kernel
theorem dX4_passes_58 : decode cX4_passes 58 = .ok (.return_, 1) := by decide +kernel
theorem dX4_passOne_0 : decode cX4_passOne 0 = .ok (.aload_n 0, 1) := by decide +kernel
theorem dX4_passOne_1 : decode cX4_passOne 1 = .ok (.getfield 148, 3) := by decide +kernel
theorem dX4_passOne_4 : decode cX4_passOne 4 = .ok (.ifCond .eq 7, 3) := by decide +kernel
theorem dX4_passOne_7 : decode cX4_passOne 7 = .ok (.iload_n 1, 1) := by decide +kernel
theorem dX4_passOne_8 : decode cX4_passOne 8 = .ok (.goto 12, 3) := by decide +kernel
theorem dX4_passOne_11 : decode cX4_passOne 11 = .ok (.aload_n 0, 1) := by decide +kernel
theorem dX4_passOne_12 : decode cX4_passOne 12 = .ok (.getfield 46, 3) := by decide +kernel
theorem dX4_passOne_15 : decode cX4_passOne 15 = .ok (.aload_n 0, 1) := by decide +kernel
theorem dX4_passOne_16 : decode cX4_passOne 16 = .ok (.getfield 152, 3) := by decide +kernel
theorem dX4_passOne_19 : decode cX4_passOne 19 = .ok (.iaload, 1) := by decide +kernel
theorem dX4_passOne_20 : decode cX4_passOne 20 = .ok (.istore_n 2, 1) := by decide +kernel
theorem dX4_passOne_21 : decode cX4_passOne 21 = .ok (.aload_n 0, 1) := by decide +kernel
theorem dX4_passOne_22 : decode cX4_passOne 22 = .ok (.getfield 148, 3) := by decide +kernel
theorem dX4_passOne_25 : decode cX4_passOne 25 = .ok (.ifCond .eq 13, 3) := by decide +kernel
theorem dX4_passOne_28 : decode cX4_passOne 28 = .ok (.aload_n 0, 1) := by decide +kernel
theorem dX4_passOne_29 : decode cX4_passOne 29 = .ok (.getfield 46, 3) := by decide +kernel
theorem dX4_passOne_32 : decode cX4_passOne 32 = .ok (.aload_n 0, 1) := by decide +kernel
theorem dX4_passOne_33 : decode cX4_passOne 33 = .ok (.getfield 152, 3) := by decide +kernel
theorem dX4_passOne_36 : decode cX4_passOne 36 = .ok (.iload_n 1, 1) := by decide +kernel
theorem dX4_passOne_37 : decode cX4_passOne 37 = .ok (.iastore, 1) := by decide +kernel
theorem dX4_passOne_38 : decode cX4_passOne 38 = .ok (.aload_n 0, 1) := by decide +kernel
theorem dX4_passOne_39 : decode cX4_passOne 39 = .ok (.dup, 1) := by decide +kernel
theorem dX4_passOne_40 : decode cX4_passOne 40 = .ok (.getfield 152, 3) := by decide +kernel
theorem dX4_passOne_43 : decode cX4_passOne 43 = .ok (.iconst 1, 1) := by decide +kernel
theorem dX4_passOne_44 : decode cX4_passOne 44 = .ok (.iadd, 1) := by decide +kernel
theorem dX4_passOne_45 : decode cX4_passOne 45 = .ok (.putfield 152, 3) := by decide +kernel
theorem dX4_passOne_48 : decode cX4_passOne 48 = .ok (.iload_n 2, 1) := by decide +kernel
theorem dX4_passOne_49 : decode cX4_passOne 49 = .ok (.ireturn, 1) := by decide +kernel
theorem dX4_passesAll_0 : decode cX4_passesAll 0 = .ok (.aload_n 0, 1) := by decide +kernel
theorem dX4_passesAll_1 : decode cX4_passesAll 1 = .ok (.bipush 50, 2) := by decide +kernel
theorem dX4_passesAll_3 : decode cX4_passesAll 3 = .ok (.iload_n 1, 1) := by decide +kernel
theorem dX4_passesAll_4 : decode cX4_passesAll 4 = .ok (.imul, 1) := by decide +kernel
theorem dX4_passesAll_5 : decode cX4_passesAll 5 = .ok (.putfield 152, 3) := by decide +kernel
theorem dX4_passesAll_8 : decode cX4_passesAll 8 = .ok (.aload_n 0, 1) := by decide +kernel
theorem dX4_passesAll_9 : decode cX4_passesAll 9 = .ok (.iload_n 2, 1) := by decide +kernel
theorem dX4_passesAll_10 : decode cX4_passesAll 10 = .ok (.putfield 148, 3) := by decide +kernel
theorem dX4_passesAll_13 : decode cX4_passesAll 13 = .ok (.aload_n 0, 1) := by decide +kernel
theorem dX4_passesAll_14 : decode cX4_passesAll 14 = .ok (.aload_n 0, 1) := by decide +kernel
theorem dX4_passesAll_15 : decode cX4_passesAll 15 = .ok (.getfield 13, 3) := by decide +kernel
theorem dX4_passesAll_18 : decode cX4_passesAll 18 = .ok (.invokevirtual 155, 3) := by decide +kernel
theorem dX4_passesAll_21 : decode cX4_passesAll 21 = .ok (.aload_n 0, 1) := by decide +kernel
theorem dX4_passesAll_22 : decode cX4_passesAll 22 = .ok (.aload_n 0, 1) := by decide +kernel
theorem dX4_passesAll_23 : decode cX4_passesAll 23 = .ok (.getfield 16, 3) := by decide +kernel
theorem dX4_passesAll_26 : decode cX4_passesAll 26 = .ok (.invokevirtual 155, 3) := by decide +kernel
theorem dX4_passesAll_29 : decode cX4_passesAll 29 = .ok (.aload_n 0, 1) := by decide +kernel
theorem dX4_passesAll_30 : decode cX4_passesAll 30 = .ok (.aload_n 0, 1) := by decide +kernel
theorem dX4_passesAll_31 : decode cX4_passesAll 31 = .ok (.getfield 19, 3) := by decide +kernel
theorem dX4_passesAll_34 : decode cX4_passesAll 34 = .ok (.invokevirtual 155, 3) := by decide +kernel
theorem dX4_passesAll_37 : decode cX4_passesAll 37 = .ok (.aload_n 0, 1) := by decide +kernel
theorem dX4_passesAll_38 : decode cX4_passesAll 38 = .ok (.aload_n 0, 1) := by decide +kernel
theorem dX4_passesAll_39 : decode cX4_passesAll 39 = .ok (.getfield 22, 3) := by decide +kernel
theorem dX4_passesAll_42 : decode cX4_passesAll 42 = .ok (.invokevirtual 155, 3) := by decide +kernel
theorem dX4_passesAll_45 : decode cX4_passesAll 45 = .ok (.aload_n 0, 1) := by decide +kernel
theorem dX4_passesAll_46 : decode cX4_passesAll 46 = .ok (.aload_n 0, 1) := by decide +kernel
theorem dX4_passesAll_47 : decode cX4_passesAll 47 = .ok (.getfield 25, 3) := by decide +kernel
theorem dX4_passesAll_50 : decode cX4_passesAll 50 = .ok (.invokevirtual 155, 3) := by decide +kernel
theorem dX4_passesAll_53 : decode cX4_passesAll 53 = .ok (.aload_n 0, 1) := by decide +kernel
theorem dX4_passesAll_54 : decode cX4_passesAll 54 = .ok (.aload_n 0, 1) := by decide +kernel
theorem dX4_passesAll_55 : decode cX4_passesAll 55 = .ok (.getfield 28, 3) := by decide +kernel
theorem dX4_passesAll_58 : decode cX4_passesAll 58 = .ok (.invokevirtual 155, 3) := by decide +kernel
theorem dX4_passesAll_61 : decode cX4_passesAll 61 = .ok (.aload_n 0, 1) := by decide +kernel
theorem dX4_passesAll_62 : decode cX4_passesAll 62 = .ok (.aload_n 0, 1) := by decide +kernel
theorem dX4_passesAll_63 : decode cX4_passesAll 63 = .ok (.getfield 31, 3) := by decide +kernel
theorem dX4_passesAll_66 : decode cX4_passesAll 66 = .ok (.invokevirtual 155, 3) := by decide +kernel
theorem dX4_passesAll_69 : decode cX4_passesAll 69 = .ok (.aload_n 0, 1) := by decide +kernel
theorem dX4_passesAll_70 : decode cX4_passesAll 70 = .ok (.aload_n 0, 1) := by decide +kernel
theorem dX4_passesAll_71 : decode cX4_passesAll 71 = .ok (.aload_n 0, 1) := by decide +kernel
theorem dX4_passesAll_72 : decode cX4_passesAll 72 = .ok (.getfield 70, 3) := by decide +kernel
theorem dX4_passesAll_75 : decode cX4_passesAll 75 = .ok (.invokevirtual 159, 3) := by decide +kernel
theorem dX4_passesAll_78 : decode cX4_passesAll 78 = .ok (.putfield 70, 3) := by decide +kernel
theorem dX4_passesAll_81 : decode cX4_passesAll 81 = .ok (.aload_n 0, 1) := by decide +kernel
theorem dX4_passesAll_82 : decode cX4_passesAll 82 = .ok (.aload_n 0, 1) := by decide +kernel
theorem dX4_passesAll_83 : decode cX4_passesAll 83 = .ok (.aload_n 0, 1) := by decide +kernel
theorem dX4_passesAll_84 : decode cX4_passesAll 84 = .ok (.getfield 131, 3) := by decide +kernel
theorem dX4_passesAll_87 : decode cX4_passesAll 87 = .ok (.invokevirtual 159, 3) := by decide +kernel
theorem dX4_passesAll_90 : decode cX4_passesAll 90 = .ok (.putfield 131, 3) := by decide +kernel
theorem dX4_passesAll_93 : decode cX4_passesAll 93 = .ok (.return_, 1) := by decide +kernel
theorem dX4_image_0 : decode cX4_image 0 = .ok (.aload_n 0, 1) := by decide +kernel
theorem dX4_image_1 : decode cX4_image 1 = .ok (.iconst 1, 1) := by decide +kernel
theorem dX4_image_2 : decode cX4_image 2 = .ok (.putfield 162, 3) := by decide +kernel
theorem dX4_image_5 : decode cX4_image 5 = .ok (.aload_n 0, 1) := by decide +kernel
theorem dX4_image_6 : decode cX4_image 6 = .ok (.iconst 0, 1) := by decide +kernel
theorem dX4_image_7 : decode cX4_image 7 = .ok (.iconst 1, 1) := by decide +kernel
theorem dX4_image_8 : decode cX4_image 8 = .ok (.invokevirtual 141, 3) := by decide +kernel
theorem dX4_image_11 : decode cX4_image 11 = .ok (.aload_n 0, 1) := by decide +kernel
theorem dX4_image_12 : decode cX4_image 12 = .ok (.getfield 131, 3) := by decide +kernel
theorem dX4_image_15 : decode cX4_image 15 = .ok (.ireturn, 1) := by decide +kernel
theorem dX4_on_0 : decode cX4_on 0 = .ok (.aload_n 0, 1) := by decide +kernel
theorem dX4_on_1 : decode cX4_on 1 = .ok (.getfield 162, 3) := by decide +kernel
theorem dX4_on_4 : decode cX4_on 4 = .ok (.ifCond .ne 10, 3) := by decide +kernel
theorem dX4_on_7 : decode cX4_on 7 = .ok (.aload_n 0, 1) := by decide +kernel
theorem dX4_on_8 : decode cX4_on 8 = .ok (.bipush (-3), 2) := by decide +kernel
theorem dX4_on_10 : decode cX4_on 10 = .ok (.invokevirtual 85, 3) := by decide +kernel
theorem dX4_on_13 : decode cX4_on 13 = .ok (.ireturn, 1) := by decide +kernel
theorem dX4_on_14 : decode cX4_on 14 = .ok (.aload_n 0, 1) := by decide +kernel
theorem dX4_on_15 : decode cX4_on 15 = .ok (.iconst 0, 1) := by decide +kernel
theorem dX4_on_16 : decode cX4_on 16 = .ok (.iconst 0, 1) := by decide +kernel
theorem dX4_on_17 : decode cX4_on 17 = .ok (.invokevirtual 141, 3) := by decide +kernel
theorem dX4_on_20 : decode cX4_on 20 = .ok (.aload_n 0, 1) := by decide +kernel
theorem dX4_on_21 : decode cX4_on 21 = .ok (.getfield 131, 3) := by decide +kernel
theorem dX4_on_24 : decode cX4_on 24 = .ok (.ireturn, 1) := by decide +kernel
theorem dX4_bestBut_0 : decode cX4_bestBut 0 = .ok (.bipush (-9), 2) := by decide +kernel
theorem dX4_bestBut_2 : decode cX4_bestBut 2 = .ok (.istore_n 2, 1) := by decide +kernel
theorem dX4_bestBut_3 : decode cX4_bestBut 3 = .ok (.iconst 0, 1) := by decide +kernel
theorem dX4_bestBut_4 : decode cX4_bestBut 4 = .ok (.istore_n 3, 1) := by decide +kernel
theorem dX4_bestBut_5 : decode cX4_bestBut 5 = .ok (.iload_n 3, 1) := by decide +kernel
theorem dX4_bestBut_6 : decode cX4_bestBut 6 = .ok (.bipush 8, 2) := by decide +kernel
theorem dX4_bestBut_8 : decode cX4_bestBut 8 = .ok (.if_icmp .ge 44, 3) := by decide +kernel
theorem dX4_bestBut_11 : decode cX4_bestBut 11 = .ok (.iload_n 3, 1) := by decide +kernel
theorem dX4_bestBut_12 : decode cX4_bestBut 12 = .ok (.iload_n 1, 1) := by decide +kernel
theorem dX4_bestBut_13 : decode cX4_bestBut 13 = .ok (.if_icmp .eq 33, 3) := by decide +kernel
theorem dX4_bestBut_16 : decode cX4_bestBut 16 = .ok (.aload_n 0, 1) := by decide +kernel
theorem dX4_bestBut_17 : decode cX4_bestBut 17 = .ok (.getfield 13, 3) := by decide +kernel
theorem dX4_bestBut_20 : decode cX4_bestBut 20 = .ok (.iload_n 3, 1) := by decide +kernel
theorem dX4_bestBut_21 : decode cX4_bestBut 21 = .ok (.iaload, 1) := by decide +kernel
theorem dX4_bestBut_22 : decode cX4_bestBut 22 = .ok (.ifCond .le 24, 3) := by decide +kernel
theorem dX4_bestBut_25 : decode cX4_bestBut 25 = .ok (.iload_n 2, 1) := by decide +kernel
theorem dX4_bestBut_26 : decode cX4_bestBut 26 = .ok (.ifCond .lt 18, 3) := by decide +kernel
theorem dX4_bestBut_29 : decode cX4_bestBut 29 = .ok (.aload_n 0, 1) := by decide +kernel
theorem dX4_bestBut_30 : decode cX4_bestBut 30 = .ok (.getfield 13, 3) := by decide +kernel
theorem dX4_bestBut_33 : decode cX4_bestBut 33 = .ok (.iload_n 3, 1) := by decide +kernel
theorem dX4_bestBut_34 : decode cX4_bestBut 34 = .ok (.iaload, 1) := by decide +kernel
theorem dX4_bestBut_35 : decode cX4_bestBut 35 = .ok (.aload_n 0, 1) := by decide +kernel
theorem dX4_bestBut_36 : decode cX4_bestBut 36 = .ok (.getfield 13, 3) := by decide +kernel
theorem dX4_bestBut_39 : decode cX4_bestBut 39 = .ok (.iload_n 2, 1) := by decide +kernel
theorem dX4_bestBut_40 : decode cX4_bestBut 40 = .ok (.iaload, 1) := by decide +kernel
theorem dX4_bestBut_41 : decode cX4_bestBut 41 = .ok (.if_icmp .le 5, 3) := by decide +kernel
theorem dX4_bestBut_44 : decode cX4_bestBut 44 = .ok (.iload_n 3, 1) := by decide +kernel
theorem dX4_bestBut_45 : decode cX4_bestBut 45 = .ok (.istore_n 2, 1) := by decide +kernel
theorem dX4_bestBut_46 : decode cX4_bestBut 46 = .ok (.iinc 3 1, 3) := by decide +kernel
theorem dX4_bestBut_49 : decode cX4_bestBut 49 = .ok (.goto (-44), 3) := by decide +kernel
theorem dX4_bestBut_52 : decode cX4_bestBut 52 = .ok (.iload_n 2, 1) := by decide +kernel
theorem dX4_bestBut_53 : decode cX4_bestBut 53 = .ok (.ireturn, 1) := by decide +kernel
theorem dX4_wordFor_0 : decode cX4_wordFor 0 = .ok (.aload_n 0, 1) := by decide +kernel
theorem dX4_wordFor_1 : decode cX4_wordFor 1 = .ok (.getfield 19, 3) := by decide +kernel
theorem dX4_wordFor_4 : decode cX4_wordFor 4 = .ok (.iload_n 1, 1) := by decide +kernel
theorem dX4_wordFor_5 : decode cX4_wordFor 5 = .ok (.iaload, 1) := by decide +kernel
theorem dX4_wordFor_6 : decode cX4_wordFor 6 = .ok (.iconst 2, 1) := by decide +kernel
theorem dX4_wordFor_7 : decode cX4_wordFor 7 = .ok (.if_icmp .ne 10, 3) := by decide +kernel
theorem dX4_wordFor_10 : decode cX4_wordFor 10 = .ok (.aload_n 0, 1) := by decide +kernel
theorem dX4_wordFor_11 : decode cX4_wordFor 11 = .ok (.getfield 28, 3) := by decide +kernel
theorem dX4_wordFor_14 : decode cX4_wordFor 14 = .ok (.iload_n 1, 1) := by decide +kernel
theorem dX4_wordFor_15 : decode cX4_wordFor 15 = .ok (.iaload, 1) := by decide +kernel
theorem dX4_wordFor_16 : decode cX4_wordFor 16 = .ok (.ireturn, 1) := by decide +kernel
theorem dX4_wordFor_17 : decode cX4_wordFor 17 = .ok (.aload_n 0, 1) := by decide +kernel
theorem dX4_wordFor_18 : decode cX4_wordFor 18 = .ok (.getfield 19, 3) := by decide +kernel
theorem dX4_wordFor_21 : decode cX4_wordFor 21 = .ok (.iload_n 1, 1) := by decide +kernel
theorem dX4_wordFor_22 : decode cX4_wordFor 22 = .ok (.iaload, 1) := by decide +kernel
theorem dX4_wordFor_23 : decode cX4_wordFor 23 = .ok (.iconst 5, 1) := by decide +kernel
theorem dX4_wordFor_24 : decode cX4_wordFor 24 = .ok (.if_icmp .ne 15, 3) := by decide +kernel
theorem dX4_wordFor_27 : decode cX4_wordFor 27 = .ok (.aload_n 0, 1) := by decide +kernel
theorem dX4_wordFor_28 : decode cX4_wordFor 28 = .ok (.getfield 28, 3) := by decide +kernel
theorem dX4_wordFor_31 : decode cX4_wordFor 31 = .ok (.iload_n 1, 1) := by decide +kernel
theorem dX4_wordFor_32 : decode cX4_wordFor 32 = .ok (.iaload, 1) := by decide +kernel
theorem dX4_wordFor_33 : decode cX4_wordFor 33 = .ok (.iconst 1, 1) := by decide +kernel
theorem dX4_wordFor_34 : decode cX4_wordFor 34 = .ok (.iadd, 1) := by decide +kernel
theorem dX4_wordFor_35 : decode cX4_wordFor 35 = .ok (.bipush 8, 2) := by decide +kernel
theorem dX4_wordFor_37 : decode cX4_wordFor 37 = .ok (.irem, 1) := by decide +kernel
theorem dX4_wordFor_38 : decode cX4_wordFor 38 = .ok (.ireturn, 1) := by decide +kernel
theorem dX4_wordFor_39 : decode cX4_wordFor 39 = .ok (.aload_n 0, 1) := by decide +kernel
theorem dX4_wordFor_40 : decode cX4_wordFor 40 = .ok (.aload_n 0, 1) := by decide +kernel
theorem dX4_wordFor_41 : decode cX4_wordFor 41 = .ok (.getfield 28, 3) := by decide +kernel
theorem dX4_wordFor_44 : decode cX4_wordFor 44 = .ok (.iload_n 1, 1) := by decide +kernel
theorem dX4_wordFor_45 : decode cX4_wordFor 45 = .ok (.iaload, 1) := by decide +kernel
theorem dX4_wordFor_46 : decode cX4_wordFor 46 = .ok (.invokevirtual 165, 3) := by decide +kernel
theorem dX4_wordFor_49 : decode cX4_wordFor 49 = .ok (.istore_n 2, 1) := by decide +kernel
theorem dX4_wordFor_50 : decode cX4_wordFor 50 = .ok (.iload_n 2, 1) := by decide +kernel
theorem dX4_wordFor_51 : decode cX4_wordFor 51 = .ok (.ifCond .ge 12, 3) := by decide +kernel
theorem dX4_wordFor_54 : decode cX4_wordFor 54 = .ok (.aload_n 0, 1) := by decide +kernel
theorem dX4_wordFor_55 : decode cX4_wordFor 55 = .ok (.getfield 28, 3) := by decide +kernel
theorem dX4_wordFor_58 : decode cX4_wordFor 58 = .ok (.iload_n 1, 1) := by decide +kernel
theorem dX4_wordFor_59 : decode cX4_wordFor 59 = .ok (.iaload, 1) := by decide +kernel
theorem dX4_wordFor_60 : decode cX4_wordFor 60 = .ok (.goto 4, 3) := by decide +kernel
theorem dX4_wordFor_63 : decode cX4_wordFor 63 = .ok (.iload_n 2, 1) := by decide +kernel
theorem dX4_wordFor_64 : decode cX4_wordFor 64 = .ok (.ireturn, 1) := by decide +kernel
theorem dX4_reach_0 : decode cX4_reach 0 = .ok (.aload_n 0, 1) := by decide +kernel
theorem dX4_reach_1 : decode cX4_reach 1 = .ok (.getfield 19, 3) := by decide +kernel
theorem dX4_reach_4 : decode cX4_reach 4 = .ok (.iload_n 1, 1) := by decide +kernel
theorem dX4_reach_5 : decode cX4_reach 5 = .ok (.iaload, 1) := by decide +kernel
theorem dX4_reach_6 : decode cX4_reach 6 = .ok (.tableswitch 43 1 5 #[34, 43, 36, 38, 40], 34) := by decide +kernel
theorem dX4_reach_40 : decode cX4_reach 40 = .ok (.iconst 4, 1) := by decide +kernel
theorem dX4_reach_41 : decode cX4_reach 41 = .ok (.ireturn, 1) := by decide +kernel
theorem dX4_reach_42 : decode cX4_reach 42 = .ok (.iconst (-1), 1) := by decide +kernel
theorem dX4_reach_43 : decode cX4_reach 43 = .ok (.ireturn, 1) := by decide +kernel
theorem dX4_reach_44 : decode cX4_reach 44 = .ok (.iconst 0, 1) := by decide +kernel
theorem dX4_reach_45 : decode cX4_reach 45 = .ok (.ireturn, 1) := by decide +kernel
theorem dX4_reach_46 : decode cX4_reach 46 = .ok (.bipush 9, 2) := by decide +kernel
theorem dX4_reach_48 : decode cX4_reach 48 = .ok (.ireturn, 1) := by decide +kernel
theorem dX4_reach_49 : decode cX4_reach 49 = .ok (.iconst 2, 1) := by decide +kernel
theorem dX4_reach_50 : decode cX4_reach 50 = .ok (.ireturn, 1) := by decide +kernel
theorem dX4_teaches_0 : decode cX4_teaches 0 = .ok (.aload_n 0, 1) := by decide +kernel
theorem dX4_teaches_1 : decode cX4_teaches 1 = .ok (.getfield 19, 3) := by decide +kernel
theorem dX4_teaches_4 : decode cX4_teaches 4 = .ok (.iload_n 1, 1) := by decide +kernel
theorem dX4_teaches_5 : decode cX4_teaches 5 = .ok (.iaload, 1) := by decide +kernel
theorem dX4_teaches_6 : decode cX4_teaches 6 = .ok (.iconst 2, 1) := by decide +kernel
theorem dX4_teaches_7 : decode cX4_teaches 7 = .ok (.if_icmp .ge 7, 3) := by decide +kernel
theorem dX4_teaches_10 : decode cX4_teaches 10 = .ok (.iconst 1, 1) := by decide +kernel
theorem dX4_teaches_11 : decode cX4_teaches 11 = .ok (.goto 18, 3) := by decide +kernel
theorem dX4_teaches_14 : decode cX4_teaches 14 = .ok (.aload_n 0, 1) := by decide +kernel
theorem dX4_teaches_15 : decode cX4_teaches 15 = .ok (.getfield 19, 3) := by decide +kernel
theorem dX4_teaches_18 : decode cX4_teaches 18 = .ok (.iload_n 1, 1) := by decide +kernel
theorem dX4_teaches_19 : decode cX4_teaches 19 = .ok (.iaload, 1) := by decide +kernel
theorem dX4_teaches_20 : decode cX4_teaches 20 = .ok (.iconst 4, 1) := by decide +kernel
theorem dX4_teaches_21 : decode cX4_teaches 21 = .ok (.if_icmp .ne 7, 3) := by decide +kernel
theorem dX4_teaches_24 : decode cX4_teaches 24 = .ok (.iconst 2, 1) := by decide +kernel
theorem dX4_teaches_25 : decode cX4_teaches 25 = .ok (.goto 4, 3) := by decide +kernel
theorem dX4_teaches_28 : decode cX4_teaches 28 = .ok (.iconst 0, 1) := by decide +kernel
theorem dX4_teaches_29 : decode cX4_teaches 29 = .ok (.ireturn, 1) := by decide +kernel
theorem dX4_hurts_0 : decode cX4_hurts 0 = .ok (.aload_n 0, 1) := by decide +kernel
theorem dX4_hurts_1 : decode cX4_hurts 1 = .ok (.getfield 19, 3) := by decide +kernel
theorem dX4_hurts_4 : decode cX4_hurts 4 = .ok (.iload_n 1, 1) := by decide +kernel
theorem dX4_hurts_5 : decode cX4_hurts 5 = .ok (.iaload, 1) := by decide +kernel
theorem dX4_hurts_6 : decode cX4_hurts 6 = .ok (.tableswitch 53 1 5 #[34, 36, 38, 53, 46], 34) := by decide +kernel
theorem dX4_hurts_40 : decode cX4_hurts 40 = .ok (.iconst 2, 1) := by decide +kernel
theorem dX4_hurts_41 : decode cX4_hurts 41 = .ok (.ireturn, 1) := by decide +kernel
theorem dX4_hurts_42 : decode cX4_hurts 42 = .ok (.iconst 1, 1) := by decide +kernel
theorem dX4_hurts_43 : decode cX4_hurts 43 = .ok (.ireturn, 1) := by decide +kernel
theorem dX4_hurts_44 : decode cX4_hurts 44 = .ok (.aload_n 0, 1) := by decide +kernel
theorem dX4_hurts_45 : decode cX4_hurts 45 = .ok (.getfield 22, 3) := by decide +kernel
theorem dX4_hurts_48 : decode cX4_hurts 48 = .ok (.iload_n 1, 1) := by decide +kernel
theorem dX4_hurts_49 : decode cX4_hurts 49 = .ok (.iaload, 1) := by decide +kernel
theorem dX4_hurts_50 : decode cX4_hurts 50 = .ok (.ineg, 1) := by decide +kernel
theorem dX4_hurts_51 : decode cX4_hurts 51 = .ok (.ireturn, 1) := by decide +kernel
theorem dX4_hurts_52 : decode cX4_hurts 52 = .ok (.aload_n 0, 1) := by decide +kernel
theorem dX4_hurts_53 : decode cX4_hurts 53 = .ok (.getfield 22, 3) := by decide +kernel
theorem dX4_hurts_56 : decode cX4_hurts 56 = .ok (.iload_n 1, 1) := by decide +kernel
theorem dX4_hurts_57 : decode cX4_hurts 57 = .ok (.iaload, 1) := by decide +kernel
theorem dX4_hurts_58 : decode cX4_hurts 58 = .ok (.ireturn, 1) := by decide +kernel
theorem dX4_hurts_59 : decode cX4_hurts 59 = .ok (.iconst 0, 1) := by decide +kernel
theorem dX4_hurts_60 : decode cX4_hurts 60 = .ok (.ireturn, 1) := by decide +kernel
theorem dX4_isSilent_0 : decode cX4_isSilent 0 = .ok (.aload_n 0, 1) := by decide +kernel
theorem dX4_isSilent_1 : decode cX4_isSilent 1 = .ok (.getfield 16, 3) := by decide +kernel
theorem dX4_isSilent_4 : decode cX4_isSilent 4 = .ok (.iconst 1, 1) := by decide +kernel
theorem dX4_isSilent_5 : decode cX4_isSilent 5 = .ok (.iaload, 1) := by decide +kernel
theorem dX4_isSilent_6 : decode cX4_isSilent 6 = .ok (.aload_n 0, 1) := by decide +kernel
theorem dX4_isSilent_7 : decode cX4_isSilent 7 = .ok (.getfield 16, 3) := by decide +kernel
theorem dX4_isSilent_10 : decode cX4_isSilent 10 = .ok (.iconst 2, 1) := by decide +kernel
theorem dX4_isSilent_11 : decode cX4_isSilent 11 = .ok (.iaload, 1) := by decide +kernel
theorem dX4_isSilent_12 : decode cX4_isSilent 12 = .ok (.if_icmp .le 7, 3) := by decide +kernel
theorem dX4_isSilent_15 : decode cX4_isSilent 15 = .ok (.iconst 1, 1) := by decide +kernel
theorem dX4_isSilent_16 : decode cX4_isSilent 16 = .ok (.goto 4, 3) := by decide +kernel
theorem dX4_isSilent_19 : decode cX4_isSilent 19 = .ok (.iconst 0, 1) := by decide +kernel
theorem dX4_isSilent_20 : decode cX4_isSilent 20 = .ok (.ireturn, 1) := by decide +kernel
theorem dX4_isAnswered_0 : decode cX4_isAnswered 0 = .ok (.aload_n 0, 1) := by decide +kernel
theorem dX4_isAnswered_1 : decode cX4_isAnswered 1 = .ok (.getfield 25, 3) := by decide +kernel
theorem dX4_isAnswered_4 : decode cX4_isAnswered 4 = .ok (.iload_n 1, 1) := by decide +kernel
theorem dX4_isAnswered_5 : decode cX4_isAnswered 5 = .ok (.iaload, 1) := by decide +kernel
theorem dX4_isAnswered_6 : decode cX4_isAnswered 6 = .ok (.aload_n 0, 1) := by decide +kernel
theorem dX4_isAnswered_7 : decode cX4_isAnswered 7 = .ok (.getfield 16, 3) := by decide +kernel
theorem dX4_isAnswered_10 : decode cX4_isAnswered 10 = .ok (.iconst 0, 1) := by decide +kernel
theorem dX4_isAnswered_11 : decode cX4_isAnswered 11 = .ok (.iaload, 1) := by decide +kernel
theorem dX4_isAnswered_12 : decode cX4_isAnswered 12 = .ok (.if_icmp .ge 19, 3) := by decide +kernel
theorem dX4_isAnswered_15 : decode cX4_isAnswered 15 = .ok (.aload_n 0, 1) := by decide +kernel
theorem dX4_isAnswered_16 : decode cX4_isAnswered 16 = .ok (.getfield 16, 3) := by decide +kernel
theorem dX4_isAnswered_19 : decode cX4_isAnswered 19 = .ok (.iconst 0, 1) := by decide +kernel
theorem dX4_isAnswered_20 : decode cX4_isAnswered 20 = .ok (.iaload, 1) := by decide +kernel
theorem dX4_isAnswered_21 : decode cX4_isAnswered 21 = .ok (.aload_n 0, 1) := by decide +kernel
theorem dX4_isAnswered_22 : decode cX4_isAnswered 22 = .ok (.getfield 25, 3) := by decide +kernel
theorem dX4_isAnswered_25 : decode cX4_isAnswered 25 = .ok (.iload_n 1, 1) := by decide +kernel
theorem dX4_isAnswered_26 : decode cX4_isAnswered 26 = .ok (.iaload, 1) := by decide +kernel
theorem dX4_isAnswered_27 : decode cX4_isAnswered 27 = .ok (.isub, 1) := by decide +kernel
theorem dX4_isAnswered_28 : decode cX4_isAnswered 28 = .ok (.goto 16, 3) := by decide +kernel
theorem dX4_isAnswered_31 : decode cX4_isAnswered 31 = .ok (.aload_n 0, 1) := by decide +kernel
theorem dX4_isAnswered_32 : decode cX4_isAnswered 32 = .ok (.getfield 25, 3) := by decide +kernel
theorem dX4_isAnswered_35 : decode cX4_isAnswered 35 = .ok (.iload_n 1, 1) := by decide +kernel
theorem dX4_isAnswered_36 : decode cX4_isAnswered 36 = .ok (.iaload, 1) := by decide +kernel
theorem dX4_isAnswered_37 : decode cX4_isAnswered 37 = .ok (.aload_n 0, 1) := by decide +kernel
theorem dX4_isAnswered_38 : decode cX4_isAnswered 38 = .ok (.getfield 16, 3) := by decide +kernel
theorem dX4_isAnswered_41 : decode cX4_isAnswered 41 = .ok (.iconst 0, 1) := by decide +kernel
theorem dX4_isAnswered_42 : decode cX4_isAnswered 42 = .ok (.iaload, 1) := by decide +kernel
theorem dX4_isAnswered_43 : decode cX4_isAnswered 43 = .ok (.isub, 1) := by decide +kernel
theorem dX4_isAnswered_44 : decode cX4_isAnswered 44 = .ok (.istore_n 2, 1) := by decide +kernel
theorem dX4_isAnswered_45 : decode cX4_isAnswered 45 = .ok (.aload_n 0, 1) := by decide +kernel
theorem dX4_isAnswered_46 : decode cX4_isAnswered 46 = .ok (.invokevirtual 168, 3) := by decide +kernel
theorem dX4_isAnswered_49 : decode cX4_isAnswered 49 = .ok (.ifCond .ne 16, 3) := by decide +kernel
theorem dX4_isAnswered_52 : decode cX4_isAnswered 52 = .ok (.iload_n 2, 1) := by decide +kernel
theorem dX4_isAnswered_53 : decode cX4_isAnswered 53 = .ok (.aload_n 0, 1) := by decide +kernel
theorem dX4_isAnswered_54 : decode cX4_isAnswered 54 = .ok (.iload_n 1, 1) := by decide +kernel
theorem dX4_isAnswered_55 : decode cX4_isAnswered 55 = .ok (.invokevirtual 171, 3) := by decide +kernel
theorem dX4_isAnswered_58 : decode cX4_isAnswered 58 = .ok (.if_icmp .gt 7, 3) := by decide +kernel
theorem dX4_isAnswered_61 : decode cX4_isAnswered 61 = .ok (.iconst 1, 1) := by decide +kernel
theorem dX4_isAnswered_62 : decode cX4_isAnswered 62 = .ok (.goto 4, 3) := by decide +kernel
theorem dX4_isAnswered_65 : decode cX4_isAnswered 65 = .ok (.iconst 0, 1) := by decide +kernel
theorem dX4_isAnswered_66 : decode cX4_isAnswered 66 = .ok (.ireturn, 1) := by decide +kernel
theorem dX4_sum_0 : decode cX4_sum 0 = .ok (.iconst 0, 1) := by decide +kernel
theorem dX4_sum_1 : decode cX4_sum 1 = .ok (.istore_n 1, 1) := by decide +kernel
theorem dX4_sum_2 : decode cX4_sum 2 = .ok (.iconst 0, 1) := by decide +kernel
theorem dX4_sum_3 : decode cX4_sum 3 = .ok (.istore_n 2, 1) := by decide +kernel
theorem dX4_sum_4 : decode cX4_sum 4 = .ok (.iload_n 2, 1) := by decide +kernel
theorem dX4_sum_5 : decode cX4_sum 5 = .ok (.bipush 8, 2) := by decide +kernel
theorem dX4_sum_7 : decode cX4_sum 7 = .ok (.if_icmp .ge 18, 3) := by decide +kernel
theorem dX4_sum_10 : decode cX4_sum 10 = .ok (.iload_n 1, 1) := by decide +kernel
theorem dX4_sum_11 : decode cX4_sum 11 = .ok (.aload_n 0, 1) := by decide +kernel
theorem dX4_sum_12 : decode cX4_sum 12 = .ok (.getfield 13, 3) := by decide +kernel
theorem dX4_sum_15 : decode cX4_sum 15 = .ok (.iload_n 2, 1) := by decide +kernel
theorem dX4_sum_16 : decode cX4_sum 16 = .ok (.iaload, 1) := by decide +kernel
theorem dX4_sum_17 : decode cX4_sum 17 = .ok (.iadd, 1) := by decide +kernel
theorem dX4_sum_18 : decode cX4_sum 18 = .ok (.istore_n 1, 1) := by decide +kernel
theorem dX4_sum_19 : decode cX4_sum 19 = .ok (.iinc 2 1, 3) := by decide +kernel
theorem dX4_sum_22 : decode cX4_sum 22 = .ok (.goto (-18), 3) := by decide +kernel
theorem dX4_sum_25 : decode cX4_sum 25 = .ok (.iload_n 1, 1) := by decide +kernel
theorem dX4_sum_26 : decode cX4_sum 26 = .ok (.ireturn, 1) := by decide +kernel
theorem dX4_hurt_0 : decode cX4_hurt 0 = .ok (.aload_n 0, 1) := by decide +kernel
theorem dX4_hurt_1 : decode cX4_hurt 1 = .ok (.getfield 16, 3) := by decide +kernel
theorem dX4_hurt_4 : decode cX4_hurt 4 = .ok (.iconst 1, 1) := by decide +kernel
theorem dX4_hurt_5 : decode cX4_hurt 5 = .ok (.iaload, 1) := by decide +kernel
theorem dX4_hurt_6 : decode cX4_hurt 6 = .ok (.iload_n 1, 1) := by decide +kernel
theorem dX4_hurt_7 : decode cX4_hurt 7 = .ok (.iadd, 1) := by decide +kernel
theorem dX4_hurt_8 : decode cX4_hurt 8 = .ok (.istore_n 2, 1) := by decide +kernel
theorem dX4_hurt_9 : decode cX4_hurt 9 = .ok (.aload_n 0, 1) := by decide +kernel
theorem dX4_hurt_10 : decode cX4_hurt 10 = .ok (.getfield 16, 3) := by decide +kernel
theorem dX4_hurt_13 : decode cX4_hurt 13 = .ok (.iconst 1, 1) := by decide +kernel
theorem dX4_hurt_14 : decode cX4_hurt 14 = .ok (.iload_n 2, 1) := by decide +kernel
theorem dX4_hurt_15 : decode cX4_hurt 15 = .ok (.ifCond .ge 7, 3) := by decide +kernel
theorem dX4_hurt_18 : decode cX4_hurt 18 = .ok (.iconst 0, 1) := by decide +kernel
theorem dX4_hurt_19 : decode cX4_hurt 19 = .ok (.goto 15, 3) := by decide +kernel
theorem dX4_hurt_22 : decode cX4_hurt 22 = .ok (.iload_n 2, 1) := by decide +kernel
theorem dX4_hurt_23 : decode cX4_hurt 23 = .ok (.bipush 99, 2) := by decide +kernel
theorem dX4_hurt_25 : decode cX4_hurt 25 = .ok (.if_icmp .le 8, 3) := by decide +kernel
theorem dX4_hurt_28 : decode cX4_hurt 28 = .ok (.bipush 99, 2) := by decide +kernel
theorem dX4_hurt_30 : decode cX4_hurt 30 = .ok (.goto 4, 3) := by decide +kernel
theorem dX4_hurt_33 : decode cX4_hurt 33 = .ok (.iload_n 2, 1) := by decide +kernel
theorem dX4_hurt_34 : decode cX4_hurt 34 = .ok (.iastore, 1) := by decide +kernel
theorem dX4_hurt_35 : decode cX4_hurt 35 = .ok (.return_, 1) := by decide +kernel
theorem dX4_begins_0 : decode cX4_begins 0 = .ok (.aload_n 0, 1) := by decide +kernel
theorem dX4_begins_1 : decode cX4_begins 1 = .ok (.iconst 0, 1) := by decide +kernel
theorem dX4_begins_2 : decode cX4_begins 2 = .ok (.putfield 174, 3) := by decide +kernel
theorem dX4_begins_5 : decode cX4_begins 5 = .ok (.aload_n 0, 1) := by decide +kernel
theorem dX4_begins_6 : decode cX4_begins 6 = .ok (.iconst 0, 1) := by decide +kernel
theorem dX4_begins_7 : decode cX4_begins 7 = .ok (.putfield 177, 3) := by decide +kernel
theorem dX4_begins_10 : decode cX4_begins 10 = .ok (.aload_n 0, 1) := by decide +kernel
theorem dX4_begins_11 : decode cX4_begins 11 = .ok (.iconst 0, 1) := by decide +kernel
theorem dX4_begins_12 : decode cX4_begins 12 = .ok (.putfield 180, 3) := by decide +kernel
theorem dX4_begins_15 : decode cX4_begins 15 = .ok (.iconst 0, 1) := by decide +kernel
theorem dX4_begins_16 : decode cX4_begins 16 = .ok (.istore_n 1, 1) := by decide +kernel
theorem dX4_begins_17 : decode cX4_begins 17 = .ok (.iload_n 1, 1) := by decide +kernel
theorem dX4_begins_18 : decode cX4_begins 18 = .ok (.bipush 7, 2) := by decide +kernel
theorem dX4_begins_20 : decode cX4_begins 20 = .ok (.if_icmp .ge 24, 3) := by decide +kernel
theorem dX4_begins_23 : decode cX4_begins 23 = .ok (.aload_n 0, 1) := by decide +kernel
theorem dX4_begins_24 : decode cX4_begins 24 = .ok (.getfield 49, 3) := by decide +kernel
theorem dX4_begins_27 : decode cX4_begins 27 = .ok (.iload_n 1, 1) := by decide +kernel
theorem dX4_begins_28 : decode cX4_begins 28 = .ok (.iconst 0, 1) := by decide +kernel
theorem dX4_begins_29 : decode cX4_begins 29 = .ok (.iastore, 1) := by decide +kernel
theorem dX4_begins_30 : decode cX4_begins 30 = .ok (.aload_n 0, 1) := by decide +kernel
theorem dX4_begins_31 : decode cX4_begins 31 = .ok (.getfield 52, 3) := by decide +kernel
theorem dX4_begins_34 : decode cX4_begins 34 = .ok (.iload_n 1, 1) := by decide +kernel
theorem dX4_begins_35 : decode cX4_begins 35 = .ok (.bipush (-9), 2) := by decide +kernel
theorem dX4_begins_37 : decode cX4_begins 37 = .ok (.iastore, 1) := by decide +kernel
theorem dX4_begins_38 : decode cX4_begins 38 = .ok (.iinc 1 1, 3) := by decide +kernel
theorem dX4_begins_41 : decode cX4_begins 41 = .ok (.goto (-24), 3) := by decide +kernel
theorem dX4_begins_44 : decode cX4_begins 44 = .ok (.return_, 1) := by decide +kernel
theorem dX4_calls_0 : decode cX4_calls 0 = .ok (.aload_n 0, 1) := by decide +kernel
theorem dX4_calls_1 : decode cX4_calls 1 = .ok (.dup, 1) := by decide +kernel
theorem dX4_calls_2 : decode cX4_calls 2 = .ok (.getfield 183, 3) := by decide +kernel
theorem dX4_calls_5 : decode cX4_calls 5 = .ok (.iload_n 2, 1) := by decide +kernel
theorem dX4_calls_6 : decode cX4_calls 6 = .ok (.bipush 7, 2) := by decide +kernel
theorem dX4_calls_8 : decode cX4_calls 8 = .ok (.if_icmp .ne 7, 3) := by decide +kernel
theorem dX4_calls_11 : decode cX4_calls 11 = .ok (.iconst 1, 1) := by decide +kernel
theorem dX4_calls_12 : decode cX4_calls 12 = .ok (.goto 4, 3) := by decide +kernel
theorem dX4_calls_15 : decode cX4_calls 15 = .ok (.iconst 0, 1) := by decide +kernel
theorem dX4_calls_16 : decode cX4_calls 16 = .ok (.ior, 1) := by decide +kernel
theorem dX4_calls_17 : decode cX4_calls 17 = .ok (.putfield 183, 3) := by decide +kernel
theorem dX4_calls_20 : decode cX4_calls 20 = .ok (.aload_n 0, 1) := by decide +kernel
theorem dX4_calls_21 : decode cX4_calls 21 = .ok (.iload_n 1, 1) := by decide +kernel
theorem dX4_calls_22 : decode cX4_calls 22 = .ok (.invokevirtual 186, 3) := by decide +kernel
theorem dX4_calls_25 : decode cX4_calls 25 = .ok (.ifCond .ne 23, 3) := by decide +kernel
theorem dX4_calls_28 : decode cX4_calls 28 = .ok (.aload_n 0, 1) := by decide +kernel
theorem dX4_calls_29 : decode cX4_calls 29 = .ok (.dup, 1) := by decide +kernel
theorem dX4_calls_30 : decode cX4_calls 30 = .ok (.getfield 177, 3) := by decide +kernel
theorem dX4_calls_33 : decode cX4_calls 33 = .ok (.iconst 1, 1) := by decide +kernel
theorem dX4_calls_34 : decode cX4_calls 34 = .ok (.iadd, 1) := by decide +kernel
theorem dX4_calls_35 : decode cX4_calls 35 = .ok (.putfield 177, 3) := by decide +kernel
theorem dX4_calls_38 : decode cX4_calls 38 = .ok (.aload_n 0, 1) := by decide +kernel
theorem dX4_calls_39 : decode cX4_calls 39 = .ok (.aload_n 0, 1) := by decide +kernel
theorem dX4_calls_40 : decode cX4_calls 40 = .ok (.iload_n 1, 1) := by decide +kernel
theorem dX4_calls_41 : decode cX4_calls 41 = .ok (.invokevirtual 189, 3) := by decide +kernel
theorem dX4_calls_44 : decode cX4_calls 44 = .ok (.invokevirtual 192, 3) := by decide +kernel
theorem dX4_calls_47 : decode cX4_calls 47 = .ok (.return_, 1) := by decide +kernel
theorem dX4_calls_48 : decode cX4_calls 48 = .ok (.aload_n 0, 1) := by decide +kernel
theorem dX4_calls_49 : decode cX4_calls 49 = .ok (.dup, 1) := by decide +kernel
theorem dX4_calls_50 : decode cX4_calls 50 = .ok (.getfield 196, 3) := by decide +kernel
theorem dX4_calls_53 : decode cX4_calls 53 = .ok (.iload_n 2, 1) := by decide +kernel
theorem dX4_calls_54 : decode cX4_calls 54 = .ok (.bipush 7, 2) := by decide +kernel
theorem dX4_calls_56 : decode cX4_calls 56 = .ok (.if_icmp .ne 7, 3) := by decide +kernel
theorem dX4_calls_59 : decode cX4_calls 59 = .ok (.iconst 1, 1) := by decide +kernel
theorem dX4_calls_60 : decode cX4_calls 60 = .ok (.goto 4, 3) := by decide +kernel
theorem dX4_calls_63 : decode cX4_calls 63 = .ok (.iconst 0, 1) := by decide +kernel
theorem dX4_calls_64 : decode cX4_calls 64 = .ok (.ior, 1) := by decide +kernel
theorem dX4_calls_65 : decode cX4_calls 65 = .ok (.putfield 196, 3) := by decide +kernel
theorem dX4_calls_68 : decode cX4_calls 68 = .ok (.aload_n 0, 1) := by decide +kernel
theorem dX4_calls_69 : decode cX4_calls 69 = .ok (.dup, 1) := by decide +kernel
theorem dX4_calls_70 : decode cX4_calls 70 = .ok (.getfield 174, 3) := by decide +kernel
theorem dX4_calls_73 : decode cX4_calls 73 = .ok (.iconst 1, 1) := by decide +kernel
theorem dX4_calls_74 : decode cX4_calls 74 = .ok (.iadd, 1) := by decide +kernel
theorem dX4_calls_75 : decode cX4_calls 75 = .ok (.putfield 174, 3) := by decide +kernel
theorem dX4_calls_78 : decode cX4_calls 78 = .ok (.aload_n 0, 1) := by decide +kernel
theorem dX4_calls_79 : decode cX4_calls 79 = .ok (.getfield 49, 3) := by decide +kernel
theorem dX4_calls_82 : decode cX4_calls 82 = .ok (.iload_n 1, 1) := by decide +kernel
theorem dX4_calls_83 : decode cX4_calls 83 = .ok (.dup2, 1) := by decide +kernel
theorem dX4_calls_84 : decode cX4_calls 84 = .ok (.iaload, 1) := by decide +kernel
theorem dX4_calls_85 : decode cX4_calls 85 = .ok (.iconst 1, 1) := by decide +kernel
theorem dX4_calls_86 : decode cX4_calls 86 = .ok (.iadd, 1) := by decide +kernel
theorem dX4_calls_87 : decode cX4_calls 87 = .ok (.iastore, 1) := by decide +kernel
theorem dX4_calls_88 : decode cX4_calls 88 = .ok (.aload_n 0, 1) := by decide +kernel
theorem dX4_calls_89 : decode cX4_calls 89 = .ok (.getfield 52, 3) := by decide +kernel
theorem dX4_calls_92 : decode cX4_calls 92 = .ok (.iload_n 1, 1) := by decide +kernel
theorem dX4_calls_93 : decode cX4_calls 93 = .ok (.aload_n 0, 1) := by decide +kernel
theorem dX4_calls_94 : decode cX4_calls 94 = .ok (.iload_n 1, 1) := by decide +kernel
theorem dX4_calls_95 : decode cX4_calls 95 = .ok (.invokevirtual 199, 3) := by decide +kernel
theorem dX4_calls_98 : decode cX4_calls 98 = .ok (.iastore, 1) := by decide +kernel
theorem dX4_calls_99 : decode cX4_calls 99 = .ok (.aload_n 0, 1) := by decide +kernel
theorem dX4_calls_100 : decode cX4_calls 100 = .ok (.dup, 1) := by decide +kernel
theorem dX4_calls_101 : decode cX4_calls 101 = .ok (.getfield 180, 3) := by decide +kernel
theorem dX4_calls_104 : decode cX4_calls 104 = .ok (.iconst 1, 1) := by decide +kernel
theorem dX4_calls_105 : decode cX4_calls 105 = .ok (.aload_n 0, 1) := by decide +kernel
theorem dX4_calls_106 : decode cX4_calls 106 = .ok (.getfield 52, 3) := by decide +kernel
theorem dX4_calls_109 : decode cX4_calls 109 = .ok (.iload_n 1, 1) := by decide +kernel
theorem dX4_calls_110 : decode cX4_calls 110 = .ok (.iaload, 1) := by decide +kernel
theorem dX4_calls_111 : decode cX4_calls 111 = .ok (.ishl, 1) := by decide +kernel
theorem dX4_calls_112 : decode cX4_calls 112 = .ok (.ior, 1) := by decide +kernel
theorem dX4_calls_113 : decode cX4_calls 113 = .ok (.putfield 180, 3) := by decide +kernel
theorem dX4_calls_116 : decode cX4_calls 116 = .ok (.aload_n 0, 1) := by decide +kernel
theorem dX4_calls_117 : decode cX4_calls 117 = .ok (.getfield 13, 3) := by decide +kernel
theorem dX4_calls_120 : decode cX4_calls 120 = .ok (.aload_n 0, 1) := by decide +kernel
theorem dX4_calls_121 : decode cX4_calls 121 = .ok (.getfield 28, 3) := by decide +kernel
theorem dX4_calls_124 : decode cX4_calls 124 = .ok (.iload_n 1, 1) := by decide +kernel
theorem dX4_calls_125 : decode cX4_calls 125 = .ok (.iaload, 1) := by decide +kernel
theorem dX4_calls_126 : decode cX4_calls 126 = .ok (.dup2, 1) := by decide +kernel
theorem dX4_calls_127 : decode cX4_calls 127 = .ok (.iaload, 1) := by decide +kernel
theorem dX4_calls_128 : decode cX4_calls 128 = .ok (.aload_n 0, 1) := by decide +kernel
theorem dX4_calls_129 : decode cX4_calls 129 = .ok (.iload_n 1, 1) := by decide +kernel
theorem dX4_calls_130 : decode cX4_calls 130 = .ok (.invokevirtual 202, 3) := by decide +kernel
theorem dX4_calls_133 : decode cX4_calls 133 = .ok (.iadd, 1) := by decide +kernel
theorem dX4_calls_134 : decode cX4_calls 134 = .ok (.iastore, 1) := by decide +kernel
theorem dX4_calls_135 : decode cX4_calls 135 = .ok (.aload_n 0, 1) := by decide +kernel
theorem dX4_calls_136 : decode cX4_calls 136 = .ok (.getfield 13, 3) := by decide +kernel
theorem dX4_calls_139 : decode cX4_calls 139 = .ok (.aload_n 0, 1) := by decide +kernel
theorem dX4_calls_140 : decode cX4_calls 140 = .ok (.getfield 28, 3) := by decide +kernel
theorem dX4_calls_143 : decode cX4_calls 143 = .ok (.iload_n 1, 1) := by decide +kernel
theorem dX4_calls_144 : decode cX4_calls 144 = .ok (.iaload, 1) := by decide +kernel
theorem dX4_calls_145 : decode cX4_calls 145 = .ok (.aload_n 0, 1) := by decide +kernel
theorem dX4_calls_146 : decode cX4_calls 146 = .ok (.getfield 13, 3) := by decide +kernel
theorem dX4_calls_149 : decode cX4_calls 149 = .ok (.aload_n 0, 1) := by decide +kernel
theorem dX4_calls_150 : decode cX4_calls 150 = .ok (.getfield 28, 3) := by decide +kernel
theorem dX4_calls_153 : decode cX4_calls 153 = .ok (.iload_n 1, 1) := by decide +kernel
theorem dX4_calls_154 : decode cX4_calls 154 = .ok (.iaload, 1) := by decide +kernel
theorem dX4_calls_155 : decode cX4_calls 155 = .ok (.iaload, 1) := by decide +kernel
theorem dX4_calls_156 : decode cX4_calls 156 = .ok (.bipush 20, 2) := by decide +kernel
theorem dX4_calls_158 : decode cX4_calls 158 = .ok (.if_icmp .le 8, 3) := by decide +kernel
theorem dX4_calls_161 : decode cX4_calls 161 = .ok (.bipush 20, 2) := by decide +kernel
theorem dX4_calls_163 : decode cX4_calls 163 = .ok (.goto 14, 3) := by decide +kernel
theorem dX4_calls_166 : decode cX4_calls 166 = .ok (.aload_n 0, 1) := by decide +kernel
theorem dX4_calls_167 : decode cX4_calls 167 = .ok (.getfield 13, 3) := by decide +kernel
theorem dX4_calls_170 : decode cX4_calls 170 = .ok (.aload_n 0, 1) := by decide +kernel
theorem dX4_calls_171 : decode cX4_calls 171 = .ok (.getfield 28, 3) := by decide +kernel
theorem dX4_calls_174 : decode cX4_calls 174 = .ok (.iload_n 1, 1) := by decide +kernel
theorem dX4_calls_175 : decode cX4_calls 175 = .ok (.iaload, 1) := by decide +kernel
theorem dX4_calls_176 : decode cX4_calls 176 = .ok (.iaload, 1) := by decide +kernel
theorem dX4_calls_177 : decode cX4_calls 177 = .ok (.iastore, 1) := by decide +kernel
theorem dX4_calls_178 : decode cX4_calls 178 = .ok (.return_, 1) := by decide +kernel
theorem dX4_goesDay_0 : decode cX4_goesDay 0 = .ok (.aload_n 0, 1) := by decide +kernel
theorem dX4_goesDay_1 : decode cX4_goesDay 1 = .ok (.iconst 0, 1) := by decide +kernel
theorem dX4_goesDay_2 : decode cX4_goesDay 2 = .ok (.putfield 183, 3) := by decide +kernel
theorem dX4_goesDay_5 : decode cX4_goesDay 5 = .ok (.aload_n 0, 1) := by decide +kernel
theorem dX4_goesDay_6 : decode cX4_goesDay 6 = .ok (.iconst 0, 1) := by decide +kernel
theorem dX4_goesDay_7 : decode cX4_goesDay 7 = .ok (.putfield 196, 3) := by decide +kernel
theorem dX4_goesDay_10 : decode cX4_goesDay 10 = .ok (.iconst 0, 1) := by decide +kernel
theorem dX4_goesDay_11 : decode cX4_goesDay 11 = .ok (.istore_n 1, 1) := by decide +kernel
theorem dX4_goesDay_12 : decode cX4_goesDay 12 = .ok (.iload_n 1, 1) := by decide +kernel
theorem dX4_goesDay_13 : decode cX4_goesDay 13 = .ok (.bipush 24, 2) := by decide +kernel
theorem dX4_goesDay_15 : decode cX4_goesDay 15 = .ok (.if_icmp .ge 52, 3) := by decide +kernel
theorem dX4_goesDay_18 : decode cX4_goesDay 18 = .ok (.iconst 0, 1) := by decide +kernel
theorem dX4_goesDay_19 : decode cX4_goesDay 19 = .ok (.istore_n 2, 1) := by decide +kernel
theorem dX4_goesDay_20 : decode cX4_goesDay 20 = .ok (.iload_n 2, 1) := by decide +kernel
theorem dX4_goesDay_21 : decode cX4_goesDay 21 = .ok (.aload_n 0, 1) := by decide +kernel
theorem dX4_goesDay_22 : decode cX4_goesDay 22 = .ok (.getfield 70, 3) := by decide +kernel
theorem dX4_goesDay_25 : decode cX4_goesDay 25 = .ok (.if_icmp .ge 36, 3) := by decide +kernel
theorem dX4_goesDay_28 : decode cX4_goesDay 28 = .ok (.aload_n 0, 1) := by decide +kernel
theorem dX4_goesDay_29 : decode cX4_goesDay 29 = .ok (.getfield 31, 3) := by decide +kernel
theorem dX4_goesDay_32 : decode cX4_goesDay 32 = .ok (.iload_n 2, 1) := by decide +kernel
theorem dX4_goesDay_33 : decode cX4_goesDay 33 = .ok (.iaload, 1) := by decide +kernel
theorem dX4_goesDay_34 : decode cX4_goesDay 34 = .ok (.iload_n 1, 1) := by decide +kernel
theorem dX4_goesDay_35 : decode cX4_goesDay 35 = .ok (.if_icmp .ne 20, 3) := by decide +kernel
theorem dX4_goesDay_38 : decode cX4_goesDay 38 = .ok (.aload_n 0, 1) := by decide +kernel
theorem dX4_goesDay_39 : decode cX4_goesDay 39 = .ok (.getfield 205, 3) := by decide +kernel
theorem dX4_goesDay_42 : decode cX4_goesDay 42 = .ok (.iload_n 2, 1) := by decide +kernel
theorem dX4_goesDay_43 : decode cX4_goesDay 43 = .ok (.invokestatic 208, 3) := by decide +kernel
theorem dX4_goesDay_46 : decode cX4_goesDay 46 = .ok (.ifCond .ne 9, 3) := by decide +kernel
theorem dX4_goesDay_49 : decode cX4_goesDay 49 = .ok (.aload_n 0, 1) := by decide +kernel
theorem dX4_goesDay_50 : decode cX4_goesDay 50 = .ok (.iload_n 2, 1) := by decide +kernel
theorem dX4_goesDay_51 : decode cX4_goesDay 51 = .ok (.iload_n 1, 1) := by decide +kernel
theorem dX4_goesDay_52 : decode cX4_goesDay 52 = .ok (.invokevirtual 211, 3) := by decide +kernel
theorem dX4_goesDay_55 : decode cX4_goesDay 55 = .ok (.iinc 2 1, 3) := by decide +kernel
theorem dX4_goesDay_58 : decode cX4_goesDay 58 = .ok (.goto (-38), 3) := by decide +kernel
theorem dX4_goesDay_61 : decode cX4_goesDay 61 = .ok (.iinc 1 1, 3) := by decide +kernel
theorem dX4_goesDay_64 : decode cX4_goesDay 64 = .ok (.goto (-52), 3) := by decide +kernel
theorem dX4_goesDay_67 : decode cX4_goesDay 67 = .ok (.aload_n 0, 1) := by decide +kernel
theorem dX4_goesDay_68 : decode cX4_goesDay 68 = .ok (.getfield 183, 3) := by decide +kernel
theorem dX4_goesDay_71 : decode cX4_goesDay 71 = .ok (.ifCond .ne 8, 3) := by decide +kernel
theorem dX4_goesDay_74 : decode cX4_goesDay 74 = .ok (.aload_n 0, 1) := by decide +kernel
theorem dX4_goesDay_75 : decode cX4_goesDay 75 = .ok (.iconst 1, 1) := by decide +kernel
theorem dX4_goesDay_76 : decode cX4_goesDay 76 = .ok (.invokevirtual 192, 3) := by decide +kernel
theorem dX4_goesDay_79 : decode cX4_goesDay 79 = .ok (.aload_n 0, 1) := by decide +kernel
theorem dX4_goesDay_80 : decode cX4_goesDay 80 = .ok (.getfield 196, 3) := by decide +kernel
theorem dX4_goesDay_83 : decode cX4_goesDay 83 = .ok (.ifCond .eq 8, 3) := by decide +kernel
theorem dX4_goesDay_86 : decode cX4_goesDay 86 = .ok (.aload_n 0, 1) := by decide +kernel
theorem dX4_goesDay_87 : decode cX4_goesDay 87 = .ok (.iconst (-1), 1) := by decide +kernel
theorem dX4_goesDay_88 : decode cX4_goesDay 88 = .ok (.invokevirtual 192, 3) := by decide +kernel
theorem dX4_goesDay_91 : decode cX4_goesDay 91 = .ok (.aload_n 0, 1) := by decide +kernel
theorem dX4_goesDay_92 : decode cX4_goesDay 92 = .ok (.bipush (-9), 2) := by decide +kernel
theorem dX4_goesDay_94 : decode cX4_goesDay 94 = .ok (.invokevirtual 165, 3) := by decide +kernel
theorem dX4_goesDay_97 : decode cX4_goesDay 97 = .ok (.istore_n 1, 1) := by decide +kernel
theorem dX4_goesDay_98 : decode cX4_goesDay 98 = .ok (.aload_n 0, 1) := by decide +kernel
theorem dX4_goesDay_99 : decode cX4_goesDay 99 = .ok (.getfield 16, 3) := by decide +kernel
theorem dX4_goesDay_102 : decode cX4_goesDay 102 = .ok (.iconst 1, 1) := by decide +kernel
theorem dX4_goesDay_103 : decode cX4_goesDay 103 = .ok (.iaload, 1) := by decide +kernel
theorem dX4_goesDay_104 : decode cX4_goesDay 104 = .ok (.bipush 10, 2) := by decide +kernel
theorem dX4_goesDay_106 : decode cX4_goesDay 106 = .ok (.if_icmp .lt 17, 3) := by decide +kernel
theorem dX4_goesDay_109 : decode cX4_goesDay 109 = .ok (.iload_n 1, 1) := by decide +kernel
theorem dX4_goesDay_110 : decode cX4_goesDay 110 = .ok (.ifCond .lt 13, 3) := by decide +kernel
theorem dX4_goesDay_113 : decode cX4_goesDay 113 = .ok (.aload_n 0, 1) := by decide +kernel
theorem dX4_goesDay_114 : decode cX4_goesDay 114 = .ok (.getfield 13, 3) := by decide +kernel
theorem dX4_goesDay_117 : decode cX4_goesDay 117 = .ok (.iload_n 1, 1) := by decide +kernel
theorem dX4_goesDay_118 : decode cX4_goesDay 118 = .ok (.dup2, 1) := by decide +kernel
theorem dX4_goesDay_119 : decode cX4_goesDay 119 = .ok (.iaload, 1) := by decide +kernel
theorem dX4_goesDay_120 : decode cX4_goesDay 120 = .ok (.iconst 1, 1) := by decide +kernel
theorem dX4_goesDay_121 : decode cX4_goesDay 121 = .ok (.isub, 1) := by decide +kernel
theorem dX4_goesDay_122 : decode cX4_goesDay 122 = .ok (.iastore, 1) := by decide +kernel
theorem dX4_goesDay_123 : decode cX4_goesDay 123 = .ok (.aload_n 0, 1) := by decide +kernel
theorem dX4_goesDay_124 : decode cX4_goesDay 124 = .ok (.dup, 1) := by decide +kernel
theorem dX4_goesDay_125 : decode cX4_goesDay 125 = .ok (.getfield 131, 3) := by decide +kernel
theorem dX4_goesDay_128 : decode cX4_goesDay 128 = .ok (.iconst 1, 1) := by decide +kernel
theorem dX4_goesDay_129 : decode cX4_goesDay 129 = .ok (.iadd, 1) := by decide +kernel
theorem dX4_goesDay_130 : decode cX4_goesDay 130 = .ok (.putfield 131, 3) := by decide +kernel
theorem dX4_goesDay_133 : decode cX4_goesDay 133 = .ok (.return_, 1) := by decide +kernel
theorem dX4_goes_0 : decode cX4_goes 0 = .ok (.aload_n 0, 1) := by decide +kernel
theorem dX4_goes_1 : decode cX4_goes 1 = .ok (.invokevirtual 215, 3) := by decide +kernel
theorem dX4_goes_4 : decode cX4_goes 4 = .ok (.iconst 0, 1) := by decide +kernel
theorem dX4_goes_5 : decode cX4_goes 5 = .ok (.istore_n 2, 1) := by decide +kernel
theorem dX4_goes_6 : decode cX4_goes 6 = .ok (.iload_n 2, 1) := by decide +kernel
theorem dX4_goes_7 : decode cX4_goes 7 = .ok (.iload_n 1, 1) := by decide +kernel
theorem dX4_goes_8 : decode cX4_goes 8 = .ok (.if_icmp .ge 13, 3) := by decide +kernel
theorem dX4_goes_11 : decode cX4_goes 11 = .ok (.aload_n 0, 1) := by decide +kernel
theorem dX4_goes_12 : decode cX4_goes 12 = .ok (.invokevirtual 218, 3) := by decide +kernel
theorem dX4_goes_15 : decode cX4_goes 15 = .ok (.iinc 2 1, 3) := by decide +kernel
theorem dX4_goes_18 : decode cX4_goes 18 = .ok (.goto (-12), 3) := by decide +kernel
theorem dX4_goes_21 : decode cX4_goes 21 = .ok (.aload_n 0, 1) := by decide +kernel
theorem dX4_goes_22 : decode cX4_goes 22 = .ok (.getfield 174, 3) := by decide +kernel
theorem dX4_goes_25 : decode cX4_goes 25 = .ok (.ireturn, 1) := by decide +kernel
theorem dX4_caller_0 : decode cX4_caller 0 = .ok (.aload_n 0, 1) := by decide +kernel
theorem dX4_caller_1 : decode cX4_caller 1 = .ok (.iload_n 1, 1) := by decide +kernel
theorem dX4_caller_2 : decode cX4_caller 2 = .ok (.invokevirtual 128, 3) := by decide +kernel
theorem dX4_caller_5 : decode cX4_caller 5 = .ok (.ifCond .ne 9, 3) := by decide +kernel
theorem dX4_caller_8 : decode cX4_caller 8 = .ok (.aload_n 0, 1) := by decide +kernel
theorem dX4_caller_9 : decode cX4_caller 9 = .ok (.iconst (-1), 1) := by decide +kernel
theorem dX4_caller_10 : decode cX4_caller 10 = .ok (.invokevirtual 85, 3) := by decide +kernel
theorem dX4_caller_13 : decode cX4_caller 13 = .ok (.ireturn, 1) := by decide +kernel
theorem dX4_caller_14 : decode cX4_caller 14 = .ok (.iload_n 2, 1) := by decide +kernel
theorem dX4_caller_15 : decode cX4_caller 15 = .ok (.tableswitch 68 0 4 #[33, 40, 47, 54, 61], 33) := by decide +kernel
theorem dX4_caller_48 : decode cX4_caller 48 = .ok (.aload_n 0, 1) := by decide +kernel
theorem dX4_caller_49 : decode cX4_caller 49 = .ok (.getfield 19, 3) := by decide +kernel
theorem dX4_caller_52 : decode cX4_caller 52 = .ok (.iload_n 1, 1) := by decide +kernel
theorem dX4_caller_53 : decode cX4_caller 53 = .ok (.iaload, 1) := by decide +kernel
theorem dX4_caller_54 : decode cX4_caller 54 = .ok (.ireturn, 1) := by decide +kernel
theorem dX4_caller_55 : decode cX4_caller 55 = .ok (.aload_n 0, 1) := by decide +kernel
theorem dX4_caller_56 : decode cX4_caller 56 = .ok (.getfield 22, 3) := by decide +kernel
theorem dX4_caller_59 : decode cX4_caller 59 = .ok (.iload_n 1, 1) := by decide +kernel
theorem dX4_caller_60 : decode cX4_caller 60 = .ok (.iaload, 1) := by decide +kernel
theorem dX4_caller_61 : decode cX4_caller 61 = .ok (.ireturn, 1) := by decide +kernel
theorem dX4_caller_62 : decode cX4_caller 62 = .ok (.aload_n 0, 1) := by decide +kernel
theorem dX4_caller_63 : decode cX4_caller 63 = .ok (.getfield 25, 3) := by decide +kernel
theorem dX4_caller_66 : decode cX4_caller 66 = .ok (.iload_n 1, 1) := by decide +kernel
theorem dX4_caller_67 : decode cX4_caller 67 = .ok (.iaload, 1) := by decide +kernel
theorem dX4_caller_68 : decode cX4_caller 68 = .ok (.ireturn, 1) := by decide +kernel
theorem dX4_caller_69 : decode cX4_caller 69 = .ok (.aload_n 0, 1) := by decide +kernel
theorem dX4_caller_70 : decode cX4_caller 70 = .ok (.getfield 28, 3) := by decide +kernel
theorem dX4_caller_73 : decode cX4_caller 73 = .ok (.iload_n 1, 1) := by decide +kernel
theorem dX4_caller_74 : decode cX4_caller 74 = .ok (.iaload, 1) := by decide +kernel
theorem dX4_caller_75 : decode cX4_caller 75 = .ok (.ireturn, 1) := by decide +kernel
theorem dX4_caller_76 : decode cX4_caller 76 = .ok (.aload_n 0, 1) := by decide +kernel
theorem dX4_caller_77 : decode cX4_caller 77 = .ok (.getfield 31, 3) := by decide +kernel
theorem dX4_caller_80 : decode cX4_caller 80 = .ok (.iload_n 1, 1) := by decide +kernel
theorem dX4_caller_81 : decode cX4_caller 81 = .ok (.iaload, 1) := by decide +kernel
theorem dX4_caller_82 : decode cX4_caller 82 = .ok (.ireturn, 1) := by decide +kernel
theorem dX4_caller_83 : decode cX4_caller 83 = .ok (.aload_n 0, 1) := by decide +kernel
theorem dX4_caller_84 : decode cX4_caller 84 = .ok (.bipush (-2), 2) := by decide +kernel
theorem dX4_caller_86 : decode cX4_caller 86 = .ok (.invokevirtual 85, 3) := by decide +kernel
theorem dX4_caller_89 : decode cX4_caller 89 = .ok (.ireturn, 1) := by decide +kernel
theorem dX4_known_0 : decode cX4_known 0 = .ok (.iload_n 1, 1) := by decide +kernel
theorem dX4_known_1 : decode cX4_known 1 = .ok (.invokestatic 116, 3) := by decide +kernel
theorem dX4_known_4 : decode cX4_known 4 = .ok (.ifCond .eq 12, 3) := by decide +kernel
theorem dX4_known_7 : decode cX4_known 7 = .ok (.aload_n 0, 1) := by decide +kernel
theorem dX4_known_8 : decode cX4_known 8 = .ok (.getfield 13, 3) := by decide +kernel
theorem dX4_known_11 : decode cX4_known 11 = .ok (.iload_n 1, 1) := by decide +kernel
theorem dX4_known_12 : decode cX4_known 12 = .ok (.iaload, 1) := by decide +kernel
theorem dX4_known_13 : decode cX4_known 13 = .ok (.goto 8, 3) := by decide +kernel
theorem dX4_known_16 : decode cX4_known 16 = .ok (.aload_n 0, 1) := by decide +kernel
theorem dX4_known_17 : decode cX4_known 17 = .ok (.iconst (-1), 1) := by decide +kernel
theorem dX4_known_18 : decode cX4_known 18 = .ok (.invokevirtual 85, 3) := by decide +kernel
theorem dX4_known_21 : decode cX4_known 21 = .ok (.ireturn, 1) := by decide +kernel
theorem dX4_learn_0 : decode cX4_learn 0 = .ok (.iload_n 1, 1) := by decide +kernel
theorem dX4_learn_1 : decode cX4_learn 1 = .ok (.invokestatic 116, 3) := by decide +kernel
theorem dX4_learn_4 : decode cX4_learn 4 = .ok (.ifCond .ne 7, 3) := by decide +kernel
theorem dX4_learn_7 : decode cX4_learn 7 = .ok (.iconst (-1), 1) := by decide +kernel
theorem dX4_learn_8 : decode cX4_learn 8 = .ok (.goto 10, 3) := by decide +kernel
theorem dX4_learn_11 : decode cX4_learn 11 = .ok (.iload_n 2, 1) := by decide +kernel
theorem dX4_learn_12 : decode cX4_learn 12 = .ok (.iconst 0, 1) := by decide +kernel
theorem dX4_learn_13 : decode cX4_learn 13 = .ok (.bipush 20, 2) := by decide +kernel
theorem dX4_learn_15 : decode cX4_learn 15 = .ok (.invokestatic 78, 3) := by decide +kernel
theorem dX4_learn_18 : decode cX4_learn 18 = .ok (.istore_n 3, 1) := by decide +kernel
theorem dX4_learn_19 : decode cX4_learn 19 = .ok (.iload_n 3, 1) := by decide +kernel
theorem dX4_learn_20 : decode cX4_learn 20 = .ok (.ifCond .eq 9, 3) := by decide +kernel
theorem dX4_learn_23 : decode cX4_learn 23 = .ok (.aload_n 0, 1) := by decide +kernel
theorem dX4_learn_24 : decode cX4_learn 24 = .ok (.iload_n 3, 1) := by decide +kernel
theorem dX4_learn_25 : decode cX4_learn 25 = .ok (.invokevirtual 85, 3) := by decide +kernel
theorem dX4_learn_28 : decode cX4_learn 28 = .ok (.ireturn, 1) := by decide +kernel
theorem dX4_learn_29 : decode cX4_learn 29 = .ok (.aload_n 0, 1) := by decide +kernel
theorem dX4_learn_30 : decode cX4_learn 30 = .ok (.getfield 13, 3) := by decide +kernel
theorem dX4_learn_33 : decode cX4_learn 33 = .ok (.iload_n 1, 1) := by decide +kernel
theorem dX4_learn_34 : decode cX4_learn 34 = .ok (.iaload, 1) := by decide +kernel
theorem dX4_learn_35 : decode cX4_learn 35 = .ok (.istore 4, 2) := by decide +kernel
theorem dX4_learn_37 : decode cX4_learn 37 = .ok (.aload_n 0, 1) := by decide +kernel
theorem dX4_learn_38 : decode cX4_learn 38 = .ok (.getfield 13, 3) := by decide +kernel
theorem dX4_learn_41 : decode cX4_learn 41 = .ok (.iload_n 1, 1) := by decide +kernel
theorem dX4_learn_42 : decode cX4_learn 42 = .ok (.iload_n 2, 1) := by decide +kernel
theorem dX4_learn_43 : decode cX4_learn 43 = .ok (.iastore, 1) := by decide +kernel
theorem dX4_learn_44 : decode cX4_learn 44 = .ok (.iload 4, 2) := by decide +kernel
theorem dX4_learn_46 : decode cX4_learn 46 = .ok (.ireturn, 1) := by decide +kernel
theorem dX4_set_0 : decode cX4_set 0 = .ok (.iload_n 1, 1) := by decide +kernel
theorem dX4_set_1 : decode cX4_set 1 = .ok (.iconst 0, 1) := by decide +kernel
theorem dX4_set_2 : decode cX4_set 2 = .ok (.iconst 2, 1) := by decide +kernel
theorem dX4_set_3 : decode cX4_set 3 = .ok (.invokestatic 74, 3) := by decide +kernel
theorem dX4_set_6 : decode cX4_set 6 = .ok (.ifCond .ne 8, 3) := by decide +kernel
theorem dX4_set_9 : decode cX4_set 9 = .ok (.bipush (-2), 2) := by decide +kernel
theorem dX4_set_11 : decode cX4_set 11 = .ok (.goto 38, 3) := by decide +kernel
theorem dX4_set_14 : decode cX4_set 14 = .ok (.iload_n 2, 1) := by decide +kernel
theorem dX4_set_15 : decode cX4_set 15 = .ok (.iload_n 1, 1) := by decide +kernel
theorem dX4_set_16 : decode cX4_set 16 = .ok (.iconst 2, 1) := by decide +kernel
theorem dX4_set_17 : decode cX4_set 17 = .ok (.if_icmp .ne 7, 3) := by decide +kernel
theorem dX4_set_20 : decode cX4_set 20 = .ok (.iconst 1, 1) := by decide +kernel
theorem dX4_set_21 : decode cX4_set 21 = .ok (.goto 4, 3) := by decide +kernel
theorem dX4_set_24 : decode cX4_set 24 = .ok (.iconst 0, 1) := by decide +kernel
theorem dX4_set_25 : decode cX4_set 25 = .ok (.iload_n 1, 1) := by decide +kernel
theorem dX4_set_26 : decode cX4_set 26 = .ok (.ifCond .ne 8, 3) := by decide +kernel
theorem dX4_set_29 : decode cX4_set 29 = .ok (.bipush 9, 2) := by decide +kernel
theorem dX4_set_31 : decode cX4_set 31 = .ok (.goto 15, 3) := by decide +kernel
theorem dX4_set_34 : decode cX4_set 34 = .ok (.iload_n 1, 1) := by decide +kernel
theorem dX4_set_35 : decode cX4_set 35 = .ok (.iconst 1, 1) := by decide +kernel
theorem dX4_set_36 : decode cX4_set 36 = .ok (.if_icmp .ne 8, 3) := by decide +kernel
theorem dX4_set_39 : decode cX4_set 39 = .ok (.bipush 99, 2) := by decide +kernel
theorem dX4_set_41 : decode cX4_set 41 = .ok (.goto 5, 3) := by decide +kernel
theorem dX4_set_44 : decode cX4_set 44 = .ok (.bipush 20, 2) := by decide +kernel
theorem dX4_set_46 : decode cX4_set 46 = .ok (.invokestatic 78, 3) := by decide +kernel
theorem dX4_set_49 : decode cX4_set 49 = .ok (.istore_n 3, 1) := by decide +kernel
theorem dX4_set_50 : decode cX4_set 50 = .ok (.iload_n 3, 1) := by decide +kernel
theorem dX4_set_51 : decode cX4_set 51 = .ok (.ifCond .eq 9, 3) := by decide +kernel
theorem dX4_set_54 : decode cX4_set 54 = .ok (.aload_n 0, 1) := by decide +kernel
theorem dX4_set_55 : decode cX4_set 55 = .ok (.iload_n 3, 1) := by decide +kernel
theorem dX4_set_56 : decode cX4_set 56 = .ok (.invokevirtual 85, 3) := by decide +kernel
theorem dX4_set_59 : decode cX4_set 59 = .ok (.ireturn, 1) := by decide +kernel
theorem dX4_set_60 : decode cX4_set 60 = .ok (.aload_n 0, 1) := by decide +kernel
theorem dX4_set_61 : decode cX4_set 61 = .ok (.getfield 16, 3) := by decide +kernel
theorem dX4_set_64 : decode cX4_set 64 = .ok (.iload_n 1, 1) := by decide +kernel
theorem dX4_set_65 : decode cX4_set 65 = .ok (.iaload, 1) := by decide +kernel
theorem dX4_set_66 : decode cX4_set 66 = .ok (.istore 4, 2) := by decide +kernel
theorem dX4_set_68 : decode cX4_set 68 = .ok (.aload_n 0, 1) := by decide +kernel
theorem dX4_set_69 : decode cX4_set 69 = .ok (.getfield 16, 3) := by decide +kernel
theorem dX4_set_72 : decode cX4_set 72 = .ok (.iload_n 1, 1) := by decide +kernel
theorem dX4_set_73 : decode cX4_set 73 = .ok (.iload_n 2, 1) := by decide +kernel
theorem dX4_set_74 : decode cX4_set 74 = .ok (.iastore, 1) := by decide +kernel
theorem dX4_set_75 : decode cX4_set 75 = .ok (.iload 4, 2) := by decide +kernel
theorem dX4_set_77 : decode cX4_set 77 = .ok (.ireturn, 1) := by decide +kernel
theorem dX4_hour_0 : decode cX4_hour 0 = .ok (.aload_n 0, 1) := by decide +kernel
theorem dX4_hour_1 : decode cX4_hour 1 = .ok (.iload_n 1, 1) := by decide +kernel
theorem dX4_hour_2 : decode cX4_hour 2 = .ok (.invokevirtual 128, 3) := by decide +kernel
theorem dX4_hour_5 : decode cX4_hour 5 = .ok (.ifCond .ne 7, 3) := by decide +kernel
theorem dX4_hour_8 : decode cX4_hour 8 = .ok (.iconst (-1), 1) := by decide +kernel
theorem dX4_hour_9 : decode cX4_hour 9 = .ok (.goto 10, 3) := by decide +kernel
theorem dX4_hour_12 : decode cX4_hour 12 = .ok (.iload_n 2, 1) := by decide +kernel
theorem dX4_hour_13 : decode cX4_hour 13 = .ok (.iconst 0, 1) := by decide +kernel
theorem dX4_hour_14 : decode cX4_hour 14 = .ok (.bipush 23, 2) := by decide +kernel
theorem dX4_hour_16 : decode cX4_hour 16 = .ok (.invokestatic 78, 3) := by decide +kernel
theorem dX4_hour_19 : decode cX4_hour 19 = .ok (.istore_n 3, 1) := by decide +kernel
theorem dX4_hour_20 : decode cX4_hour 20 = .ok (.iload_n 3, 1) := by decide +kernel
theorem dX4_hour_21 : decode cX4_hour 21 = .ok (.ifCond .eq 9, 3) := by decide +kernel
theorem dX4_hour_24 : decode cX4_hour 24 = .ok (.aload_n 0, 1) := by decide +kernel
theorem dX4_hour_25 : decode cX4_hour 25 = .ok (.iload_n 3, 1) := by decide +kernel
theorem dX4_hour_26 : decode cX4_hour 26 = .ok (.invokevirtual 85, 3) := by decide +kernel
theorem dX4_hour_29 : decode cX4_hour 29 = .ok (.ireturn, 1) := by decide +kernel
theorem dX4_hour_30 : decode cX4_hour 30 = .ok (.aload_n 0, 1) := by decide +kernel
theorem dX4_hour_31 : decode cX4_hour 31 = .ok (.getfield 31, 3) := by decide +kernel
theorem dX4_hour_34 : decode cX4_hour 34 = .ok (.iload_n 1, 1) := by decide +kernel
theorem dX4_hour_35 : decode cX4_hour 35 = .ok (.iaload, 1) := by decide +kernel
theorem dX4_hour_36 : decode cX4_hour 36 = .ok (.istore 4, 2) := by decide +kernel
theorem dX4_hour_38 : decode cX4_hour 38 = .ok (.aload_n 0, 1) := by decide +kernel
theorem dX4_hour_39 : decode cX4_hour 39 = .ok (.getfield 31, 3) := by decide +kernel
theorem dX4_hour_42 : decode cX4_hour 42 = .ok (.iload_n 1, 1) := by decide +kernel
theorem dX4_hour_43 : decode cX4_hour 43 = .ok (.iload_n 2, 1) := by decide +kernel
theorem dX4_hour_44 : decode cX4_hour 44 = .ok (.iastore, 1) := by decide +kernel
theorem dX4_hour_45 : decode cX4_hour 45 = .ok (.iload 4, 2) := by decide +kernel
theorem dX4_hour_47 : decode cX4_hour 47 = .ok (.ireturn, 1) := by decide +kernel
theorem dX4_days_0 : decode cX4_days 0 = .ok (.iload_n 1, 1) := by decide +kernel
theorem dX4_days_1 : decode cX4_days 1 = .ok (.iconst 1, 1) := by decide +kernel
theorem dX4_days_2 : decode cX4_days 2 = .ok (.bipush 60, 2) := by decide +kernel
theorem dX4_days_4 : decode cX4_days 4 = .ok (.invokestatic 78, 3) := by decide +kernel
theorem dX4_days_7 : decode cX4_days 7 = .ok (.istore_n 2, 1) := by decide +kernel
theorem dX4_days_8 : decode cX4_days 8 = .ok (.iload_n 2, 1) := by decide +kernel
theorem dX4_days_9 : decode cX4_days 9 = .ok (.ifCond .ne 18, 3) := by decide +kernel
theorem dX4_days_12 : decode cX4_days 12 = .ok (.aload_n 0, 1) := by decide +kernel
theorem dX4_days_13 : decode cX4_days 13 = .ok (.getfield 131, 3) := by decide +kernel
theorem dX4_days_16 : decode cX4_days 16 = .ok (.iload_n 1, 1) := by decide +kernel
theorem dX4_days_17 : decode cX4_days 17 = .ok (.iadd, 1) := by decide +kernel
theorem dX4_days_18 : decode cX4_days 18 = .ok (.sipush 999, 3) := by decide +kernel
theorem dX4_days_21 : decode cX4_days 21 = .ok (.if_icmp .le 6, 3) := by decide +kernel
theorem dX4_days_24 : decode cX4_days 24 = .ok (.bipush (-6), 2) := by decide +kernel
theorem dX4_days_26 : decode cX4_days 26 = .ok (.istore_n 2, 1) := by decide +kernel
theorem dX4_days_27 : decode cX4_days 27 = .ok (.iload_n 2, 1) := by decide +kernel
theorem dX4_days_28 : decode cX4_days 28 = .ok (.ifCond .eq 11, 3) := by decide +kernel
theorem dX4_days_31 : decode cX4_days 31 = .ok (.aload_n 0, 1) := by decide +kernel
theorem dX4_days_32 : decode cX4_days 32 = .ok (.iload_n 2, 1) := by decide +kernel
theorem dX4_days_33 : decode cX4_days 33 = .ok (.invokevirtual 85, 3) := by decide +kernel
theorem dX4_days_36 : decode cX4_days 36 = .ok (.goto 8, 3) := by decide +kernel
theorem dX4_days_39 : decode cX4_days 39 = .ok (.aload_n 0, 1) := by decide +kernel
theorem dX4_days_40 : decode cX4_days 40 = .ok (.iload_n 1, 1) := by decide +kernel
theorem dX4_days_41 : decode cX4_days 41 = .ok (.invokevirtual 134, 3) := by decide +kernel
theorem dX4_days_44 : decode cX4_days 44 = .ok (.ireturn, 1) := by decide +kernel
theorem dX4_answers_0 : decode cX4_answers 0 = .ok (.aload_n 0, 1) := by decide +kernel
theorem dX4_answers_1 : decode cX4_answers 1 = .ok (.iload_n 1, 1) := by decide +kernel
theorem dX4_answers_2 : decode cX4_answers 2 = .ok (.invokevirtual 128, 3) := by decide +kernel
theorem dX4_answers_5 : decode cX4_answers 5 = .ok (.ifCond .ne 9, 3) := by decide +kernel
theorem dX4_answers_8 : decode cX4_answers 8 = .ok (.aload_n 0, 1) := by decide +kernel
theorem dX4_answers_9 : decode cX4_answers 9 = .ok (.iconst (-1), 1) := by decide +kernel
theorem dX4_answers_10 : decode cX4_answers 10 = .ok (.invokevirtual 85, 3) := by decide +kernel
theorem dX4_answers_13 : decode cX4_answers 13 = .ok (.ireturn, 1) := by decide +kernel
theorem dX4_answers_14 : decode cX4_answers 14 = .ok (.aload_n 0, 1) := by decide +kernel
theorem dX4_answers_15 : decode cX4_answers 15 = .ok (.iload_n 1, 1) := by decide +kernel
theorem dX4_answers_16 : decode cX4_answers 16 = .ok (.invokevirtual 186, 3) := by decide +kernel
theorem dX4_answers_19 : decode cX4_answers 19 = .ok (.ifCond .eq 7, 3) := by decide +kernel
theorem dX4_answers_22 : decode cX4_answers 22 = .ok (.iconst 1, 1) := by decide +kernel
theorem dX4_answers_23 : decode cX4_answers 23 = .ok (.goto 4, 3) := by decide +kernel
theorem dX4_answers_26 : decode cX4_answers 26 = .ok (.iconst 0, 1) := by decide +kernel
theorem dX4_answers_27 : decode cX4_answers 27 = .ok (.ireturn, 1) := by decide +kernel
theorem dX4_says_0 : decode cX4_says 0 = .ok (.aload_n 0, 1) := by decide +kernel
theorem dX4_says_1 : decode cX4_says 1 = .ok (.iload_n 1, 1) := by decide +kernel
theorem dX4_says_2 : decode cX4_says 2 = .ok (.invokevirtual 128, 3) := by decide +kernel
theorem dX4_says_5 : decode cX4_says 5 = .ok (.ifCond .ne 9, 3) := by decide +kernel
theorem dX4_says_8 : decode cX4_says 8 = .ok (.aload_n 0, 1) := by decide +kernel
theorem dX4_says_9 : decode cX4_says 9 = .ok (.iconst (-1), 1) := by decide +kernel
theorem dX4_says_10 : decode cX4_says 10 = .ok (.invokevirtual 85, 3) := by decide +kernel
theorem dX4_says_13 : decode cX4_says 13 = .ok (.ireturn, 1) := by decide +kernel
theorem dX4_says_14 : decode cX4_says 14 = .ok (.aload_n 0, 1) := by decide +kernel
theorem dX4_says_15 : decode cX4_says 15 = .ok (.iload_n 1, 1) := by decide +kernel
theorem dX4_says_16 : decode cX4_says 16 = .ok (.invokevirtual 186, 3) := by decide +kernel
theorem dX4_says_19 : decode cX4_says 19 = .ok (.ifCond .eq 11, 3) := by decide +kernel
theorem dX4_says_22 : decode cX4_says 22 = .ok (.aload_n 0, 1) := by decide +kernel
theorem dX4_says_23 : decode cX4_says 23 = .ok (.iload_n 1, 1) := by decide +kernel
theorem dX4_says_24 : decode cX4_says 24 = .ok (.invokevirtual 199, 3) := by decide +kernel
theorem dX4_says_27 : decode cX4_says 27 = .ok (.goto 5, 3) := by decide +kernel
theorem dX4_says_30 : decode cX4_says 30 = .ok (.bipush (-9), 2) := by decide +kernel
theorem dX4_says_32 : decode cX4_says 32 = .ok (.ireturn, 1) := by decide +kernel
theorem dX4_notDays_0 : decode cX4_notDays 0 = .ok (.iload_n 0, 1) := by decide +kernel
theorem dX4_notDays_1 : decode cX4_notDays 1 = .ok (.iconst 0, 1) := by decide +kernel
theorem dX4_notDays_2 : decode cX4_notDays 2 = .ok (.bipush 60, 2) := by decide +kernel
theorem dX4_notDays_4 : decode cX4_notDays 4 = .ok (.invokestatic 78, 3) := by decide +kernel
theorem dX4_notDays_7 : decode cX4_notDays 7 = .ok (.ireturn, 1) := by decide +kernel
theorem dX4_thinks_0 : decode cX4_thinks 0 = .ok (.aload_n 0, 1) := by decide +kernel
theorem dX4_thinks_1 : decode cX4_thinks 1 = .ok (.iconst 2, 1) := by decide +kernel
theorem dX4_thinks_2 : decode cX4_thinks 2 = .ok (.iconst 1, 1) := by decide +kernel
theorem dX4_thinks_3 : decode cX4_thinks 3 = .ok (.invokevirtual 141, 3) := by decide +kernel
theorem dX4_thinks_6 : decode cX4_thinks 6 = .ok (.aload_n 0, 1) := by decide +kernel
theorem dX4_thinks_7 : decode cX4_thinks 7 = .ok (.iload_n 1, 1) := by decide +kernel
theorem dX4_thinks_8 : decode cX4_thinks 8 = .ok (.invokevirtual 134, 3) := by decide +kernel
theorem dX4_thinks_11 : decode cX4_thinks 11 = .ok (.pop, 1) := by decide +kernel
theorem dX4_thinks_12 : decode cX4_thinks 12 = .ok (.aload_n 0, 1) := by decide +kernel
theorem dX4_thinks_13 : decode cX4_thinks 13 = .ok (.getfield 55, 3) := by decide +kernel
theorem dX4_thinks_16 : decode cX4_thinks 16 = .ok (.iconst 0, 1) := by decide +kernel
theorem dX4_thinks_17 : decode cX4_thinks 17 = .ok (.aload_n 0, 1) := by decide +kernel
theorem dX4_thinks_18 : decode cX4_thinks 18 = .ok (.getfield 16, 3) := by decide +kernel
theorem dX4_thinks_21 : decode cX4_thinks 21 = .ok (.iconst 1, 1) := by decide +kernel
theorem dX4_thinks_22 : decode cX4_thinks 22 = .ok (.iaload, 1) := by decide +kernel
theorem dX4_thinks_23 : decode cX4_thinks 23 = .ok (.iastore, 1) := by decide +kernel
theorem dX4_thinks_24 : decode cX4_thinks 24 = .ok (.aload_n 0, 1) := by decide +kernel
theorem dX4_thinks_25 : decode cX4_thinks 25 = .ok (.getfield 55, 3) := by decide +kernel
theorem dX4_thinks_28 : decode cX4_thinks 28 = .ok (.iconst 1, 1) := by decide +kernel
theorem dX4_thinks_29 : decode cX4_thinks 29 = .ok (.aload_n 0, 1) := by decide +kernel
theorem dX4_thinks_30 : decode cX4_thinks 30 = .ok (.invokevirtual 221, 3) := by decide +kernel
theorem dX4_thinks_33 : decode cX4_thinks 33 = .ok (.iastore, 1) := by decide +kernel
theorem dX4_thinks_34 : decode cX4_thinks 34 = .ok (.aload_n 0, 1) := by decide +kernel
theorem dX4_thinks_35 : decode cX4_thinks 35 = .ok (.getfield 55, 3) := by decide +kernel
theorem dX4_thinks_38 : decode cX4_thinks 38 = .ok (.iconst 2, 1) := by decide +kernel
theorem dX4_thinks_39 : decode cX4_thinks 39 = .ok (.aload_n 0, 1) := by decide +kernel
theorem dX4_thinks_40 : decode cX4_thinks 40 = .ok (.bipush (-9), 2) := by decide +kernel
theorem dX4_thinks_42 : decode cX4_thinks 42 = .ok (.invokevirtual 165, 3) := by decide +kernel
theorem dX4_thinks_45 : decode cX4_thinks 45 = .ok (.iastore, 1) := by decide +kernel
theorem dX4_thinks_46 : decode cX4_thinks 46 = .ok (.iconst 0, 1) := by decide +kernel
theorem dX4_thinks_47 : decode cX4_thinks 47 = .ok (.istore_n 2, 1) := by decide +kernel
theorem dX4_thinks_48 : decode cX4_thinks 48 = .ok (.iload_n 2, 1) := by decide +kernel
theorem dX4_thinks_49 : decode cX4_thinks 49 = .ok (.bipush 8, 2) := by decide +kernel
theorem dX4_thinks_51 : decode cX4_thinks 51 = .ok (.if_icmp .ge 23, 3) := by decide +kernel
theorem dX4_thinks_54 : decode cX4_thinks 54 = .ok (.aload_n 0, 1) := by decide +kernel
theorem dX4_thinks_55 : decode cX4_thinks 55 = .ok (.getfield 55, 3) := by decide +kernel
theorem dX4_thinks_58 : decode cX4_thinks 58 = .ok (.iconst 3, 1) := by decide +kernel
theorem dX4_thinks_59 : decode cX4_thinks 59 = .ok (.iload_n 2, 1) := by decide +kernel
theorem dX4_thinks_60 : decode cX4_thinks 60 = .ok (.iadd, 1) := by decide +kernel
theorem dX4_thinks_61 : decode cX4_thinks 61 = .ok (.aload_n 0, 1) := by decide +kernel
theorem dX4_thinks_62 : decode cX4_thinks 62 = .ok (.getfield 13, 3) := by decide +kernel
theorem dX4_thinks_65 : decode cX4_thinks 65 = .ok (.iload_n 2, 1) := by decide +kernel
theorem dX4_thinks_66 : decode cX4_thinks 66 = .ok (.iaload, 1) := by decide +kernel
theorem dX4_thinks_67 : decode cX4_thinks 67 = .ok (.iastore, 1) := by decide +kernel
theorem dX4_thinks_68 : decode cX4_thinks 68 = .ok (.iinc 2 1, 3) := by decide +kernel
theorem dX4_thinks_71 : decode cX4_thinks 71 = .ok (.goto (-23), 3) := by decide +kernel
theorem dX4_thinks_74 : decode cX4_thinks 74 = .ok (.aload_n 0, 1) := by decide +kernel
theorem dX4_thinks_75 : decode cX4_thinks 75 = .ok (.iconst 2, 1) := by decide +kernel
theorem dX4_thinks_76 : decode cX4_thinks 76 = .ok (.iconst 0, 1) := by decide +kernel
theorem dX4_thinks_77 : decode cX4_thinks 77 = .ok (.invokevirtual 141, 3) := by decide +kernel
theorem dX4_thinks_80 : decode cX4_thinks 80 = .ok (.return_, 1) := by decide +kernel
theorem dX4_behind_0 : decode cX4_behind 0 = .ok (.iload_n 1, 1) := by decide +kernel
theorem dX4_behind_1 : decode cX4_behind 1 = .ok (.invokestatic 224, 3) := by decide +kernel
theorem dX4_behind_4 : decode cX4_behind 4 = .ok (.istore_n 3, 1) := by decide +kernel
theorem dX4_behind_5 : decode cX4_behind 5 = .ok (.iload_n 3, 1) := by decide +kernel
theorem dX4_behind_6 : decode cX4_behind 6 = .ok (.ifCond .ne 15, 3) := by decide +kernel
theorem dX4_behind_9 : decode cX4_behind 9 = .ok (.iload_n 2, 1) := by decide +kernel
theorem dX4_behind_10 : decode cX4_behind 10 = .ok (.iconst 0, 1) := by decide +kernel
theorem dX4_behind_11 : decode cX4_behind 11 = .ok (.iconst 4, 1) := by decide +kernel
theorem dX4_behind_12 : decode cX4_behind 12 = .ok (.invokestatic 74, 3) := by decide +kernel
theorem dX4_behind_15 : decode cX4_behind 15 = .ok (.ifCond .ne 6, 3) := by decide +kernel
theorem dX4_behind_18 : decode cX4_behind 18 = .ok (.bipush (-2), 2) := by decide +kernel
theorem dX4_behind_20 : decode cX4_behind 20 = .ok (.istore_n 3, 1) := by decide +kernel
theorem dX4_behind_21 : decode cX4_behind 21 = .ok (.iload_n 3, 1) := by decide +kernel
theorem dX4_behind_22 : decode cX4_behind 22 = .ok (.ifCond .eq 9, 3) := by decide +kernel
theorem dX4_behind_25 : decode cX4_behind 25 = .ok (.aload_n 0, 1) := by decide +kernel
theorem dX4_behind_26 : decode cX4_behind 26 = .ok (.iload_n 3, 1) := by decide +kernel
theorem dX4_behind_27 : decode cX4_behind 27 = .ok (.invokevirtual 85, 3) := by decide +kernel
theorem dX4_behind_30 : decode cX4_behind 30 = .ok (.ireturn, 1) := by decide +kernel
theorem dX4_behind_31 : decode cX4_behind 31 = .ok (.aload_n 0, 1) := by decide +kernel
theorem dX4_behind_32 : decode cX4_behind 32 = .ok (.iload_n 1, 1) := by decide +kernel
theorem dX4_behind_33 : decode cX4_behind 33 = .ok (.invokevirtual 227, 3) := by decide +kernel
theorem dX4_behind_36 : decode cX4_behind 36 = .ok (.iload_n 2, 1) := by decide +kernel
theorem dX4_behind_37 : decode cX4_behind 37 = .ok (.iconst 3, 1) := by decide +kernel
theorem dX4_behind_38 : decode cX4_behind 38 = .ok (.if_icmp .ge 12, 3) := by decide +kernel
theorem dX4_behind_41 : decode cX4_behind 41 = .ok (.aload_n 0, 1) := by decide +kernel
theorem dX4_behind_42 : decode cX4_behind 42 = .ok (.getfield 55, 3) := by decide +kernel
theorem dX4_behind_45 : decode cX4_behind 45 = .ok (.iload_n 2, 1) := by decide +kernel
theorem dX4_behind_46 : decode cX4_behind 46 = .ok (.iaload, 1) := by decide +kernel
theorem dX4_behind_47 : decode cX4_behind 47 = .ok (.goto 19, 3) := by decide +kernel
theorem dX4_behind_50 : decode cX4_behind 50 = .ok (.iload_n 2, 1) := by decide +kernel
theorem dX4_behind_51 : decode cX4_behind 51 = .ok (.iconst 3, 1) := by decide +kernel
theorem dX4_behind_52 : decode cX4_behind 52 = .ok (.if_icmp .ne 10, 3) := by decide +kernel
theorem dX4_behind_55 : decode cX4_behind 55 = .ok (.aload_n 0, 1) := by decide +kernel
theorem dX4_behind_56 : decode cX4_behind 56 = .ok (.getfield 174, 3) := by decide +kernel
theorem dX4_behind_59 : decode cX4_behind 59 = .ok (.goto 7, 3) := by decide +kernel
theorem dX4_behind_62 : decode cX4_behind 62 = .ok (.aload_n 0, 1) := by decide +kernel
theorem dX4_behind_63 : decode cX4_behind 63 = .ok (.getfield 177, 3) := by decide +kernel
theorem dX4_behind_66 : decode cX4_behind 66 = .ok (.ireturn, 1) := by decide +kernel
theorem dX4_knownIn_0 : decode cX4_knownIn 0 = .ok (.iload_n 1, 1) := by decide +kernel
theorem dX4_knownIn_1 : decode cX4_knownIn 1 = .ok (.invokestatic 224, 3) := by decide +kernel
theorem dX4_knownIn_4 : decode cX4_knownIn 4 = .ok (.istore_n 3, 1) := by decide +kernel
theorem dX4_knownIn_5 : decode cX4_knownIn 5 = .ok (.iload_n 3, 1) := by decide +kernel
theorem dX4_knownIn_6 : decode cX4_knownIn 6 = .ok (.ifCond .ne 12, 3) := by decide +kernel
theorem dX4_knownIn_9 : decode cX4_knownIn 9 = .ok (.iload_n 2, 1) := by decide +kernel
theorem dX4_knownIn_10 : decode cX4_knownIn 10 = .ok (.invokestatic 116, 3) := by decide +kernel
theorem dX4_knownIn_13 : decode cX4_knownIn 13 = .ok (.ifCond .ne 5, 3) := by decide +kernel
theorem dX4_knownIn_16 : decode cX4_knownIn 16 = .ok (.iconst (-1), 1) := by decide +kernel
theorem dX4_knownIn_17 : decode cX4_knownIn 17 = .ok (.istore_n 3, 1) := by decide +kernel
theorem dX4_knownIn_18 : decode cX4_knownIn 18 = .ok (.iload_n 3, 1) := by decide +kernel
theorem dX4_knownIn_19 : decode cX4_knownIn 19 = .ok (.ifCond .eq 9, 3) := by decide +kernel
theorem dX4_knownIn_22 : decode cX4_knownIn 22 = .ok (.aload_n 0, 1) := by decide +kernel
theorem dX4_knownIn_23 : decode cX4_knownIn 23 = .ok (.iload_n 3, 1) := by decide +kernel
theorem dX4_knownIn_24 : decode cX4_knownIn 24 = .ok (.invokevirtual 85, 3) := by decide +kernel
theorem dX4_knownIn_27 : decode cX4_knownIn 27 = .ok (.ireturn, 1) := by decide +kernel
theorem dX4_knownIn_28 : decode cX4_knownIn 28 = .ok (.aload_n 0, 1) := by decide +kernel
theorem dX4_knownIn_29 : decode cX4_knownIn 29 = .ok (.iload_n 1, 1) := by decide +kernel
theorem dX4_knownIn_30 : decode cX4_knownIn 30 = .ok (.invokevirtual 227, 3) := by decide +kernel
theorem dX4_knownIn_33 : decode cX4_knownIn 33 = .ok (.aload_n 0, 1) := by decide +kernel
theorem dX4_knownIn_34 : decode cX4_knownIn 34 = .ok (.getfield 55, 3) := by decide +kernel
theorem dX4_knownIn_37 : decode cX4_knownIn 37 = .ok (.iconst 3, 1) := by decide +kernel
theorem dX4_knownIn_38 : decode cX4_knownIn 38 = .ok (.iload_n 2, 1) := by decide +kernel
theorem dX4_knownIn_39 : decode cX4_knownIn 39 = .ok (.iadd, 1) := by decide +kernel
theorem dX4_knownIn_40 : decode cX4_knownIn 40 = .ok (.iaload, 1) := by decide +kernel
theorem dX4_knownIn_41 : decode cX4_knownIn 41 = .ok (.ireturn, 1) := by decide +kernel
theorem dX4_of_0 : decode cX4_of 0 = .ok (.aload_n 0, 1) := by decide +kernel
theorem dX4_of_1 : decode cX4_of 1 = .ok (.iload_n 1, 1) := by decide +kernel
theorem dX4_of_2 : decode cX4_of 2 = .ok (.invokevirtual 128, 3) := by decide +kernel
theorem dX4_of_5 : decode cX4_of 5 = .ok (.ifCond .ne 7, 3) := by decide +kernel
theorem dX4_of_8 : decode cX4_of 8 = .ok (.iconst (-1), 1) := by decide +kernel
theorem dX4_of_9 : decode cX4_of 9 = .ok (.goto 7, 3) := by decide +kernel
theorem dX4_of_12 : decode cX4_of 12 = .ok (.iload_n 2, 1) := by decide +kernel
theorem dX4_of_13 : decode cX4_of 13 = .ok (.invokestatic 224, 3) := by decide +kernel
theorem dX4_of_16 : decode cX4_of 16 = .ok (.istore 4, 2) := by decide +kernel
theorem dX4_of_18 : decode cX4_of 18 = .ok (.iload 4, 2) := by decide +kernel
theorem dX4_of_20 : decode cX4_of 20 = .ok (.ifCond .ne 16, 3) := by decide +kernel
theorem dX4_of_23 : decode cX4_of 23 = .ok (.iload_n 3, 1) := by decide +kernel
theorem dX4_of_24 : decode cX4_of 24 = .ok (.iconst 0, 1) := by decide +kernel
theorem dX4_of_25 : decode cX4_of 25 = .ok (.iconst 1, 1) := by decide +kernel
theorem dX4_of_26 : decode cX4_of 26 = .ok (.invokestatic 74, 3) := by decide +kernel
theorem dX4_of_29 : decode cX4_of 29 = .ok (.ifCond .ne 7, 3) := by decide +kernel
theorem dX4_of_32 : decode cX4_of 32 = .ok (.bipush (-2), 2) := by decide +kernel
theorem dX4_of_34 : decode cX4_of 34 = .ok (.istore 4, 2) := by decide +kernel
theorem dX4_of_36 : decode cX4_of 36 = .ok (.iload 4, 2) := by decide +kernel
theorem dX4_of_38 : decode cX4_of 38 = .ok (.ifCond .eq 10, 3) := by decide +kernel
theorem dX4_of_41 : decode cX4_of 41 = .ok (.aload_n 0, 1) := by decide +kernel
theorem dX4_of_42 : decode cX4_of 42 = .ok (.iload 4, 2) := by decide +kernel
theorem dX4_of_44 : decode cX4_of 44 = .ok (.invokevirtual 85, 3) := by decide +kernel
theorem dX4_of_47 : decode cX4_of 47 = .ok (.ireturn, 1) := by decide +kernel
theorem dX4_of_48 : decode cX4_of 48 = .ok (.aload_n 0, 1) := by decide +kernel
theorem dX4_of_49 : decode cX4_of 49 = .ok (.iload_n 2, 1) := by decide +kernel
theorem dX4_of_50 : decode cX4_of 50 = .ok (.invokevirtual 227, 3) := by decide +kernel
theorem dX4_of_53 : decode cX4_of 53 = .ok (.iload_n 3, 1) := by decide +kernel
theorem dX4_of_54 : decode cX4_of 54 = .ok (.ifCond .ne 12, 3) := by decide +kernel
theorem dX4_of_57 : decode cX4_of 57 = .ok (.aload_n 0, 1) := by decide +kernel
theorem dX4_of_58 : decode cX4_of 58 = .ok (.getfield 49, 3) := by decide +kernel
theorem dX4_of_61 : decode cX4_of 61 = .ok (.iload_n 1, 1) := by decide +kernel
theorem dX4_of_62 : decode cX4_of 62 = .ok (.iaload, 1) := by decide +kernel
theorem dX4_of_63 : decode cX4_of 63 = .ok (.goto 9, 3) := by decide +kernel
theorem dX4_of_66 : decode cX4_of 66 = .ok (.aload_n 0, 1) := by decide +kernel
theorem dX4_of_67 : decode cX4_of 67 = .ok (.getfield 52, 3) := by decide +kernel
theorem dX4_of_70 : decode cX4_of 70 = .ok (.iload_n 1, 1) := by decide +kernel
theorem dX4_of_71 : decode cX4_of 71 = .ok (.iaload, 1) := by decide +kernel
theorem dX4_of_72 : decode cX4_of 72 = .ok (.ireturn, 1) := by decide +kernel
theorem dX4_knows_0 : decode cX4_knows 0 = .ok (.iload_n 1, 1) := by decide +kernel
theorem dX4_knows_1 : decode cX4_knows 1 = .ok (.invokestatic 116, 3) := by decide +kernel
theorem dX4_knows_4 : decode cX4_knows 4 = .ok (.ifCond .ne 7, 3) := by decide +kernel
theorem dX4_knows_7 : decode cX4_knows 7 = .ok (.iconst (-1), 1) := by decide +kernel
theorem dX4_knows_8 : decode cX4_knows 8 = .ok (.goto 10, 3) := by decide +kernel
theorem dX4_knows_11 : decode cX4_knows 11 = .ok (.iload_n 2, 1) := by decide +kernel
theorem dX4_knows_12 : decode cX4_knows 12 = .ok (.iconst 0, 1) := by decide +kernel
theorem dX4_knows_13 : decode cX4_knows 13 = .ok (.bipush 20, 2) := by decide +kernel
theorem dX4_knows_15 : decode cX4_knows 15 = .ok (.invokestatic 78, 3) := by decide +kernel
theorem dX4_knows_18 : decode cX4_knows 18 = .ok (.istore_n 3, 1) := by decide +kernel
theorem dX4_knows_19 : decode cX4_knows 19 = .ok (.iload_n 3, 1) := by decide +kernel
theorem dX4_knows_20 : decode cX4_knows 20 = .ok (.ifCond .eq 9, 3) := by decide +kernel
theorem dX4_knows_23 : decode cX4_knows 23 = .ok (.aload_n 0, 1) := by decide +kernel
theorem dX4_knows_24 : decode cX4_knows 24 = .ok (.iload_n 3, 1) := by decide +kernel
theorem dX4_knows_25 : decode cX4_knows 25 = .ok (.invokevirtual 85, 3) := by decide +kernel
theorem dX4_knows_28 : decode cX4_knows 28 = .ok (.ireturn, 1) := by decide +kernel
theorem dX4_knows_29 : decode cX4_knows 29 = .ok (.iconst 0, 1) := by decide +kernel
theorem dX4_knows_30 : decode cX4_knows 30 = .ok (.istore 4, 2) := by decide +kernel
theorem dX4_knows_32 : decode cX4_knows 32 = .ok (.iload 4, 2) := by decide +kernel
theorem dX4_knows_34 : decode cX4_knows 34 = .ok (.bipush 60, 2) := by decide +kernel
theorem dX4_knows_36 : decode cX4_knows 36 = .ok (.if_icmp .gt 30, 3) := by decide +kernel
theorem dX4_knows_39 : decode cX4_knows 39 = .ok (.aload_n 0, 1) := by decide +kernel
theorem dX4_knows_40 : decode cX4_knows 40 = .ok (.iload 4, 2) := by decide +kernel
theorem dX4_knows_42 : decode cX4_knows 42 = .ok (.invokevirtual 227, 3) := by decide +kernel
theorem dX4_knows_45 : decode cX4_knows 45 = .ok (.aload_n 0, 1) := by decide +kernel
theorem dX4_knows_46 : decode cX4_knows 46 = .ok (.getfield 55, 3) := by decide +kernel
theorem dX4_knows_49 : decode cX4_knows 49 = .ok (.iconst 3, 1) := by decide +kernel
theorem dX4_knows_50 : decode cX4_knows 50 = .ok (.iload_n 1, 1) := by decide +kernel
theorem dX4_knows_51 : decode cX4_knows 51 = .ok (.iadd, 1) := by decide +kernel
theorem dX4_knows_52 : decode cX4_knows 52 = .ok (.iaload, 1) := by decide +kernel
theorem dX4_knows_53 : decode cX4_knows 53 = .ok (.iload_n 2, 1) := by decide +kernel
theorem dX4_knows_54 : decode cX4_knows 54 = .ok (.if_icmp .lt 6, 3) := by decide +kernel
theorem dX4_knows_57 : decode cX4_knows 57 = .ok (.iload 4, 2) := by decide +kernel
theorem dX4_knows_59 : decode cX4_knows 59 = .ok (.ireturn, 1) := by decide +kernel
theorem dX4_knows_60 : decode cX4_knows 60 = .ok (.iinc 4 1, 3) := by decide +kernel
theorem dX4_knows_63 : decode cX4_knows 63 = .ok (.goto (-31), 3) := by decide +kernel
theorem dX4_knows_66 : decode cX4_knows 66 = .ok (.bipush (-9), 2) := by decide +kernel
theorem dX4_knows_68 : decode cX4_knows 68 = .ok (.ireturn, 1) := by decide +kernel
theorem dX4_silent_0 : decode cX4_silent 0 = .ok (.iconst 0, 1) := by decide +kernel
theorem dX4_silent_1 : decode cX4_silent 1 = .ok (.istore_n 1, 1) := by decide +kernel
theorem dX4_silent_2 : decode cX4_silent 2 = .ok (.iload_n 1, 1) := by decide +kernel
theorem dX4_silent_3 : decode cX4_silent 3 = .ok (.bipush 60, 2) := by decide +kernel
theorem dX4_silent_5 : decode cX4_silent 5 = .ok (.if_icmp .gt 31, 3) := by decide +kernel
theorem dX4_silent_8 : decode cX4_silent 8 = .ok (.aload_n 0, 1) := by decide +kernel
theorem dX4_silent_9 : decode cX4_silent 9 = .ok (.iload_n 1, 1) := by decide +kernel
theorem dX4_silent_10 : decode cX4_silent 10 = .ok (.invokevirtual 227, 3) := by decide +kernel
theorem dX4_silent_13 : decode cX4_silent 13 = .ok (.aload_n 0, 1) := by decide +kernel
theorem dX4_silent_14 : decode cX4_silent 14 = .ok (.getfield 55, 3) := by decide +kernel
theorem dX4_silent_17 : decode cX4_silent 17 = .ok (.iconst 0, 1) := by decide +kernel
theorem dX4_silent_18 : decode cX4_silent 18 = .ok (.iaload, 1) := by decide +kernel
theorem dX4_silent_19 : decode cX4_silent 19 = .ok (.aload_n 0, 1) := by decide +kernel
theorem dX4_silent_20 : decode cX4_silent 20 = .ok (.getfield 16, 3) := by decide +kernel
theorem dX4_silent_23 : decode cX4_silent 23 = .ok (.iconst 2, 1) := by decide +kernel
theorem dX4_silent_24 : decode cX4_silent 24 = .ok (.iaload, 1) := by decide +kernel
theorem dX4_silent_25 : decode cX4_silent 25 = .ok (.if_icmp .le 5, 3) := by decide +kernel
theorem dX4_silent_28 : decode cX4_silent 28 = .ok (.iload_n 1, 1) := by decide +kernel
theorem dX4_silent_29 : decode cX4_silent 29 = .ok (.ireturn, 1) := by decide +kernel
theorem dX4_silent_30 : decode cX4_silent 30 = .ok (.iinc 1 1, 3) := by decide +kernel
theorem dX4_silent_33 : decode cX4_silent 33 = .ok (.goto (-31), 3) := by decide +kernel
theorem dX4_silent_36 : decode cX4_silent 36 = .ok (.bipush (-9), 2) := by decide +kernel
theorem dX4_silent_38 : decode cX4_silent 38 = .ok (.ireturn, 1) := by decide +kernel
theorem dX4_goesWeek_0 : decode cX4_goesWeek 0 = .ok (.aload_n 0, 1) := by decide +kernel
theorem dX4_goesWeek_1 : decode cX4_goesWeek 1 = .ok (.iconst 1, 1) := by decide +kernel
theorem dX4_goesWeek_2 : decode cX4_goesWeek 2 = .ok (.iconst 1, 1) := by decide +kernel
theorem dX4_goesWeek_3 : decode cX4_goesWeek 3 = .ok (.invokevirtual 141, 3) := by decide +kernel
theorem dX4_goesWeek_6 : decode cX4_goesWeek 6 = .ok (.aload_n 0, 1) := by decide +kernel
theorem dX4_goesWeek_7 : decode cX4_goesWeek 7 = .ok (.iconst 0, 1) := by decide +kernel
theorem dX4_goesWeek_8 : decode cX4_goesWeek 8 = .ok (.putfield 230, 3) := by decide +kernel
theorem dX4_goesWeek_11 : decode cX4_goesWeek 11 = .ok (.iconst 0, 1) := by decide +kernel
theorem dX4_goesWeek_12 : decode cX4_goesWeek 12 = .ok (.istore_n 2, 1) := by decide +kernel
theorem dX4_goesWeek_13 : decode cX4_goesWeek 13 = .ok (.iload_n 2, 1) := by decide +kernel
theorem dX4_goesWeek_14 : decode cX4_goesWeek 14 = .ok (.iload_n 1, 1) := by decide +kernel
theorem dX4_goesWeek_15 : decode cX4_goesWeek 15 = .ok (.if_icmp .ge 50, 3) := by decide +kernel
theorem dX4_goesWeek_18 : decode cX4_goesWeek 18 = .ok (.aload_n 0, 1) := by decide +kernel
theorem dX4_goesWeek_19 : decode cX4_goesWeek 19 = .ok (.iconst 1, 1) := by decide +kernel
theorem dX4_goesWeek_20 : decode cX4_goesWeek 20 = .ok (.aload_n 0, 1) := by decide +kernel
theorem dX4_goesWeek_21 : decode cX4_goesWeek 21 = .ok (.getfield 58, 3) := by decide +kernel
theorem dX4_goesWeek_24 : decode cX4_goesWeek 24 = .ok (.iload_n 2, 1) := by decide +kernel
theorem dX4_goesWeek_25 : decode cX4_goesWeek 25 = .ok (.iaload, 1) := by decide +kernel
theorem dX4_goesWeek_26 : decode cX4_goesWeek 26 = .ok (.ishl, 1) := by decide +kernel
theorem dX4_goesWeek_27 : decode cX4_goesWeek 27 = .ok (.iconst (-1), 1) := by decide +kernel
theorem dX4_goesWeek_28 : decode cX4_goesWeek 28 = .ok (.ixor, 1) := by decide +kernel
theorem dX4_goesWeek_29 : decode cX4_goesWeek 29 = .ok (.putfield 205, 3) := by decide +kernel
theorem dX4_goesWeek_32 : decode cX4_goesWeek 32 = .ok (.aload_n 0, 1) := by decide +kernel
theorem dX4_goesWeek_33 : decode cX4_goesWeek 33 = .ok (.getfield 31, 3) := by decide +kernel
theorem dX4_goesWeek_36 : decode cX4_goesWeek 36 = .ok (.aload_n 0, 1) := by decide +kernel
theorem dX4_goesWeek_37 : decode cX4_goesWeek 37 = .ok (.getfield 58, 3) := by decide +kernel
theorem dX4_goesWeek_40 : decode cX4_goesWeek 40 = .ok (.iload_n 2, 1) := by decide +kernel
theorem dX4_goesWeek_41 : decode cX4_goesWeek 41 = .ok (.iaload, 1) := by decide +kernel
theorem dX4_goesWeek_42 : decode cX4_goesWeek 42 = .ok (.bipush 7, 2) := by decide +kernel
theorem dX4_goesWeek_44 : decode cX4_goesWeek 44 = .ok (.iastore, 1) := by decide +kernel
theorem dX4_goesWeek_45 : decode cX4_goesWeek 45 = .ok (.aload_n 0, 1) := by decide +kernel
theorem dX4_goesWeek_46 : decode cX4_goesWeek 46 = .ok (.dup, 1) := by decide +kernel
theorem dX4_goesWeek_47 : decode cX4_goesWeek 47 = .ok (.getfield 230, 3) := by decide +kernel
theorem dX4_goesWeek_50 : decode cX4_goesWeek 50 = .ok (.aload_n 0, 1) := by decide +kernel
theorem dX4_goesWeek_51 : decode cX4_goesWeek 51 = .ok (.iconst 1, 1) := by decide +kernel
theorem dX4_goesWeek_52 : decode cX4_goesWeek 52 = .ok (.invokevirtual 134, 3) := by decide +kernel
theorem dX4_goesWeek_55 : decode cX4_goesWeek 55 = .ok (.iadd, 1) := by decide +kernel
theorem dX4_goesWeek_56 : decode cX4_goesWeek 56 = .ok (.putfield 230, 3) := by decide +kernel
theorem dX4_goesWeek_59 : decode cX4_goesWeek 59 = .ok (.iinc 2 1, 3) := by decide +kernel
theorem dX4_goesWeek_62 : decode cX4_goesWeek 62 = .ok (.goto (-49), 3) := by decide +kernel
theorem dX4_goesWeek_65 : decode cX4_goesWeek 65 = .ok (.aload_n 0, 1) := by decide +kernel
theorem dX4_goesWeek_66 : decode cX4_goesWeek 66 = .ok (.iconst 0, 1) := by decide +kernel
theorem dX4_goesWeek_67 : decode cX4_goesWeek 67 = .ok (.putfield 205, 3) := by decide +kernel
theorem dX4_goesWeek_70 : decode cX4_goesWeek 70 = .ok (.aload_n 0, 1) := by decide +kernel
theorem dX4_goesWeek_71 : decode cX4_goesWeek 71 = .ok (.aload_n 0, 1) := by decide +kernel
theorem dX4_goesWeek_72 : decode cX4_goesWeek 72 = .ok (.getfield 16, 3) := by decide +kernel
theorem dX4_goesWeek_75 : decode cX4_goesWeek 75 = .ok (.iconst 1, 1) := by decide +kernel
theorem dX4_goesWeek_76 : decode cX4_goesWeek 76 = .ok (.iaload, 1) := by decide +kernel
theorem dX4_goesWeek_77 : decode cX4_goesWeek 77 = .ok (.putfield 233, 3) := by decide +kernel
theorem dX4_goesWeek_80 : decode cX4_goesWeek 80 = .ok (.aload_n 0, 1) := by decide +kernel
theorem dX4_goesWeek_81 : decode cX4_goesWeek 81 = .ok (.iconst 1, 1) := by decide +kernel
theorem dX4_goesWeek_82 : decode cX4_goesWeek 82 = .ok (.iconst 0, 1) := by decide +kernel
theorem dX4_goesWeek_83 : decode cX4_goesWeek 83 = .ok (.invokevirtual 141, 3) := by decide +kernel
theorem dX4_goesWeek_86 : decode cX4_goesWeek 86 = .ok (.return_, 1) := by decide +kernel
theorem dX4_week_0 : decode cX4_week 0 = .ok (.iload_n 1, 1) := by decide +kernel
theorem dX4_week_1 : decode cX4_week 1 = .ok (.iconst 0, 1) := by decide +kernel
theorem dX4_week_2 : decode cX4_week 2 = .ok (.iconst 1, 1) := by decide +kernel
theorem dX4_week_3 : decode cX4_week 3 = .ok (.invokestatic 74, 3) := by decide +kernel
theorem dX4_week_6 : decode cX4_week 6 = .ok (.ifCond .ne 8, 3) := by decide +kernel
theorem dX4_week_9 : decode cX4_week 9 = .ok (.bipush (-2), 2) := by decide +kernel
theorem dX4_week_11 : decode cX4_week 11 = .ok (.goto 4, 3) := by decide +kernel
theorem dX4_week_14 : decode cX4_week 14 = .ok (.iconst 0, 1) := by decide +kernel
theorem dX4_week_15 : decode cX4_week 15 = .ok (.istore_n 2, 1) := by decide +kernel
theorem dX4_week_16 : decode cX4_week 16 = .ok (.iconst 0, 1) := by decide +kernel
theorem dX4_week_17 : decode cX4_week 17 = .ok (.istore_n 3, 1) := by decide +kernel
theorem dX4_week_18 : decode cX4_week 18 = .ok (.iload_n 3, 1) := by decide +kernel
theorem dX4_week_19 : decode cX4_week 19 = .ok (.aload_n 0, 1) := by decide +kernel
theorem dX4_week_20 : decode cX4_week 20 = .ok (.getfield 236, 3) := by decide +kernel
theorem dX4_week_23 : decode cX4_week 23 = .ok (.if_icmp .ge 33, 3) := by decide +kernel
theorem dX4_week_26 : decode cX4_week 26 = .ok (.iload_n 2, 1) := by decide +kernel
theorem dX4_week_27 : decode cX4_week 27 = .ok (.ifCond .ne 29, 3) := by decide +kernel
theorem dX4_week_30 : decode cX4_week 30 = .ok (.aload_n 0, 1) := by decide +kernel
theorem dX4_week_31 : decode cX4_week 31 = .ok (.aload_n 0, 1) := by decide +kernel
theorem dX4_week_32 : decode cX4_week 32 = .ok (.getfield 61, 3) := by decide +kernel
theorem dX4_week_35 : decode cX4_week 35 = .ok (.iload_n 3, 1) := by decide +kernel
theorem dX4_week_36 : decode cX4_week 36 = .ok (.iaload, 1) := by decide +kernel
theorem dX4_week_37 : decode cX4_week 37 = .ok (.invokevirtual 128, 3) := by decide +kernel
theorem dX4_week_40 : decode cX4_week 40 = .ok (.ifCond .eq 7, 3) := by decide +kernel
theorem dX4_week_43 : decode cX4_week 43 = .ok (.iconst 0, 1) := by decide +kernel
theorem dX4_week_44 : decode cX4_week 44 = .ok (.goto 5, 3) := by decide +kernel
theorem dX4_week_47 : decode cX4_week 47 = .ok (.bipush (-3), 2) := by decide +kernel
theorem dX4_week_49 : decode cX4_week 49 = .ok (.istore_n 2, 1) := by decide +kernel
theorem dX4_week_50 : decode cX4_week 50 = .ok (.iinc 3 1, 3) := by decide +kernel
theorem dX4_week_53 : decode cX4_week 53 = .ok (.goto (-35), 3) := by decide +kernel
theorem dX4_week_56 : decode cX4_week 56 = .ok (.iload_n 2, 1) := by decide +kernel
theorem dX4_week_57 : decode cX4_week 57 = .ok (.ifCond .eq 9, 3) := by decide +kernel
theorem dX4_week_60 : decode cX4_week 60 = .ok (.aload_n 0, 1) := by decide +kernel
theorem dX4_week_61 : decode cX4_week 61 = .ok (.iload_n 2, 1) := by decide +kernel
theorem dX4_week_62 : decode cX4_week 62 = .ok (.invokevirtual 85, 3) := by decide +kernel
theorem dX4_week_65 : decode cX4_week 65 = .ok (.ireturn, 1) := by decide +kernel
theorem dX4_week_66 : decode cX4_week 66 = .ok (.iconst 0, 1) := by decide +kernel
theorem dX4_week_67 : decode cX4_week 67 = .ok (.istore_n 3, 1) := by decide +kernel
theorem dX4_week_68 : decode cX4_week 68 = .ok (.iload_n 3, 1) := by decide +kernel
theorem dX4_week_69 : decode cX4_week 69 = .ok (.aload_n 0, 1) := by decide +kernel
theorem dX4_week_70 : decode cX4_week 70 = .ok (.getfield 236, 3) := by decide +kernel
theorem dX4_week_73 : decode cX4_week 73 = .ok (.if_icmp .ge 21, 3) := by decide +kernel
theorem dX4_week_76 : decode cX4_week 76 = .ok (.aload_n 0, 1) := by decide +kernel
theorem dX4_week_77 : decode cX4_week 77 = .ok (.getfield 58, 3) := by decide +kernel
theorem dX4_week_80 : decode cX4_week 80 = .ok (.iload_n 3, 1) := by decide +kernel
theorem dX4_week_81 : decode cX4_week 81 = .ok (.aload_n 0, 1) := by decide +kernel
theorem dX4_week_82 : decode cX4_week 82 = .ok (.getfield 61, 3) := by decide +kernel
theorem dX4_week_85 : decode cX4_week 85 = .ok (.iload_n 3, 1) := by decide +kernel
theorem dX4_week_86 : decode cX4_week 86 = .ok (.iaload, 1) := by decide +kernel
theorem dX4_week_87 : decode cX4_week 87 = .ok (.iastore, 1) := by decide +kernel
theorem dX4_week_88 : decode cX4_week 88 = .ok (.iinc 3 1, 3) := by decide +kernel
theorem dX4_week_91 : decode cX4_week 91 = .ok (.goto (-23), 3) := by decide +kernel
theorem dX4_week_94 : decode cX4_week 94 = .ok (.aload_n 0, 1) := by decide +kernel
theorem dX4_week_95 : decode cX4_week 95 = .ok (.aload_n 0, 1) := by decide +kernel
theorem dX4_week_96 : decode cX4_week 96 = .ok (.getfield 236, 3) := by decide +kernel
theorem dX4_week_99 : decode cX4_week 99 = .ok (.invokevirtual 239, 3) := by decide +kernel
theorem dX4_week_102 : decode cX4_week 102 = .ok (.iload_n 1, 1) := by decide +kernel
theorem dX4_week_103 : decode cX4_week 103 = .ok (.ifCond .ne 10, 3) := by decide +kernel
theorem dX4_week_106 : decode cX4_week 106 = .ok (.aload_n 0, 1) := by decide +kernel
theorem dX4_week_107 : decode cX4_week 107 = .ok (.getfield 230, 3) := by decide +kernel
theorem dX4_week_110 : decode cX4_week 110 = .ok (.goto 7, 3) := by decide +kernel
theorem dX4_week_113 : decode cX4_week 113 = .ok (.aload_n 0, 1) := by decide +kernel
theorem dX4_week_114 : decode cX4_week 114 = .ok (.getfield 233, 3) := by decide +kernel
theorem dX4_week_117 : decode cX4_week 117 = .ok (.ireturn, 1) := by decide +kernel
theorem dX4_laysWeek_0 : decode cX4_laysWeek 0 = .ok (.aload_n 0, 1) := by decide +kernel
theorem dX4_laysWeek_1 : decode cX4_laysWeek 1 = .ok (.getfield 58, 3) := by decide +kernel
theorem dX4_laysWeek_4 : decode cX4_laysWeek 4 = .ok (.iconst 0, 1) := by decide +kernel
theorem dX4_laysWeek_5 : decode cX4_laysWeek 5 = .ok (.iload_n 1, 1) := by decide +kernel
theorem dX4_laysWeek_6 : decode cX4_laysWeek 6 = .ok (.aload_n 0, 1) := by decide +kernel
theorem dX4_laysWeek_7 : decode cX4_laysWeek 7 = .ok (.getfield 70, 3) := by decide +kernel
theorem dX4_laysWeek_10 : decode cX4_laysWeek 10 = .ok (.idiv, 1) := by decide +kernel
theorem dX4_laysWeek_11 : decode cX4_laysWeek 11 = .ok (.aload_n 0, 1) := by decide +kernel
theorem dX4_laysWeek_12 : decode cX4_laysWeek 12 = .ok (.getfield 70, 3) := by decide +kernel
theorem dX4_laysWeek_15 : decode cX4_laysWeek 15 = .ok (.idiv, 1) := by decide +kernel
theorem dX4_laysWeek_16 : decode cX4_laysWeek 16 = .ok (.iastore, 1) := by decide +kernel
theorem dX4_laysWeek_17 : decode cX4_laysWeek 17 = .ok (.aload_n 0, 1) := by decide +kernel
theorem dX4_laysWeek_18 : decode cX4_laysWeek 18 = .ok (.getfield 58, 3) := by decide +kernel
theorem dX4_laysWeek_21 : decode cX4_laysWeek 21 = .ok (.iconst 1, 1) := by decide +kernel
theorem dX4_laysWeek_22 : decode cX4_laysWeek 22 = .ok (.iload_n 1, 1) := by decide +kernel
theorem dX4_laysWeek_23 : decode cX4_laysWeek 23 = .ok (.aload_n 0, 1) := by decide +kernel
theorem dX4_laysWeek_24 : decode cX4_laysWeek 24 = .ok (.getfield 70, 3) := by decide +kernel
theorem dX4_laysWeek_27 : decode cX4_laysWeek 27 = .ok (.idiv, 1) := by decide +kernel
theorem dX4_laysWeek_28 : decode cX4_laysWeek 28 = .ok (.aload_n 0, 1) := by decide +kernel
theorem dX4_laysWeek_29 : decode cX4_laysWeek 29 = .ok (.getfield 70, 3) := by decide +kernel
theorem dX4_laysWeek_32 : decode cX4_laysWeek 32 = .ok (.irem, 1) := by decide +kernel
theorem dX4_laysWeek_33 : decode cX4_laysWeek 33 = .ok (.iastore, 1) := by decide +kernel
theorem dX4_laysWeek_34 : decode cX4_laysWeek 34 = .ok (.aload_n 0, 1) := by decide +kernel
theorem dX4_laysWeek_35 : decode cX4_laysWeek 35 = .ok (.getfield 58, 3) := by decide +kernel
theorem dX4_laysWeek_38 : decode cX4_laysWeek 38 = .ok (.iconst 2, 1) := by decide +kernel
theorem dX4_laysWeek_39 : decode cX4_laysWeek 39 = .ok (.iload_n 1, 1) := by decide +kernel
theorem dX4_laysWeek_40 : decode cX4_laysWeek 40 = .ok (.aload_n 0, 1) := by decide +kernel
theorem dX4_laysWeek_41 : decode cX4_laysWeek 41 = .ok (.getfield 70, 3) := by decide +kernel
theorem dX4_laysWeek_44 : decode cX4_laysWeek 44 = .ok (.irem, 1) := by decide +kernel
theorem dX4_laysWeek_45 : decode cX4_laysWeek 45 = .ok (.iastore, 1) := by decide +kernel
theorem dX4_laysWeek_46 : decode cX4_laysWeek 46 = .ok (.return_, 1) := by decide +kernel
theorem dX4_bestWeek_0 : decode cX4_bestWeek 0 = .ok (.iload_n 1, 1) := by decide +kernel
theorem dX4_bestWeek_1 : decode cX4_bestWeek 1 = .ok (.iconst (-1), 1) := by decide +kernel
theorem dX4_bestWeek_2 : decode cX4_bestWeek 2 = .ok (.iconst 2, 1) := by decide +kernel
theorem dX4_bestWeek_3 : decode cX4_bestWeek 3 = .ok (.invokestatic 78, 3) := by decide +kernel
theorem dX4_bestWeek_6 : decode cX4_bestWeek 6 = .ok (.istore_n 2, 1) := by decide +kernel
theorem dX4_bestWeek_7 : decode cX4_bestWeek 7 = .ok (.iload_n 2, 1) := by decide +kernel
theorem dX4_bestWeek_8 : decode cX4_bestWeek 8 = .ok (.ifCond .eq 9, 3) := by decide +kernel
theorem dX4_bestWeek_11 : decode cX4_bestWeek 11 = .ok (.aload_n 0, 1) := by decide +kernel
theorem dX4_bestWeek_12 : decode cX4_bestWeek 12 = .ok (.iload_n 2, 1) := by decide +kernel
theorem dX4_bestWeek_13 : decode cX4_bestWeek 13 = .ok (.invokevirtual 85, 3) := by decide +kernel
theorem dX4_bestWeek_16 : decode cX4_bestWeek 16 = .ok (.ireturn, 1) := by decide +kernel
theorem dX4_bestWeek_17 : decode cX4_bestWeek 17 = .ok (.aload_n 0, 1) := by decide +kernel
theorem dX4_bestWeek_18 : decode cX4_bestWeek 18 = .ok (.getfield 70, 3) := by decide +kernel
theorem dX4_bestWeek_21 : decode cX4_bestWeek 21 = .ok (.ifCond .ne 6, 3) := by decide +kernel
theorem dX4_bestWeek_24 : decode cX4_bestWeek 24 = .ok (.bipush (-9), 2) := by decide +kernel
theorem dX4_bestWeek_26 : decode cX4_bestWeek 26 = .ok (.ireturn, 1) := by decide +kernel
theorem dX4_bestWeek_27 : decode cX4_bestWeek 27 = .ok (.iconst 0, 1) := by decide +kernel
theorem dX4_bestWeek_28 : decode cX4_bestWeek 28 = .ok (.istore_n 3, 1) := by decide +kernel
theorem dX4_bestWeek_29 : decode cX4_bestWeek 29 = .ok (.iconst (-1), 1) := by decide +kernel
theorem dX4_bestWeek_30 : decode cX4_bestWeek 30 = .ok (.istore 4, 2) := by decide +kernel
theorem dX4_bestWeek_32 : decode cX4_bestWeek 32 = .ok (.iconst 0, 1) := by decide +kernel
theorem dX4_bestWeek_33 : decode cX4_bestWeek 33 = .ok (.istore 5, 2) := by decide +kernel
theorem dX4_bestWeek_35 : decode cX4_bestWeek 35 = .ok (.iconst 0, 1) := by decide +kernel
theorem dX4_bestWeek_36 : decode cX4_bestWeek 36 = .ok (.istore 6, 2) := by decide +kernel
theorem dX4_bestWeek_38 : decode cX4_bestWeek 38 = .ok (.iload 6, 2) := by decide +kernel
theorem dX4_bestWeek_40 : decode cX4_bestWeek 40 = .ok (.aload_n 0, 1) := by decide +kernel
theorem dX4_bestWeek_41 : decode cX4_bestWeek 41 = .ok (.getfield 70, 3) := by decide +kernel
theorem dX4_bestWeek_44 : decode cX4_bestWeek 44 = .ok (.aload_n 0, 1) := by decide +kernel
theorem dX4_bestWeek_45 : decode cX4_bestWeek 45 = .ok (.getfield 70, 3) := by decide +kernel
theorem dX4_bestWeek_48 : decode cX4_bestWeek 48 = .ok (.imul, 1) := by decide +kernel
theorem dX4_bestWeek_49 : decode cX4_bestWeek 49 = .ok (.aload_n 0, 1) := by decide +kernel
theorem dX4_bestWeek_50 : decode cX4_bestWeek 50 = .ok (.getfield 70, 3) := by decide +kernel
theorem dX4_bestWeek_53 : decode cX4_bestWeek 53 = .ok (.imul, 1) := by decide +kernel
theorem dX4_bestWeek_54 : decode cX4_bestWeek 54 = .ok (.if_icmp .ge 65, 3) := by decide +kernel
theorem dX4_bestWeek_57 : decode cX4_bestWeek 57 = .ok (.aload_n 0, 1) := by decide +kernel
theorem dX4_bestWeek_58 : decode cX4_bestWeek 58 = .ok (.iload 6, 2) := by decide +kernel
theorem dX4_bestWeek_60 : decode cX4_bestWeek 60 = .ok (.invokevirtual 242, 3) := by decide +kernel
theorem dX4_bestWeek_63 : decode cX4_bestWeek 63 = .ok (.aload_n 0, 1) := by decide +kernel
theorem dX4_bestWeek_64 : decode cX4_bestWeek 64 = .ok (.iconst 3, 1) := by decide +kernel
theorem dX4_bestWeek_65 : decode cX4_bestWeek 65 = .ok (.invokevirtual 239, 3) := by decide +kernel
theorem dX4_bestWeek_68 : decode cX4_bestWeek 68 = .ok (.aload_n 0, 1) := by decide +kernel
theorem dX4_bestWeek_69 : decode cX4_bestWeek 69 = .ok (.getfield 230, 3) := by decide +kernel
theorem dX4_bestWeek_72 : decode cX4_bestWeek 72 = .ok (.iload 4, 2) := by decide +kernel
theorem dX4_bestWeek_74 : decode cX4_bestWeek 74 = .ok (.if_icmp .lt 39, 3) := by decide +kernel
theorem dX4_bestWeek_77 : decode cX4_bestWeek 77 = .ok (.aload_n 0, 1) := by decide +kernel
theorem dX4_bestWeek_78 : decode cX4_bestWeek 78 = .ok (.getfield 230, 3) := by decide +kernel
theorem dX4_bestWeek_81 : decode cX4_bestWeek 81 = .ok (.iload 4, 2) := by decide +kernel
theorem dX4_bestWeek_83 : decode cX4_bestWeek 83 = .ok (.if_icmp .ne 15, 3) := by decide +kernel
theorem dX4_bestWeek_86 : decode cX4_bestWeek 86 = .ok (.aload_n 0, 1) := by decide +kernel
theorem dX4_bestWeek_87 : decode cX4_bestWeek 87 = .ok (.getfield 233, 3) := by decide +kernel
theorem dX4_bestWeek_90 : decode cX4_bestWeek 90 = .ok (.iload 5, 2) := by decide +kernel
theorem dX4_bestWeek_92 : decode cX4_bestWeek 92 = .ok (.if_icmp .lt 6, 3) := by decide +kernel
theorem dX4_bestWeek_95 : decode cX4_bestWeek 95 = .ok (.goto 18, 3) := by decide +kernel
theorem dX4_bestWeek_98 : decode cX4_bestWeek 98 = .ok (.iload 6, 2) := by decide +kernel
theorem dX4_bestWeek_100 : decode cX4_bestWeek 100 = .ok (.istore_n 3, 1) := by decide +kernel
theorem dX4_bestWeek_101 : decode cX4_bestWeek 101 = .ok (.aload_n 0, 1) := by decide +kernel
theorem dX4_bestWeek_102 : decode cX4_bestWeek 102 = .ok (.getfield 230, 3) := by decide +kernel
theorem dX4_bestWeek_105 : decode cX4_bestWeek 105 = .ok (.istore 4, 2) := by decide +kernel
theorem dX4_bestWeek_107 : decode cX4_bestWeek 107 = .ok (.aload_n 0, 1) := by decide +kernel
theorem dX4_bestWeek_108 : decode cX4_bestWeek 108 = .ok (.getfield 233, 3) := by decide +kernel
theorem dX4_bestWeek_111 : decode cX4_bestWeek 111 = .ok (.istore 5, 2) := by decide +kernel
theorem dX4_bestWeek_113 : decode cX4_bestWeek 113 = .ok (.iinc 6 1, 3) := by decide +kernel
theorem dX4_bestWeek_116 : decode cX4_bestWeek 116 = .ok (.goto (-78), 3) := by decide +kernel
theorem dX4_bestWeek_119 : decode cX4_bestWeek 119 = .ok (.aload_n 0, 1) := by decide +kernel
theorem dX4_bestWeek_120 : decode cX4_bestWeek 120 = .ok (.iload_n 3, 1) := by decide +kernel
theorem dX4_bestWeek_121 : decode cX4_bestWeek 121 = .ok (.invokevirtual 242, 3) := by decide +kernel
theorem dX4_bestWeek_124 : decode cX4_bestWeek 124 = .ok (.iload_n 1, 1) := by decide +kernel
theorem dX4_bestWeek_125 : decode cX4_bestWeek 125 = .ok (.ifCond .ge 8, 3) := by decide +kernel
theorem dX4_bestWeek_128 : decode cX4_bestWeek 128 = .ok (.iload 4, 2) := by decide +kernel
theorem dX4_bestWeek_130 : decode cX4_bestWeek 130 = .ok (.goto 9, 3) := by decide +kernel
theorem dX4_bestWeek_133 : decode cX4_bestWeek 133 = .ok (.aload_n 0, 1) := by decide +kernel
theorem dX4_bestWeek_134 : decode cX4_bestWeek 134 = .ok (.getfield 58, 3) := by decide +kernel
theorem dX4_bestWeek_137 : decode cX4_bestWeek 137 = .ok (.iload_n 1, 1) := by decide +kernel
theorem dX4_bestWeek_138 : decode cX4_bestWeek 138 = .ok (.iaload, 1) := by decide +kernel
theorem dX4_bestWeek_139 : decode cX4_bestWeek 139 = .ok (.ireturn, 1) := by decide +kernel
theorem dX4_answersIn_0 : decode cX4_answersIn 0 = .ok (.aload_n 0, 1) := by decide +kernel
theorem dX4_answersIn_1 : decode cX4_answersIn 1 = .ok (.iload_n 1, 1) := by decide +kernel
theorem dX4_answersIn_2 : decode cX4_answersIn 2 = .ok (.invokevirtual 227, 3) := by decide +kernel
theorem dX4_answersIn_5 : decode cX4_answersIn 5 = .ok (.aload_n 0, 1) := by decide +kernel
theorem dX4_answersIn_6 : decode cX4_answersIn 6 = .ok (.getfield 174, 3) := by decide +kernel
theorem dX4_answersIn_9 : decode cX4_answersIn 9 = .ok (.ireturn, 1) := by decide +kernel
theorem dX4_answersByTune_0 : decode cX4_answersByTune 0 = .ok (.aload_n 0, 1) := by decide +kernel
theorem dX4_answersByTune_1 : decode cX4_answersByTune 1 = .ok (.getfield 16, 3) := by decide +kernel
theorem dX4_answersByTune_4 : decode cX4_answersByTune 4 = .ok (.iconst 0, 1) := by decide +kernel
theorem dX4_answersByTune_5 : decode cX4_answersByTune 5 = .ok (.iaload, 1) := by decide +kernel
theorem dX4_answersByTune_6 : decode cX4_answersByTune 6 = .ok (.istore_n 3, 1) := by decide +kernel
theorem dX4_answersByTune_7 : decode cX4_answersByTune 7 = .ok (.aload_n 0, 1) := by decide +kernel
theorem dX4_answersByTune_8 : decode cX4_answersByTune 8 = .ok (.getfield 16, 3) := by decide +kernel
theorem dX4_answersByTune_11 : decode cX4_answersByTune 11 = .ok (.iconst 0, 1) := by decide +kernel
theorem dX4_answersByTune_12 : decode cX4_answersByTune 12 = .ok (.iload_n 1, 1) := by decide +kernel
theorem dX4_answersByTune_13 : decode cX4_answersByTune 13 = .ok (.iastore, 1) := by decide +kernel
theorem dX4_answersByTune_14 : decode cX4_answersByTune 14 = .ok (.aload_n 0, 1) := by decide +kernel
theorem dX4_answersByTune_15 : decode cX4_answersByTune 15 = .ok (.iload_n 2, 1) := by decide +kernel
theorem dX4_answersByTune_16 : decode cX4_answersByTune 16 = .ok (.invokevirtual 245, 3) := by decide +kernel
theorem dX4_answersByTune_19 : decode cX4_answersByTune 19 = .ok (.istore 4, 2) := by decide +kernel
theorem dX4_answersByTune_21 : decode cX4_answersByTune 21 = .ok (.aload_n 0, 1) := by decide +kernel
theorem dX4_answersByTune_22 : decode cX4_answersByTune 22 = .ok (.getfield 16, 3) := by decide +kernel
theorem dX4_answersByTune_25 : decode cX4_answersByTune 25 = .ok (.iconst 0, 1) := by decide +kernel
theorem dX4_answersByTune_26 : decode cX4_answersByTune 26 = .ok (.iload_n 3, 1) := by decide +kernel
theorem dX4_answersByTune_27 : decode cX4_answersByTune 27 = .ok (.iastore, 1) := by decide +kernel
theorem dX4_answersByTune_28 : decode cX4_answersByTune 28 = .ok (.iload 4, 2) := by decide +kernel
theorem dX4_answersByTune_30 : decode cX4_answersByTune 30 = .ok (.ireturn, 1) := by decide +kernel
theorem dX4_bestTune_0 : decode cX4_bestTune 0 = .ok (.iload_n 1, 1) := by decide +kernel
theorem dX4_bestTune_1 : decode cX4_bestTune 1 = .ok (.invokestatic 224, 3) := by decide +kernel
theorem dX4_bestTune_4 : decode cX4_bestTune 4 = .ok (.istore_n 2, 1) := by decide +kernel
theorem dX4_bestTune_5 : decode cX4_bestTune 5 = .ok (.iload_n 2, 1) := by decide +kernel
theorem dX4_bestTune_6 : decode cX4_bestTune 6 = .ok (.ifCond .eq 9, 3) := by decide +kernel
theorem dX4_bestTune_9 : decode cX4_bestTune 9 = .ok (.aload_n 0, 1) := by decide +kernel
theorem dX4_bestTune_10 : decode cX4_bestTune 10 = .ok (.iload_n 2, 1) := by decide +kernel
theorem dX4_bestTune_11 : decode cX4_bestTune 11 = .ok (.invokevirtual 85, 3) := by decide +kernel
theorem dX4_bestTune_14 : decode cX4_bestTune 14 = .ok (.ireturn, 1) := by decide +kernel
theorem dX4_bestTune_15 : decode cX4_bestTune 15 = .ok (.iconst 0, 1) := by decide +kernel
theorem dX4_bestTune_16 : decode cX4_bestTune 16 = .ok (.istore_n 3, 1) := by decide +kernel
theorem dX4_bestTune_17 : decode cX4_bestTune 17 = .ok (.iconst 1, 1) := by decide +kernel
theorem dX4_bestTune_18 : decode cX4_bestTune 18 = .ok (.istore 4, 2) := by decide +kernel
theorem dX4_bestTune_20 : decode cX4_bestTune 20 = .ok (.iload 4, 2) := by decide +kernel
theorem dX4_bestTune_22 : decode cX4_bestTune 22 = .ok (.bipush 10, 2) := by decide +kernel
theorem dX4_bestTune_24 : decode cX4_bestTune 24 = .ok (.if_icmp .ge 32, 3) := by decide +kernel
theorem dX4_bestTune_27 : decode cX4_bestTune 27 = .ok (.aload_n 0, 1) := by decide +kernel
theorem dX4_bestTune_28 : decode cX4_bestTune 28 = .ok (.iload 4, 2) := by decide +kernel
theorem dX4_bestTune_30 : decode cX4_bestTune 30 = .ok (.iload_n 1, 1) := by decide +kernel
theorem dX4_bestTune_31 : decode cX4_bestTune 31 = .ok (.invokevirtual 248, 3) := by decide +kernel
theorem dX4_bestTune_34 : decode cX4_bestTune 34 = .ok (.aload_n 0, 1) := by decide +kernel
theorem dX4_bestTune_35 : decode cX4_bestTune 35 = .ok (.iload_n 3, 1) := by decide +kernel
theorem dX4_bestTune_36 : decode cX4_bestTune 36 = .ok (.iload_n 1, 1) := by decide +kernel
theorem dX4_bestTune_37 : decode cX4_bestTune 37 = .ok (.invokevirtual 248, 3) := by decide +kernel
theorem dX4_bestTune_40 : decode cX4_bestTune 40 = .ok (.if_icmp .le 8, 3) := by decide +kernel
theorem dX4_bestTune_43 : decode cX4_bestTune 43 = .ok (.iload 4, 2) := by decide +kernel
theorem dX4_bestTune_45 : decode cX4_bestTune 45 = .ok (.goto 4, 3) := by decide +kernel
theorem dX4_bestTune_48 : decode cX4_bestTune 48 = .ok (.iload_n 3, 1) := by decide +kernel
theorem dX4_bestTune_49 : decode cX4_bestTune 49 = .ok (.istore_n 3, 1) := by decide +kernel
theorem dX4_bestTune_50 : decode cX4_bestTune 50 = .ok (.iinc 4 1, 3) := by decide +kernel
theorem dX4_bestTune_53 : decode cX4_bestTune 53 = .ok (.goto (-33), 3) := by decide +kernel
theorem dX4_bestTune_56 : decode cX4_bestTune 56 = .ok (.iload_n 3, 1) := by decide +kernel
theorem dX4_bestTune_57 : decode cX4_bestTune 57 = .ok (.ireturn, 1) := by decide +kernel
theorem dX4_hurtWithout_0 : decode cX4_hurtWithout 0 = .ok (.aload_n 0, 1) := by decide +kernel
theorem dX4_hurtWithout_1 : decode cX4_hurtWithout 1 = .ok (.iload_n 1, 1) := by decide +kernel
theorem dX4_hurtWithout_2 : decode cX4_hurtWithout 2 = .ok (.putfield 205, 3) := by decide +kernel
theorem dX4_hurtWithout_5 : decode cX4_hurtWithout 5 = .ok (.aload_n 0, 1) := by decide +kernel
theorem dX4_hurtWithout_6 : decode cX4_hurtWithout 6 = .ok (.iload_n 2, 1) := by decide +kernel
theorem dX4_hurtWithout_7 : decode cX4_hurtWithout 7 = .ok (.invokevirtual 227, 3) := by decide +kernel
theorem dX4_hurtWithout_10 : decode cX4_hurtWithout 10 = .ok (.aload_n 0, 1) := by decide +kernel
theorem dX4_hurtWithout_11 : decode cX4_hurtWithout 11 = .ok (.iconst 0, 1) := by decide +kernel
theorem dX4_hurtWithout_12 : decode cX4_hurtWithout 12 = .ok (.putfield 205, 3) := by decide +kernel
theorem dX4_hurtWithout_15 : decode cX4_hurtWithout 15 = .ok (.aload_n 0, 1) := by decide +kernel
theorem dX4_hurtWithout_16 : decode cX4_hurtWithout 16 = .ok (.getfield 55, 3) := by decide +kernel
theorem dX4_hurtWithout_19 : decode cX4_hurtWithout 19 = .ok (.iconst 0, 1) := by decide +kernel
theorem dX4_hurtWithout_20 : decode cX4_hurtWithout 20 = .ok (.iaload, 1) := by decide +kernel
theorem dX4_hurtWithout_21 : decode cX4_hurtWithout 21 = .ok (.ireturn, 1) := by decide +kernel
theorem dX4_worst_0 : decode cX4_worst 0 = .ok (.iload_n 1, 1) := by decide +kernel
theorem dX4_worst_1 : decode cX4_worst 1 = .ok (.invokestatic 224, 3) := by decide +kernel
theorem dX4_worst_4 : decode cX4_worst 4 = .ok (.istore_n 2, 1) := by decide +kernel
theorem dX4_worst_5 : decode cX4_worst 5 = .ok (.iload_n 2, 1) := by decide +kernel
theorem dX4_worst_6 : decode cX4_worst 6 = .ok (.ifCond .eq 9, 3) := by decide +kernel
theorem dX4_worst_9 : decode cX4_worst 9 = .ok (.aload_n 0, 1) := by decide +kernel
theorem dX4_worst_10 : decode cX4_worst 10 = .ok (.iload_n 2, 1) := by decide +kernel
theorem dX4_worst_11 : decode cX4_worst 11 = .ok (.invokevirtual 85, 3) := by decide +kernel
theorem dX4_worst_14 : decode cX4_worst 14 = .ok (.ireturn, 1) := by decide +kernel
theorem dX4_worst_15 : decode cX4_worst 15 = .ok (.aload_n 0, 1) := by decide +kernel
theorem dX4_worst_16 : decode cX4_worst 16 = .ok (.iconst 0, 1) := by decide +kernel
theorem dX4_worst_17 : decode cX4_worst 17 = .ok (.iload_n 1, 1) := by decide +kernel
theorem dX4_worst_18 : decode cX4_worst 18 = .ok (.invokevirtual 252, 3) := by decide +kernel
theorem dX4_worst_21 : decode cX4_worst 21 = .ok (.istore_n 3, 1) := by decide +kernel
theorem dX4_worst_22 : decode cX4_worst 22 = .ok (.bipush (-9), 2) := by decide +kernel
theorem dX4_worst_24 : decode cX4_worst 24 = .ok (.istore 4, 2) := by decide +kernel
theorem dX4_worst_26 : decode cX4_worst 26 = .ok (.iconst 0, 1) := by decide +kernel
theorem dX4_worst_27 : decode cX4_worst 27 = .ok (.istore 5, 2) := by decide +kernel
theorem dX4_worst_29 : decode cX4_worst 29 = .ok (.iload 5, 2) := by decide +kernel
theorem dX4_worst_31 : decode cX4_worst 31 = .ok (.aload_n 0, 1) := by decide +kernel
theorem dX4_worst_32 : decode cX4_worst 32 = .ok (.getfield 70, 3) := by decide +kernel
theorem dX4_worst_35 : decode cX4_worst 35 = .ok (.if_icmp .ge 36, 3) := by decide +kernel
theorem dX4_worst_38 : decode cX4_worst 38 = .ok (.aload_n 0, 1) := by decide +kernel
theorem dX4_worst_39 : decode cX4_worst 39 = .ok (.iconst 1, 1) := by decide +kernel
theorem dX4_worst_40 : decode cX4_worst 40 = .ok (.iload 5, 2) := by decide +kernel
theorem dX4_worst_42 : decode cX4_worst 42 = .ok (.ishl, 1) := by decide +kernel
theorem dX4_worst_43 : decode cX4_worst 43 = .ok (.iload_n 1, 1) := by decide +kernel
theorem dX4_worst_44 : decode cX4_worst 44 = .ok (.invokevirtual 252, 3) := by decide +kernel
theorem dX4_worst_47 : decode cX4_worst 47 = .ok (.istore 6, 2) := by decide +kernel
theorem dX4_worst_49 : decode cX4_worst 49 = .ok (.iload 6, 2) := by decide +kernel
theorem dX4_worst_51 : decode cX4_worst 51 = .ok (.iload_n 3, 1) := by decide +kernel
theorem dX4_worst_52 : decode cX4_worst 52 = .ok (.if_icmp .lt 6, 3) := by decide +kernel
theorem dX4_worst_55 : decode cX4_worst 55 = .ok (.goto 10, 3) := by decide +kernel
theorem dX4_worst_58 : decode cX4_worst 58 = .ok (.iload 5, 2) := by decide +kernel
theorem dX4_worst_60 : decode cX4_worst 60 = .ok (.istore 4, 2) := by decide +kernel
theorem dX4_worst_62 : decode cX4_worst 62 = .ok (.iload 6, 2) := by decide +kernel
theorem dX4_worst_64 : decode cX4_worst 64 = .ok (.istore_n 3, 1) := by decide +kernel
theorem dX4_worst_65 : decode cX4_worst 65 = .ok (.iinc 5 1, 3) := by decide +kernel
theorem dX4_worst_68 : decode cX4_worst 68 = .ok (.goto (-39), 3) := by decide +kernel
theorem dX4_worst_71 : decode cX4_worst 71 = .ok (.iload 4, 2) := by decide +kernel
theorem dX4_worst_73 : decode cX4_worst 73 = .ok (.ireturn, 1) := by decide +kernel
theorem dX4_answersAt_0 : decode cX4_answersAt 0 = .ok (.aload_n 0, 1) := by decide +kernel
theorem dX4_answersAt_1 : decode cX4_answersAt 1 = .ok (.getfield 31, 3) := by decide +kernel
theorem dX4_answersAt_4 : decode cX4_answersAt 4 = .ok (.iload_n 1, 1) := by decide +kernel
theorem dX4_answersAt_5 : decode cX4_answersAt 5 = .ok (.iaload, 1) := by decide +kernel
theorem dX4_answersAt_6 : decode cX4_answersAt 6 = .ok (.istore 4, 2) := by decide +kernel
theorem dX4_answersAt_8 : decode cX4_answersAt 8 = .ok (.aload_n 0, 1) := by decide +kernel
theorem dX4_answersAt_9 : decode cX4_answersAt 9 = .ok (.getfield 31, 3) := by decide +kernel
theorem dX4_answersAt_12 : decode cX4_answersAt 12 = .ok (.iload_n 1, 1) := by decide +kernel
theorem dX4_answersAt_13 : decode cX4_answersAt 13 = .ok (.iload_n 2, 1) := by decide +kernel
theorem dX4_answersAt_14 : decode cX4_answersAt 14 = .ok (.iastore, 1) := by decide +kernel
theorem dX4_answersAt_15 : decode cX4_answersAt 15 = .ok (.aload_n 0, 1) := by decide +kernel
theorem dX4_answersAt_16 : decode cX4_answersAt 16 = .ok (.iload_n 3, 1) := by decide +kernel
theorem dX4_answersAt_17 : decode cX4_answersAt 17 = .ok (.invokevirtual 245, 3) := by decide +kernel
theorem dX4_answersAt_20 : decode cX4_answersAt 20 = .ok (.istore 5, 2) := by decide +kernel
theorem dX4_answersAt_22 : decode cX4_answersAt 22 = .ok (.aload_n 0, 1) := by decide +kernel
theorem dX4_answersAt_23 : decode cX4_answersAt 23 = .ok (.getfield 31, 3) := by decide +kernel
theorem dX4_answersAt_26 : decode cX4_answersAt 26 = .ok (.iload_n 1, 1) := by decide +kernel
theorem dX4_answersAt_27 : decode cX4_answersAt 27 = .ok (.iload 4, 2) := by decide +kernel
theorem dX4_answersAt_29 : decode cX4_answersAt 29 = .ok (.iastore, 1) := by decide +kernel
theorem dX4_answersAt_30 : decode cX4_answersAt 30 = .ok (.iload 5, 2) := by decide +kernel
theorem dX4_answersAt_32 : decode cX4_answersAt 32 = .ok (.ireturn, 1) := by decide +kernel
theorem dX4_bestHour_0 : decode cX4_bestHour 0 = .ok (.aload_n 0, 1) := by decide +kernel
theorem dX4_bestHour_1 : decode cX4_bestHour 1 = .ok (.iload_n 1, 1) := by decide +kernel
theorem dX4_bestHour_2 : decode cX4_bestHour 2 = .ok (.invokevirtual 128, 3) := by decide +kernel
theorem dX4_bestHour_5 : decode cX4_bestHour 5 = .ok (.ifCond .ne 7, 3) := by decide +kernel
theorem dX4_bestHour_8 : decode cX4_bestHour 8 = .ok (.iconst (-1), 1) := by decide +kernel
theorem dX4_bestHour_9 : decode cX4_bestHour 9 = .ok (.goto 7, 3) := by decide +kernel
theorem dX4_bestHour_12 : decode cX4_bestHour 12 = .ok (.iload_n 2, 1) := by decide +kernel
theorem dX4_bestHour_13 : decode cX4_bestHour 13 = .ok (.invokestatic 224, 3) := by decide +kernel
theorem dX4_bestHour_16 : decode cX4_bestHour 16 = .ok (.istore_n 3, 1) := by decide +kernel
theorem dX4_bestHour_17 : decode cX4_bestHour 17 = .ok (.iload_n 3, 1) := by decide +kernel
theorem dX4_bestHour_18 : decode cX4_bestHour 18 = .ok (.ifCond .eq 9, 3) := by decide +kernel
theorem dX4_bestHour_21 : decode cX4_bestHour 21 = .ok (.aload_n 0, 1) := by decide +kernel
theorem dX4_bestHour_22 : decode cX4_bestHour 22 = .ok (.iload_n 3, 1) := by decide +kernel
theorem dX4_bestHour_23 : decode cX4_bestHour 23 = .ok (.invokevirtual 85, 3) := by decide +kernel
theorem dX4_bestHour_26 : decode cX4_bestHour 26 = .ok (.ireturn, 1) := by decide +kernel
theorem dX4_bestHour_27 : decode cX4_bestHour 27 = .ok (.iconst 0, 1) := by decide +kernel
theorem dX4_bestHour_28 : decode cX4_bestHour 28 = .ok (.istore 4, 2) := by decide +kernel
theorem dX4_bestHour_30 : decode cX4_bestHour 30 = .ok (.iconst 1, 1) := by decide +kernel
theorem dX4_bestHour_31 : decode cX4_bestHour 31 = .ok (.istore 5, 2) := by decide +kernel
theorem dX4_bestHour_33 : decode cX4_bestHour 33 = .ok (.iload 5, 2) := by decide +kernel
theorem dX4_bestHour_35 : decode cX4_bestHour 35 = .ok (.bipush 24, 2) := by decide +kernel
theorem dX4_bestHour_37 : decode cX4_bestHour 37 = .ok (.if_icmp .ge 37, 3) := by decide +kernel
theorem dX4_bestHour_40 : decode cX4_bestHour 40 = .ok (.aload_n 0, 1) := by decide +kernel
theorem dX4_bestHour_41 : decode cX4_bestHour 41 = .ok (.iload_n 1, 1) := by decide +kernel
theorem dX4_bestHour_42 : decode cX4_bestHour 42 = .ok (.iload 5, 2) := by decide +kernel
theorem dX4_bestHour_44 : decode cX4_bestHour 44 = .ok (.iload_n 2, 1) := by decide +kernel
theorem dX4_bestHour_45 : decode cX4_bestHour 45 = .ok (.invokevirtual 255, 3) := by decide +kernel
theorem dX4_bestHour_48 : decode cX4_bestHour 48 = .ok (.aload_n 0, 1) := by decide +kernel
theorem dX4_bestHour_49 : decode cX4_bestHour 49 = .ok (.iload_n 1, 1) := by decide +kernel
theorem dX4_bestHour_50 : decode cX4_bestHour 50 = .ok (.iload 4, 2) := by decide +kernel
theorem dX4_bestHour_52 : decode cX4_bestHour 52 = .ok (.iload_n 2, 1) := by decide +kernel
theorem dX4_bestHour_53 : decode cX4_bestHour 53 = .ok (.invokevirtual 255, 3) := by decide +kernel
theorem dX4_bestHour_56 : decode cX4_bestHour 56 = .ok (.if_icmp .le 8, 3) := by decide +kernel
theorem dX4_bestHour_59 : decode cX4_bestHour 59 = .ok (.iload 5, 2) := by decide +kernel
theorem dX4_bestHour_61 : decode cX4_bestHour 61 = .ok (.goto 5, 3) := by decide +kernel
theorem dX4_bestHour_64 : decode cX4_bestHour 64 = .ok (.iload 4, 2) := by decide +kernel
theorem dX4_bestHour_66 : decode cX4_bestHour 66 = .ok (.istore 4, 2) := by decide +kernel
theorem dX4_bestHour_68 : decode cX4_bestHour 68 = .ok (.iinc 5 1, 3) := by decide +kernel
theorem dX4_bestHour_71 : decode cX4_bestHour 71 = .ok (.goto (-38), 3) := by decide +kernel
theorem dX4_bestHour_74 : decode cX4_bestHour 74 = .ok (.iload 4, 2) := by decide +kernel
theorem dX4_bestHour_76 : decode cX4_bestHour 76 = .ok (.ireturn, 1) := by decide +kernel
theorem dX4_staysAwake_0 : decode cX4_staysAwake 0 = .ok (.aload_n 0, 1) := by decide +kernel
theorem dX4_staysAwake_1 : decode cX4_staysAwake 1 = .ok (.iconst 1, 1) := by decide +kernel
theorem dX4_staysAwake_2 : decode cX4_staysAwake 2 = .ok (.iconst 1, 1) := by decide +kernel
theorem dX4_staysAwake_3 : decode cX4_staysAwake 3 = .ok (.invokevirtual 141, 3) := by decide +kernel
theorem dX4_staysAwake_6 : decode cX4_staysAwake 6 = .ok (.aload_n 0, 1) := by decide +kernel
theorem dX4_staysAwake_7 : decode cX4_staysAwake 7 = .ok (.iload_n 1, 1) := by decide +kernel
theorem dX4_staysAwake_8 : decode cX4_staysAwake 8 = .ok (.putfield 205, 3) := by decide +kernel
theorem dX4_staysAwake_11 : decode cX4_staysAwake 11 = .ok (.iconst 1, 1) := by decide +kernel
theorem dX4_staysAwake_12 : decode cX4_staysAwake 12 = .ok (.istore_n 3, 1) := by decide +kernel
theorem dX4_staysAwake_13 : decode cX4_staysAwake 13 = .ok (.iconst 0, 1) := by decide +kernel
theorem dX4_staysAwake_14 : decode cX4_staysAwake 14 = .ok (.istore 4, 2) := by decide +kernel
theorem dX4_staysAwake_16 : decode cX4_staysAwake 16 = .ok (.iload 4, 2) := by decide +kernel
theorem dX4_staysAwake_18 : decode cX4_staysAwake 18 = .ok (.iload_n 2, 1) := by decide +kernel
theorem dX4_staysAwake_19 : decode cX4_staysAwake 19 = .ok (.if_icmp .ge 30, 3) := by decide +kernel
theorem dX4_staysAwake_22 : decode cX4_staysAwake 22 = .ok (.iload_n 3, 1) := by decide +kernel
theorem dX4_staysAwake_23 : decode cX4_staysAwake 23 = .ok (.ifCond .eq 26, 3) := by decide +kernel
theorem dX4_staysAwake_26 : decode cX4_staysAwake 26 = .ok (.aload_n 0, 1) := by decide +kernel
theorem dX4_staysAwake_27 : decode cX4_staysAwake 27 = .ok (.invokevirtual 218, 3) := by decide +kernel
theorem dX4_staysAwake_30 : decode cX4_staysAwake 30 = .ok (.aload_n 0, 1) := by decide +kernel
theorem dX4_staysAwake_31 : decode cX4_staysAwake 31 = .ok (.invokevirtual 168, 3) := by decide +kernel
theorem dX4_staysAwake_34 : decode cX4_staysAwake 34 = .ok (.ifCond .ne 7, 3) := by decide +kernel
theorem dX4_staysAwake_37 : decode cX4_staysAwake 37 = .ok (.iconst 1, 1) := by decide +kernel
theorem dX4_staysAwake_38 : decode cX4_staysAwake 38 = .ok (.goto 4, 3) := by decide +kernel
theorem dX4_staysAwake_41 : decode cX4_staysAwake 41 = .ok (.iconst 0, 1) := by decide +kernel
theorem dX4_staysAwake_42 : decode cX4_staysAwake 42 = .ok (.istore_n 3, 1) := by decide +kernel
theorem dX4_staysAwake_43 : decode cX4_staysAwake 43 = .ok (.iinc 4 1, 3) := by decide +kernel
theorem dX4_staysAwake_46 : decode cX4_staysAwake 46 = .ok (.goto (-30), 3) := by decide +kernel
theorem dX4_staysAwake_49 : decode cX4_staysAwake 49 = .ok (.aload_n 0, 1) := by decide +kernel
theorem dX4_staysAwake_50 : decode cX4_staysAwake 50 = .ok (.iconst 0, 1) := by decide +kernel
theorem dX4_staysAwake_51 : decode cX4_staysAwake 51 = .ok (.putfield 205, 3) := by decide +kernel
theorem dX4_staysAwake_54 : decode cX4_staysAwake 54 = .ok (.aload_n 0, 1) := by decide +kernel
theorem dX4_staysAwake_55 : decode cX4_staysAwake 55 = .ok (.iconst 1, 1) := by decide +kernel
theorem dX4_staysAwake_56 : decode cX4_staysAwake 56 = .ok (.iconst 0, 1) := by decide +kernel
theorem dX4_staysAwake_57 : decode cX4_staysAwake 57 = .ok (.invokevirtual 141, 3) := by decide +kernel
theorem dX4_staysAwake_60 : decode cX4_staysAwake 60 = .ok (.iload_n 3, 1) := by decide +kernel
theorem dX4_staysAwake_61 : decode cX4_staysAwake 61 = .ok (.ireturn, 1) := by decide +kernel
theorem dX4_keepAway_0 : decode cX4_keepAway 0 = .ok (.iload_n 1, 1) := by decide +kernel
theorem dX4_keepAway_1 : decode cX4_keepAway 1 = .ok (.invokestatic 224, 3) := by decide +kernel
theorem dX4_keepAway_4 : decode cX4_keepAway 4 = .ok (.istore_n 3, 1) := by decide +kernel
theorem dX4_keepAway_5 : decode cX4_keepAway 5 = .ok (.iload_n 3, 1) := by decide +kernel
theorem dX4_keepAway_6 : decode cX4_keepAway 6 = .ok (.ifCond .ne 31, 3) := by decide +kernel
theorem dX4_keepAway_9 : decode cX4_keepAway 9 = .ok (.iload_n 2, 1) := by decide +kernel
theorem dX4_keepAway_10 : decode cX4_keepAway 10 = .ok (.iconst 0, 1) := by decide +kernel
theorem dX4_keepAway_11 : decode cX4_keepAway 11 = .ok (.iconst 1, 1) := by decide +kernel
theorem dX4_keepAway_12 : decode cX4_keepAway 12 = .ok (.invokestatic 74, 3) := by decide +kernel
theorem dX4_keepAway_15 : decode cX4_keepAway 15 = .ok (.ifCond .ne 8, 3) := by decide +kernel
theorem dX4_keepAway_18 : decode cX4_keepAway 18 = .ok (.bipush (-2), 2) := by decide +kernel
theorem dX4_keepAway_20 : decode cX4_keepAway 20 = .ok (.goto 16, 3) := by decide +kernel
theorem dX4_keepAway_23 : decode cX4_keepAway 23 = .ok (.aload_n 0, 1) := by decide +kernel
theorem dX4_keepAway_24 : decode cX4_keepAway 24 = .ok (.invokevirtual 168, 3) := by decide +kernel
theorem dX4_keepAway_27 : decode cX4_keepAway 27 = .ok (.ifCond .eq 8, 3) := by decide +kernel
theorem dX4_keepAway_30 : decode cX4_keepAway 30 = .ok (.bipush (-3), 2) := by decide +kernel
theorem dX4_keepAway_32 : decode cX4_keepAway 32 = .ok (.goto 4, 3) := by decide +kernel
theorem dX4_keepAway_35 : decode cX4_keepAway 35 = .ok (.iconst 0, 1) := by decide +kernel
theorem dX4_keepAway_36 : decode cX4_keepAway 36 = .ok (.istore_n 3, 1) := by decide +kernel
theorem dX4_keepAway_37 : decode cX4_keepAway 37 = .ok (.iload_n 3, 1) := by decide +kernel
theorem dX4_keepAway_38 : decode cX4_keepAway 38 = .ok (.ifCond .eq 9, 3) := by decide +kernel
theorem dX4_keepAway_41 : decode cX4_keepAway 41 = .ok (.aload_n 0, 1) := by decide +kernel
theorem dX4_keepAway_42 : decode cX4_keepAway 42 = .ok (.iload_n 3, 1) := by decide +kernel
theorem dX4_keepAway_43 : decode cX4_keepAway 43 = .ok (.invokevirtual 85, 3) := by decide +kernel
theorem dX4_keepAway_46 : decode cX4_keepAway 46 = .ok (.ireturn, 1) := by decide +kernel
theorem dX4_keepAway_47 : decode cX4_keepAway 47 = .ok (.bipush (-9), 2) := by decide +kernel
theorem dX4_keepAway_49 : decode cX4_keepAway 49 = .ok (.istore 4, 2) := by decide +kernel
theorem dX4_keepAway_51 : decode cX4_keepAway 51 = .ok (.iconst 0, 1) := by decide +kernel
theorem dX4_keepAway_52 : decode cX4_keepAway 52 = .ok (.istore 5, 2) := by decide +kernel
theorem dX4_keepAway_54 : decode cX4_keepAway 54 = .ok (.iload 5, 2) := by decide +kernel
theorem dX4_keepAway_56 : decode cX4_keepAway 56 = .ok (.iconst 1, 1) := by decide +kernel
theorem dX4_keepAway_57 : decode cX4_keepAway 57 = .ok (.aload_n 0, 1) := by decide +kernel
theorem dX4_keepAway_58 : decode cX4_keepAway 58 = .ok (.getfield 70, 3) := by decide +kernel
theorem dX4_keepAway_61 : decode cX4_keepAway 61 = .ok (.ishl, 1) := by decide +kernel
theorem dX4_keepAway_62 : decode cX4_keepAway 62 = .ok (.if_icmp .ge 41, 3) := by decide +kernel
theorem dX4_keepAway_65 : decode cX4_keepAway 65 = .ok (.iload 4, 2) := by decide +kernel
theorem dX4_keepAway_67 : decode cX4_keepAway 67 = .ok (.ifCond .lt 16, 3) := by decide +kernel
theorem dX4_keepAway_70 : decode cX4_keepAway 70 = .ok (.iload 5, 2) := by decide +kernel
theorem dX4_keepAway_72 : decode cX4_keepAway 72 = .ok (.invokestatic 258, 3) := by decide +kernel
theorem dX4_keepAway_75 : decode cX4_keepAway 75 = .ok (.iload 4, 2) := by decide +kernel
theorem dX4_keepAway_77 : decode cX4_keepAway 77 = .ok (.invokestatic 258, 3) := by decide +kernel
theorem dX4_keepAway_80 : decode cX4_keepAway 80 = .ok (.if_icmp .ge 17, 3) := by decide +kernel
theorem dX4_keepAway_83 : decode cX4_keepAway 83 = .ok (.aload_n 0, 1) := by decide +kernel
theorem dX4_keepAway_84 : decode cX4_keepAway 84 = .ok (.iload 5, 2) := by decide +kernel
theorem dX4_keepAway_86 : decode cX4_keepAway 86 = .ok (.iload_n 1, 1) := by decide +kernel
theorem dX4_keepAway_87 : decode cX4_keepAway 87 = .ok (.invokevirtual 261, 3) := by decide +kernel
theorem dX4_keepAway_90 : decode cX4_keepAway 90 = .ok (.ifCond .eq 7, 3) := by decide +kernel
theorem dX4_keepAway_93 : decode cX4_keepAway 93 = .ok (.iload 5, 2) := by decide +kernel
theorem dX4_keepAway_95 : decode cX4_keepAway 95 = .ok (.istore 4, 2) := by decide +kernel
theorem dX4_keepAway_97 : decode cX4_keepAway 97 = .ok (.iinc 5 1, 3) := by decide +kernel
theorem dX4_keepAway_100 : decode cX4_keepAway 100 = .ok (.goto (-46), 3) := by decide +kernel
theorem dX4_keepAway_103 : decode cX4_keepAway 103 = .ok (.iload_n 2, 1) := by decide +kernel
theorem dX4_keepAway_104 : decode cX4_keepAway 104 = .ok (.ifCond .eq 8, 3) := by decide +kernel
theorem dX4_keepAway_107 : decode cX4_keepAway 107 = .ok (.iload 4, 2) := by decide +kernel
theorem dX4_keepAway_109 : decode cX4_keepAway 109 = .ok (.ifCond .ge 8, 3) := by decide +kernel
theorem dX4_keepAway_112 : decode cX4_keepAway 112 = .ok (.iload 4, 2) := by decide +kernel
theorem dX4_keepAway_114 : decode cX4_keepAway 114 = .ok (.goto 8, 3) := by decide +kernel
theorem dX4_keepAway_117 : decode cX4_keepAway 117 = .ok (.iload 4, 2) := by decide +kernel
theorem dX4_keepAway_119 : decode cX4_keepAway 119 = .ok (.invokestatic 258, 3) := by decide +kernel
theorem dX4_keepAway_122 : decode cX4_keepAway 122 = .ok (.ireturn, 1) := by decide +kernel
theorem dX4_might_0 : decode cX4_might 0 = .ok (.iload_n 1, 1) := by decide +kernel
theorem dX4_might_1 : decode cX4_might 1 = .ok (.invokestatic 224, 3) := by decide +kernel
theorem dX4_might_4 : decode cX4_might 4 = .ok (.istore_n 2, 1) := by decide +kernel
theorem dX4_might_5 : decode cX4_might 5 = .ok (.iload_n 2, 1) := by decide +kernel
theorem dX4_might_6 : decode cX4_might 6 = .ok (.ifCond .eq 9, 3) := by decide +kernel
theorem dX4_might_9 : decode cX4_might 9 = .ok (.aload_n 0, 1) := by decide +kernel
theorem dX4_might_10 : decode cX4_might 10 = .ok (.iload_n 2, 1) := by decide +kernel
theorem dX4_might_11 : decode cX4_might 11 = .ok (.invokevirtual 85, 3) := by decide +kernel
theorem dX4_might_14 : decode cX4_might 14 = .ok (.ireturn, 1) := by decide +kernel
theorem dX4_might_15 : decode cX4_might 15 = .ok (.aload_n 0, 1) := by decide +kernel
theorem dX4_might_16 : decode cX4_might 16 = .ok (.iload_n 1, 1) := by decide +kernel
theorem dX4_might_17 : decode cX4_might 17 = .ok (.invokevirtual 227, 3) := by decide +kernel
theorem dX4_might_20 : decode cX4_might 20 = .ok (.aload_n 0, 1) := by decide +kernel
theorem dX4_might_21 : decode cX4_might 21 = .ok (.getfield 180, 3) := by decide +kernel
theorem dX4_might_24 : decode cX4_might 24 = .ok (.ireturn, 1) := by decide +kernel
theorem dX4_never_0 : decode cX4_never 0 = .ok (.iconst 0, 1) := by decide +kernel
theorem dX4_never_1 : decode cX4_never 1 = .ok (.istore_n 1, 1) := by decide +kernel
theorem dX4_never_2 : decode cX4_never 2 = .ok (.iconst 0, 1) := by decide +kernel
theorem dX4_never_3 : decode cX4_never 3 = .ok (.istore_n 2, 1) := by decide +kernel
theorem dX4_never_4 : decode cX4_never 4 = .ok (.iload_n 2, 1) := by decide +kernel
theorem dX4_never_5 : decode cX4_never 5 = .ok (.bipush 8, 2) := by decide +kernel
theorem dX4_never_7 : decode cX4_never 7 = .ok (.if_icmp .ge 28, 3) := by decide +kernel
theorem dX4_never_10 : decode cX4_never 10 = .ok (.iload_n 1, 1) := by decide +kernel
theorem dX4_never_11 : decode cX4_never 11 = .ok (.aload_n 0, 1) := by decide +kernel
theorem dX4_never_12 : decode cX4_never 12 = .ok (.getfield 13, 3) := by decide +kernel
theorem dX4_never_15 : decode cX4_never 15 = .ok (.iload_n 2, 1) := by decide +kernel
theorem dX4_never_16 : decode cX4_never 16 = .ok (.iaload, 1) := by decide +kernel
theorem dX4_never_17 : decode cX4_never 17 = .ok (.ifCond .ne 9, 3) := by decide +kernel
theorem dX4_never_20 : decode cX4_never 20 = .ok (.iconst 1, 1) := by decide +kernel
theorem dX4_never_21 : decode cX4_never 21 = .ok (.iload_n 2, 1) := by decide +kernel
theorem dX4_never_22 : decode cX4_never 22 = .ok (.ishl, 1) := by decide +kernel
theorem dX4_never_23 : decode cX4_never 23 = .ok (.goto 4, 3) := by decide +kernel
theorem dX4_never_26 : decode cX4_never 26 = .ok (.iconst 0, 1) := by decide +kernel
theorem dX4_never_27 : decode cX4_never 27 = .ok (.ior, 1) := by decide +kernel
theorem dX4_never_28 : decode cX4_never 28 = .ok (.istore_n 1, 1) := by decide +kernel
theorem dX4_never_29 : decode cX4_never 29 = .ok (.iinc 2 1, 3) := by decide +kernel
theorem dX4_never_32 : decode cX4_never 32 = .ok (.goto (-28), 3) := by decide +kernel
theorem dX4_never_35 : decode cX4_never 35 = .ok (.iconst 0, 1) := by decide +kernel
theorem dX4_never_36 : decode cX4_never 36 = .ok (.istore_n 2, 1) := by decide +kernel
theorem dX4_never_37 : decode cX4_never 37 = .ok (.iload_n 2, 1) := by decide +kernel
theorem dX4_never_38 : decode cX4_never 38 = .ok (.aload_n 0, 1) := by decide +kernel
theorem dX4_never_39 : decode cX4_never 39 = .ok (.getfield 70, 3) := by decide +kernel
theorem dX4_never_42 : decode cX4_never 42 = .ok (.if_icmp .ge 22, 3) := by decide +kernel
theorem dX4_never_45 : decode cX4_never 45 = .ok (.iload_n 1, 1) := by decide +kernel
theorem dX4_never_46 : decode cX4_never 46 = .ok (.iconst 1, 1) := by decide +kernel
theorem dX4_never_47 : decode cX4_never 47 = .ok (.aload_n 0, 1) := by decide +kernel
theorem dX4_never_48 : decode cX4_never 48 = .ok (.getfield 28, 3) := by decide +kernel
theorem dX4_never_51 : decode cX4_never 51 = .ok (.iload_n 2, 1) := by decide +kernel
theorem dX4_never_52 : decode cX4_never 52 = .ok (.iaload, 1) := by decide +kernel
theorem dX4_never_53 : decode cX4_never 53 = .ok (.ishl, 1) := by decide +kernel
theorem dX4_never_54 : decode cX4_never 54 = .ok (.iconst (-1), 1) := by decide +kernel
theorem dX4_never_55 : decode cX4_never 55 = .ok (.ixor, 1) := by decide +kernel
theorem dX4_never_56 : decode cX4_never 56 = .ok (.iand, 1) := by decide +kernel
theorem dX4_never_57 : decode cX4_never 57 = .ok (.istore_n 1, 1) := by decide +kernel
theorem dX4_never_58 : decode cX4_never 58 = .ok (.iinc 2 1, 3) := by decide +kernel
theorem dX4_never_61 : decode cX4_never 61 = .ok (.goto (-24), 3) := by decide +kernel
theorem dX4_never_64 : decode cX4_never 64 = .ok (.iload_n 1, 1) := by decide +kernel
theorem dX4_never_65 : decode cX4_never 65 = .ok (.ireturn, 1) := by decide +kernel
theorem dX4_whose_0 : decode cX4_whose 0 = .ok (.iload_n 1, 1) := by decide +kernel
theorem dX4_whose_1 : decode cX4_whose 1 = .ok (.invokestatic 116, 3) := by decide +kernel
theorem dX4_whose_4 : decode cX4_whose 4 = .ok (.ifCond .ne 9, 3) := by decide +kernel
theorem dX4_whose_7 : decode cX4_whose 7 = .ok (.aload_n 0, 1) := by decide +kernel
theorem dX4_whose_8 : decode cX4_whose 8 = .ok (.iconst (-1), 1) := by decide +kernel
theorem dX4_whose_9 : decode cX4_whose 9 = .ok (.invokevirtual 85, 3) := by decide +kernel
theorem dX4_whose_12 : decode cX4_whose 12 = .ok (.ireturn, 1) := by decide +kernel
theorem dX4_whose_13 : decode cX4_whose 13 = .ok (.iconst 0, 1) := by decide +kernel
theorem dX4_whose_14 : decode cX4_whose 14 = .ok (.istore_n 2, 1) := by decide +kernel
theorem dX4_whose_15 : decode cX4_whose 15 = .ok (.iconst 0, 1) := by decide +kernel
theorem dX4_whose_16 : decode cX4_whose 16 = .ok (.istore_n 3, 1) := by decide +kernel
theorem dX4_whose_17 : decode cX4_whose 17 = .ok (.iload_n 3, 1) := by decide +kernel
theorem dX4_whose_18 : decode cX4_whose 18 = .ok (.aload_n 0, 1) := by decide +kernel
theorem dX4_whose_19 : decode cX4_whose 19 = .ok (.getfield 70, 3) := by decide +kernel
theorem dX4_whose_22 : decode cX4_whose 22 = .ok (.if_icmp .ge 36, 3) := by decide +kernel
theorem dX4_whose_25 : decode cX4_whose 25 = .ok (.iload_n 2, 1) := by decide +kernel
theorem dX4_whose_26 : decode cX4_whose 26 = .ok (.aload_n 0, 1) := by decide +kernel
theorem dX4_whose_27 : decode cX4_whose 27 = .ok (.iload_n 3, 1) := by decide +kernel
theorem dX4_whose_28 : decode cX4_whose 28 = .ok (.invokevirtual 186, 3) := by decide +kernel
theorem dX4_whose_31 : decode cX4_whose 31 = .ok (.ifCond .eq 18, 3) := by decide +kernel
theorem dX4_whose_34 : decode cX4_whose 34 = .ok (.aload_n 0, 1) := by decide +kernel
theorem dX4_whose_35 : decode cX4_whose 35 = .ok (.iload_n 3, 1) := by decide +kernel
theorem dX4_whose_36 : decode cX4_whose 36 = .ok (.invokevirtual 199, 3) := by decide +kernel
theorem dX4_whose_39 : decode cX4_whose 39 = .ok (.iload_n 1, 1) := by decide +kernel
theorem dX4_whose_40 : decode cX4_whose 40 = .ok (.if_icmp .ne 9, 3) := by decide +kernel
theorem dX4_whose_43 : decode cX4_whose 43 = .ok (.iconst 1, 1) := by decide +kernel
theorem dX4_whose_44 : decode cX4_whose 44 = .ok (.iload_n 3, 1) := by decide +kernel
theorem dX4_whose_45 : decode cX4_whose 45 = .ok (.ishl, 1) := by decide +kernel
theorem dX4_whose_46 : decode cX4_whose 46 = .ok (.goto 4, 3) := by decide +kernel
theorem dX4_whose_49 : decode cX4_whose 49 = .ok (.iconst 0, 1) := by decide +kernel
theorem dX4_whose_50 : decode cX4_whose 50 = .ok (.ior, 1) := by decide +kernel
theorem dX4_whose_51 : decode cX4_whose 51 = .ok (.istore_n 2, 1) := by decide +kernel
theorem dX4_whose_52 : decode cX4_whose 52 = .ok (.iinc 3 1, 3) := by decide +kernel
theorem dX4_whose_55 : decode cX4_whose 55 = .ok (.goto (-38), 3) := by decide +kernel
theorem dX4_whose_58 : decode cX4_whose 58 = .ok (.iload_n 2, 1) := by decide +kernel
theorem dX4_whose_59 : decode cX4_whose 59 = .ok (.ireturn, 1) := by decide +kernel
theorem dX4_alikeMany_0 : decode cX4_alikeMany 0 = .ok (.iconst 0, 1) := by decide +kernel
theorem dX4_alikeMany_1 : decode cX4_alikeMany 1 = .ok (.istore_n 2, 1) := by decide +kernel
theorem dX4_alikeMany_2 : decode cX4_alikeMany 2 = .ok (.iconst 0, 1) := by decide +kernel
theorem dX4_alikeMany_3 : decode cX4_alikeMany 3 = .ok (.istore_n 3, 1) := by decide +kernel
theorem dX4_alikeMany_4 : decode cX4_alikeMany 4 = .ok (.iload_n 3, 1) := by decide +kernel
theorem dX4_alikeMany_5 : decode cX4_alikeMany 5 = .ok (.aload_n 0, 1) := by decide +kernel
theorem dX4_alikeMany_6 : decode cX4_alikeMany 6 = .ok (.getfield 70, 3) := by decide +kernel
theorem dX4_alikeMany_9 : decode cX4_alikeMany 9 = .ok (.if_icmp .ge 38, 3) := by decide +kernel
theorem dX4_alikeMany_12 : decode cX4_alikeMany 12 = .ok (.iload_n 2, 1) := by decide +kernel
theorem dX4_alikeMany_13 : decode cX4_alikeMany 13 = .ok (.aload_n 0, 1) := by decide +kernel
theorem dX4_alikeMany_14 : decode cX4_alikeMany 14 = .ok (.iload_n 3, 1) := by decide +kernel
theorem dX4_alikeMany_15 : decode cX4_alikeMany 15 = .ok (.invokevirtual 186, 3) := by decide +kernel
theorem dX4_alikeMany_18 : decode cX4_alikeMany 18 = .ok (.ifCond .eq 20, 3) := by decide +kernel
theorem dX4_alikeMany_21 : decode cX4_alikeMany 21 = .ok (.aload_n 0, 1) := by decide +kernel
theorem dX4_alikeMany_22 : decode cX4_alikeMany 22 = .ok (.iload_n 3, 1) := by decide +kernel
theorem dX4_alikeMany_23 : decode cX4_alikeMany 23 = .ok (.invokevirtual 199, 3) := by decide +kernel
theorem dX4_alikeMany_26 : decode cX4_alikeMany 26 = .ok (.aload_n 0, 1) := by decide +kernel
theorem dX4_alikeMany_27 : decode cX4_alikeMany 27 = .ok (.iload_n 1, 1) := by decide +kernel
theorem dX4_alikeMany_28 : decode cX4_alikeMany 28 = .ok (.invokevirtual 199, 3) := by decide +kernel
theorem dX4_alikeMany_31 : decode cX4_alikeMany 31 = .ok (.if_icmp .ne 7, 3) := by decide +kernel
theorem dX4_alikeMany_34 : decode cX4_alikeMany 34 = .ok (.iconst 1, 1) := by decide +kernel
theorem dX4_alikeMany_35 : decode cX4_alikeMany 35 = .ok (.goto 4, 3) := by decide +kernel
theorem dX4_alikeMany_38 : decode cX4_alikeMany 38 = .ok (.iconst 0, 1) := by decide +kernel
theorem dX4_alikeMany_39 : decode cX4_alikeMany 39 = .ok (.iadd, 1) := by decide +kernel
theorem dX4_alikeMany_40 : decode cX4_alikeMany 40 = .ok (.istore_n 2, 1) := by decide +kernel
theorem dX4_alikeMany_41 : decode cX4_alikeMany 41 = .ok (.iinc 3 1, 3) := by decide +kernel
theorem dX4_alikeMany_44 : decode cX4_alikeMany 44 = .ok (.goto (-40), 3) := by decide +kernel
theorem dX4_alikeMany_47 : decode cX4_alikeMany 47 = .ok (.iload_n 2, 1) := by decide +kernel
theorem dX4_alikeMany_48 : decode cX4_alikeMany 48 = .ok (.ireturn, 1) := by decide +kernel
theorem dX4_tellsMost_0 : decode cX4_tellsMost 0 = .ok (.bipush (-9), 2) := by decide +kernel
theorem dX4_tellsMost_2 : decode cX4_tellsMost 2 = .ok (.istore_n 1, 1) := by decide +kernel
theorem dX4_tellsMost_3 : decode cX4_tellsMost 3 = .ok (.iconst 0, 1) := by decide +kernel
theorem dX4_tellsMost_4 : decode cX4_tellsMost 4 = .ok (.istore_n 2, 1) := by decide +kernel
theorem dX4_tellsMost_5 : decode cX4_tellsMost 5 = .ok (.iload_n 2, 1) := by decide +kernel
theorem dX4_tellsMost_6 : decode cX4_tellsMost 6 = .ok (.aload_n 0, 1) := by decide +kernel
theorem dX4_tellsMost_7 : decode cX4_tellsMost 7 = .ok (.getfield 70, 3) := by decide +kernel
theorem dX4_tellsMost_10 : decode cX4_tellsMost 10 = .ok (.if_icmp .ge 36, 3) := by decide +kernel
theorem dX4_tellsMost_13 : decode cX4_tellsMost 13 = .ok (.aload_n 0, 1) := by decide +kernel
theorem dX4_tellsMost_14 : decode cX4_tellsMost 14 = .ok (.iload_n 2, 1) := by decide +kernel
theorem dX4_tellsMost_15 : decode cX4_tellsMost 15 = .ok (.invokevirtual 186, 3) := by decide +kernel
theorem dX4_tellsMost_18 : decode cX4_tellsMost 18 = .ok (.ifCond .eq 22, 3) := by decide +kernel
theorem dX4_tellsMost_21 : decode cX4_tellsMost 21 = .ok (.iload_n 1, 1) := by decide +kernel
theorem dX4_tellsMost_22 : decode cX4_tellsMost 22 = .ok (.ifCond .lt 16, 3) := by decide +kernel
theorem dX4_tellsMost_25 : decode cX4_tellsMost 25 = .ok (.aload_n 0, 1) := by decide +kernel
theorem dX4_tellsMost_26 : decode cX4_tellsMost 26 = .ok (.iload_n 2, 1) := by decide +kernel
theorem dX4_tellsMost_27 : decode cX4_tellsMost 27 = .ok (.invokevirtual 264, 3) := by decide +kernel
theorem dX4_tellsMost_30 : decode cX4_tellsMost 30 = .ok (.aload_n 0, 1) := by decide +kernel
theorem dX4_tellsMost_31 : decode cX4_tellsMost 31 = .ok (.iload_n 1, 1) := by decide +kernel
theorem dX4_tellsMost_32 : decode cX4_tellsMost 32 = .ok (.invokevirtual 264, 3) := by decide +kernel
theorem dX4_tellsMost_35 : decode cX4_tellsMost 35 = .ok (.if_icmp .ge 5, 3) := by decide +kernel
theorem dX4_tellsMost_38 : decode cX4_tellsMost 38 = .ok (.iload_n 2, 1) := by decide +kernel
theorem dX4_tellsMost_39 : decode cX4_tellsMost 39 = .ok (.istore_n 1, 1) := by decide +kernel
theorem dX4_tellsMost_40 : decode cX4_tellsMost 40 = .ok (.iinc 2 1, 3) := by decide +kernel
theorem dX4_tellsMost_43 : decode cX4_tellsMost 43 = .ok (.goto (-38), 3) := by decide +kernel
theorem dX4_tellsMost_46 : decode cX4_tellsMost 46 = .ok (.iload_n 1, 1) := by decide +kernel
theorem dX4_tellsMost_47 : decode cX4_tellsMost 47 = .ok (.ireturn, 1) := by decide +kernel
theorem dX4_rests_0 : decode cX4_rests 0 = .ok (.aload_n 0, 1) := by decide +kernel
theorem dX4_rests_1 : decode cX4_rests 1 = .ok (.getfield 64, 3) := by decide +kernel
theorem dX4_rests_4 : decode cX4_rests 4 = .ok (.iload_n 1, 1) := by decide +kernel
theorem dX4_rests_5 : decode cX4_rests 5 = .ok (.iaload, 1) := by decide +kernel
theorem dX4_rests_6 : decode cX4_rests 6 = .ok (.aload_n 0, 1) := by decide +kernel
theorem dX4_rests_7 : decode cX4_rests 7 = .ok (.getfield 64, 3) := by decide +kernel
theorem dX4_rests_10 : decode cX4_rests 10 = .ok (.iload_n 1, 1) := by decide +kernel
theorem dX4_rests_11 : decode cX4_rests 11 = .ok (.iconst 2, 1) := by decide +kernel
theorem dX4_rests_12 : decode cX4_rests 12 = .ok (.ixor, 1) := by decide +kernel
theorem dX4_rests_13 : decode cX4_rests 13 = .ok (.iaload, 1) := by decide +kernel
theorem dX4_rests_14 : decode cX4_rests 14 = .ok (.if_icmp .lt 24, 3) := by decide +kernel
theorem dX4_rests_17 : decode cX4_rests 17 = .ok (.aload_n 0, 1) := by decide +kernel
theorem dX4_rests_18 : decode cX4_rests 18 = .ok (.getfield 67, 3) := by decide +kernel
theorem dX4_rests_21 : decode cX4_rests 21 = .ok (.iload_n 1, 1) := by decide +kernel
theorem dX4_rests_22 : decode cX4_rests 22 = .ok (.iaload, 1) := by decide +kernel
theorem dX4_rests_23 : decode cX4_rests 23 = .ok (.aload_n 0, 1) := by decide +kernel
theorem dX4_rests_24 : decode cX4_rests 24 = .ok (.getfield 67, 3) := by decide +kernel
theorem dX4_rests_27 : decode cX4_rests 27 = .ok (.iload_n 1, 1) := by decide +kernel
theorem dX4_rests_28 : decode cX4_rests 28 = .ok (.iconst 1, 1) := by decide +kernel
theorem dX4_rests_29 : decode cX4_rests 29 = .ok (.ixor, 1) := by decide +kernel
theorem dX4_rests_30 : decode cX4_rests 30 = .ok (.iaload, 1) := by decide +kernel
theorem dX4_rests_31 : decode cX4_rests 31 = .ok (.if_icmp .lt 7, 3) := by decide +kernel
theorem dX4_rests_34 : decode cX4_rests 34 = .ok (.iconst 1, 1) := by decide +kernel
theorem dX4_rests_35 : decode cX4_rests 35 = .ok (.goto 4, 3) := by decide +kernel
theorem dX4_rests_38 : decode cX4_rests 38 = .ok (.iconst 0, 1) := by decide +kernel
theorem dX4_rests_39 : decode cX4_rests 39 = .ok (.ireturn, 1) := by decide +kernel
theorem dX4_hourOf_0 : decode cX4_hourOf 0 = .ok (.iload_n 0, 1) := by decide +kernel
theorem dX4_hourOf_1 : decode cX4_hourOf 1 = .ok (.ifCond .ne 8, 3) := by decide +kernel
theorem dX4_hourOf_4 : decode cX4_hourOf 4 = .ok (.bipush 7, 2) := by decide +kernel
theorem dX4_hourOf_6 : decode cX4_hourOf 6 = .ok (.goto 5, 3) := by decide +kernel
theorem dX4_hourOf_9 : decode cX4_hourOf 9 = .ok (.bipush 19, 2) := by decide +kernel
theorem dX4_hourOf_11 : decode cX4_hourOf 11 = .ok (.ireturn, 1) := by decide +kernel
theorem dX4_byTurns_0 : decode cX4_byTurns 0 = .ok (.aload_n 0, 1) := by decide +kernel
theorem dX4_byTurns_1 : decode cX4_byTurns 1 = .ok (.iload_n 1, 1) := by decide +kernel
theorem dX4_byTurns_2 : decode cX4_byTurns 2 = .ok (.invokevirtual 128, 3) := by decide +kernel
theorem dX4_byTurns_5 : decode cX4_byTurns 5 = .ok (.ifCond .eq 16, 3) := by decide +kernel
theorem dX4_byTurns_8 : decode cX4_byTurns 8 = .ok (.aload_n 0, 1) := by decide +kernel
theorem dX4_byTurns_9 : decode cX4_byTurns 9 = .ok (.iload_n 2, 1) := by decide +kernel
theorem dX4_byTurns_10 : decode cX4_byTurns 10 = .ok (.invokevirtual 128, 3) := by decide +kernel
theorem dX4_byTurns_13 : decode cX4_byTurns 13 = .ok (.ifCond .eq 8, 3) := by decide +kernel
theorem dX4_byTurns_16 : decode cX4_byTurns 16 = .ok (.iload_n 1, 1) := by decide +kernel
theorem dX4_byTurns_17 : decode cX4_byTurns 17 = .ok (.iload_n 2, 1) := by decide +kernel
theorem dX4_byTurns_18 : decode cX4_byTurns 18 = .ok (.if_icmp .ne 7, 3) := by decide +kernel
theorem dX4_byTurns_21 : decode cX4_byTurns 21 = .ok (.iconst (-1), 1) := by decide +kernel
theorem dX4_byTurns_22 : decode cX4_byTurns 22 = .ok (.goto 7, 3) := by decide +kernel
theorem dX4_byTurns_25 : decode cX4_byTurns 25 = .ok (.iload_n 3, 1) := by decide +kernel
theorem dX4_byTurns_26 : decode cX4_byTurns 26 = .ok (.invokestatic 224, 3) := by decide +kernel
theorem dX4_byTurns_29 : decode cX4_byTurns 29 = .ok (.istore 4, 2) := by decide +kernel
theorem dX4_byTurns_31 : decode cX4_byTurns 31 = .ok (.iload 4, 2) := by decide +kernel
theorem dX4_byTurns_33 : decode cX4_byTurns 33 = .ok (.ifCond .eq 10, 3) := by decide +kernel
theorem dX4_byTurns_36 : decode cX4_byTurns 36 = .ok (.aload_n 0, 1) := by decide +kernel
theorem dX4_byTurns_37 : decode cX4_byTurns 37 = .ok (.iload 4, 2) := by decide +kernel
theorem dX4_byTurns_39 : decode cX4_byTurns 39 = .ok (.invokevirtual 85, 3) := by decide +kernel
theorem dX4_byTurns_42 : decode cX4_byTurns 42 = .ok (.ireturn, 1) := by decide +kernel
theorem dX4_byTurns_43 : decode cX4_byTurns 43 = .ok (.aload_n 0, 1) := by decide +kernel
theorem dX4_byTurns_44 : decode cX4_byTurns 44 = .ok (.getfield 31, 3) := by decide +kernel
theorem dX4_byTurns_47 : decode cX4_byTurns 47 = .ok (.iload_n 1, 1) := by decide +kernel
theorem dX4_byTurns_48 : decode cX4_byTurns 48 = .ok (.iaload, 1) := by decide +kernel
theorem dX4_byTurns_49 : decode cX4_byTurns 49 = .ok (.istore 5, 2) := by decide +kernel
theorem dX4_byTurns_51 : decode cX4_byTurns 51 = .ok (.aload_n 0, 1) := by decide +kernel
theorem dX4_byTurns_52 : decode cX4_byTurns 52 = .ok (.getfield 31, 3) := by decide +kernel
theorem dX4_byTurns_55 : decode cX4_byTurns 55 = .ok (.iload_n 2, 1) := by decide +kernel
theorem dX4_byTurns_56 : decode cX4_byTurns 56 = .ok (.iaload, 1) := by decide +kernel
theorem dX4_byTurns_57 : decode cX4_byTurns 57 = .ok (.istore 6, 2) := by decide +kernel
theorem dX4_byTurns_59 : decode cX4_byTurns 59 = .ok (.iconst 0, 1) := by decide +kernel
theorem dX4_byTurns_60 : decode cX4_byTurns 60 = .ok (.istore 7, 2) := by decide +kernel
theorem dX4_byTurns_62 : decode cX4_byTurns 62 = .ok (.iload 7, 2) := by decide +kernel
theorem dX4_byTurns_64 : decode cX4_byTurns 64 = .ok (.iconst 4, 1) := by decide +kernel
theorem dX4_byTurns_65 : decode cX4_byTurns 65 = .ok (.if_icmp .ge 66, 3) := by decide +kernel
theorem dX4_byTurns_68 : decode cX4_byTurns 68 = .ok (.aload_n 0, 1) := by decide +kernel
theorem dX4_byTurns_69 : decode cX4_byTurns 69 = .ok (.getfield 31, 3) := by decide +kernel
theorem dX4_byTurns_72 : decode cX4_byTurns 72 = .ok (.iload_n 1, 1) := by decide +kernel
theorem dX4_byTurns_73 : decode cX4_byTurns 73 = .ok (.iload 7, 2) := by decide +kernel
theorem dX4_byTurns_75 : decode cX4_byTurns 75 = .ok (.iconst 2, 1) := by decide +kernel
theorem dX4_byTurns_76 : decode cX4_byTurns 76 = .ok (.idiv, 1) := by decide +kernel
theorem dX4_byTurns_77 : decode cX4_byTurns 77 = .ok (.invokestatic 267, 3) := by decide +kernel
theorem dX4_byTurns_80 : decode cX4_byTurns 80 = .ok (.iastore, 1) := by decide +kernel
theorem dX4_byTurns_81 : decode cX4_byTurns 81 = .ok (.aload_n 0, 1) := by decide +kernel
theorem dX4_byTurns_82 : decode cX4_byTurns 82 = .ok (.getfield 31, 3) := by decide +kernel
theorem dX4_byTurns_85 : decode cX4_byTurns 85 = .ok (.iload_n 2, 1) := by decide +kernel
theorem dX4_byTurns_86 : decode cX4_byTurns 86 = .ok (.iload 7, 2) := by decide +kernel
theorem dX4_byTurns_88 : decode cX4_byTurns 88 = .ok (.iconst 2, 1) := by decide +kernel
theorem dX4_byTurns_89 : decode cX4_byTurns 89 = .ok (.irem, 1) := by decide +kernel
theorem dX4_byTurns_90 : decode cX4_byTurns 90 = .ok (.invokestatic 267, 3) := by decide +kernel
theorem dX4_byTurns_93 : decode cX4_byTurns 93 = .ok (.iastore, 1) := by decide +kernel
theorem dX4_byTurns_94 : decode cX4_byTurns 94 = .ok (.aload_n 0, 1) := by decide +kernel
theorem dX4_byTurns_95 : decode cX4_byTurns 95 = .ok (.iload_n 3, 1) := by decide +kernel
theorem dX4_byTurns_96 : decode cX4_byTurns 96 = .ok (.invokevirtual 227, 3) := by decide +kernel
theorem dX4_byTurns_99 : decode cX4_byTurns 99 = .ok (.aload_n 0, 1) := by decide +kernel
theorem dX4_byTurns_100 : decode cX4_byTurns 100 = .ok (.getfield 64, 3) := by decide +kernel
theorem dX4_byTurns_103 : decode cX4_byTurns 103 = .ok (.iload 7, 2) := by decide +kernel
theorem dX4_byTurns_105 : decode cX4_byTurns 105 = .ok (.aload_n 0, 1) := by decide +kernel
theorem dX4_byTurns_106 : decode cX4_byTurns 106 = .ok (.getfield 49, 3) := by decide +kernel
theorem dX4_byTurns_109 : decode cX4_byTurns 109 = .ok (.iload_n 1, 1) := by decide +kernel
theorem dX4_byTurns_110 : decode cX4_byTurns 110 = .ok (.iaload, 1) := by decide +kernel
theorem dX4_byTurns_111 : decode cX4_byTurns 111 = .ok (.iastore, 1) := by decide +kernel
theorem dX4_byTurns_112 : decode cX4_byTurns 112 = .ok (.aload_n 0, 1) := by decide +kernel
theorem dX4_byTurns_113 : decode cX4_byTurns 113 = .ok (.getfield 67, 3) := by decide +kernel
theorem dX4_byTurns_116 : decode cX4_byTurns 116 = .ok (.iload 7, 2) := by decide +kernel
theorem dX4_byTurns_118 : decode cX4_byTurns 118 = .ok (.aload_n 0, 1) := by decide +kernel
theorem dX4_byTurns_119 : decode cX4_byTurns 119 = .ok (.getfield 49, 3) := by decide +kernel
theorem dX4_byTurns_122 : decode cX4_byTurns 122 = .ok (.iload_n 2, 1) := by decide +kernel
theorem dX4_byTurns_123 : decode cX4_byTurns 123 = .ok (.iaload, 1) := by decide +kernel
theorem dX4_byTurns_124 : decode cX4_byTurns 124 = .ok (.iastore, 1) := by decide +kernel
theorem dX4_byTurns_125 : decode cX4_byTurns 125 = .ok (.iinc 7 1, 3) := by decide +kernel
theorem dX4_byTurns_128 : decode cX4_byTurns 128 = .ok (.goto (-66), 3) := by decide +kernel
theorem dX4_byTurns_131 : decode cX4_byTurns 131 = .ok (.aload_n 0, 1) := by decide +kernel
theorem dX4_byTurns_132 : decode cX4_byTurns 132 = .ok (.getfield 31, 3) := by decide +kernel
theorem dX4_byTurns_135 : decode cX4_byTurns 135 = .ok (.iload_n 1, 1) := by decide +kernel
theorem dX4_byTurns_136 : decode cX4_byTurns 136 = .ok (.iload 5, 2) := by decide +kernel
theorem dX4_byTurns_138 : decode cX4_byTurns 138 = .ok (.iastore, 1) := by decide +kernel
theorem dX4_byTurns_139 : decode cX4_byTurns 139 = .ok (.aload_n 0, 1) := by decide +kernel
theorem dX4_byTurns_140 : decode cX4_byTurns 140 = .ok (.getfield 31, 3) := by decide +kernel
theorem dX4_byTurns_143 : decode cX4_byTurns 143 = .ok (.iload_n 2, 1) := by decide +kernel
theorem dX4_byTurns_144 : decode cX4_byTurns 144 = .ok (.iload 6, 2) := by decide +kernel
theorem dX4_byTurns_146 : decode cX4_byTurns 146 = .ok (.iastore, 1) := by decide +kernel
theorem dX4_byTurns_147 : decode cX4_byTurns 147 = .ok (.iconst 0, 1) := by decide +kernel
theorem dX4_byTurns_148 : decode cX4_byTurns 148 = .ok (.istore 7, 2) := by decide +kernel
theorem dX4_byTurns_150 : decode cX4_byTurns 150 = .ok (.iload 7, 2) := by decide +kernel
theorem dX4_byTurns_152 : decode cX4_byTurns 152 = .ok (.iconst 4, 1) := by decide +kernel
theorem dX4_byTurns_153 : decode cX4_byTurns 153 = .ok (.if_icmp .ge 31, 3) := by decide +kernel
theorem dX4_byTurns_156 : decode cX4_byTurns 156 = .ok (.aload_n 0, 1) := by decide +kernel
theorem dX4_byTurns_157 : decode cX4_byTurns 157 = .ok (.iload 7, 2) := by decide +kernel
theorem dX4_byTurns_159 : decode cX4_byTurns 159 = .ok (.invokevirtual 270, 3) := by decide +kernel
theorem dX4_byTurns_162 : decode cX4_byTurns 162 = .ok (.ifCond .eq 16, 3) := by decide +kernel
theorem dX4_byTurns_165 : decode cX4_byTurns 165 = .ok (.bipush 10, 2) := by decide +kernel
theorem dX4_byTurns_167 : decode cX4_byTurns 167 = .ok (.iload 7, 2) := by decide +kernel
theorem dX4_byTurns_169 : decode cX4_byTurns 169 = .ok (.iconst 2, 1) := by decide +kernel
theorem dX4_byTurns_170 : decode cX4_byTurns 170 = .ok (.idiv, 1) := by decide +kernel
theorem dX4_byTurns_171 : decode cX4_byTurns 171 = .ok (.imul, 1) := by decide +kernel
theorem dX4_byTurns_172 : decode cX4_byTurns 172 = .ok (.iload 7, 2) := by decide +kernel
theorem dX4_byTurns_174 : decode cX4_byTurns 174 = .ok (.iconst 2, 1) := by decide +kernel
theorem dX4_byTurns_175 : decode cX4_byTurns 175 = .ok (.irem, 1) := by decide +kernel
theorem dX4_byTurns_176 : decode cX4_byTurns 176 = .ok (.iadd, 1) := by decide +kernel
theorem dX4_byTurns_177 : decode cX4_byTurns 177 = .ok (.ireturn, 1) := by decide +kernel
theorem dX4_byTurns_178 : decode cX4_byTurns 178 = .ok (.iinc 7 1, 3) := by decide +kernel
theorem dX4_byTurns_181 : decode cX4_byTurns 181 = .ok (.goto (-31), 3) := by decide +kernel
theorem dX4_byTurns_184 : decode cX4_byTurns 184 = .ok (.bipush (-9), 2) := by decide +kernel
theorem dX4_byTurns_186 : decode cX4_byTurns 186 = .ok (.ireturn, 1) := by decide +kernel
theorem dX4_snow_0 : decode cX4_snow 0 = .ok (.iload_n 1, 1) := by decide +kernel
theorem dX4_snow_1 : decode cX4_snow 1 = .ok (.invokestatic 224, 3) := by decide +kernel
theorem dX4_snow_4 : decode cX4_snow 4 = .ok (.istore_n 3, 1) := by decide +kernel
theorem dX4_snow_5 : decode cX4_snow 5 = .ok (.iload_n 3, 1) := by decide +kernel
theorem dX4_snow_6 : decode cX4_snow 6 = .ok (.ifCond .ne 15, 3) := by decide +kernel
theorem dX4_snow_9 : decode cX4_snow 9 = .ok (.iload_n 2, 1) := by decide +kernel
theorem dX4_snow_10 : decode cX4_snow 10 = .ok (.iconst 0, 1) := by decide +kernel
theorem dX4_snow_11 : decode cX4_snow 11 = .ok (.iconst 1, 1) := by decide +kernel
theorem dX4_snow_12 : decode cX4_snow 12 = .ok (.invokestatic 74, 3) := by decide +kernel
theorem dX4_snow_15 : decode cX4_snow 15 = .ok (.ifCond .ne 6, 3) := by decide +kernel
theorem dX4_snow_18 : decode cX4_snow 18 = .ok (.bipush (-2), 2) := by decide +kernel
theorem dX4_snow_20 : decode cX4_snow 20 = .ok (.istore_n 3, 1) := by decide +kernel
theorem dX4_snow_21 : decode cX4_snow 21 = .ok (.iload_n 3, 1) := by decide +kernel
theorem dX4_snow_22 : decode cX4_snow 22 = .ok (.ifCond .eq 9, 3) := by decide +kernel
theorem dX4_snow_25 : decode cX4_snow 25 = .ok (.aload_n 0, 1) := by decide +kernel
theorem dX4_snow_26 : decode cX4_snow 26 = .ok (.iload_n 3, 1) := by decide +kernel
theorem dX4_snow_27 : decode cX4_snow 27 = .ok (.invokevirtual 85, 3) := by decide +kernel
theorem dX4_snow_30 : decode cX4_snow 30 = .ok (.ireturn, 1) := by decide +kernel
theorem dX4_snow_31 : decode cX4_snow 31 = .ok (.aload_n 0, 1) := by decide +kernel
theorem dX4_snow_32 : decode cX4_snow 32 = .ok (.bipush 127, 2) := by decide +kernel
theorem dX4_snow_34 : decode cX4_snow 34 = .ok (.iload_n 1, 1) := by decide +kernel
theorem dX4_snow_35 : decode cX4_snow 35 = .ok (.invokevirtual 252, 3) := by decide +kernel
theorem dX4_snow_38 : decode cX4_snow 38 = .ok (.pop, 1) := by decide +kernel
theorem dX4_snow_39 : decode cX4_snow 39 = .ok (.aload_n 0, 1) := by decide +kernel
theorem dX4_snow_40 : decode cX4_snow 40 = .ok (.getfield 55, 3) := by decide +kernel
theorem dX4_snow_43 : decode cX4_snow 43 = .ok (.iload_n 2, 1) := by decide +kernel
theorem dX4_snow_44 : decode cX4_snow 44 = .ok (.iaload, 1) := by decide +kernel
theorem dX4_snow_45 : decode cX4_snow 45 = .ok (.ireturn, 1) := by decide +kernel
theorem dX4_heals_0 : decode cX4_heals 0 = .ok (.aload_n 0, 1) := by decide +kernel
theorem dX4_heals_1 : decode cX4_heals 1 = .ok (.iload_n 1, 1) := by decide +kernel
theorem dX4_heals_2 : decode cX4_heals 2 = .ok (.invokevirtual 128, 3) := by decide +kernel
theorem dX4_heals_5 : decode cX4_heals 5 = .ok (.ifCond .ne 9, 3) := by decide +kernel
theorem dX4_heals_8 : decode cX4_heals 8 = .ok (.aload_n 0, 1) := by decide +kernel
theorem dX4_heals_9 : decode cX4_heals 9 = .ok (.iconst (-1), 1) := by decide +kernel
theorem dX4_heals_10 : decode cX4_heals 10 = .ok (.invokevirtual 85, 3) := by decide +kernel
theorem dX4_heals_13 : decode cX4_heals 13 = .ok (.ireturn, 1) := by decide +kernel
theorem dX4_heals_14 : decode cX4_heals 14 = .ok (.aload_n 0, 1) := by decide +kernel
theorem dX4_heals_15 : decode cX4_heals 15 = .ok (.iconst 1, 1) := by decide +kernel
theorem dX4_heals_16 : decode cX4_heals 16 = .ok (.iconst 1, 1) := by decide +kernel
theorem dX4_heals_17 : decode cX4_heals 17 = .ok (.invokevirtual 141, 3) := by decide +kernel
theorem dX4_heals_20 : decode cX4_heals 20 = .ok (.aload_n 0, 1) := by decide +kernel
theorem dX4_heals_21 : decode cX4_heals 21 = .ok (.iconst 1, 1) := by decide +kernel
theorem dX4_heals_22 : decode cX4_heals 22 = .ok (.iload_n 1, 1) := by decide +kernel
theorem dX4_heals_23 : decode cX4_heals 23 = .ok (.ishl, 1) := by decide +kernel
theorem dX4_heals_24 : decode cX4_heals 24 = .ok (.iconst (-1), 1) := by decide +kernel
theorem dX4_heals_25 : decode cX4_heals 25 = .ok (.ixor, 1) := by decide +kernel
theorem dX4_heals_26 : decode cX4_heals 26 = .ok (.putfield 205, 3) := by decide +kernel
theorem dX4_heals_29 : decode cX4_heals 29 = .ok (.aload_n 0, 1) := by decide +kernel
theorem dX4_heals_30 : decode cX4_heals 30 = .ok (.getfield 31, 3) := by decide +kernel
theorem dX4_heals_33 : decode cX4_heals 33 = .ok (.iload_n 1, 1) := by decide +kernel
theorem dX4_heals_34 : decode cX4_heals 34 = .ok (.bipush 7, 2) := by decide +kernel
theorem dX4_heals_36 : decode cX4_heals 36 = .ok (.iastore, 1) := by decide +kernel
theorem dX4_heals_37 : decode cX4_heals 37 = .ok (.bipush (-9), 2) := by decide +kernel
theorem dX4_heals_39 : decode cX4_heals 39 = .ok (.istore_n 2, 1) := by decide +kernel
theorem dX4_heals_40 : decode cX4_heals 40 = .ok (.iconst 0, 1) := by decide +kernel
theorem dX4_heals_41 : decode cX4_heals 41 = .ok (.istore_n 3, 1) := by decide +kernel
theorem dX4_heals_42 : decode cX4_heals 42 = .ok (.iload_n 3, 1) := by decide +kernel
theorem dX4_heals_43 : decode cX4_heals 43 = .ok (.sipush 201, 3) := by decide +kernel
theorem dX4_heals_46 : decode cX4_heals 46 = .ok (.if_icmp .ge 33, 3) := by decide +kernel
theorem dX4_heals_49 : decode cX4_heals 49 = .ok (.iload_n 2, 1) := by decide +kernel
theorem dX4_heals_50 : decode cX4_heals 50 = .ok (.ifCond .ge 29, 3) := by decide +kernel
theorem dX4_heals_53 : decode cX4_heals 53 = .ok (.aload_n 0, 1) := by decide +kernel
theorem dX4_heals_54 : decode cX4_heals 54 = .ok (.getfield 16, 3) := by decide +kernel
theorem dX4_heals_57 : decode cX4_heals 57 = .ok (.iconst 1, 1) := by decide +kernel
theorem dX4_heals_58 : decode cX4_heals 58 = .ok (.iaload, 1) := by decide +kernel
theorem dX4_heals_59 : decode cX4_heals 59 = .ok (.ifCond .ne 7, 3) := by decide +kernel
theorem dX4_heals_62 : decode cX4_heals 62 = .ok (.iload_n 3, 1) := by decide +kernel
theorem dX4_heals_63 : decode cX4_heals 63 = .ok (.goto 5, 3) := by decide +kernel
theorem dX4_heals_66 : decode cX4_heals 66 = .ok (.bipush (-9), 2) := by decide +kernel
theorem dX4_heals_68 : decode cX4_heals 68 = .ok (.istore_n 2, 1) := by decide +kernel
theorem dX4_heals_69 : decode cX4_heals 69 = .ok (.aload_n 0, 1) := by decide +kernel
theorem dX4_heals_70 : decode cX4_heals 70 = .ok (.invokevirtual 218, 3) := by decide +kernel
theorem dX4_heals_73 : decode cX4_heals 73 = .ok (.iinc 3 1, 3) := by decide +kernel
theorem dX4_heals_76 : decode cX4_heals 76 = .ok (.goto (-34), 3) := by decide +kernel
theorem dX4_heals_79 : decode cX4_heals 79 = .ok (.aload_n 0, 1) := by decide +kernel
theorem dX4_heals_80 : decode cX4_heals 80 = .ok (.iconst 0, 1) := by decide +kernel
theorem dX4_heals_81 : decode cX4_heals 81 = .ok (.putfield 205, 3) := by decide +kernel
theorem dX4_heals_84 : decode cX4_heals 84 = .ok (.aload_n 0, 1) := by decide +kernel
theorem dX4_heals_85 : decode cX4_heals 85 = .ok (.iconst 1, 1) := by decide +kernel
theorem dX4_heals_86 : decode cX4_heals 86 = .ok (.iconst 0, 1) := by decide +kernel
theorem dX4_heals_87 : decode cX4_heals 87 = .ok (.invokevirtual 141, 3) := by decide +kernel
theorem dX4_heals_90 : decode cX4_heals 90 = .ok (.iload_n 2, 1) := by decide +kernel
theorem dX4_heals_91 : decode cX4_heals 91 = .ok (.ireturn, 1) := by decide +kernel
theorem dX4_row_0 : decode cX4_row 0 = .ok (.iload_n 1, 1) := by decide +kernel
theorem dX4_row_1 : decode cX4_row 1 = .ok (.iconst 0, 1) := by decide +kernel
theorem dX4_row_2 : decode cX4_row 2 = .ok (.bipush 99, 2) := by decide +kernel
theorem dX4_row_4 : decode cX4_row 4 = .ok (.invokestatic 78, 3) := by decide +kernel
theorem dX4_row_7 : decode cX4_row 7 = .ok (.istore_n 2, 1) := by decide +kernel
theorem dX4_row_8 : decode cX4_row 8 = .ok (.iload_n 2, 1) := by decide +kernel
theorem dX4_row_9 : decode cX4_row 9 = .ok (.ifCond .ne 15, 3) := by decide +kernel
theorem dX4_row_12 : decode cX4_row 12 = .ok (.aload_n 0, 1) := by decide +kernel
theorem dX4_row_13 : decode cX4_row 13 = .ok (.getfield 236, 3) := by decide +kernel
theorem dX4_row_16 : decode cX4_row 16 = .ok (.bipush 12, 2) := by decide +kernel
theorem dX4_row_18 : decode cX4_row 18 = .ok (.if_icmp .ne 6, 3) := by decide +kernel
theorem dX4_row_21 : decode cX4_row 21 = .ok (.bipush (-6), 2) := by decide +kernel
theorem dX4_row_23 : decode cX4_row 23 = .ok (.istore_n 2, 1) := by decide +kernel
theorem dX4_row_24 : decode cX4_row 24 = .ok (.iload_n 2, 1) := by decide +kernel
theorem dX4_row_25 : decode cX4_row 25 = .ok (.ifCond .eq 9, 3) := by decide +kernel
theorem dX4_row_28 : decode cX4_row 28 = .ok (.aload_n 0, 1) := by decide +kernel
theorem dX4_row_29 : decode cX4_row 29 = .ok (.iload_n 2, 1) := by decide +kernel
theorem dX4_row_30 : decode cX4_row 30 = .ok (.invokevirtual 85, 3) := by decide +kernel
theorem dX4_row_33 : decode cX4_row 33 = .ok (.ireturn, 1) := by decide +kernel
theorem dX4_row_34 : decode cX4_row 34 = .ok (.aload_n 0, 1) := by decide +kernel
theorem dX4_row_35 : decode cX4_row 35 = .ok (.getfield 61, 3) := by decide +kernel
theorem dX4_row_38 : decode cX4_row 38 = .ok (.aload_n 0, 1) := by decide +kernel
theorem dX4_row_39 : decode cX4_row 39 = .ok (.getfield 236, 3) := by decide +kernel
theorem dX4_row_42 : decode cX4_row 42 = .ok (.iload_n 1, 1) := by decide +kernel
theorem dX4_row_43 : decode cX4_row 43 = .ok (.iastore, 1) := by decide +kernel
theorem dX4_row_44 : decode cX4_row 44 = .ok (.aload_n 0, 1) := by decide +kernel
theorem dX4_row_45 : decode cX4_row 45 = .ok (.dup, 1) := by decide +kernel
theorem dX4_row_46 : decode cX4_row 46 = .ok (.getfield 236, 3) := by decide +kernel
theorem dX4_row_49 : decode cX4_row 49 = .ok (.iconst 1, 1) := by decide +kernel
theorem dX4_row_50 : decode cX4_row 50 = .ok (.iadd, 1) := by decide +kernel
theorem dX4_row_51 : decode cX4_row 51 = .ok (.putfield 236, 3) := by decide +kernel
theorem dX4_row_54 : decode cX4_row 54 = .ok (.aload_n 0, 1) := by decide +kernel
theorem dX4_row_55 : decode cX4_row 55 = .ok (.getfield 236, 3) := by decide +kernel
theorem dX4_row_58 : decode cX4_row 58 = .ok (.ireturn, 1) := by decide +kernel
theorem dX4_firstOther_0 : decode cX4_firstOther 0 = .ok (.iconst 0, 1) := by decide +kernel
theorem dX4_firstOther_1 : decode cX4_firstOther 1 = .ok (.istore_n 1, 1) := by decide +kernel
theorem dX4_firstOther_2 : decode cX4_firstOther 2 = .ok (.iload_n 1, 1) := by decide +kernel
theorem dX4_firstOther_3 : decode cX4_firstOther 3 = .ok (.aload_n 0, 1) := by decide +kernel
theorem dX4_firstOther_4 : decode cX4_firstOther 4 = .ok (.getfield 236, 3) := by decide +kernel
theorem dX4_firstOther_7 : decode cX4_firstOther 7 = .ok (.if_icmp .ge 47, 3) := by decide +kernel
theorem dX4_firstOther_10 : decode cX4_firstOther 10 = .ok (.aload_n 0, 1) := by decide +kernel
theorem dX4_firstOther_11 : decode cX4_firstOther 11 = .ok (.iload_n 1, 1) := by decide +kernel
theorem dX4_firstOther_12 : decode cX4_firstOther 12 = .ok (.invokevirtual 227, 3) := by decide +kernel
theorem dX4_firstOther_15 : decode cX4_firstOther 15 = .ok (.aload_n 0, 1) := by decide +kernel
theorem dX4_firstOther_16 : decode cX4_firstOther 16 = .ok (.getfield 55, 3) := by decide +kernel
theorem dX4_firstOther_19 : decode cX4_firstOther 19 = .ok (.iconst 1, 1) := by decide +kernel
theorem dX4_firstOther_20 : decode cX4_firstOther 20 = .ok (.iaload, 1) := by decide +kernel
theorem dX4_firstOther_21 : decode cX4_firstOther 21 = .ok (.bipush 99, 2) := by decide +kernel
theorem dX4_firstOther_23 : decode cX4_firstOther 23 = .ok (.if_icmp .le 8, 3) := by decide +kernel
theorem dX4_firstOther_26 : decode cX4_firstOther 26 = .ok (.bipush 99, 2) := by decide +kernel
theorem dX4_firstOther_28 : decode cX4_firstOther 28 = .ok (.goto 9, 3) := by decide +kernel
theorem dX4_firstOther_31 : decode cX4_firstOther 31 = .ok (.aload_n 0, 1) := by decide +kernel
theorem dX4_firstOther_32 : decode cX4_firstOther 32 = .ok (.getfield 55, 3) := by decide +kernel
theorem dX4_firstOther_35 : decode cX4_firstOther 35 = .ok (.iconst 1, 1) := by decide +kernel
theorem dX4_firstOther_36 : decode cX4_firstOther 36 = .ok (.iaload, 1) := by decide +kernel
theorem dX4_firstOther_37 : decode cX4_firstOther 37 = .ok (.aload_n 0, 1) := by decide +kernel
theorem dX4_firstOther_38 : decode cX4_firstOther 38 = .ok (.getfield 61, 3) := by decide +kernel
theorem dX4_firstOther_41 : decode cX4_firstOther 41 = .ok (.iload_n 1, 1) := by decide +kernel
theorem dX4_firstOther_42 : decode cX4_firstOther 42 = .ok (.iaload, 1) := by decide +kernel
theorem dX4_firstOther_43 : decode cX4_firstOther 43 = .ok (.if_icmp .eq 5, 3) := by decide +kernel
theorem dX4_firstOther_46 : decode cX4_firstOther 46 = .ok (.iload_n 1, 1) := by decide +kernel
theorem dX4_firstOther_47 : decode cX4_firstOther 47 = .ok (.ireturn, 1) := by decide +kernel
theorem dX4_firstOther_48 : decode cX4_firstOther 48 = .ok (.iinc 1 1, 3) := by decide +kernel
theorem dX4_firstOther_51 : decode cX4_firstOther 51 = .ok (.goto (-49), 3) := by decide +kernel
theorem dX4_firstOther_54 : decode cX4_firstOther 54 = .ok (.bipush (-9), 2) := by decide +kernel
theorem dX4_firstOther_56 : decode cX4_firstOther 56 = .ok (.ireturn, 1) := by decide +kernel
theorem dX4_fits_0 : decode cX4_fits 0 = .ok (.aload_n 0, 1) := by decide +kernel
theorem dX4_fits_1 : decode cX4_fits 1 = .ok (.getfield 16, 3) := by decide +kernel
theorem dX4_fits_4 : decode cX4_fits 4 = .ok (.iconst 0, 1) := by decide +kernel
theorem dX4_fits_5 : decode cX4_fits 5 = .ok (.iaload, 1) := by decide +kernel
theorem dX4_fits_6 : decode cX4_fits 6 = .ok (.istore_n 1, 1) := by decide +kernel
theorem dX4_fits_7 : decode cX4_fits 7 = .ok (.iconst 0, 1) := by decide +kernel
theorem dX4_fits_8 : decode cX4_fits 8 = .ok (.istore_n 2, 1) := by decide +kernel
theorem dX4_fits_9 : decode cX4_fits 9 = .ok (.iconst 0, 1) := by decide +kernel
theorem dX4_fits_10 : decode cX4_fits 10 = .ok (.istore_n 3, 1) := by decide +kernel
theorem dX4_fits_11 : decode cX4_fits 11 = .ok (.iload_n 3, 1) := by decide +kernel
theorem dX4_fits_12 : decode cX4_fits 12 = .ok (.bipush 10, 2) := by decide +kernel
theorem dX4_fits_14 : decode cX4_fits 14 = .ok (.if_icmp .ge 33, 3) := by decide +kernel
theorem dX4_fits_17 : decode cX4_fits 17 = .ok (.aload_n 0, 1) := by decide +kernel
theorem dX4_fits_18 : decode cX4_fits 18 = .ok (.getfield 16, 3) := by decide +kernel
theorem dX4_fits_21 : decode cX4_fits 21 = .ok (.iconst 0, 1) := by decide +kernel
theorem dX4_fits_22 : decode cX4_fits 22 = .ok (.iload_n 3, 1) := by decide +kernel
theorem dX4_fits_23 : decode cX4_fits 23 = .ok (.iastore, 1) := by decide +kernel
theorem dX4_fits_24 : decode cX4_fits 24 = .ok (.iload_n 2, 1) := by decide +kernel
theorem dX4_fits_25 : decode cX4_fits 25 = .ok (.aload_n 0, 1) := by decide +kernel
theorem dX4_fits_26 : decode cX4_fits 26 = .ok (.invokevirtual 273, 3) := by decide +kernel
theorem dX4_fits_29 : decode cX4_fits 29 = .ok (.ifCond .ge 9, 3) := by decide +kernel
theorem dX4_fits_32 : decode cX4_fits 32 = .ok (.iconst 1, 1) := by decide +kernel
theorem dX4_fits_33 : decode cX4_fits 33 = .ok (.iload_n 3, 1) := by decide +kernel
theorem dX4_fits_34 : decode cX4_fits 34 = .ok (.ishl, 1) := by decide +kernel
theorem dX4_fits_35 : decode cX4_fits 35 = .ok (.goto 4, 3) := by decide +kernel
theorem dX4_fits_38 : decode cX4_fits 38 = .ok (.iconst 0, 1) := by decide +kernel
theorem dX4_fits_39 : decode cX4_fits 39 = .ok (.ior, 1) := by decide +kernel
theorem dX4_fits_40 : decode cX4_fits 40 = .ok (.istore_n 2, 1) := by decide +kernel
theorem dX4_fits_41 : decode cX4_fits 41 = .ok (.iinc 3 1, 3) := by decide +kernel
theorem dX4_fits_44 : decode cX4_fits 44 = .ok (.goto (-33), 3) := by decide +kernel
theorem dX4_fits_47 : decode cX4_fits 47 = .ok (.aload_n 0, 1) := by decide +kernel
theorem dX4_fits_48 : decode cX4_fits 48 = .ok (.getfield 16, 3) := by decide +kernel
theorem dX4_fits_51 : decode cX4_fits 51 = .ok (.iconst 0, 1) := by decide +kernel
theorem dX4_fits_52 : decode cX4_fits 52 = .ok (.iload_n 1, 1) := by decide +kernel
theorem dX4_fits_53 : decode cX4_fits 53 = .ok (.iastore, 1) := by decide +kernel
theorem dX4_fits_54 : decode cX4_fits 54 = .ok (.iload_n 2, 1) := by decide +kernel
theorem dX4_fits_55 : decode cX4_fits 55 = .ok (.ireturn, 1) := by decide +kernel
theorem dX4_judge_0 : decode cX4_judge 0 = .ok (.aload_n 0, 1) := by decide +kernel
theorem dX4_judge_1 : decode cX4_judge 1 = .ok (.invokevirtual 273, 3) := by decide +kernel
theorem dX4_judge_4 : decode cX4_judge 4 = .ok (.istore_n 1, 1) := by decide +kernel
theorem dX4_judge_5 : decode cX4_judge 5 = .ok (.aload_n 0, 1) := by decide +kernel
theorem dX4_judge_6 : decode cX4_judge 6 = .ok (.iconst 0, 1) := by decide +kernel
theorem dX4_judge_7 : decode cX4_judge 7 = .ok (.putfield 236, 3) := by decide +kernel
theorem dX4_judge_10 : decode cX4_judge 10 = .ok (.iload_n 1, 1) := by decide +kernel
theorem dX4_judge_11 : decode cX4_judge 11 = .ok (.ireturn, 1) := by decide +kernel
theorem dX4_clear_0 : decode cX4_clear 0 = .ok (.aload_n 0, 1) := by decide +kernel
theorem dX4_clear_1 : decode cX4_clear 1 = .ok (.getfield 236, 3) := by decide +kernel
theorem dX4_clear_4 : decode cX4_clear 4 = .ok (.istore_n 1, 1) := by decide +kernel
theorem dX4_clear_5 : decode cX4_clear 5 = .ok (.aload_n 0, 1) := by decide +kernel
theorem dX4_clear_6 : decode cX4_clear 6 = .ok (.iconst 0, 1) := by decide +kernel
theorem dX4_clear_7 : decode cX4_clear 7 = .ok (.putfield 236, 3) := by decide +kernel
theorem dX4_clear_10 : decode cX4_clear 10 = .ok (.iload_n 1, 1) := by decide +kernel
theorem dX4_clear_11 : decode cX4_clear 11 = .ok (.ireturn, 1) := by decide +kernel
theorem dX4_lots_0 : decode cX4_lots 0 = .ok (.iload_n 1, 1) := by decide +kernel
theorem dX4_lots_1 : decode cX4_lots 1 = .ok (.iconst 1, 1) := by decide +kernel
theorem dX4_lots_2 : decode cX4_lots 2 = .ok (.bipush 20, 2) := by decide +kernel
theorem dX4_lots_4 : decode cX4_lots 4 = .ok (.invokestatic 78, 3) := by decide +kernel
theorem dX4_lots_7 : decode cX4_lots 7 = .ok (.istore 4, 2) := by decide +kernel
theorem dX4_lots_9 : decode cX4_lots 9 = .ok (.iload 4, 2) := by decide +kernel
theorem dX4_lots_11 : decode cX4_lots 11 = .ok (.ifCond .ne 16, 3) := by decide +kernel
theorem dX4_lots_14 : decode cX4_lots 14 = .ok (.iload_n 3, 1) := by decide +kernel
theorem dX4_lots_15 : decode cX4_lots 15 = .ok (.iconst 0, 1) := by decide +kernel
theorem dX4_lots_16 : decode cX4_lots 16 = .ok (.iconst 1, 1) := by decide +kernel
theorem dX4_lots_17 : decode cX4_lots 17 = .ok (.invokestatic 74, 3) := by decide +kernel
theorem dX4_lots_20 : decode cX4_lots 20 = .ok (.ifCond .ne 7, 3) := by decide +kernel
theorem dX4_lots_23 : decode cX4_lots 23 = .ok (.bipush (-2), 2) := by decide +kernel
theorem dX4_lots_25 : decode cX4_lots 25 = .ok (.istore 4, 2) := by decide +kernel
theorem dX4_lots_27 : decode cX4_lots 27 = .ok (.iload 4, 2) := by decide +kernel
theorem dX4_lots_29 : decode cX4_lots 29 = .ok (.ifCond .eq 10, 3) := by decide +kernel
theorem dX4_lots_32 : decode cX4_lots 32 = .ok (.aload_n 0, 1) := by decide +kernel
theorem dX4_lots_33 : decode cX4_lots 33 = .ok (.iload 4, 2) := by decide +kernel
theorem dX4_lots_35 : decode cX4_lots 35 = .ok (.invokevirtual 85, 3) := by decide +kernel
theorem dX4_lots_38 : decode cX4_lots 38 = .ok (.ireturn, 1) := by decide +kernel
theorem dX4_lots_39 : decode cX4_lots 39 = .ok (.aload_n 0, 1) := by decide +kernel
theorem dX4_lots_40 : decode cX4_lots 40 = .ok (.iconst 1, 1) := by decide +kernel
theorem dX4_lots_41 : decode cX4_lots 41 = .ok (.iconst 1, 1) := by decide +kernel
theorem dX4_lots_42 : decode cX4_lots 42 = .ok (.invokevirtual 141, 3) := by decide +kernel
theorem dX4_lots_45 : decode cX4_lots 45 = .ok (.iload_n 2, 1) := by decide +kernel
theorem dX4_lots_46 : decode cX4_lots 46 = .ok (.istore 5, 2) := by decide +kernel
theorem dX4_lots_48 : decode cX4_lots 48 = .ok (.iconst 0, 1) := by decide +kernel
theorem dX4_lots_49 : decode cX4_lots 49 = .ok (.istore 6, 2) := by decide +kernel
theorem dX4_lots_51 : decode cX4_lots 51 = .ok (.iconst 0, 1) := by decide +kernel
theorem dX4_lots_52 : decode cX4_lots 52 = .ok (.istore 7, 2) := by decide +kernel
theorem dX4_lots_54 : decode cX4_lots 54 = .ok (.iconst 0, 1) := by decide +kernel
theorem dX4_lots_55 : decode cX4_lots 55 = .ok (.istore 8, 2) := by decide +kernel
theorem dX4_lots_57 : decode cX4_lots 57 = .ok (.iload 8, 2) := by decide +kernel
theorem dX4_lots_59 : decode cX4_lots 59 = .ok (.iload_n 1, 1) := by decide +kernel
theorem dX4_lots_60 : decode cX4_lots 60 = .ok (.if_icmp .ge 80, 3) := by decide +kernel
theorem dX4_lots_63 : decode cX4_lots 63 = .ok (.iconst 0, 1) := by decide +kernel
theorem dX4_lots_64 : decode cX4_lots 64 = .ok (.istore 9, 2) := by decide +kernel
theorem dX4_lots_66 : decode cX4_lots 66 = .ok (.iload 9, 2) := by decide +kernel
theorem dX4_lots_68 : decode cX4_lots 68 = .ok (.aload_n 0, 1) := by decide +kernel
theorem dX4_lots_69 : decode cX4_lots 69 = .ok (.getfield 70, 3) := by decide +kernel
theorem dX4_lots_72 : decode cX4_lots 72 = .ok (.if_icmp .ge 41, 3) := by decide +kernel
theorem dX4_lots_75 : decode cX4_lots 75 = .ok (.iload 5, 2) := by decide +kernel
theorem dX4_lots_77 : decode cX4_lots 77 = .ok (.ldc_w 276, 3) := by decide +kernel
theorem dX4_lots_80 : decode cX4_lots 80 = .ok (.imul, 1) := by decide +kernel
theorem dX4_lots_81 : decode cX4_lots 81 = .ok (.ldc_w 277, 3) := by decide +kernel
theorem dX4_lots_84 : decode cX4_lots 84 = .ok (.iadd, 1) := by decide +kernel
theorem dX4_lots_85 : decode cX4_lots 85 = .ok (.istore 5, 2) := by decide +kernel
theorem dX4_lots_87 : decode cX4_lots 87 = .ok (.aload_n 0, 1) := by decide +kernel
theorem dX4_lots_88 : decode cX4_lots 88 = .ok (.getfield 25, 3) := by decide +kernel
theorem dX4_lots_91 : decode cX4_lots 91 = .ok (.iload 9, 2) := by decide +kernel
theorem dX4_lots_93 : decode cX4_lots 93 = .ok (.iload 5, 2) := by decide +kernel
theorem dX4_lots_95 : decode cX4_lots 95 = .ok (.ldc_w 278, 3) := by decide +kernel
theorem dX4_lots_98 : decode cX4_lots 98 = .ok (.iand, 1) := by decide +kernel
theorem dX4_lots_99 : decode cX4_lots 99 = .ok (.sipush 256, 3) := by decide +kernel
theorem dX4_lots_102 : decode cX4_lots 102 = .ok (.idiv, 1) := by decide +kernel
theorem dX4_lots_103 : decode cX4_lots 103 = .ok (.bipush 10, 2) := by decide +kernel
theorem dX4_lots_105 : decode cX4_lots 105 = .ok (.irem, 1) := by decide +kernel
theorem dX4_lots_106 : decode cX4_lots 106 = .ok (.iastore, 1) := by decide +kernel
theorem dX4_lots_107 : decode cX4_lots 107 = .ok (.iinc 9 1, 3) := by decide +kernel
theorem dX4_lots_110 : decode cX4_lots 110 = .ok (.goto (-44), 3) := by decide +kernel
theorem dX4_lots_113 : decode cX4_lots 113 = .ok (.iload 6, 2) := by decide +kernel
theorem dX4_lots_115 : decode cX4_lots 115 = .ok (.aload_n 0, 1) := by decide +kernel
theorem dX4_lots_116 : decode cX4_lots 116 = .ok (.iconst 5, 1) := by decide +kernel
theorem dX4_lots_117 : decode cX4_lots 117 = .ok (.invokevirtual 245, 3) := by decide +kernel
theorem dX4_lots_120 : decode cX4_lots 120 = .ok (.iadd, 1) := by decide +kernel
theorem dX4_lots_121 : decode cX4_lots 121 = .ok (.istore 6, 2) := by decide +kernel
theorem dX4_lots_123 : decode cX4_lots 123 = .ok (.iload 7, 2) := by decide +kernel
theorem dX4_lots_125 : decode cX4_lots 125 = .ok (.aload_n 0, 1) := by decide +kernel
theorem dX4_lots_126 : decode cX4_lots 126 = .ok (.getfield 55, 3) := by decide +kernel
theorem dX4_lots_129 : decode cX4_lots 129 = .ok (.iconst 0, 1) := by decide +kernel
theorem dX4_lots_130 : decode cX4_lots 130 = .ok (.iaload, 1) := by decide +kernel
theorem dX4_lots_131 : decode cX4_lots 131 = .ok (.iadd, 1) := by decide +kernel
theorem dX4_lots_132 : decode cX4_lots 132 = .ok (.istore 7, 2) := by decide +kernel
theorem dX4_lots_134 : decode cX4_lots 134 = .ok (.iinc 8 1, 3) := by decide +kernel
theorem dX4_lots_137 : decode cX4_lots 137 = .ok (.goto (-80), 3) := by decide +kernel
theorem dX4_lots_140 : decode cX4_lots 140 = .ok (.aload_n 0, 1) := by decide +kernel
theorem dX4_lots_141 : decode cX4_lots 141 = .ok (.iconst 1, 1) := by decide +kernel
theorem dX4_lots_142 : decode cX4_lots 142 = .ok (.iconst 0, 1) := by decide +kernel
theorem dX4_lots_143 : decode cX4_lots 143 = .ok (.invokevirtual 141, 3) := by decide +kernel
theorem dX4_lots_146 : decode cX4_lots 146 = .ok (.iload_n 3, 1) := by decide +kernel
theorem dX4_lots_147 : decode cX4_lots 147 = .ok (.ifCond .ne 8, 3) := by decide +kernel
theorem dX4_lots_150 : decode cX4_lots 150 = .ok (.iload 6, 2) := by decide +kernel
theorem dX4_lots_152 : decode cX4_lots 152 = .ok (.goto 5, 3) := by decide +kernel
theorem dX4_lots_155 : decode cX4_lots 155 = .ok (.iload 7, 2) := by decide +kernel
theorem dX4_lots_157 : decode cX4_lots 157 = .ok (.ireturn, 1) := by decide +kernel
theorem dX4_count_0 : decode cX4_count 0 = .ok (.iload_n 1, 1) := by decide +kernel
theorem dX4_count_1 : decode cX4_count 1 = .ok (.bipush 11, 2) := by decide +kernel
theorem dX4_count_3 : decode cX4_count 3 = .ok (.bipush 16, 2) := by decide +kernel
theorem dX4_count_5 : decode cX4_count 5 = .ok (.invokestatic 74, 3) := by decide +kernel
theorem dX4_count_8 : decode cX4_count 8 = .ok (.ifCond .eq 13, 3) := by decide +kernel
theorem dX4_count_11 : decode cX4_count 11 = .ok (.aload_n 0, 1) := by decide +kernel
theorem dX4_count_12 : decode cX4_count 12 = .ok (.getfield 7, 3) := by decide +kernel
theorem dX4_count_15 : decode cX4_count 15 = .ok (.iload_n 1, 1) := by decide +kernel
theorem dX4_count_16 : decode cX4_count 16 = .ok (.bipush 10, 2) := by decide +kernel
theorem dX4_count_18 : decode cX4_count 18 = .ok (.isub, 1) := by decide +kernel
theorem dX4_count_19 : decode cX4_count 19 = .ok (.iaload, 1) := by decide +kernel
theorem dX4_count_20 : decode cX4_count 20 = .ok (.ireturn, 1) := by decide +kernel
theorem dX4_count_21 : decode cX4_count 21 = .ok (.iload_n 1, 1) := by decide +kernel
theorem dX4_count_22 : decode cX4_count 22 = .ok (.tableswitch 109 0 8 #[50, 55, 60, 67, 74, 81, 86, 99, 104], 50) := by decide +kernel
theorem dX4_count_72 : decode cX4_count 72 = .ok (.aload_n 0, 1) := by decide +kernel
theorem dX4_count_73 : decode cX4_count 73 = .ok (.getfield 70, 3) := by decide +kernel
theorem dX4_count_76 : decode cX4_count 76 = .ok (.ireturn, 1) := by decide +kernel
theorem dX4_count_77 : decode cX4_count 77 = .ok (.aload_n 0, 1) := by decide +kernel
theorem dX4_count_78 : decode cX4_count 78 = .ok (.getfield 131, 3) := by decide +kernel
theorem dX4_count_81 : decode cX4_count 81 = .ok (.ireturn, 1) := by decide +kernel
theorem dX4_count_82 : decode cX4_count 82 = .ok (.aload_n 0, 1) := by decide +kernel
theorem dX4_count_83 : decode cX4_count 83 = .ok (.getfield 16, 3) := by decide +kernel
theorem dX4_count_86 : decode cX4_count 86 = .ok (.iconst 0, 1) := by decide +kernel
theorem dX4_count_87 : decode cX4_count 87 = .ok (.iaload, 1) := by decide +kernel
theorem dX4_count_88 : decode cX4_count 88 = .ok (.ireturn, 1) := by decide +kernel
theorem dX4_count_89 : decode cX4_count 89 = .ok (.aload_n 0, 1) := by decide +kernel
theorem dX4_count_90 : decode cX4_count 90 = .ok (.getfield 16, 3) := by decide +kernel
theorem dX4_count_93 : decode cX4_count 93 = .ok (.iconst 1, 1) := by decide +kernel
theorem dX4_count_94 : decode cX4_count 94 = .ok (.iaload, 1) := by decide +kernel
theorem dX4_count_95 : decode cX4_count 95 = .ok (.ireturn, 1) := by decide +kernel
theorem dX4_count_96 : decode cX4_count 96 = .ok (.aload_n 0, 1) := by decide +kernel
theorem dX4_count_97 : decode cX4_count 97 = .ok (.getfield 16, 3) := by decide +kernel
theorem dX4_count_100 : decode cX4_count 100 = .ok (.iconst 2, 1) := by decide +kernel
theorem dX4_count_101 : decode cX4_count 101 = .ok (.iaload, 1) := by decide +kernel
theorem dX4_count_102 : decode cX4_count 102 = .ok (.ireturn, 1) := by decide +kernel
theorem dX4_count_103 : decode cX4_count 103 = .ok (.aload_n 0, 1) := by decide +kernel
theorem dX4_count_104 : decode cX4_count 104 = .ok (.invokevirtual 221, 3) := by decide +kernel
theorem dX4_count_107 : decode cX4_count 107 = .ok (.ireturn, 1) := by decide +kernel
theorem dX4_count_108 : decode cX4_count 108 = .ok (.aload_n 0, 1) := by decide +kernel
theorem dX4_count_109 : decode cX4_count 109 = .ok (.invokevirtual 168, 3) := by decide +kernel
theorem dX4_count_112 : decode cX4_count 112 = .ok (.ifCond .eq 7, 3) := by decide +kernel
theorem dX4_count_115 : decode cX4_count 115 = .ok (.iconst 1, 1) := by decide +kernel
theorem dX4_count_116 : decode cX4_count 116 = .ok (.goto 4, 3) := by decide +kernel
theorem dX4_count_119 : decode cX4_count 119 = .ok (.iconst 0, 1) := by decide +kernel
theorem dX4_count_120 : decode cX4_count 120 = .ok (.ireturn, 1) := by decide +kernel
theorem dX4_count_121 : decode cX4_count 121 = .ok (.aload_n 0, 1) := by decide +kernel
theorem dX4_count_122 : decode cX4_count 122 = .ok (.getfield 236, 3) := by decide +kernel
theorem dX4_count_125 : decode cX4_count 125 = .ok (.ireturn, 1) := by decide +kernel
theorem dX4_count_126 : decode cX4_count 126 = .ok (.aload_n 0, 1) := by decide +kernel
theorem dX4_count_127 : decode cX4_count 127 = .ok (.getfield 82, 3) := by decide +kernel
theorem dX4_count_130 : decode cX4_count 130 = .ok (.ireturn, 1) := by decide +kernel
theorem dX4_count_131 : decode cX4_count 131 = .ok (.bipush (-9), 2) := by decide +kernel
theorem dX4_count_133 : decode cX4_count 133 = .ok (.ireturn, 1) := by decide +kernel
