theorem d_R_init_0 : decode c9_R_init 0 = .ok (.aload_n 0, 1) := by decide +kernel
theorem d_R_init_1 : decode c9_R_init 1 = .ok (.invokespecial 3, 3) := by decide +kernel
theorem d_R_init_4 : decode c9_R_init 4 = .ok (.aload_n 0, 1) := by decide +kernel
theorem d_R_init_5 : decode c9_R_init 5 = .ok (.new 9, 3) := by decide +kernel
theorem d_R_init_8 : decode c9_R_init 8 = .ok (.dup, 1) := by decide +kernel
theorem d_R_init_9 : decode c9_R_init 9 = .ok (.invokespecial 11, 3) := by decide +kernel
theorem d_R_init_12 : decode c9_R_init 12 = .ok (.putfield 12, 3) := by decide +kernel
theorem d_R_init_15 : decode c9_R_init 15 = .ok (.aload_n 0, 1) := by decide +kernel
theorem d_R_init_16 : decode c9_R_init 16 = .ok (.new 16, 3) := by decide +kernel
theorem d_R_init_19 : decode c9_R_init 19 = .ok (.dup, 1) := by decide +kernel
theorem d_R_init_20 : decode c9_R_init 20 = .ok (.iconst 1, 1) := by decide +kernel
theorem d_R_init_21 : decode c9_R_init 21 = .ok (.invokespecial 18, 3) := by decide +kernel
theorem d_R_init_24 : decode c9_R_init 24 = .ok (.putfield 21, 3) := by decide +kernel
theorem d_R_init_27 : decode c9_R_init 27 = .ok (.aload_n 0, 1) := by decide +kernel
theorem d_R_init_28 : decode c9_R_init 28 = .ok (.bipush 24, 2) := by decide +kernel
theorem d_R_init_30 : decode c9_R_init 30 = .ok (.anewarray 25, 3) := by decide +kernel
theorem d_R_init_33 : decode c9_R_init 33 = .ok (.putfield 27, 3) := by decide +kernel
theorem d_R_init_36 : decode c9_R_init 36 = .ok (.aload_n 0, 1) := by decide +kernel
theorem d_R_init_37 : decode c9_R_init 37 = .ok (.iconst 0, 1) := by decide +kernel
theorem d_R_init_38 : decode c9_R_init 38 = .ok (.putfield 31, 3) := by decide +kernel
theorem d_R_init_41 : decode c9_R_init 41 = .ok (.aload_n 0, 1) := by decide +kernel
theorem d_R_init_42 : decode c9_R_init 42 = .ok (.iconst 0, 1) := by decide +kernel
theorem d_R_init_43 : decode c9_R_init 43 = .ok (.putfield 35, 3) := by decide +kernel
theorem d_R_init_46 : decode c9_R_init 46 = .ok (.aload_n 0, 1) := by decide +kernel
theorem d_R_init_47 : decode c9_R_init 47 = .ok (.new 38, 3) := by decide +kernel
theorem d_R_init_50 : decode c9_R_init 50 = .ok (.dup, 1) := by decide +kernel
theorem d_R_init_51 : decode c9_R_init 51 = .ok (.invokespecial 40, 3) := by decide +kernel
theorem d_R_init_54 : decode c9_R_init 54 = .ok (.putfield 41, 3) := by decide +kernel
theorem d_R_init_57 : decode c9_R_init 57 = .ok (.aload_n 0, 1) := by decide +kernel
theorem d_R_init_58 : decode c9_R_init 58 = .ok (.new 38, 3) := by decide +kernel
theorem d_R_init_61 : decode c9_R_init 61 = .ok (.dup, 1) := by decide +kernel
theorem d_R_init_62 : decode c9_R_init 62 = .ok (.invokespecial 40, 3) := by decide +kernel
theorem d_R_init_65 : decode c9_R_init 65 = .ok (.putfield 45, 3) := by decide +kernel
theorem d_R_init_68 : decode c9_R_init 68 = .ok (.aload_n 0, 1) := by decide +kernel
theorem d_R_init_69 : decode c9_R_init 69 = .ok (.new 16, 3) := by decide +kernel
theorem d_R_init_72 : decode c9_R_init 72 = .ok (.dup, 1) := by decide +kernel
theorem d_R_init_73 : decode c9_R_init 73 = .ok (.iconst 0, 1) := by decide +kernel
theorem d_R_init_74 : decode c9_R_init 74 = .ok (.invokespecial 18, 3) := by decide +kernel
theorem d_R_init_77 : decode c9_R_init 77 = .ok (.putfield 48, 3) := by decide +kernel
theorem d_R_init_80 : decode c9_R_init 80 = .ok (.aload_n 0, 1) := by decide +kernel
theorem d_R_init_81 : decode c9_R_init 81 = .ok (.new 16, 3) := by decide +kernel
theorem d_R_init_84 : decode c9_R_init 84 = .ok (.dup, 1) := by decide +kernel
theorem d_R_init_85 : decode c9_R_init 85 = .ok (.iconst 0, 1) := by decide +kernel
theorem d_R_init_86 : decode c9_R_init 86 = .ok (.invokespecial 18, 3) := by decide +kernel
theorem d_R_init_89 : decode c9_R_init 89 = .ok (.putfield 51, 3) := by decide +kernel
theorem d_R_init_92 : decode c9_R_init 92 = .ok (.aload_n 0, 1) := by decide +kernel
theorem d_R_init_93 : decode c9_R_init 93 = .ok (.new 16, 3) := by decide +kernel
theorem d_R_init_96 : decode c9_R_init 96 = .ok (.dup, 1) := by decide +kernel
theorem d_R_init_97 : decode c9_R_init 97 = .ok (.iconst 0, 1) := by decide +kernel
theorem d_R_init_98 : decode c9_R_init 98 = .ok (.invokespecial 18, 3) := by decide +kernel
theorem d_R_init_101 : decode c9_R_init 101 = .ok (.putfield 54, 3) := by decide +kernel
theorem d_R_init_104 : decode c9_R_init 104 = .ok (.aload_n 0, 1) := by decide +kernel
theorem d_R_init_105 : decode c9_R_init 105 = .ok (.getfield 12, 3) := by decide +kernel
theorem d_R_init_108 : decode c9_R_init 108 = .ok (.iload_n 1, 1) := by decide +kernel
theorem d_R_init_109 : decode c9_R_init 109 = .ok (.invokevirtual 57, 3) := by decide +kernel
theorem d_R_init_112 : decode c9_R_init 112 = .ok (.aload_n 0, 1) := by decide +kernel
theorem d_R_init_113 : decode c9_R_init 113 = .ok (.new 61, 3) := by decide +kernel
theorem d_R_init_116 : decode c9_R_init 116 = .ok (.dup, 1) := by decide +kernel
theorem d_R_init_117 : decode c9_R_init 117 = .ok (.aload_n 0, 1) := by decide +kernel
theorem d_R_init_118 : decode c9_R_init 118 = .ok (.getfield 12, 3) := by decide +kernel
theorem d_R_init_121 : decode c9_R_init 121 = .ok (.invokespecial 63, 3) := by decide +kernel
theorem d_R_init_124 : decode c9_R_init 124 = .ok (.putfield 66, 3) := by decide +kernel
theorem d_R_init_127 : decode c9_R_init 127 = .ok (.iconst 0, 1) := by decide +kernel
theorem d_R_init_128 : decode c9_R_init 128 = .ok (.istore_n 2, 1) := by decide +kernel
theorem d_R_init_129 : decode c9_R_init 129 = .ok (.iload_n 2, 1) := by decide +kernel
theorem d_R_init_130 : decode c9_R_init 130 = .ok (.bipush 24, 2) := by decide +kernel
theorem d_R_init_132 : decode c9_R_init 132 = .ok (.if_icmp .ge 22, 3) := by decide +kernel
theorem d_R_init_135 : decode c9_R_init 135 = .ok (.aload_n 0, 1) := by decide +kernel
theorem d_R_init_136 : decode c9_R_init 136 = .ok (.getfield 27, 3) := by decide +kernel
theorem d_R_init_139 : decode c9_R_init 139 = .ok (.iload_n 2, 1) := by decide +kernel
theorem d_R_init_140 : decode c9_R_init 140 = .ok (.new 25, 3) := by decide +kernel
theorem d_R_init_143 : decode c9_R_init 143 = .ok (.dup, 1) := by decide +kernel
theorem d_R_init_144 : decode c9_R_init 144 = .ok (.invokespecial 70, 3) := by decide +kernel
theorem d_R_init_147 : decode c9_R_init 147 = .ok (.aastore, 1) := by decide +kernel
theorem d_R_init_148 : decode c9_R_init 148 = .ok (.iinc 2 1, 3) := by decide +kernel
theorem d_R_init_151 : decode c9_R_init 151 = .ok (.goto (-22), 3) := by decide +kernel
theorem d_R_init_154 : decode c9_R_init 154 = .ok (.return_, 1) := by decide +kernel
theorem d_R_put_0 : decode c9_R_put 0 = .ok (.iload_n 1, 1) := by decide +kernel
theorem d_R_put_1 : decode c9_R_put 1 = .ok (.invokestatic 71, 3) := by decide +kernel
theorem d_R_put_4 : decode c9_R_put 4 = .ok (.ifCond .ne 5, 3) := by decide +kernel
theorem d_R_put_7 : decode c9_R_put 7 = .ok (.iconst 0, 1) := by decide +kernel
theorem d_R_put_8 : decode c9_R_put 8 = .ok (.ireturn, 1) := by decide +kernel
theorem d_R_put_9 : decode c9_R_put 9 = .ok (.aload_n 0, 1) := by decide +kernel
theorem d_R_put_10 : decode c9_R_put 10 = .ok (.getfield 21, 3) := by decide +kernel
theorem d_R_put_13 : decode c9_R_put 13 = .ok (.getfield 75, 3) := by decide +kernel
theorem d_R_put_16 : decode c9_R_put 16 = .ok (.iload_n 1, 1) := by decide +kernel
theorem d_R_put_17 : decode c9_R_put 17 = .ok (.iload_n 2, 1) := by decide +kernel
theorem d_R_put_18 : decode c9_R_put 18 = .ok (.i2l, 1) := by decide +kernel
theorem d_R_put_19 : decode c9_R_put 19 = .ok (.bipush 17, 2) := by decide +kernel
theorem d_R_put_21 : decode c9_R_put 21 = .ok (.invokestatic 79, 3) := by decide +kernel
theorem d_R_put_24 : decode c9_R_put 24 = .ok (.iastore, 1) := by decide +kernel
theorem d_R_put_25 : decode c9_R_put 25 = .ok (.iconst 1, 1) := by decide +kernel
theorem d_R_put_26 : decode c9_R_put 26 = .ok (.ireturn, 1) := by decide +kernel
theorem d_R_isCoefficient_0 : decode c9_R_isCoefficient 0 = .ok (.iload_n 0, 1) := by decide +kernel
theorem d_R_isCoefficient_1 : decode c9_R_isCoefficient 1 = .ok (.ifCond .lt 13, 3) := by decide +kernel
theorem d_R_isCoefficient_4 : decode c9_R_isCoefficient 4 = .ok (.iload_n 0, 1) := by decide +kernel
theorem d_R_isCoefficient_5 : decode c9_R_isCoefficient 5 = .ok (.bipush 8, 2) := by decide +kernel
theorem d_R_isCoefficient_7 : decode c9_R_isCoefficient 7 = .ok (.if_icmp .ge 7, 3) := by decide +kernel
theorem d_R_isCoefficient_10 : decode c9_R_isCoefficient 10 = .ok (.iconst 1, 1) := by decide +kernel
theorem d_R_isCoefficient_11 : decode c9_R_isCoefficient 11 = .ok (.goto 4, 3) := by decide +kernel
theorem d_R_isCoefficient_14 : decode c9_R_isCoefficient 14 = .ok (.iconst 0, 1) := by decide +kernel
theorem d_R_isCoefficient_15 : decode c9_R_isCoefficient 15 = .ok (.ireturn, 1) := by decide +kernel
theorem d_R_input_0 : decode c9_R_input 0 = .ok (.aload_n 0, 1) := by decide +kernel
theorem d_R_input_1 : decode c9_R_input 1 = .ok (.getfield 31, 3) := by decide +kernel
theorem d_R_input_4 : decode c9_R_input 4 = .ok (.bipush 24, 2) := by decide +kernel
theorem d_R_input_6 : decode c9_R_input 6 = .ok (.if_icmp .lt 5, 3) := by decide +kernel
theorem d_R_input_9 : decode c9_R_input 9 = .ok (.iconst (-1), 1) := by decide +kernel
theorem d_R_input_10 : decode c9_R_input 10 = .ok (.ireturn, 1) := by decide +kernel
theorem d_R_input_11 : decode c9_R_input 11 = .ok (.aload_n 0, 1) := by decide +kernel
theorem d_R_input_12 : decode c9_R_input 12 = .ok (.getfield 27, 3) := by decide +kernel
theorem d_R_input_15 : decode c9_R_input 15 = .ok (.aload_n 0, 1) := by decide +kernel
theorem d_R_input_16 : decode c9_R_input 16 = .ok (.getfield 31, 3) := by decide +kernel
theorem d_R_input_19 : decode c9_R_input 19 = .ok (.aaload, 1) := by decide +kernel
theorem d_R_input_20 : decode c9_R_input 20 = .ok (.astore_n 2, 1) := by decide +kernel
theorem d_R_input_21 : decode c9_R_input 21 = .ok (.aload_n 2, 1) := by decide +kernel
theorem d_R_input_22 : decode c9_R_input 22 = .ok (.getstatic 83, 3) := by decide +kernel
theorem d_R_input_25 : decode c9_R_input 25 = .ok (.iconst (-1), 1) := by decide +kernel
theorem d_R_input_26 : decode c9_R_input 26 = .ok (.iconst (-1), 1) := by decide +kernel
theorem d_R_input_27 : decode c9_R_input 27 = .ok (.iload_n 1, 1) := by decide +kernel
theorem d_R_input_28 : decode c9_R_input 28 = .ok (.invokevirtual 89, 3) := by decide +kernel
theorem d_R_input_31 : decode c9_R_input 31 = .ok (.aload_n 2, 1) := by decide +kernel
theorem d_R_input_32 : decode c9_R_input 32 = .ok (.getfield 93, 3) := by decide +kernel
theorem d_R_input_35 : decode c9_R_input 35 = .ok (.aload_n 0, 1) := by decide +kernel
theorem d_R_input_36 : decode c9_R_input 36 = .ok (.getfield 21, 3) := by decide +kernel
theorem d_R_input_39 : decode c9_R_input 39 = .ok (.invokevirtual 96, 3) := by decide +kernel
theorem d_R_input_42 : decode c9_R_input 42 = .ok (.aload_n 0, 1) := by decide +kernel
theorem d_R_input_43 : decode c9_R_input 43 = .ok (.invokevirtual 100, 3) := by decide +kernel
theorem d_R_input_46 : decode c9_R_input 46 = .ok (.ireturn, 1) := by decide +kernel
theorem d_R_keepGate_0 : decode c9_R_keepGate 0 = .ok (.aload_n 0, 1) := by decide +kernel
theorem d_R_keepGate_1 : decode c9_R_keepGate 1 = .ok (.dup, 1) := by decide +kernel
theorem d_R_keepGate_2 : decode c9_R_keepGate 2 = .ok (.getfield 31, 3) := by decide +kernel
theorem d_R_keepGate_5 : decode c9_R_keepGate 5 = .ok (.iconst 1, 1) := by decide +kernel
theorem d_R_keepGate_6 : decode c9_R_keepGate 6 = .ok (.iadd, 1) := by decide +kernel
theorem d_R_keepGate_7 : decode c9_R_keepGate 7 = .ok (.putfield 31, 3) := by decide +kernel
theorem d_R_keepGate_10 : decode c9_R_keepGate 10 = .ok (.aload_n 0, 1) := by decide +kernel
theorem d_R_keepGate_11 : decode c9_R_keepGate 11 = .ok (.getfield 31, 3) := by decide +kernel
theorem d_R_keepGate_14 : decode c9_R_keepGate 14 = .ok (.iconst 1, 1) := by decide +kernel
theorem d_R_keepGate_15 : decode c9_R_keepGate 15 = .ok (.isub, 1) := by decide +kernel
theorem d_R_keepGate_16 : decode c9_R_keepGate 16 = .ok (.ireturn, 1) := by decide +kernel
theorem d_R_sum_0 : decode c9_R_sum 0 = .ok (.aload_n 0, 1) := by decide +kernel
theorem d_R_sum_1 : decode c9_R_sum 1 = .ok (.getstatic 104, 3) := by decide +kernel
theorem d_R_sum_4 : decode c9_R_sum 4 = .ok (.iload_n 1, 1) := by decide +kernel
theorem d_R_sum_5 : decode c9_R_sum 5 = .ok (.iload_n 2, 1) := by decide +kernel
theorem d_R_sum_6 : decode c9_R_sum 6 = .ok (.iconst 0, 1) := by decide +kernel
theorem d_R_sum_7 : decode c9_R_sum 7 = .ok (.invokevirtual 107, 3) := by decide +kernel
theorem d_R_sum_10 : decode c9_R_sum 10 = .ok (.ireturn, 1) := by decide +kernel
theorem d_R_addGate_0 : decode c9_R_addGate 0 = .ok (.aload_n 0, 1) := by decide +kernel
theorem d_R_addGate_1 : decode c9_R_addGate 1 = .ok (.iload_n 2, 1) := by decide +kernel
theorem d_R_addGate_2 : decode c9_R_addGate 2 = .ok (.invokevirtual 123, 3) := by decide +kernel
theorem d_R_addGate_5 : decode c9_R_addGate 5 = .ok (.ifCond .eq 20, 3) := by decide +kernel
theorem d_R_addGate_8 : decode c9_R_addGate 8 = .ok (.aload_n 0, 1) := by decide +kernel
theorem d_R_addGate_9 : decode c9_R_addGate 9 = .ok (.iload_n 3, 1) := by decide +kernel
theorem d_R_addGate_10 : decode c9_R_addGate 10 = .ok (.invokevirtual 123, 3) := by decide +kernel
theorem d_R_addGate_13 : decode c9_R_addGate 13 = .ok (.ifCond .eq 12, 3) := by decide +kernel
theorem d_R_addGate_16 : decode c9_R_addGate 16 = .ok (.aload_n 0, 1) := by decide +kernel
theorem d_R_addGate_17 : decode c9_R_addGate 17 = .ok (.getfield 31, 3) := by decide +kernel
theorem d_R_addGate_20 : decode c9_R_addGate 20 = .ok (.bipush 24, 2) := by decide +kernel
theorem d_R_addGate_22 : decode c9_R_addGate 22 = .ok (.if_icmp .lt 5, 3) := by decide +kernel
theorem d_R_addGate_25 : decode c9_R_addGate 25 = .ok (.iconst (-1), 1) := by decide +kernel
theorem d_R_addGate_26 : decode c9_R_addGate 26 = .ok (.ireturn, 1) := by decide +kernel
theorem d_R_addGate_27 : decode c9_R_addGate 27 = .ok (.aload_n 0, 1) := by decide +kernel
theorem d_R_addGate_28 : decode c9_R_addGate 28 = .ok (.getfield 27, 3) := by decide +kernel
theorem d_R_addGate_31 : decode c9_R_addGate 31 = .ok (.aload_n 0, 1) := by decide +kernel
theorem d_R_addGate_32 : decode c9_R_addGate 32 = .ok (.getfield 31, 3) := by decide +kernel
theorem d_R_addGate_35 : decode c9_R_addGate 35 = .ok (.aaload, 1) := by decide +kernel
theorem d_R_addGate_36 : decode c9_R_addGate 36 = .ok (.astore 5, 2) := by decide +kernel
theorem d_R_addGate_38 : decode c9_R_addGate 38 = .ok (.aload 5, 2) := by decide +kernel
theorem d_R_addGate_40 : decode c9_R_addGate 40 = .ok (.aload_n 1, 1) := by decide +kernel
theorem d_R_addGate_41 : decode c9_R_addGate 41 = .ok (.iload_n 2, 1) := by decide +kernel
theorem d_R_addGate_42 : decode c9_R_addGate 42 = .ok (.iload_n 3, 1) := by decide +kernel
theorem d_R_addGate_43 : decode c9_R_addGate 43 = .ok (.iload 4, 2) := by decide +kernel
theorem d_R_addGate_45 : decode c9_R_addGate 45 = .ok (.invokevirtual 89, 3) := by decide +kernel
theorem d_R_addGate_48 : decode c9_R_addGate 48 = .ok (.aload 5, 2) := by decide +kernel
theorem d_R_addGate_50 : decode c9_R_addGate 50 = .ok (.aload_n 0, 1) := by decide +kernel
theorem d_R_addGate_51 : decode c9_R_addGate 51 = .ok (.getfield 27, 3) := by decide +kernel
theorem d_R_addGate_54 : decode c9_R_addGate 54 = .ok (.iload_n 2, 1) := by decide +kernel
theorem d_R_addGate_55 : decode c9_R_addGate 55 = .ok (.aaload, 1) := by decide +kernel
theorem d_R_addGate_56 : decode c9_R_addGate 56 = .ok (.getfield 93, 3) := by decide +kernel
theorem d_R_addGate_59 : decode c9_R_addGate 59 = .ok (.aload_n 0, 1) := by decide +kernel
theorem d_R_addGate_60 : decode c9_R_addGate 60 = .ok (.getfield 27, 3) := by decide +kernel
theorem d_R_addGate_63 : decode c9_R_addGate 63 = .ok (.iload_n 3, 1) := by decide +kernel
theorem d_R_addGate_64 : decode c9_R_addGate 64 = .ok (.aaload, 1) := by decide +kernel
theorem d_R_addGate_65 : decode c9_R_addGate 65 = .ok (.getfield 93, 3) := by decide +kernel
theorem d_R_addGate_68 : decode c9_R_addGate 68 = .ok (.invokestatic 181, 3) := by decide +kernel
theorem d_R_addGate_71 : decode c9_R_addGate 71 = .ok (.aload_n 0, 1) := by decide +kernel
theorem d_R_addGate_72 : decode c9_R_addGate 72 = .ok (.invokevirtual 100, 3) := by decide +kernel
theorem d_R_addGate_75 : decode c9_R_addGate 75 = .ok (.ireturn, 1) := by decide +kernel
theorem d_R_isGate_0 : decode c9_R_isGate 0 = .ok (.iload_n 1, 1) := by decide +kernel
theorem d_R_isGate_1 : decode c9_R_isGate 1 = .ok (.ifCond .lt 15, 3) := by decide +kernel
theorem d_R_isGate_4 : decode c9_R_isGate 4 = .ok (.iload_n 1, 1) := by decide +kernel
theorem d_R_isGate_5 : decode c9_R_isGate 5 = .ok (.aload_n 0, 1) := by decide +kernel
theorem d_R_isGate_6 : decode c9_R_isGate 6 = .ok (.getfield 31, 3) := by decide +kernel
theorem d_R_isGate_9 : decode c9_R_isGate 9 = .ok (.if_icmp .ge 7, 3) := by decide +kernel
theorem d_R_isGate_12 : decode c9_R_isGate 12 = .ok (.iconst 1, 1) := by decide +kernel
theorem d_R_isGate_13 : decode c9_R_isGate 13 = .ok (.goto 4, 3) := by decide +kernel
theorem d_R_isGate_16 : decode c9_R_isGate 16 = .ok (.iconst 0, 1) := by decide +kernel
theorem d_R_isGate_17 : decode c9_R_isGate 17 = .ok (.ireturn, 1) := by decide +kernel
theorem d_R_setPlain_0 : decode c9_R_setPlain 0 = .ok (.getstatic 185, 3) := by decide +kernel
theorem d_R_setPlain_3 : decode c9_R_setPlain 3 = .ok (.aload_n 0, 1) := by decide +kernel
theorem d_R_setPlain_4 : decode c9_R_setPlain 4 = .ok (.getfield 190, 3) := by decide +kernel
theorem d_R_setPlain_7 : decode c9_R_setPlain 7 = .ok (.invokevirtual 193, 3) := by decide +kernel
theorem d_R_setPlain_10 : decode c9_R_setPlain 10 = .ok (.iaload, 1) := by decide +kernel
theorem d_R_setPlain_11 : decode c9_R_setPlain 11 = .ok (.tableswitch 94 1 4 #[29, 43, 57, 78], 29) := by decide +kernel
theorem d_R_setPlain_40 : decode c9_R_setPlain 40 = .ok (.aload_n 0, 1) := by decide +kernel
theorem d_R_setPlain_41 : decode c9_R_setPlain 41 = .ok (.getfield 93, 3) := by decide +kernel
theorem d_R_setPlain_44 : decode c9_R_setPlain 44 = .ok (.aload_n 1, 1) := by decide +kernel
theorem d_R_setPlain_45 : decode c9_R_setPlain 45 = .ok (.iconst 1, 1) := by decide +kernel
theorem d_R_setPlain_46 : decode c9_R_setPlain 46 = .ok (.aload_n 2, 1) := by decide +kernel
theorem d_R_setPlain_47 : decode c9_R_setPlain 47 = .ok (.iconst 0, 1) := by decide +kernel
theorem d_R_setPlain_48 : decode c9_R_setPlain 48 = .ok (.invokevirtual 196, 3) := by decide +kernel
theorem d_R_setPlain_51 : decode c9_R_setPlain 51 = .ok (.goto 62, 3) := by decide +kernel
theorem d_R_setPlain_54 : decode c9_R_setPlain 54 = .ok (.aload_n 0, 1) := by decide +kernel
theorem d_R_setPlain_55 : decode c9_R_setPlain 55 = .ok (.getfield 93, 3) := by decide +kernel
theorem d_R_setPlain_58 : decode c9_R_setPlain 58 = .ok (.aload_n 1, 1) := by decide +kernel
theorem d_R_setPlain_59 : decode c9_R_setPlain 59 = .ok (.iconst (-1), 1) := by decide +kernel
theorem d_R_setPlain_60 : decode c9_R_setPlain 60 = .ok (.aload_n 2, 1) := by decide +kernel
theorem d_R_setPlain_61 : decode c9_R_setPlain 61 = .ok (.iconst 0, 1) := by decide +kernel
theorem d_R_setPlain_62 : decode c9_R_setPlain 62 = .ok (.invokevirtual 196, 3) := by decide +kernel
theorem d_R_setPlain_65 : decode c9_R_setPlain 65 = .ok (.goto 48, 3) := by decide +kernel
theorem d_R_setPlain_68 : decode c9_R_setPlain 68 = .ok (.aload_n 0, 1) := by decide +kernel
theorem d_R_setPlain_69 : decode c9_R_setPlain 69 = .ok (.getfield 93, 3) := by decide +kernel
theorem d_R_setPlain_72 : decode c9_R_setPlain 72 = .ok (.invokevirtual 200, 3) := by decide +kernel
theorem d_R_setPlain_75 : decode c9_R_setPlain 75 = .ok (.aload_n 0, 1) := by decide +kernel
theorem d_R_setPlain_76 : decode c9_R_setPlain 76 = .ok (.getfield 93, 3) := by decide +kernel
theorem d_R_setPlain_79 : decode c9_R_setPlain 79 = .ok (.iconst 1, 1) := by decide +kernel
theorem d_R_setPlain_80 : decode c9_R_setPlain 80 = .ok (.aload_n 1, 1) := by decide +kernel
theorem d_R_setPlain_81 : decode c9_R_setPlain 81 = .ok (.aload_n 2, 1) := by decide +kernel
theorem d_R_setPlain_82 : decode c9_R_setPlain 82 = .ok (.iconst 0, 1) := by decide +kernel
theorem d_R_setPlain_83 : decode c9_R_setPlain 83 = .ok (.invokevirtual 203, 3) := by decide +kernel
theorem d_R_setPlain_86 : decode c9_R_setPlain 86 = .ok (.goto 27, 3) := by decide +kernel
theorem d_R_setPlain_89 : decode c9_R_setPlain 89 = .ok (.aload_n 0, 1) := by decide +kernel
theorem d_R_setPlain_90 : decode c9_R_setPlain 90 = .ok (.getfield 93, 3) := by decide +kernel
theorem d_R_setPlain_93 : decode c9_R_setPlain 93 = .ok (.aload_n 1, 1) := by decide +kernel
theorem d_R_setPlain_94 : decode c9_R_setPlain 94 = .ok (.aload_n 0, 1) := by decide +kernel
theorem d_R_setPlain_95 : decode c9_R_setPlain 95 = .ok (.getfield 207, 3) := by decide +kernel
theorem d_R_setPlain_98 : decode c9_R_setPlain 98 = .ok (.iconst 0, 1) := by decide +kernel
theorem d_R_setPlain_99 : decode c9_R_setPlain 99 = .ok (.invokevirtual 210, 3) := by decide +kernel
theorem d_R_setPlain_102 : decode c9_R_setPlain 102 = .ok (.goto 11, 3) := by decide +kernel
theorem d_R_setPlain_105 : decode c9_R_setPlain 105 = .ok (.aload_n 0, 1) := by decide +kernel
theorem d_R_setPlain_106 : decode c9_R_setPlain 106 = .ok (.getfield 93, 3) := by decide +kernel
theorem d_R_setPlain_109 : decode c9_R_setPlain 109 = .ok (.aload_n 1, 1) := by decide +kernel
theorem d_R_setPlain_110 : decode c9_R_setPlain 110 = .ok (.invokevirtual 96, 3) := by decide +kernel
theorem d_R_setPlain_113 : decode c9_R_setPlain 113 = .ok (.return_, 1) := by decide +kernel
theorem d_R_difference_0 : decode c9_R_difference 0 = .ok (.aload_n 0, 1) := by decide +kernel
theorem d_R_difference_1 : decode c9_R_difference 1 = .ok (.getstatic 111, 3) := by decide +kernel
theorem d_R_difference_4 : decode c9_R_difference 4 = .ok (.iload_n 1, 1) := by decide +kernel
theorem d_R_difference_5 : decode c9_R_difference 5 = .ok (.iload_n 2, 1) := by decide +kernel
theorem d_R_difference_6 : decode c9_R_difference 6 = .ok (.iconst 0, 1) := by decide +kernel
theorem d_R_difference_7 : decode c9_R_difference 7 = .ok (.invokevirtual 107, 3) := by decide +kernel
theorem d_R_difference_10 : decode c9_R_difference 10 = .ok (.ireturn, 1) := by decide +kernel
theorem d_R_product_0 : decode c9_R_product 0 = .ok (.aload_n 0, 1) := by decide +kernel
theorem d_R_product_1 : decode c9_R_product 1 = .ok (.getstatic 114, 3) := by decide +kernel
theorem d_R_product_4 : decode c9_R_product 4 = .ok (.iload_n 1, 1) := by decide +kernel
theorem d_R_product_5 : decode c9_R_product 5 = .ok (.iload_n 2, 1) := by decide +kernel
theorem d_R_product_6 : decode c9_R_product 6 = .ok (.iconst 0, 1) := by decide +kernel
theorem d_R_product_7 : decode c9_R_product 7 = .ok (.invokevirtual 107, 3) := by decide +kernel
theorem d_R_product_10 : decode c9_R_product 10 = .ok (.ireturn, 1) := by decide +kernel
theorem d_R_shift_0 : decode c9_R_shift 0 = .ok (.iload_n 2, 1) := by decide +kernel
theorem d_R_shift_1 : decode c9_R_shift 1 = .ok (.ifCond .lt 9, 3) := by decide +kernel
theorem d_R_shift_4 : decode c9_R_shift 4 = .ok (.iload_n 2, 1) := by decide +kernel
theorem d_R_shift_5 : decode c9_R_shift 5 = .ok (.bipush 16, 2) := by decide +kernel
theorem d_R_shift_7 : decode c9_R_shift 7 = .ok (.if_icmp .lt 5, 3) := by decide +kernel
theorem d_R_shift_10 : decode c9_R_shift 10 = .ok (.iconst (-1), 1) := by decide +kernel
theorem d_R_shift_11 : decode c9_R_shift 11 = .ok (.ireturn, 1) := by decide +kernel
theorem d_R_shift_12 : decode c9_R_shift 12 = .ok (.aload_n 0, 1) := by decide +kernel
theorem d_R_shift_13 : decode c9_R_shift 13 = .ok (.getstatic 117, 3) := by decide +kernel
theorem d_R_shift_16 : decode c9_R_shift 16 = .ok (.iload_n 1, 1) := by decide +kernel
theorem d_R_shift_17 : decode c9_R_shift 17 = .ok (.iload_n 1, 1) := by decide +kernel
theorem d_R_shift_18 : decode c9_R_shift 18 = .ok (.iload_n 2, 1) := by decide +kernel
theorem d_R_shift_19 : decode c9_R_shift 19 = .ok (.invokevirtual 107, 3) := by decide +kernel
theorem d_R_shift_22 : decode c9_R_shift 22 = .ok (.ireturn, 1) := by decide +kernel
theorem d_R_lowered_0 : decode c9_R_lowered 0 = .ok (.aload_n 0, 1) := by decide +kernel
theorem d_R_lowered_1 : decode c9_R_lowered 1 = .ok (.getstatic 120, 3) := by decide +kernel
theorem d_R_lowered_4 : decode c9_R_lowered 4 = .ok (.iload_n 1, 1) := by decide +kernel
theorem d_R_lowered_5 : decode c9_R_lowered 5 = .ok (.iload_n 1, 1) := by decide +kernel
theorem d_R_lowered_6 : decode c9_R_lowered 6 = .ok (.iconst 0, 1) := by decide +kernel
theorem d_R_lowered_7 : decode c9_R_lowered 7 = .ok (.invokevirtual 107, 3) := by decide +kernel
theorem d_R_lowered_10 : decode c9_R_lowered 10 = .ok (.ireturn, 1) := by decide +kernel
theorem d_R_count_0 : decode c9_R_count 0 = .ok (.aload_n 0, 1) := by decide +kernel
theorem d_R_count_1 : decode c9_R_count 1 = .ok (.getfield 31, 3) := by decide +kernel
theorem d_R_count_4 : decode c9_R_count 4 = .ok (.ireturn, 1) := by decide +kernel
theorem d_R_cut_0 : decode c9_R_cut 0 = .ok (.aload_n 0, 1) := by decide +kernel
theorem d_R_cut_1 : decode c9_R_cut 1 = .ok (.iload_n 1, 1) := by decide +kernel
theorem d_R_cut_2 : decode c9_R_cut 2 = .ok (.invokevirtual 123, 3) := by decide +kernel
theorem d_R_cut_5 : decode c9_R_cut 5 = .ok (.ifCond .ne 5, 3) := by decide +kernel
theorem d_R_cut_8 : decode c9_R_cut 8 = .ok (.iconst 0, 1) := by decide +kernel
theorem d_R_cut_9 : decode c9_R_cut 9 = .ok (.ireturn, 1) := by decide +kernel
theorem d_R_cut_10 : decode c9_R_cut 10 = .ok (.aload_n 0, 1) := by decide +kernel
theorem d_R_cut_11 : decode c9_R_cut 11 = .ok (.iload_n 1, 1) := by decide +kernel
theorem d_R_cut_12 : decode c9_R_cut 12 = .ok (.putfield 31, 3) := by decide +kernel
theorem d_R_cut_15 : decode c9_R_cut 15 = .ok (.aload_n 0, 1) := by decide +kernel
theorem d_R_cut_16 : decode c9_R_cut 16 = .ok (.aload_n 0, 1) := by decide +kernel
theorem d_R_cut_17 : decode c9_R_cut 17 = .ok (.getfield 35, 3) := by decide +kernel
theorem d_R_cut_20 : decode c9_R_cut 20 = .ok (.iload_n 1, 1) := by decide +kernel
theorem d_R_cut_21 : decode c9_R_cut 21 = .ok (.invokestatic 126, 3) := by decide +kernel
theorem d_R_cut_24 : decode c9_R_cut 24 = .ok (.putfield 35, 3) := by decide +kernel
theorem d_R_cut_27 : decode c9_R_cut 27 = .ok (.iconst 1, 1) := by decide +kernel
theorem d_R_cut_28 : decode c9_R_cut 28 = .ok (.ireturn, 1) := by decide +kernel
theorem d_R_run_0 : decode c9_R_run 0 = .ok (.aload_n 0, 1) := by decide +kernel
theorem d_R_run_1 : decode c9_R_run 1 = .ok (.getfield 35, 3) := by decide +kernel
theorem d_R_run_4 : decode c9_R_run 4 = .ok (.istore_n 1, 1) := by decide +kernel
theorem d_R_run_5 : decode c9_R_run 5 = .ok (.iload_n 1, 1) := by decide +kernel
theorem d_R_run_6 : decode c9_R_run 6 = .ok (.aload_n 0, 1) := by decide +kernel
theorem d_R_run_7 : decode c9_R_run 7 = .ok (.getfield 31, 3) := by decide +kernel
theorem d_R_run_10 : decode c9_R_run 10 = .ok (.if_icmp .ge 31, 3) := by decide +kernel
theorem d_R_run_13 : decode c9_R_run 13 = .ok (.aload_n 0, 1) := by decide +kernel
theorem d_R_run_14 : decode c9_R_run 14 = .ok (.aload_n 0, 1) := by decide +kernel
theorem d_R_run_15 : decode c9_R_run 15 = .ok (.getfield 27, 3) := by decide +kernel
theorem d_R_run_18 : decode c9_R_run 18 = .ok (.iload_n 1, 1) := by decide +kernel
theorem d_R_run_19 : decode c9_R_run 19 = .ok (.aaload, 1) := by decide +kernel
theorem d_R_run_20 : decode c9_R_run 20 = .ok (.invokevirtual 132, 3) := by decide +kernel
theorem d_R_run_23 : decode c9_R_run 23 = .ok (.ifCond .ne 5, 3) := by decide +kernel
theorem d_R_run_26 : decode c9_R_run 26 = .ok (.iload_n 1, 1) := by decide +kernel
theorem d_R_run_27 : decode c9_R_run 27 = .ok (.ireturn, 1) := by decide +kernel
theorem d_R_run_28 : decode c9_R_run 28 = .ok (.aload_n 0, 1) := by decide +kernel
theorem d_R_run_29 : decode c9_R_run 29 = .ok (.iload_n 1, 1) := by decide +kernel
theorem d_R_run_30 : decode c9_R_run 30 = .ok (.iconst 1, 1) := by decide +kernel
theorem d_R_run_31 : decode c9_R_run 31 = .ok (.iadd, 1) := by decide +kernel
theorem d_R_run_32 : decode c9_R_run 32 = .ok (.putfield 35, 3) := by decide +kernel
theorem d_R_run_35 : decode c9_R_run 35 = .ok (.iinc 1 1, 3) := by decide +kernel
theorem d_R_run_38 : decode c9_R_run 38 = .ok (.goto (-33), 3) := by decide +kernel
theorem d_R_run_41 : decode c9_R_run 41 = .ok (.iconst (-1), 1) := by decide +kernel
theorem d_R_run_42 : decode c9_R_run 42 = .ok (.ireturn, 1) := by decide +kernel
theorem d_R_giveValue_0 : decode c9_R_giveValue 0 = .ok (.getstatic 185, 3) := by decide +kernel
theorem d_R_giveValue_3 : decode c9_R_giveValue 3 = .ok (.aload_n 1, 1) := by decide +kernel
theorem d_R_giveValue_4 : decode c9_R_giveValue 4 = .ok (.getfield 190, 3) := by decide +kernel
theorem d_R_giveValue_7 : decode c9_R_giveValue 7 = .ok (.invokevirtual 193, 3) := by decide +kernel
theorem d_R_giveValue_10 : decode c9_R_giveValue 10 = .ok (.iaload, 1) := by decide +kernel
theorem d_R_giveValue_11 : decode c9_R_giveValue 11 = .ok (.tableswitch 169 1 5 #[33, 59, 85, 117, 142], 33) := by decide +kernel
theorem d_R_giveValue_44 : decode c9_R_giveValue 44 = .ok (.aload_n 0, 1) := by decide +kernel
theorem d_R_giveValue_45 : decode c9_R_giveValue 45 = .ok (.aload_n 1, 1) := by decide +kernel
theorem d_R_giveValue_46 : decode c9_R_giveValue 46 = .ok (.invokevirtual 214, 3) := by decide +kernel
theorem d_R_giveValue_49 : decode c9_R_giveValue 49 = .ok (.ifCond .eq 19, 3) := by decide +kernel
theorem d_R_giveValue_52 : decode c9_R_giveValue 52 = .ok (.aload_n 0, 1) := by decide +kernel
theorem d_R_giveValue_53 : decode c9_R_giveValue 53 = .ok (.aload_n 1, 1) := by decide +kernel
theorem d_R_giveValue_54 : decode c9_R_giveValue 54 = .ok (.getfield 139, 3) := by decide +kernel
theorem d_R_giveValue_57 : decode c9_R_giveValue 57 = .ok (.iconst 1, 1) := by decide +kernel
theorem d_R_giveValue_58 : decode c9_R_giveValue 58 = .ok (.invokevirtual 217, 3) := by decide +kernel
theorem d_R_giveValue_61 : decode c9_R_giveValue 61 = .ok (.ifCond .eq 7, 3) := by decide +kernel
theorem d_R_giveValue_64 : decode c9_R_giveValue 64 = .ok (.iconst 1, 1) := by decide +kernel
theorem d_R_giveValue_65 : decode c9_R_giveValue 65 = .ok (.goto 4, 3) := by decide +kernel
theorem d_R_giveValue_68 : decode c9_R_giveValue 68 = .ok (.iconst 0, 1) := by decide +kernel
theorem d_R_giveValue_69 : decode c9_R_giveValue 69 = .ok (.ireturn, 1) := by decide +kernel
theorem d_R_giveValue_70 : decode c9_R_giveValue 70 = .ok (.aload_n 0, 1) := by decide +kernel
theorem d_R_giveValue_71 : decode c9_R_giveValue 71 = .ok (.aload_n 1, 1) := by decide +kernel
theorem d_R_giveValue_72 : decode c9_R_giveValue 72 = .ok (.invokevirtual 214, 3) := by decide +kernel
theorem d_R_giveValue_75 : decode c9_R_giveValue 75 = .ok (.ifCond .eq 19, 3) := by decide +kernel
theorem d_R_giveValue_78 : decode c9_R_giveValue 78 = .ok (.aload_n 0, 1) := by decide +kernel
theorem d_R_giveValue_79 : decode c9_R_giveValue 79 = .ok (.aload_n 1, 1) := by decide +kernel
theorem d_R_giveValue_80 : decode c9_R_giveValue 80 = .ok (.getfield 139, 3) := by decide +kernel
theorem d_R_giveValue_83 : decode c9_R_giveValue 83 = .ok (.iconst (-1), 1) := by decide +kernel
theorem d_R_giveValue_84 : decode c9_R_giveValue 84 = .ok (.invokevirtual 217, 3) := by decide +kernel
theorem d_R_giveValue_87 : decode c9_R_giveValue 87 = .ok (.ifCond .eq 7, 3) := by decide +kernel
theorem d_R_giveValue_90 : decode c9_R_giveValue 90 = .ok (.iconst 1, 1) := by decide +kernel
theorem d_R_giveValue_91 : decode c9_R_giveValue 91 = .ok (.goto 4, 3) := by decide +kernel
theorem d_R_giveValue_94 : decode c9_R_giveValue 94 = .ok (.iconst 0, 1) := by decide +kernel
theorem d_R_giveValue_95 : decode c9_R_giveValue 95 = .ok (.ireturn, 1) := by decide +kernel
theorem d_R_giveValue_96 : decode c9_R_giveValue 96 = .ok (.aload_n 0, 1) := by decide +kernel
theorem d_R_giveValue_97 : decode c9_R_giveValue 97 = .ok (.aload_n 1, 1) := by decide +kernel
theorem d_R_giveValue_98 : decode c9_R_giveValue 98 = .ok (.invokevirtual 214, 3) := by decide +kernel
theorem d_R_giveValue_101 : decode c9_R_giveValue 101 = .ok (.ifCond .eq 25, 3) := by decide +kernel
theorem d_R_giveValue_104 : decode c9_R_giveValue 104 = .ok (.aload_n 0, 1) := by decide +kernel
theorem d_R_giveValue_105 : decode c9_R_giveValue 105 = .ok (.invokevirtual 221, 3) := by decide +kernel
theorem d_R_giveValue_108 : decode c9_R_giveValue 108 = .ok (.ifCond .eq 18, 3) := by decide +kernel
theorem d_R_giveValue_111 : decode c9_R_giveValue 111 = .ok (.aload_n 0, 1) := by decide +kernel
theorem d_R_giveValue_112 : decode c9_R_giveValue 112 = .ok (.aload_n 1, 1) := by decide +kernel
theorem d_R_giveValue_113 : decode c9_R_giveValue 113 = .ok (.getfield 139, 3) := by decide +kernel
theorem d_R_giveValue_116 : decode c9_R_giveValue 116 = .ok (.invokevirtual 225, 3) := by decide +kernel
theorem d_R_giveValue_119 : decode c9_R_giveValue 119 = .ok (.ifCond .eq 7, 3) := by decide +kernel
theorem d_R_giveValue_122 : decode c9_R_giveValue 122 = .ok (.iconst 1, 1) := by decide +kernel
theorem d_R_giveValue_123 : decode c9_R_giveValue 123 = .ok (.goto 4, 3) := by decide +kernel
theorem d_R_giveValue_126 : decode c9_R_giveValue 126 = .ok (.iconst 0, 1) := by decide +kernel
theorem d_R_giveValue_127 : decode c9_R_giveValue 127 = .ok (.ireturn, 1) := by decide +kernel
theorem d_R_giveValue_128 : decode c9_R_giveValue 128 = .ok (.aload_n 1, 1) := by decide +kernel
theorem d_R_giveValue_129 : decode c9_R_giveValue 129 = .ok (.getfield 139, 3) := by decide +kernel
theorem d_R_giveValue_132 : decode c9_R_giveValue 132 = .ok (.aload_n 0, 1) := by decide +kernel
theorem d_R_giveValue_133 : decode c9_R_giveValue 133 = .ok (.getfield 27, 3) := by decide +kernel
theorem d_R_giveValue_136 : decode c9_R_giveValue 136 = .ok (.aload_n 1, 1) := by decide +kernel
theorem d_R_giveValue_137 : decode c9_R_giveValue 137 = .ok (.getfield 229, 3) := by decide +kernel
theorem d_R_giveValue_140 : decode c9_R_giveValue 140 = .ok (.aaload, 1) := by decide +kernel
theorem d_R_giveValue_141 : decode c9_R_giveValue 141 = .ok (.getfield 139, 3) := by decide +kernel
theorem d_R_giveValue_144 : decode c9_R_giveValue 144 = .ok (.aload_n 1, 1) := by decide +kernel
theorem d_R_giveValue_145 : decode c9_R_giveValue 145 = .ok (.getfield 207, 3) := by decide +kernel
theorem d_R_giveValue_148 : decode c9_R_giveValue 148 = .ok (.invokestatic 232, 3) := by decide +kernel
theorem d_R_giveValue_151 : decode c9_R_giveValue 151 = .ok (.iconst 1, 1) := by decide +kernel
theorem d_R_giveValue_152 : decode c9_R_giveValue 152 = .ok (.ireturn, 1) := by decide +kernel
theorem d_R_giveValue_153 : decode c9_R_giveValue 153 = .ok (.aload_n 1, 1) := by decide +kernel
theorem d_R_giveValue_154 : decode c9_R_giveValue 154 = .ok (.getfield 139, 3) := by decide +kernel
theorem d_R_giveValue_157 : decode c9_R_giveValue 157 = .ok (.aload_n 0, 1) := by decide +kernel
theorem d_R_giveValue_158 : decode c9_R_giveValue 158 = .ok (.getfield 27, 3) := by decide +kernel
theorem d_R_giveValue_161 : decode c9_R_giveValue 161 = .ok (.aload_n 1, 1) := by decide +kernel
theorem d_R_giveValue_162 : decode c9_R_giveValue 162 = .ok (.getfield 229, 3) := by decide +kernel
theorem d_R_giveValue_165 : decode c9_R_giveValue 165 = .ok (.aaload, 1) := by decide +kernel
theorem d_R_giveValue_166 : decode c9_R_giveValue 166 = .ok (.getfield 139, 3) := by decide +kernel
theorem d_R_giveValue_169 : decode c9_R_giveValue 169 = .ok (.invokevirtual 236, 3) := by decide +kernel
theorem d_R_giveValue_172 : decode c9_R_giveValue 172 = .ok (.aload_n 1, 1) := by decide +kernel
theorem d_R_giveValue_173 : decode c9_R_giveValue 173 = .ok (.getfield 139, 3) := by decide +kernel
theorem d_R_giveValue_176 : decode c9_R_giveValue 176 = .ok (.invokevirtual 238, 3) := by decide +kernel
theorem d_R_giveValue_179 : decode c9_R_giveValue 179 = .ok (.ireturn, 1) := by decide +kernel
theorem d_R_giveValue_180 : decode c9_R_giveValue 180 = .ok (.aload_n 0, 1) := by decide +kernel
theorem d_R_giveValue_181 : decode c9_R_giveValue 181 = .ok (.aload_n 1, 1) := by decide +kernel
theorem d_R_giveValue_182 : decode c9_R_giveValue 182 = .ok (.getfield 139, 3) := by decide +kernel
theorem d_R_giveValue_185 : decode c9_R_giveValue 185 = .ok (.aload_n 1, 1) := by decide +kernel
theorem d_R_giveValue_186 : decode c9_R_giveValue 186 = .ok (.getfield 93, 3) := by decide +kernel
theorem d_R_giveValue_189 : decode c9_R_giveValue 189 = .ok (.aload_n 1, 1) := by decide +kernel
theorem d_R_giveValue_190 : decode c9_R_giveValue 190 = .ok (.getfield 207, 3) := by decide +kernel
theorem d_R_giveValue_193 : decode c9_R_giveValue 193 = .ok (.invokevirtual 241, 3) := by decide +kernel
theorem d_R_giveValue_196 : decode c9_R_giveValue 196 = .ok (.iconst 1, 1) := by decide +kernel
theorem d_R_giveValue_197 : decode c9_R_giveValue 197 = .ok (.ireturn, 1) := by decide +kernel
theorem d_R_takeOperands_0 : decode c9_R_takeOperands 0 = .ok (.aload_n 0, 1) := by decide +kernel
theorem d_R_takeOperands_1 : decode c9_R_takeOperands 1 = .ok (.getfield 41, 3) := by decide +kernel
theorem d_R_takeOperands_4 : decode c9_R_takeOperands 4 = .ok (.aload_n 0, 1) := by decide +kernel
theorem d_R_takeOperands_5 : decode c9_R_takeOperands 5 = .ok (.getfield 27, 3) := by decide +kernel
theorem d_R_takeOperands_8 : decode c9_R_takeOperands 8 = .ok (.aload_n 1, 1) := by decide +kernel
theorem d_R_takeOperands_9 : decode c9_R_takeOperands 9 = .ok (.getfield 229, 3) := by decide +kernel
theorem d_R_takeOperands_12 : decode c9_R_takeOperands 12 = .ok (.aaload, 1) := by decide +kernel
theorem d_R_takeOperands_13 : decode c9_R_takeOperands 13 = .ok (.getfield 139, 3) := by decide +kernel
theorem d_R_takeOperands_16 : decode c9_R_takeOperands 16 = .ok (.invokevirtual 236, 3) := by decide +kernel
theorem d_R_takeOperands_19 : decode c9_R_takeOperands 19 = .ok (.aload_n 0, 1) := by decide +kernel
theorem d_R_takeOperands_20 : decode c9_R_takeOperands 20 = .ok (.getfield 45, 3) := by decide +kernel
theorem d_R_takeOperands_23 : decode c9_R_takeOperands 23 = .ok (.aload_n 0, 1) := by decide +kernel
theorem d_R_takeOperands_24 : decode c9_R_takeOperands 24 = .ok (.getfield 27, 3) := by decide +kernel
theorem d_R_takeOperands_27 : decode c9_R_takeOperands 27 = .ok (.aload_n 1, 1) := by decide +kernel
theorem d_R_takeOperands_28 : decode c9_R_takeOperands 28 = .ok (.getfield 254, 3) := by decide +kernel
theorem d_R_takeOperands_31 : decode c9_R_takeOperands 31 = .ok (.aaload, 1) := by decide +kernel
theorem d_R_takeOperands_32 : decode c9_R_takeOperands 32 = .ok (.getfield 139, 3) := by decide +kernel
theorem d_R_takeOperands_35 : decode c9_R_takeOperands 35 = .ok (.invokevirtual 236, 3) := by decide +kernel
theorem d_R_takeOperands_38 : decode c9_R_takeOperands 38 = .ok (.aload_n 0, 1) := by decide +kernel
theorem d_R_takeOperands_39 : decode c9_R_takeOperands 39 = .ok (.getfield 41, 3) := by decide +kernel
theorem d_R_takeOperands_42 : decode c9_R_takeOperands 42 = .ok (.aload_n 0, 1) := by decide +kernel
theorem d_R_takeOperands_43 : decode c9_R_takeOperands 43 = .ok (.getfield 45, 3) := by decide +kernel
theorem d_R_takeOperands_46 : decode c9_R_takeOperands 46 = .ok (.getfield 142, 3) := by decide +kernel
theorem d_R_takeOperands_49 : decode c9_R_takeOperands 49 = .ok (.invokevirtual 257, 3) := by decide +kernel
theorem d_R_takeOperands_52 : decode c9_R_takeOperands 52 = .ok (.ifCond .eq 24, 3) := by decide +kernel
theorem d_R_takeOperands_55 : decode c9_R_takeOperands 55 = .ok (.aload_n 0, 1) := by decide +kernel
theorem d_R_takeOperands_56 : decode c9_R_takeOperands 56 = .ok (.getfield 45, 3) := by decide +kernel
theorem d_R_takeOperands_59 : decode c9_R_takeOperands 59 = .ok (.aload_n 0, 1) := by decide +kernel
theorem d_R_takeOperands_60 : decode c9_R_takeOperands 60 = .ok (.getfield 41, 3) := by decide +kernel
theorem d_R_takeOperands_63 : decode c9_R_takeOperands 63 = .ok (.getfield 142, 3) := by decide +kernel
theorem d_R_takeOperands_66 : decode c9_R_takeOperands 66 = .ok (.invokevirtual 257, 3) := by decide +kernel
theorem d_R_takeOperands_69 : decode c9_R_takeOperands 69 = .ok (.ifCond .eq 7, 3) := by decide +kernel
theorem d_R_takeOperands_72 : decode c9_R_takeOperands 72 = .ok (.iconst 1, 1) := by decide +kernel
theorem d_R_takeOperands_73 : decode c9_R_takeOperands 73 = .ok (.goto 4, 3) := by decide +kernel
theorem d_R_takeOperands_76 : decode c9_R_takeOperands 76 = .ok (.iconst 0, 1) := by decide +kernel
theorem d_R_takeOperands_77 : decode c9_R_takeOperands 77 = .ok (.ireturn, 1) := by decide +kernel
theorem d_R_giveSum_0 : decode c9_R_giveSum 0 = .ok (.aload_n 1, 1) := by decide +kernel
theorem d_R_giveSum_1 : decode c9_R_giveSum 1 = .ok (.aload_n 0, 1) := by decide +kernel
theorem d_R_giveSum_2 : decode c9_R_giveSum 2 = .ok (.getfield 41, 3) := by decide +kernel
theorem d_R_giveSum_5 : decode c9_R_giveSum 5 = .ok (.getfield 142, 3) := by decide +kernel
theorem d_R_giveSum_8 : decode c9_R_giveSum 8 = .ok (.putfield 142, 3) := by decide +kernel
theorem d_R_giveSum_11 : decode c9_R_giveSum 11 = .ok (.aload_n 1, 1) := by decide +kernel
theorem d_R_giveSum_12 : decode c9_R_giveSum 12 = .ok (.aload_n 0, 1) := by decide +kernel
theorem d_R_giveSum_13 : decode c9_R_giveSum 13 = .ok (.getfield 41, 3) := by decide +kernel
theorem d_R_giveSum_16 : decode c9_R_giveSum 16 = .ok (.getfield 145, 3) := by decide +kernel
theorem d_R_giveSum_19 : decode c9_R_giveSum 19 = .ok (.aload_n 0, 1) := by decide +kernel
theorem d_R_giveSum_20 : decode c9_R_giveSum 20 = .ok (.getfield 45, 3) := by decide +kernel
theorem d_R_giveSum_23 : decode c9_R_giveSum 23 = .ok (.getfield 145, 3) := by decide +kernel
theorem d_R_giveSum_26 : decode c9_R_giveSum 26 = .ok (.ladd, 1) := by decide +kernel
theorem d_R_giveSum_27 : decode c9_R_giveSum 27 = .ok (.putfield 145, 3) := by decide +kernel
theorem d_R_giveSum_30 : decode c9_R_giveSum 30 = .ok (.aload_n 1, 1) := by decide +kernel
theorem d_R_giveSum_31 : decode c9_R_giveSum 31 = .ok (.invokevirtual 262, 3) := by decide +kernel
theorem d_R_giveSum_34 : decode c9_R_giveSum 34 = .ok (.ifCond .eq 5, 3) := by decide +kernel
theorem d_R_giveSum_37 : decode c9_R_giveSum 37 = .ok (.iconst 0, 1) := by decide +kernel
theorem d_R_giveSum_38 : decode c9_R_giveSum 38 = .ok (.ireturn, 1) := by decide +kernel
theorem d_R_giveSum_39 : decode c9_R_giveSum 39 = .ok (.aload_n 1, 1) := by decide +kernel
theorem d_R_giveSum_40 : decode c9_R_giveSum 40 = .ok (.getfield 167, 3) := by decide +kernel
theorem d_R_giveSum_43 : decode c9_R_giveSum 43 = .ok (.aload_n 0, 1) := by decide +kernel
theorem d_R_giveSum_44 : decode c9_R_giveSum 44 = .ok (.getfield 41, 3) := by decide +kernel
theorem d_R_giveSum_47 : decode c9_R_giveSum 47 = .ok (.getfield 167, 3) := by decide +kernel
theorem d_R_giveSum_50 : decode c9_R_giveSum 50 = .ok (.iload_n 2, 1) := by decide +kernel
theorem d_R_giveSum_51 : decode c9_R_giveSum 51 = .ok (.aload_n 0, 1) := by decide +kernel
theorem d_R_giveSum_52 : decode c9_R_giveSum 52 = .ok (.getfield 45, 3) := by decide +kernel
theorem d_R_giveSum_55 : decode c9_R_giveSum 55 = .ok (.getfield 167, 3) := by decide +kernel
theorem d_R_giveSum_58 : decode c9_R_giveSum 58 = .ok (.aload_n 1, 1) := by decide +kernel
theorem d_R_giveSum_59 : decode c9_R_giveSum 59 = .ok (.getfield 142, 3) := by decide +kernel
theorem d_R_giveSum_62 : decode c9_R_giveSum 62 = .ok (.invokevirtual 196, 3) := by decide +kernel
theorem d_R_giveSum_65 : decode c9_R_giveSum 65 = .ok (.aload_n 1, 1) := by decide +kernel
theorem d_R_giveSum_66 : decode c9_R_giveSum 66 = .ok (.getfield 170, 3) := by decide +kernel
theorem d_R_giveSum_69 : decode c9_R_giveSum 69 = .ok (.aload_n 0, 1) := by decide +kernel
theorem d_R_giveSum_70 : decode c9_R_giveSum 70 = .ok (.getfield 41, 3) := by decide +kernel
theorem d_R_giveSum_73 : decode c9_R_giveSum 73 = .ok (.getfield 170, 3) := by decide +kernel
theorem d_R_giveSum_76 : decode c9_R_giveSum 76 = .ok (.iload_n 2, 1) := by decide +kernel
theorem d_R_giveSum_77 : decode c9_R_giveSum 77 = .ok (.aload_n 0, 1) := by decide +kernel
theorem d_R_giveSum_78 : decode c9_R_giveSum 78 = .ok (.getfield 45, 3) := by decide +kernel
theorem d_R_giveSum_81 : decode c9_R_giveSum 81 = .ok (.getfield 170, 3) := by decide +kernel
theorem d_R_giveSum_84 : decode c9_R_giveSum 84 = .ok (.aload_n 1, 1) := by decide +kernel
theorem d_R_giveSum_85 : decode c9_R_giveSum 85 = .ok (.getfield 142, 3) := by decide +kernel
theorem d_R_giveSum_88 : decode c9_R_giveSum 88 = .ok (.invokevirtual 196, 3) := by decide +kernel
theorem d_R_giveSum_91 : decode c9_R_giveSum 91 = .ok (.iconst 1, 1) := by decide +kernel
theorem d_R_giveSum_92 : decode c9_R_giveSum 92 = .ok (.ireturn, 1) := by decide +kernel
theorem d_R_quietenOperands_0 : decode c9_R_quietenOperands 0 = .ok (.aload_n 0, 1) := by decide +kernel
theorem d_R_quietenOperands_1 : decode c9_R_quietenOperands 1 = .ok (.getfield 41, 3) := by decide +kernel
theorem d_R_quietenOperands_4 : decode c9_R_quietenOperands 4 = .ok (.getfield 142, 3) := by decide +kernel
theorem d_R_quietenOperands_7 : decode c9_R_quietenOperands 7 = .ok (.istore_n 1, 1) := by decide +kernel
theorem d_R_quietenOperands_8 : decode c9_R_quietenOperands 8 = .ok (.iload_n 1, 1) := by decide +kernel
theorem d_R_quietenOperands_9 : decode c9_R_quietenOperands 9 = .ok (.ifCond .le 59, 3) := by decide +kernel
theorem d_R_quietenOperands_12 : decode c9_R_quietenOperands 12 = .ok (.aload_n 0, 1) := by decide +kernel
theorem d_R_quietenOperands_13 : decode c9_R_quietenOperands 13 = .ok (.getfield 41, 3) := by decide +kernel
theorem d_R_quietenOperands_16 : decode c9_R_quietenOperands 16 = .ok (.getfield 145, 3) := by decide +kernel
theorem d_R_quietenOperands_19 : decode c9_R_quietenOperands 19 = .ok (.ldc2_w 260, 3) := by decide +kernel
theorem d_R_quietenOperands_22 : decode c9_R_quietenOperands 22 = .ok (.lcmp, 1) := by decide +kernel
theorem d_R_quietenOperands_23 : decode c9_R_quietenOperands 23 = .ok (.ifCond .gt 17, 3) := by decide +kernel
theorem d_R_quietenOperands_26 : decode c9_R_quietenOperands 26 = .ok (.aload_n 0, 1) := by decide +kernel
theorem d_R_quietenOperands_27 : decode c9_R_quietenOperands 27 = .ok (.getfield 45, 3) := by decide +kernel
theorem d_R_quietenOperands_30 : decode c9_R_quietenOperands 30 = .ok (.getfield 145, 3) := by decide +kernel
theorem d_R_quietenOperands_33 : decode c9_R_quietenOperands 33 = .ok (.ldc2_w 260, 3) := by decide +kernel
theorem d_R_quietenOperands_36 : decode c9_R_quietenOperands 36 = .ok (.lcmp, 1) := by decide +kernel
theorem d_R_quietenOperands_37 : decode c9_R_quietenOperands 37 = .ok (.ifCond .le 31, 3) := by decide +kernel
theorem d_R_quietenOperands_40 : decode c9_R_quietenOperands 40 = .ok (.aload_n 0, 1) := by decide +kernel
theorem d_R_quietenOperands_41 : decode c9_R_quietenOperands 41 = .ok (.getfield 41, 3) := by decide +kernel
theorem d_R_quietenOperands_44 : decode c9_R_quietenOperands 44 = .ok (.invokevirtual 238, 3) := by decide +kernel
theorem d_R_quietenOperands_47 : decode c9_R_quietenOperands 47 = .ok (.ifCond .eq 13, 3) := by decide +kernel
theorem d_R_quietenOperands_50 : decode c9_R_quietenOperands 50 = .ok (.aload_n 0, 1) := by decide +kernel
theorem d_R_quietenOperands_51 : decode c9_R_quietenOperands 51 = .ok (.getfield 45, 3) := by decide +kernel
theorem d_R_quietenOperands_54 : decode c9_R_quietenOperands 54 = .ok (.invokevirtual 238, 3) := by decide +kernel
theorem d_R_quietenOperands_57 : decode c9_R_quietenOperands 57 = .ok (.ifCond .ne 5, 3) := by decide +kernel
theorem d_R_quietenOperands_60 : decode c9_R_quietenOperands 60 = .ok (.iconst 0, 1) := by decide +kernel
theorem d_R_quietenOperands_61 : decode c9_R_quietenOperands 61 = .ok (.ireturn, 1) := by decide +kernel
theorem d_R_quietenOperands_62 : decode c9_R_quietenOperands 62 = .ok (.iinc 1 (-1), 3) := by decide +kernel
theorem d_R_quietenOperands_65 : decode c9_R_quietenOperands 65 = .ok (.goto (-57), 3) := by decide +kernel
theorem d_R_quietenOperands_68 : decode c9_R_quietenOperands 68 = .ok (.iconst 1, 1) := by decide +kernel
theorem d_R_quietenOperands_69 : decode c9_R_quietenOperands 69 = .ok (.ireturn, 1) := by decide +kernel
theorem d_R_giveProduct_0 : decode c9_R_giveProduct 0 = .ok (.aload_n 1, 1) := by decide +kernel
theorem d_R_giveProduct_1 : decode c9_R_giveProduct 1 = .ok (.aload_n 0, 1) := by decide +kernel
theorem d_R_giveProduct_2 : decode c9_R_giveProduct 2 = .ok (.getfield 41, 3) := by decide +kernel
theorem d_R_giveProduct_5 : decode c9_R_giveProduct 5 = .ok (.getfield 142, 3) := by decide +kernel
theorem d_R_giveProduct_8 : decode c9_R_giveProduct 8 = .ok (.putfield 142, 3) := by decide +kernel
theorem d_R_giveProduct_11 : decode c9_R_giveProduct 11 = .ok (.aload_n 1, 1) := by decide +kernel
theorem d_R_giveProduct_12 : decode c9_R_giveProduct 12 = .ok (.ldc2_w 265, 3) := by decide +kernel
theorem d_R_giveProduct_15 : decode c9_R_giveProduct 15 = .ok (.aload_n 0, 1) := by decide +kernel
theorem d_R_giveProduct_16 : decode c9_R_giveProduct 16 = .ok (.getfield 41, 3) := by decide +kernel
theorem d_R_giveProduct_19 : decode c9_R_giveProduct 19 = .ok (.getfield 145, 3) := by decide +kernel
theorem d_R_giveProduct_22 : decode c9_R_giveProduct 22 = .ok (.lmul, 1) := by decide +kernel
theorem d_R_giveProduct_23 : decode c9_R_giveProduct 23 = .ok (.aload_n 0, 1) := by decide +kernel
theorem d_R_giveProduct_24 : decode c9_R_giveProduct 24 = .ok (.getfield 45, 3) := by decide +kernel
theorem d_R_giveProduct_27 : decode c9_R_giveProduct 27 = .ok (.getfield 145, 3) := by decide +kernel
theorem d_R_giveProduct_30 : decode c9_R_giveProduct 30 = .ok (.lmul, 1) := by decide +kernel
theorem d_R_giveProduct_31 : decode c9_R_giveProduct 31 = .ok (.aload_n 0, 1) := by decide +kernel
theorem d_R_giveProduct_32 : decode c9_R_giveProduct 32 = .ok (.getfield 41, 3) := by decide +kernel
theorem d_R_giveProduct_35 : decode c9_R_giveProduct 35 = .ok (.getfield 142, 3) := by decide +kernel
theorem d_R_giveProduct_38 : decode c9_R_giveProduct 38 = .ok (.invokestatic 267, 3) := by decide +kernel
theorem d_R_giveProduct_41 : decode c9_R_giveProduct 41 = .ok (.ladd, 1) := by decide +kernel
theorem d_R_giveProduct_42 : decode c9_R_giveProduct 42 = .ok (.putfield 145, 3) := by decide +kernel
theorem d_R_giveProduct_45 : decode c9_R_giveProduct 45 = .ok (.aload_n 1, 1) := by decide +kernel
theorem d_R_giveProduct_46 : decode c9_R_giveProduct 46 = .ok (.invokevirtual 262, 3) := by decide +kernel
theorem d_R_giveProduct_49 : decode c9_R_giveProduct 49 = .ok (.ifCond .eq 5, 3) := by decide +kernel
theorem d_R_giveProduct_52 : decode c9_R_giveProduct 52 = .ok (.iconst 0, 1) := by decide +kernel
theorem d_R_giveProduct_53 : decode c9_R_giveProduct 53 = .ok (.ireturn, 1) := by decide +kernel
theorem d_R_giveProduct_54 : decode c9_R_giveProduct 54 = .ok (.aload_n 0, 1) := by decide +kernel
theorem d_R_giveProduct_55 : decode c9_R_giveProduct 55 = .ok (.aload_n 1, 1) := by decide +kernel
theorem d_R_giveProduct_56 : decode c9_R_giveProduct 56 = .ok (.invokevirtual 271, 3) := by decide +kernel
theorem d_R_giveProduct_59 : decode c9_R_giveProduct 59 = .ok (.aload_n 0, 1) := by decide +kernel
theorem d_R_giveProduct_60 : decode c9_R_giveProduct 60 = .ok (.aload_n 1, 1) := by decide +kernel
theorem d_R_giveProduct_61 : decode c9_R_giveProduct 61 = .ok (.invokevirtual 274, 3) := by decide +kernel
theorem d_R_giveProduct_64 : decode c9_R_giveProduct 64 = .ok (.iconst 1, 1) := by decide +kernel
theorem d_R_giveProduct_65 : decode c9_R_giveProduct 65 = .ok (.ireturn, 1) := by decide +kernel
theorem d_R_switchingMeter_0 : decode c9_R_switchingMeter 0 = .ok (.lconst 0, 1) := by decide +kernel
theorem d_R_switchingMeter_1 : decode c9_R_switchingMeter 1 = .ok (.lstore_n 1, 1) := by decide +kernel
theorem d_R_switchingMeter_2 : decode c9_R_switchingMeter 2 = .ok (.iconst 0, 1) := by decide +kernel
theorem d_R_switchingMeter_3 : decode c9_R_switchingMeter 3 = .ok (.istore_n 3, 1) := by decide +kernel
theorem d_R_switchingMeter_4 : decode c9_R_switchingMeter 4 = .ok (.iload_n 3, 1) := by decide +kernel
theorem d_R_switchingMeter_5 : decode c9_R_switchingMeter 5 = .ok (.iload_n 0, 1) := by decide +kernel
theorem d_R_switchingMeter_6 : decode c9_R_switchingMeter 6 = .ok (.if_icmp .gt 20, 3) := by decide +kernel
theorem d_R_switchingMeter_9 : decode c9_R_switchingMeter 9 = .ok (.lload_n 1, 1) := by decide +kernel
theorem d_R_switchingMeter_10 : decode c9_R_switchingMeter 10 = .ok (.getstatic 277, 3) := by decide +kernel
theorem d_R_switchingMeter_13 : decode c9_R_switchingMeter 13 = .ok (.iload_n 3, 1) := by decide +kernel
theorem d_R_switchingMeter_14 : decode c9_R_switchingMeter 14 = .ok (.iaload, 1) := by decide +kernel
theorem d_R_switchingMeter_15 : decode c9_R_switchingMeter 15 = .ok (.iconst 1, 1) := by decide +kernel
theorem d_R_switchingMeter_16 : decode c9_R_switchingMeter 16 = .ok (.isub, 1) := by decide +kernel
theorem d_R_switchingMeter_17 : decode c9_R_switchingMeter 17 = .ok (.i2l, 1) := by decide +kernel
theorem d_R_switchingMeter_18 : decode c9_R_switchingMeter 18 = .ok (.ladd, 1) := by decide +kernel
theorem d_R_switchingMeter_19 : decode c9_R_switchingMeter 19 = .ok (.lstore_n 1, 1) := by decide +kernel
theorem d_R_switchingMeter_20 : decode c9_R_switchingMeter 20 = .ok (.iinc 3 1, 3) := by decide +kernel
theorem d_R_switchingMeter_23 : decode c9_R_switchingMeter 23 = .ok (.goto (-19), 3) := by decide +kernel
theorem d_R_switchingMeter_26 : decode c9_R_switchingMeter 26 = .ok (.ldc2_w 280, 3) := by decide +kernel
theorem d_R_switchingMeter_29 : decode c9_R_switchingMeter 29 = .ok (.lload_n 1, 1) := by decide +kernel
theorem d_R_switchingMeter_30 : decode c9_R_switchingMeter 30 = .ok (.lmul, 1) := by decide +kernel
theorem d_R_switchingMeter_31 : decode c9_R_switchingMeter 31 = .ok (.lreturn, 1) := by decide +kernel
theorem d_R_multiplyOperands_0 : decode c9_R_multiplyOperands 0 = .ok (.aload_n 1, 1) := by decide +kernel
theorem d_R_multiplyOperands_1 : decode c9_R_multiplyOperands 1 = .ok (.getfield 142, 3) := by decide +kernel
theorem d_R_multiplyOperands_4 : decode c9_R_multiplyOperands 4 = .ok (.istore_n 2, 1) := by decide +kernel
theorem d_R_multiplyOperands_5 : decode c9_R_multiplyOperands 5 = .ok (.aload_n 1, 1) := by decide +kernel
theorem d_R_multiplyOperands_6 : decode c9_R_multiplyOperands 6 = .ok (.getfield 167, 3) := by decide +kernel
theorem d_R_multiplyOperands_9 : decode c9_R_multiplyOperands 9 = .ok (.invokevirtual 200, 3) := by decide +kernel
theorem d_R_multiplyOperands_12 : decode c9_R_multiplyOperands 12 = .ok (.aload_n 1, 1) := by decide +kernel
theorem d_R_multiplyOperands_13 : decode c9_R_multiplyOperands 13 = .ok (.getfield 167, 3) := by decide +kernel
theorem d_R_multiplyOperands_16 : decode c9_R_multiplyOperands 16 = .ok (.iconst 1, 1) := by decide +kernel
theorem d_R_multiplyOperands_17 : decode c9_R_multiplyOperands 17 = .ok (.aload_n 0, 1) := by decide +kernel
theorem d_R_multiplyOperands_18 : decode c9_R_multiplyOperands 18 = .ok (.getfield 41, 3) := by decide +kernel
theorem d_R_multiplyOperands_21 : decode c9_R_multiplyOperands 21 = .ok (.getfield 167, 3) := by decide +kernel
theorem d_R_multiplyOperands_24 : decode c9_R_multiplyOperands 24 = .ok (.aload_n 0, 1) := by decide +kernel
theorem d_R_multiplyOperands_25 : decode c9_R_multiplyOperands 25 = .ok (.getfield 45, 3) := by decide +kernel
theorem d_R_multiplyOperands_28 : decode c9_R_multiplyOperands 28 = .ok (.getfield 167, 3) := by decide +kernel
theorem d_R_multiplyOperands_31 : decode c9_R_multiplyOperands 31 = .ok (.iload_n 2, 1) := by decide +kernel
theorem d_R_multiplyOperands_32 : decode c9_R_multiplyOperands 32 = .ok (.invokevirtual 203, 3) := by decide +kernel
theorem d_R_multiplyOperands_35 : decode c9_R_multiplyOperands 35 = .ok (.aload_n 1, 1) := by decide +kernel
theorem d_R_multiplyOperands_36 : decode c9_R_multiplyOperands 36 = .ok (.getfield 170, 3) := by decide +kernel
theorem d_R_multiplyOperands_39 : decode c9_R_multiplyOperands 39 = .ok (.invokevirtual 200, 3) := by decide +kernel
theorem d_R_multiplyOperands_42 : decode c9_R_multiplyOperands 42 = .ok (.aload_n 1, 1) := by decide +kernel
theorem d_R_multiplyOperands_43 : decode c9_R_multiplyOperands 43 = .ok (.getfield 170, 3) := by decide +kernel
theorem d_R_multiplyOperands_46 : decode c9_R_multiplyOperands 46 = .ok (.iconst 1, 1) := by decide +kernel
theorem d_R_multiplyOperands_47 : decode c9_R_multiplyOperands 47 = .ok (.aload_n 0, 1) := by decide +kernel
theorem d_R_multiplyOperands_48 : decode c9_R_multiplyOperands 48 = .ok (.getfield 41, 3) := by decide +kernel
theorem d_R_multiplyOperands_51 : decode c9_R_multiplyOperands 51 = .ok (.getfield 167, 3) := by decide +kernel
theorem d_R_multiplyOperands_54 : decode c9_R_multiplyOperands 54 = .ok (.aload_n 0, 1) := by decide +kernel
theorem d_R_multiplyOperands_55 : decode c9_R_multiplyOperands 55 = .ok (.getfield 45, 3) := by decide +kernel
theorem d_R_multiplyOperands_58 : decode c9_R_multiplyOperands 58 = .ok (.getfield 170, 3) := by decide +kernel
theorem d_R_multiplyOperands_61 : decode c9_R_multiplyOperands 61 = .ok (.iload_n 2, 1) := by decide +kernel
theorem d_R_multiplyOperands_62 : decode c9_R_multiplyOperands 62 = .ok (.invokevirtual 203, 3) := by decide +kernel
theorem d_R_multiplyOperands_65 : decode c9_R_multiplyOperands 65 = .ok (.aload_n 1, 1) := by decide +kernel
theorem d_R_multiplyOperands_66 : decode c9_R_multiplyOperands 66 = .ok (.getfield 170, 3) := by decide +kernel
theorem d_R_multiplyOperands_69 : decode c9_R_multiplyOperands 69 = .ok (.iconst 1, 1) := by decide +kernel
theorem d_R_multiplyOperands_70 : decode c9_R_multiplyOperands 70 = .ok (.aload_n 0, 1) := by decide +kernel
theorem d_R_multiplyOperands_71 : decode c9_R_multiplyOperands 71 = .ok (.getfield 41, 3) := by decide +kernel
theorem d_R_multiplyOperands_74 : decode c9_R_multiplyOperands 74 = .ok (.getfield 170, 3) := by decide +kernel
theorem d_R_multiplyOperands_77 : decode c9_R_multiplyOperands 77 = .ok (.aload_n 0, 1) := by decide +kernel
theorem d_R_multiplyOperands_78 : decode c9_R_multiplyOperands 78 = .ok (.getfield 45, 3) := by decide +kernel
theorem d_R_multiplyOperands_81 : decode c9_R_multiplyOperands 81 = .ok (.getfield 167, 3) := by decide +kernel
theorem d_R_multiplyOperands_84 : decode c9_R_multiplyOperands 84 = .ok (.iload_n 2, 1) := by decide +kernel
theorem d_R_multiplyOperands_85 : decode c9_R_multiplyOperands 85 = .ok (.invokevirtual 203, 3) := by decide +kernel
theorem d_R_multiplyOperands_88 : decode c9_R_multiplyOperands 88 = .ok (.aload_n 0, 1) := by decide +kernel
theorem d_R_multiplyOperands_89 : decode c9_R_multiplyOperands 89 = .ok (.getfield 48, 3) := by decide +kernel
theorem d_R_multiplyOperands_92 : decode c9_R_multiplyOperands 92 = .ok (.invokevirtual 200, 3) := by decide +kernel
theorem d_R_multiplyOperands_95 : decode c9_R_multiplyOperands 95 = .ok (.aload_n 0, 1) := by decide +kernel
theorem d_R_multiplyOperands_96 : decode c9_R_multiplyOperands 96 = .ok (.getfield 48, 3) := by decide +kernel
theorem d_R_multiplyOperands_99 : decode c9_R_multiplyOperands 99 = .ok (.iconst 1, 1) := by decide +kernel
theorem d_R_multiplyOperands_100 : decode c9_R_multiplyOperands 100 = .ok (.aload_n 0, 1) := by decide +kernel
theorem d_R_multiplyOperands_101 : decode c9_R_multiplyOperands 101 = .ok (.getfield 41, 3) := by decide +kernel
theorem d_R_multiplyOperands_104 : decode c9_R_multiplyOperands 104 = .ok (.getfield 170, 3) := by decide +kernel
theorem d_R_multiplyOperands_107 : decode c9_R_multiplyOperands 107 = .ok (.aload_n 0, 1) := by decide +kernel
theorem d_R_multiplyOperands_108 : decode c9_R_multiplyOperands 108 = .ok (.getfield 45, 3) := by decide +kernel
theorem d_R_multiplyOperands_111 : decode c9_R_multiplyOperands 111 = .ok (.getfield 170, 3) := by decide +kernel
theorem d_R_multiplyOperands_114 : decode c9_R_multiplyOperands 114 = .ok (.iload_n 2, 1) := by decide +kernel
theorem d_R_multiplyOperands_115 : decode c9_R_multiplyOperands 115 = .ok (.invokevirtual 203, 3) := by decide +kernel
theorem d_R_multiplyOperands_118 : decode c9_R_multiplyOperands 118 = .ok (.return_, 1) := by decide +kernel
theorem d_R_switchSquare_0 : decode c9_R_switchSquare 0 = .ok (.aload_n 1, 1) := by decide +kernel
theorem d_R_switchSquare_1 : decode c9_R_switchSquare 1 = .ok (.getfield 142, 3) := by decide +kernel
theorem d_R_switchSquare_4 : decode c9_R_switchSquare 4 = .ok (.istore_n 2, 1) := by decide +kernel
theorem d_R_switchSquare_5 : decode c9_R_switchSquare 5 = .ok (.iconst 0, 1) := by decide +kernel
theorem d_R_switchSquare_6 : decode c9_R_switchSquare 6 = .ok (.istore_n 3, 1) := by decide +kernel
theorem d_R_switchSquare_7 : decode c9_R_switchSquare 7 = .ok (.iload_n 3, 1) := by decide +kernel
theorem d_R_switchSquare_8 : decode c9_R_switchSquare 8 = .ok (.iload_n 2, 1) := by decide +kernel
theorem d_R_switchSquare_9 : decode c9_R_switchSquare 9 = .ok (.if_icmp .gt 66, 3) := by decide +kernel
theorem d_R_switchSquare_12 : decode c9_R_switchSquare 12 = .ok (.aload_n 0, 1) := by decide +kernel
theorem d_R_switchSquare_13 : decode c9_R_switchSquare 13 = .ok (.getfield 51, 3) := by decide +kernel
theorem d_R_switchSquare_16 : decode c9_R_switchSquare 16 = .ok (.aload_n 0, 1) := by decide +kernel
theorem d_R_switchSquare_17 : decode c9_R_switchSquare 17 = .ok (.getfield 48, 3) := by decide +kernel
theorem d_R_switchSquare_20 : decode c9_R_switchSquare 20 = .ok (.iload_n 3, 1) := by decide +kernel
theorem d_R_switchSquare_21 : decode c9_R_switchSquare 21 = .ok (.iload_n 2, 1) := by decide +kernel
theorem d_R_switchSquare_22 : decode c9_R_switchSquare 22 = .ok (.invokevirtual 282, 3) := by decide +kernel
theorem d_R_switchSquare_25 : decode c9_R_switchSquare 25 = .ok (.aload_n 1, 1) := by decide +kernel
theorem d_R_switchSquare_26 : decode c9_R_switchSquare 26 = .ok (.getfield 167, 3) := by decide +kernel
theorem d_R_switchSquare_29 : decode c9_R_switchSquare 29 = .ok (.iconst 1, 1) := by decide +kernel
theorem d_R_switchSquare_30 : decode c9_R_switchSquare 30 = .ok (.aload_n 0, 1) := by decide +kernel
theorem d_R_switchSquare_31 : decode c9_R_switchSquare 31 = .ok (.getfield 51, 3) := by decide +kernel
theorem d_R_switchSquare_34 : decode c9_R_switchSquare 34 = .ok (.aload_n 0, 1) := by decide +kernel
theorem d_R_switchSquare_35 : decode c9_R_switchSquare 35 = .ok (.getfield 66, 3) := by decide +kernel
theorem d_R_switchSquare_38 : decode c9_R_switchSquare 38 = .ok (.getfield 285, 3) := by decide +kernel
theorem d_R_switchSquare_41 : decode c9_R_switchSquare 41 = .ok (.iload_n 3, 1) := by decide +kernel
theorem d_R_switchSquare_42 : decode c9_R_switchSquare 42 = .ok (.aaload, 1) := by decide +kernel
theorem d_R_switchSquare_43 : decode c9_R_switchSquare 43 = .ok (.iload_n 2, 1) := by decide +kernel
theorem d_R_switchSquare_44 : decode c9_R_switchSquare 44 = .ok (.invokevirtual 203, 3) := by decide +kernel
theorem d_R_switchSquare_47 : decode c9_R_switchSquare 47 = .ok (.aload_n 1, 1) := by decide +kernel
theorem d_R_switchSquare_48 : decode c9_R_switchSquare 48 = .ok (.getfield 170, 3) := by decide +kernel
theorem d_R_switchSquare_51 : decode c9_R_switchSquare 51 = .ok (.iconst 1, 1) := by decide +kernel
theorem d_R_switchSquare_52 : decode c9_R_switchSquare 52 = .ok (.aload_n 0, 1) := by decide +kernel
theorem d_R_switchSquare_53 : decode c9_R_switchSquare 53 = .ok (.getfield 51, 3) := by decide +kernel
theorem d_R_switchSquare_56 : decode c9_R_switchSquare 56 = .ok (.aload_n 0, 1) := by decide +kernel
theorem d_R_switchSquare_57 : decode c9_R_switchSquare 57 = .ok (.getfield 66, 3) := by decide +kernel
theorem d_R_switchSquare_60 : decode c9_R_switchSquare 60 = .ok (.getfield 288, 3) := by decide +kernel
theorem d_R_switchSquare_63 : decode c9_R_switchSquare 63 = .ok (.iload_n 3, 1) := by decide +kernel
theorem d_R_switchSquare_64 : decode c9_R_switchSquare 64 = .ok (.aaload, 1) := by decide +kernel
theorem d_R_switchSquare_65 : decode c9_R_switchSquare 65 = .ok (.iload_n 2, 1) := by decide +kernel
theorem d_R_switchSquare_66 : decode c9_R_switchSquare 66 = .ok (.invokevirtual 203, 3) := by decide +kernel
theorem d_R_switchSquare_69 : decode c9_R_switchSquare 69 = .ok (.iinc 3 1, 3) := by decide +kernel
theorem d_R_switchSquare_72 : decode c9_R_switchSquare 72 = .ok (.goto (-65), 3) := by decide +kernel
theorem d_R_switchSquare_75 : decode c9_R_switchSquare 75 = .ok (.return_, 1) := by decide +kernel
theorem d_R_turnValue_0 : decode c9_R_turnValue 0 = .ok (.aload_n 0, 1) := by decide +kernel
theorem d_R_turnValue_1 : decode c9_R_turnValue 1 = .ok (.aload_n 1, 1) := by decide +kernel
theorem d_R_turnValue_2 : decode c9_R_turnValue 2 = .ok (.getfield 142, 3) := by decide +kernel
theorem d_R_turnValue_5 : decode c9_R_turnValue 5 = .ok (.putfield 142, 3) := by decide +kernel
theorem d_R_turnValue_8 : decode c9_R_turnValue 8 = .ok (.aload_n 0, 1) := by decide +kernel
theorem d_R_turnValue_9 : decode c9_R_turnValue 9 = .ok (.aload_n 1, 1) := by decide +kernel
theorem d_R_turnValue_10 : decode c9_R_turnValue 10 = .ok (.getfield 145, 3) := by decide +kernel
theorem d_R_turnValue_13 : decode c9_R_turnValue 13 = .ok (.putfield 145, 3) := by decide +kernel
theorem d_R_turnValue_16 : decode c9_R_turnValue 16 = .ok (.aload_n 0, 1) := by decide +kernel
theorem d_R_turnValue_17 : decode c9_R_turnValue 17 = .ok (.getfield 167, 3) := by decide +kernel
theorem d_R_turnValue_20 : decode c9_R_turnValue 20 = .ok (.aload_n 1, 1) := by decide +kernel
theorem d_R_turnValue_21 : decode c9_R_turnValue 21 = .ok (.getfield 167, 3) := by decide +kernel
theorem d_R_turnValue_24 : decode c9_R_turnValue 24 = .ok (.iload_n 2, 1) := by decide +kernel
theorem d_R_turnValue_25 : decode c9_R_turnValue 25 = .ok (.aload_n 1, 1) := by decide +kernel
theorem d_R_turnValue_26 : decode c9_R_turnValue 26 = .ok (.getfield 142, 3) := by decide +kernel
theorem d_R_turnValue_29 : decode c9_R_turnValue 29 = .ok (.invokevirtual 210, 3) := by decide +kernel
theorem d_R_turnValue_32 : decode c9_R_turnValue 32 = .ok (.aload_n 0, 1) := by decide +kernel
theorem d_R_turnValue_33 : decode c9_R_turnValue 33 = .ok (.getfield 170, 3) := by decide +kernel
theorem d_R_turnValue_36 : decode c9_R_turnValue 36 = .ok (.aload_n 1, 1) := by decide +kernel
theorem d_R_turnValue_37 : decode c9_R_turnValue 37 = .ok (.getfield 170, 3) := by decide +kernel
theorem d_R_turnValue_40 : decode c9_R_turnValue 40 = .ok (.iload_n 2, 1) := by decide +kernel
theorem d_R_turnValue_41 : decode c9_R_turnValue 41 = .ok (.aload_n 1, 1) := by decide +kernel
theorem d_R_turnValue_42 : decode c9_R_turnValue 42 = .ok (.getfield 142, 3) := by decide +kernel
theorem d_R_turnValue_45 : decode c9_R_turnValue 45 = .ok (.invokevirtual 210, 3) := by decide +kernel
theorem d_R_turnValue_48 : decode c9_R_turnValue 48 = .ok (.return_, 1) := by decide +kernel
theorem d_R_hideMessage_0 : decode c9_R_hideMessage 0 = .ok (.aload_n 1, 1) := by decide +kernel
theorem d_R_hideMessage_1 : decode c9_R_hideMessage 1 = .ok (.iconst 3, 1) := by decide +kernel
theorem d_R_hideMessage_2 : decode c9_R_hideMessage 2 = .ok (.putfield 142, 3) := by decide +kernel
theorem d_R_hideMessage_5 : decode c9_R_hideMessage 5 = .ok (.aload_n 1, 1) := by decide +kernel
theorem d_R_hideMessage_6 : decode c9_R_hideMessage 6 = .ok (.ldc2_w 245, 3) := by decide +kernel
theorem d_R_hideMessage_9 : decode c9_R_hideMessage 9 = .ok (.putfield 145, 3) := by decide +kernel
theorem d_R_hideMessage_12 : decode c9_R_hideMessage 12 = .ok (.aload_n 0, 1) := by decide +kernel
theorem d_R_hideMessage_13 : decode c9_R_hideMessage 13 = .ok (.getfield 12, 3) := by decide +kernel
theorem d_R_hideMessage_16 : decode c9_R_hideMessage 16 = .ok (.iload_n 3, 1) := by decide +kernel
theorem d_R_hideMessage_17 : decode c9_R_hideMessage 17 = .ok (.invokevirtual 57, 3) := by decide +kernel
theorem d_R_hideMessage_20 : decode c9_R_hideMessage 20 = .ok (.aload_n 0, 1) := by decide +kernel
theorem d_R_hideMessage_21 : decode c9_R_hideMessage 21 = .ok (.getfield 66, 3) := by decide +kernel
theorem d_R_hideMessage_24 : decode c9_R_hideMessage 24 = .ok (.aload_n 0, 1) := by decide +kernel
theorem d_R_hideMessage_25 : decode c9_R_hideMessage 25 = .ok (.getfield 12, 3) := by decide +kernel
theorem d_R_hideMessage_28 : decode c9_R_hideMessage 28 = .ok (.aload_n 1, 1) := by decide +kernel
theorem d_R_hideMessage_29 : decode c9_R_hideMessage 29 = .ok (.getfield 167, 3) := by decide +kernel
theorem d_R_hideMessage_32 : decode c9_R_hideMessage 32 = .ok (.aload_n 1, 1) := by decide +kernel
theorem d_R_hideMessage_33 : decode c9_R_hideMessage 33 = .ok (.getfield 170, 3) := by decide +kernel
theorem d_R_hideMessage_36 : decode c9_R_hideMessage 36 = .ok (.invokevirtual 247, 3) := by decide +kernel
theorem d_R_hideMessage_39 : decode c9_R_hideMessage 39 = .ok (.aload_n 1, 1) := by decide +kernel
theorem d_R_hideMessage_40 : decode c9_R_hideMessage 40 = .ok (.getfield 167, 3) := by decide +kernel
theorem d_R_hideMessage_43 : decode c9_R_hideMessage 43 = .ok (.aload_n 2, 1) := by decide +kernel
theorem d_R_hideMessage_44 : decode c9_R_hideMessage 44 = .ok (.invokevirtual 251, 3) := by decide +kernel
theorem d_R_hideMessage_47 : decode c9_R_hideMessage 47 = .ok (.return_, 1) := by decide +kernel
theorem d_R_level_0 : decode c9_R_level 0 = .ok (.aload_n 0, 1) := by decide +kernel
theorem d_R_level_1 : decode c9_R_level 1 = .ok (.iload_n 1, 1) := by decide +kernel
theorem d_R_level_2 : decode c9_R_level 2 = .ok (.invokevirtual 136, 3) := by decide +kernel
theorem d_R_level_5 : decode c9_R_level 5 = .ok (.ifCond .eq 18, 3) := by decide +kernel
theorem d_R_level_8 : decode c9_R_level 8 = .ok (.aload_n 0, 1) := by decide +kernel
theorem d_R_level_9 : decode c9_R_level 9 = .ok (.getfield 27, 3) := by decide +kernel
theorem d_R_level_12 : decode c9_R_level 12 = .ok (.iload_n 1, 1) := by decide +kernel
theorem d_R_level_13 : decode c9_R_level 13 = .ok (.aaload, 1) := by decide +kernel
theorem d_R_level_14 : decode c9_R_level 14 = .ok (.getfield 139, 3) := by decide +kernel
theorem d_R_level_17 : decode c9_R_level 17 = .ok (.getfield 142, 3) := by decide +kernel
theorem d_R_level_20 : decode c9_R_level 20 = .ok (.goto 4, 3) := by decide +kernel
theorem d_R_level_23 : decode c9_R_level 23 = .ok (.iconst (-1), 1) := by decide +kernel
theorem d_R_level_24 : decode c9_R_level 24 = .ok (.ireturn, 1) := by decide +kernel
theorem d_R_hasValue_0 : decode c9_R_hasValue 0 = .ok (.iload_n 1, 1) := by decide +kernel
theorem d_R_hasValue_1 : decode c9_R_hasValue 1 = .ok (.ifCond .lt 15, 3) := by decide +kernel
theorem d_R_hasValue_4 : decode c9_R_hasValue 4 = .ok (.iload_n 1, 1) := by decide +kernel
theorem d_R_hasValue_5 : decode c9_R_hasValue 5 = .ok (.aload_n 0, 1) := by decide +kernel
theorem d_R_hasValue_6 : decode c9_R_hasValue 6 = .ok (.getfield 35, 3) := by decide +kernel
theorem d_R_hasValue_9 : decode c9_R_hasValue 9 = .ok (.if_icmp .ge 7, 3) := by decide +kernel
theorem d_R_hasValue_12 : decode c9_R_hasValue 12 = .ok (.iconst 1, 1) := by decide +kernel
theorem d_R_hasValue_13 : decode c9_R_hasValue 13 = .ok (.goto 4, 3) := by decide +kernel
theorem d_R_hasValue_16 : decode c9_R_hasValue 16 = .ok (.iconst 0, 1) := by decide +kernel
theorem d_R_hasValue_17 : decode c9_R_hasValue 17 = .ok (.ireturn, 1) := by decide +kernel
theorem d_R_meter_0 : decode c9_R_meter 0 = .ok (.aload_n 0, 1) := by decide +kernel
theorem d_R_meter_1 : decode c9_R_meter 1 = .ok (.iload_n 1, 1) := by decide +kernel
theorem d_R_meter_2 : decode c9_R_meter 2 = .ok (.invokevirtual 136, 3) := by decide +kernel
theorem d_R_meter_5 : decode c9_R_meter 5 = .ok (.ifCond .eq 18, 3) := by decide +kernel
theorem d_R_meter_8 : decode c9_R_meter 8 = .ok (.aload_n 0, 1) := by decide +kernel
theorem d_R_meter_9 : decode c9_R_meter 9 = .ok (.getfield 27, 3) := by decide +kernel
theorem d_R_meter_12 : decode c9_R_meter 12 = .ok (.iload_n 1, 1) := by decide +kernel
theorem d_R_meter_13 : decode c9_R_meter 13 = .ok (.aaload, 1) := by decide +kernel
theorem d_R_meter_14 : decode c9_R_meter 14 = .ok (.getfield 139, 3) := by decide +kernel
theorem d_R_meter_17 : decode c9_R_meter 17 = .ok (.getfield 145, 3) := by decide +kernel
theorem d_R_meter_20 : decode c9_R_meter 20 = .ok (.goto 6, 3) := by decide +kernel
theorem d_R_meter_23 : decode c9_R_meter 23 = .ok (.ldc2_w 149, 3) := by decide +kernel
theorem d_R_meter_26 : decode c9_R_meter 26 = .ok (.lreturn, 1) := by decide +kernel
theorem d_R_noise_0 : decode c9_R_noise 0 = .ok (.aload_n 0, 1) := by decide +kernel
theorem d_R_noise_1 : decode c9_R_noise 1 = .ok (.iload_n 1, 1) := by decide +kernel
theorem d_R_noise_2 : decode c9_R_noise 2 = .ok (.invokevirtual 136, 3) := by decide +kernel
theorem d_R_noise_5 : decode c9_R_noise 5 = .ok (.ifCond .ne 7, 3) := by decide +kernel
theorem d_R_noise_8 : decode c9_R_noise 8 = .ok (.ldc2_w 149, 3) := by decide +kernel
theorem d_R_noise_11 : decode c9_R_noise 11 = .ok (.lreturn, 1) := by decide +kernel
theorem d_R_noise_12 : decode c9_R_noise 12 = .ok (.aload_n 0, 1) := by decide +kernel
theorem d_R_noise_13 : decode c9_R_noise 13 = .ok (.getfield 27, 3) := by decide +kernel
theorem d_R_noise_16 : decode c9_R_noise 16 = .ok (.iload_n 1, 1) := by decide +kernel
theorem d_R_noise_17 : decode c9_R_noise 17 = .ok (.aaload, 1) := by decide +kernel
theorem d_R_noise_18 : decode c9_R_noise 18 = .ok (.getfield 139, 3) := by decide +kernel
theorem d_R_noise_21 : decode c9_R_noise 21 = .ok (.astore_n 2, 1) := by decide +kernel
theorem d_R_noise_22 : decode c9_R_noise 22 = .ok (.aload_n 0, 1) := by decide +kernel
theorem d_R_noise_23 : decode c9_R_noise 23 = .ok (.aload_n 2, 1) := by decide +kernel
theorem d_R_noise_24 : decode c9_R_noise 24 = .ok (.invokevirtual 151, 3) := by decide +kernel
theorem d_R_noise_27 : decode c9_R_noise 27 = .ok (.lconst 0, 1) := by decide +kernel
theorem d_R_noise_28 : decode c9_R_noise 28 = .ok (.lstore_n 3, 1) := by decide +kernel
theorem d_R_noise_29 : decode c9_R_noise 29 = .ok (.iconst 0, 1) := by decide +kernel
theorem d_R_noise_30 : decode c9_R_noise 30 = .ok (.istore 5, 2) := by decide +kernel
theorem d_R_noise_32 : decode c9_R_noise 32 = .ok (.iload 5, 2) := by decide +kernel
theorem d_R_noise_34 : decode c9_R_noise 34 = .ok (.bipush 8, 2) := by decide +kernel
theorem d_R_noise_36 : decode c9_R_noise 36 = .ok (.if_icmp .ge 30, 3) := by decide +kernel
theorem d_R_noise_39 : decode c9_R_noise 39 = .ok (.lload_n 3, 1) := by decide +kernel
theorem d_R_noise_40 : decode c9_R_noise 40 = .ok (.aload_n 0, 1) := by decide +kernel
theorem d_R_noise_41 : decode c9_R_noise 41 = .ok (.getfield 54, 3) := by decide +kernel
theorem d_R_noise_44 : decode c9_R_noise 44 = .ok (.iload 5, 2) := by decide +kernel
theorem d_R_noise_46 : decode c9_R_noise 46 = .ok (.aload_n 2, 1) := by decide +kernel
theorem d_R_noise_47 : decode c9_R_noise 47 = .ok (.getfield 142, 3) := by decide +kernel
theorem d_R_noise_50 : decode c9_R_noise 50 = .ok (.invokevirtual 155, 3) := by decide +kernel
theorem d_R_noise_53 : decode c9_R_noise 53 = .ok (.invokestatic 159, 3) := by decide +kernel
theorem d_R_noise_56 : decode c9_R_noise 56 = .ok (.invokestatic 163, 3) := by decide +kernel
theorem d_R_noise_59 : decode c9_R_noise 59 = .ok (.lstore_n 3, 1) := by decide +kernel
theorem d_R_noise_60 : decode c9_R_noise 60 = .ok (.iinc 5 1, 3) := by decide +kernel
theorem d_R_noise_63 : decode c9_R_noise 63 = .ok (.goto (-31), 3) := by decide +kernel
theorem d_R_noise_66 : decode c9_R_noise 66 = .ok (.lload_n 3, 1) := by decide +kernel
theorem d_R_noise_67 : decode c9_R_noise 67 = .ok (.lreturn, 1) := by decide +kernel
theorem d_R_openValue_0 : decode c9_R_openValue 0 = .ok (.aload_n 0, 1) := by decide +kernel
theorem d_R_openValue_1 : decode c9_R_openValue 1 = .ok (.getfield 54, 3) := by decide +kernel
theorem d_R_openValue_4 : decode c9_R_openValue 4 = .ok (.aload_n 1, 1) := by decide +kernel
theorem d_R_openValue_5 : decode c9_R_openValue 5 = .ok (.getfield 167, 3) := by decide +kernel
theorem d_R_openValue_8 : decode c9_R_openValue 8 = .ok (.invokevirtual 96, 3) := by decide +kernel
theorem d_R_openValue_11 : decode c9_R_openValue 11 = .ok (.aload_n 0, 1) := by decide +kernel
theorem d_R_openValue_12 : decode c9_R_openValue 12 = .ok (.getfield 54, 3) := by decide +kernel
theorem d_R_openValue_15 : decode c9_R_openValue 15 = .ok (.iconst 1, 1) := by decide +kernel
theorem d_R_openValue_16 : decode c9_R_openValue 16 = .ok (.aload_n 1, 1) := by decide +kernel
theorem d_R_openValue_17 : decode c9_R_openValue 17 = .ok (.getfield 170, 3) := by decide +kernel
theorem d_R_openValue_20 : decode c9_R_openValue 20 = .ok (.aload_n 0, 1) := by decide +kernel
theorem d_R_openValue_21 : decode c9_R_openValue 21 = .ok (.getfield 66, 3) := by decide +kernel
theorem d_R_openValue_24 : decode c9_R_openValue 24 = .ok (.getfield 176, 3) := by decide +kernel
theorem d_R_openValue_27 : decode c9_R_openValue 27 = .ok (.aload_n 1, 1) := by decide +kernel
theorem d_R_openValue_28 : decode c9_R_openValue 28 = .ok (.getfield 142, 3) := by decide +kernel
theorem d_R_openValue_31 : decode c9_R_openValue 31 = .ok (.invokevirtual 203, 3) := by decide +kernel
theorem d_R_openValue_34 : decode c9_R_openValue 34 = .ok (.return_, 1) := by decide +kernel
theorem d_R_part_0 : decode c9_R_part 0 = .ok (.aload_n 0, 1) := by decide +kernel
theorem d_R_part_1 : decode c9_R_part 1 = .ok (.iload_n 1, 1) := by decide +kernel
theorem d_R_part_2 : decode c9_R_part 2 = .ok (.invokevirtual 136, 3) := by decide +kernel
theorem d_R_part_5 : decode c9_R_part 5 = .ok (.ifCond .eq 19, 3) := by decide +kernel
theorem d_R_part_8 : decode c9_R_part 8 = .ok (.iload_n 2, 1) := by decide +kernel
theorem d_R_part_9 : decode c9_R_part 9 = .ok (.ifCond .lt 15, 3) := by decide +kernel
theorem d_R_part_12 : decode c9_R_part 12 = .ok (.iload_n 2, 1) := by decide +kernel
theorem d_R_part_13 : decode c9_R_part 13 = .ok (.iconst 1, 1) := by decide +kernel
theorem d_R_part_14 : decode c9_R_part 14 = .ok (.if_icmp .gt 10, 3) := by decide +kernel
theorem d_R_part_17 : decode c9_R_part 17 = .ok (.iload_n 3, 1) := by decide +kernel
theorem d_R_part_18 : decode c9_R_part 18 = .ok (.invokestatic 71, 3) := by decide +kernel
theorem d_R_part_21 : decode c9_R_part 21 = .ok (.ifCond .ne 7, 3) := by decide +kernel
theorem d_R_part_24 : decode c9_R_part 24 = .ok (.ldc2_w 149, 3) := by decide +kernel
theorem d_R_part_27 : decode c9_R_part 27 = .ok (.lreturn, 1) := by decide +kernel
theorem d_R_part_28 : decode c9_R_part 28 = .ok (.aload_n 0, 1) := by decide +kernel
theorem d_R_part_29 : decode c9_R_part 29 = .ok (.getfield 27, 3) := by decide +kernel
theorem d_R_part_32 : decode c9_R_part 32 = .ok (.iload_n 1, 1) := by decide +kernel
theorem d_R_part_33 : decode c9_R_part 33 = .ok (.aaload, 1) := by decide +kernel
theorem d_R_part_34 : decode c9_R_part 34 = .ok (.getfield 139, 3) := by decide +kernel
theorem d_R_part_37 : decode c9_R_part 37 = .ok (.astore 4, 2) := by decide +kernel
theorem d_R_part_39 : decode c9_R_part 39 = .ok (.iload_n 2, 1) := by decide +kernel
theorem d_R_part_40 : decode c9_R_part 40 = .ok (.ifCond .ne 11, 3) := by decide +kernel
theorem d_R_part_43 : decode c9_R_part 43 = .ok (.aload 4, 2) := by decide +kernel
theorem d_R_part_45 : decode c9_R_part 45 = .ok (.getfield 167, 3) := by decide +kernel
theorem d_R_part_48 : decode c9_R_part 48 = .ok (.goto 8, 3) := by decide +kernel
theorem d_R_part_51 : decode c9_R_part 51 = .ok (.aload 4, 2) := by decide +kernel
theorem d_R_part_53 : decode c9_R_part 53 = .ok (.getfield 170, 3) := by decide +kernel
theorem d_R_part_56 : decode c9_R_part 56 = .ok (.astore 5, 2) := by decide +kernel
theorem d_R_part_58 : decode c9_R_part 58 = .ok (.aload 5, 2) := by decide +kernel
theorem d_R_part_60 : decode c9_R_part 60 = .ok (.iload_n 3, 1) := by decide +kernel
theorem d_R_part_61 : decode c9_R_part 61 = .ok (.aload 4, 2) := by decide +kernel
theorem d_R_part_63 : decode c9_R_part 63 = .ok (.getfield 142, 3) := by decide +kernel
theorem d_R_part_66 : decode c9_R_part 66 = .ok (.invokevirtual 173, 3) := by decide +kernel
theorem d_R_part_69 : decode c9_R_part 69 = .ok (.lreturn, 1) := by decide +kernel
theorem d_R_decrypted_0 : decode c9_R_decrypted 0 = .ok (.aload_n 0, 1) := by decide +kernel
theorem d_R_decrypted_1 : decode c9_R_decrypted 1 = .ok (.iload_n 1, 1) := by decide +kernel
theorem d_R_decrypted_2 : decode c9_R_decrypted 2 = .ok (.invokevirtual 136, 3) := by decide +kernel
theorem d_R_decrypted_5 : decode c9_R_decrypted 5 = .ok (.ifCond .eq 10, 3) := by decide +kernel
theorem d_R_decrypted_8 : decode c9_R_decrypted 8 = .ok (.iload_n 2, 1) := by decide +kernel
theorem d_R_decrypted_9 : decode c9_R_decrypted 9 = .ok (.invokestatic 71, 3) := by decide +kernel
theorem d_R_decrypted_12 : decode c9_R_decrypted 12 = .ok (.ifCond .ne 5, 3) := by decide +kernel
theorem d_R_decrypted_15 : decode c9_R_decrypted 15 = .ok (.iconst (-1), 1) := by decide +kernel
theorem d_R_decrypted_16 : decode c9_R_decrypted 16 = .ok (.ireturn, 1) := by decide +kernel
theorem d_R_decrypted_17 : decode c9_R_decrypted 17 = .ok (.aload_n 0, 1) := by decide +kernel
theorem d_R_decrypted_18 : decode c9_R_decrypted 18 = .ok (.getfield 27, 3) := by decide +kernel
theorem d_R_decrypted_21 : decode c9_R_decrypted 21 = .ok (.iload_n 1, 1) := by decide +kernel
theorem d_R_decrypted_22 : decode c9_R_decrypted 22 = .ok (.aaload, 1) := by decide +kernel
theorem d_R_decrypted_23 : decode c9_R_decrypted 23 = .ok (.getfield 139, 3) := by decide +kernel
theorem d_R_decrypted_26 : decode c9_R_decrypted 26 = .ok (.astore_n 3, 1) := by decide +kernel
theorem d_R_decrypted_27 : decode c9_R_decrypted 27 = .ok (.aload_n 0, 1) := by decide +kernel
theorem d_R_decrypted_28 : decode c9_R_decrypted 28 = .ok (.aload_n 3, 1) := by decide +kernel
theorem d_R_decrypted_29 : decode c9_R_decrypted 29 = .ok (.invokevirtual 151, 3) := by decide +kernel
theorem d_R_decrypted_32 : decode c9_R_decrypted 32 = .ok (.aload_n 0, 1) := by decide +kernel
theorem d_R_decrypted_33 : decode c9_R_decrypted 33 = .ok (.getfield 54, 3) := by decide +kernel
theorem d_R_decrypted_36 : decode c9_R_decrypted 36 = .ok (.iload_n 2, 1) := by decide +kernel
theorem d_R_decrypted_37 : decode c9_R_decrypted 37 = .ok (.aload_n 3, 1) := by decide +kernel
theorem d_R_decrypted_38 : decode c9_R_decrypted 38 = .ok (.getfield 142, 3) := by decide +kernel
theorem d_R_decrypted_41 : decode c9_R_decrypted 41 = .ok (.invokevirtual 155, 3) := by decide +kernel
theorem d_R_decrypted_44 : decode c9_R_decrypted 44 = .ok (.bipush 17, 2) := by decide +kernel
theorem d_R_decrypted_46 : decode c9_R_decrypted 46 = .ok (.invokestatic 79, 3) := by decide +kernel
theorem d_R_decrypted_49 : decode c9_R_decrypted 49 = .ok (.ireturn, 1) := by decide +kernel
theorem d_R_plain_0 : decode c9_R_plain 0 = .ok (.aload_n 0, 1) := by decide +kernel
theorem d_R_plain_1 : decode c9_R_plain 1 = .ok (.iload_n 1, 1) := by decide +kernel
theorem d_R_plain_2 : decode c9_R_plain 2 = .ok (.invokevirtual 123, 3) := by decide +kernel
theorem d_R_plain_5 : decode c9_R_plain 5 = .ok (.ifCond .eq 27, 3) := by decide +kernel
theorem d_R_plain_8 : decode c9_R_plain 8 = .ok (.iload_n 2, 1) := by decide +kernel
theorem d_R_plain_9 : decode c9_R_plain 9 = .ok (.invokestatic 71, 3) := by decide +kernel
theorem d_R_plain_12 : decode c9_R_plain 12 = .ok (.ifCond .eq 20, 3) := by decide +kernel
theorem d_R_plain_15 : decode c9_R_plain 15 = .ok (.aload_n 0, 1) := by decide +kernel
theorem d_R_plain_16 : decode c9_R_plain 16 = .ok (.getfield 27, 3) := by decide +kernel
theorem d_R_plain_19 : decode c9_R_plain 19 = .ok (.iload_n 1, 1) := by decide +kernel
theorem d_R_plain_20 : decode c9_R_plain 20 = .ok (.aaload, 1) := by decide +kernel
theorem d_R_plain_21 : decode c9_R_plain 21 = .ok (.getfield 93, 3) := by decide +kernel
theorem d_R_plain_24 : decode c9_R_plain 24 = .ok (.getfield 75, 3) := by decide +kernel
theorem d_R_plain_27 : decode c9_R_plain 27 = .ok (.iload_n 2, 1) := by decide +kernel
theorem d_R_plain_28 : decode c9_R_plain 28 = .ok (.iaload, 1) := by decide +kernel
theorem d_R_plain_29 : decode c9_R_plain 29 = .ok (.goto 4, 3) := by decide +kernel
theorem d_R_plain_32 : decode c9_R_plain 32 = .ok (.iconst (-1), 1) := by decide +kernel
theorem d_R_plain_33 : decode c9_R_plain 33 = .ok (.ireturn, 1) := by decide +kernel
theorem d_R_secret_0 : decode c9_R_secret 0 = .ok (.iload_n 1, 1) := by decide +kernel
theorem d_R_secret_1 : decode c9_R_secret 1 = .ok (.invokestatic 71, 3) := by decide +kernel
theorem d_R_secret_4 : decode c9_R_secret 4 = .ok (.ifCond .eq 19, 3) := by decide +kernel
theorem d_R_secret_7 : decode c9_R_secret 7 = .ok (.aload_n 0, 1) := by decide +kernel
theorem d_R_secret_8 : decode c9_R_secret 8 = .ok (.getfield 66, 3) := by decide +kernel
theorem d_R_secret_11 : decode c9_R_secret 11 = .ok (.getfield 176, 3) := by decide +kernel
theorem d_R_secret_14 : decode c9_R_secret 14 = .ok (.iload_n 1, 1) := by decide +kernel
theorem d_R_secret_15 : decode c9_R_secret 15 = .ok (.iconst 0, 1) := by decide +kernel
theorem d_R_secret_16 : decode c9_R_secret 16 = .ok (.invokevirtual 155, 3) := by decide +kernel
theorem d_R_secret_19 : decode c9_R_secret 19 = .ok (.l2i, 1) := by decide +kernel
theorem d_R_secret_20 : decode c9_R_secret 20 = .ok (.goto 4, 3) := by decide +kernel
theorem d_R_secret_23 : decode c9_R_secret 23 = .ok (.iconst 0, 1) := by decide +kernel
theorem d_R_secret_24 : decode c9_R_secret 24 = .ok (.ireturn, 1) := by decide +kernel
