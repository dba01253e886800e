theorem d_D_init_0 : decode c9_D_init 0 = .ok (.aload_n 0, 1) := by decide +kernel
theorem d_D_init_1 : decode c9_D_init 1 = .ok (.invokespecial 1, 3) := by decide +kernel
theorem d_D_init_4 : decode c9_D_init 4 = .ok (.aload_n 0, 1) := by decide +kernel
theorem d_D_init_5 : decode c9_D_init 5 = .ok (.iconst 0, 1) := by decide +kernel
theorem d_D_init_6 : decode c9_D_init 6 = .ok (.putfield 7, 3) := by decide +kernel
theorem d_D_init_9 : decode c9_D_init 9 = .ok (.return_, 1) := by decide +kernel
theorem d_P_init_0 : decode c9_P_init 0 = .ok (.aload_n 0, 1) := by decide +kernel
theorem d_P_init_1 : decode c9_P_init 1 = .ok (.invokespecial 3, 3) := by decide +kernel
theorem d_P_init_4 : decode c9_P_init 4 = .ok (.aload_n 0, 1) := by decide +kernel
theorem d_P_init_5 : decode c9_P_init 5 = .ok (.iload_n 1, 1) := by decide +kernel
theorem d_P_init_6 : decode c9_P_init 6 = .ok (.putfield 9, 3) := by decide +kernel
theorem d_P_init_9 : decode c9_P_init 9 = .ok (.aload_n 0, 1) := by decide +kernel
theorem d_P_init_10 : decode c9_P_init 10 = .ok (.iload_n 1, 1) := by decide +kernel
theorem d_P_init_11 : decode c9_P_init 11 = .ok (.ifCond .eq 8, 3) := by decide +kernel
theorem d_P_init_14 : decode c9_P_init 14 = .ok (.bipush 8, 2) := by decide +kernel
theorem d_P_init_16 : decode c9_P_init 16 = .ok (.goto 5, 3) := by decide +kernel
theorem d_P_init_19 : decode c9_P_init 19 = .ok (.bipush 32, 2) := by decide +kernel
theorem d_P_init_21 : decode c9_P_init 21 = .ok (.newarray .int, 2) := by decide +kernel
theorem d_P_init_23 : decode c9_P_init 23 = .ok (.putfield 15, 3) := by decide +kernel
theorem d_P_init_26 : decode c9_P_init 26 = .ok (.return_, 1) := by decide +kernel
theorem d_V_init_0 : decode c9_V_init 0 = .ok (.aload_n 0, 1) := by decide +kernel
theorem d_V_init_1 : decode c9_V_init 1 = .ok (.invokespecial 3, 3) := by decide +kernel
theorem d_V_init_4 : decode c9_V_init 4 = .ok (.aload_n 0, 1) := by decide +kernel
theorem d_V_init_5 : decode c9_V_init 5 = .ok (.iconst 0, 1) := by decide +kernel
theorem d_V_init_6 : decode c9_V_init 6 = .ok (.putfield 9, 3) := by decide +kernel
theorem d_V_init_9 : decode c9_V_init 9 = .ok (.aload_n 0, 1) := by decide +kernel
theorem d_V_init_10 : decode c9_V_init 10 = .ok (.lconst 0, 1) := by decide +kernel
theorem d_V_init_11 : decode c9_V_init 11 = .ok (.putfield 15, 3) := by decide +kernel
theorem d_V_init_14 : decode c9_V_init 14 = .ok (.aload_n 0, 1) := by decide +kernel
theorem d_V_init_15 : decode c9_V_init 15 = .ok (.new 19, 3) := by decide +kernel
theorem d_V_init_18 : decode c9_V_init 18 = .ok (.dup, 1) := by decide +kernel
theorem d_V_init_19 : decode c9_V_init 19 = .ok (.iconst 0, 1) := by decide +kernel
theorem d_V_init_20 : decode c9_V_init 20 = .ok (.invokespecial 21, 3) := by decide +kernel
theorem d_V_init_23 : decode c9_V_init 23 = .ok (.putfield 24, 3) := by decide +kernel
theorem d_V_init_26 : decode c9_V_init 26 = .ok (.aload_n 0, 1) := by decide +kernel
theorem d_V_init_27 : decode c9_V_init 27 = .ok (.new 19, 3) := by decide +kernel
theorem d_V_init_30 : decode c9_V_init 30 = .ok (.dup, 1) := by decide +kernel
theorem d_V_init_31 : decode c9_V_init 31 = .ok (.iconst 0, 1) := by decide +kernel
theorem d_V_init_32 : decode c9_V_init 32 = .ok (.invokespecial 21, 3) := by decide +kernel
theorem d_V_init_35 : decode c9_V_init 35 = .ok (.putfield 28, 3) := by decide +kernel
theorem d_V_init_38 : decode c9_V_init 38 = .ok (.return_, 1) := by decide +kernel
theorem d_D_start_0 : decode c9_D_start 0 = .ok (.aload_n 0, 1) := by decide +kernel
theorem d_D_start_1 : decode c9_D_start 1 = .ok (.iload_n 1, 1) := by decide +kernel
theorem d_D_start_2 : decode c9_D_start 2 = .ok (.putfield 7, 3) := by decide +kernel
theorem d_D_start_5 : decode c9_D_start 5 = .ok (.return_, 1) := by decide +kernel
theorem d_K_init_0 : decode c9_K_init 0 = .ok (.aload_n 0, 1) := by decide +kernel
theorem d_K_init_1 : decode c9_K_init 1 = .ok (.invokespecial 3, 3) := by decide +kernel
theorem d_K_init_4 : decode c9_K_init 4 = .ok (.aload_n 0, 1) := by decide +kernel
theorem d_K_init_5 : decode c9_K_init 5 = .ok (.new 9, 3) := by decide +kernel
theorem d_K_init_8 : decode c9_K_init 8 = .ok (.dup, 1) := by decide +kernel
theorem d_K_init_9 : decode c9_K_init 9 = .ok (.iconst 0, 1) := by decide +kernel
theorem d_K_init_10 : decode c9_K_init 10 = .ok (.invokespecial 11, 3) := by decide +kernel
theorem d_K_init_13 : decode c9_K_init 13 = .ok (.putfield 14, 3) := by decide +kernel
theorem d_K_init_16 : decode c9_K_init 16 = .ok (.aload_n 0, 1) := by decide +kernel
theorem d_K_init_17 : decode c9_K_init 17 = .ok (.iconst 4, 1) := by decide +kernel
theorem d_K_init_18 : decode c9_K_init 18 = .ok (.anewarray 9, 3) := by decide +kernel
theorem d_K_init_21 : decode c9_K_init 21 = .ok (.putfield 20, 3) := by decide +kernel
theorem d_K_init_24 : decode c9_K_init 24 = .ok (.aload_n 0, 1) := by decide +kernel
theorem d_K_init_25 : decode c9_K_init 25 = .ok (.iconst 4, 1) := by decide +kernel
theorem d_K_init_26 : decode c9_K_init 26 = .ok (.anewarray 9, 3) := by decide +kernel
theorem d_K_init_29 : decode c9_K_init 29 = .ok (.putfield 24, 3) := by decide +kernel
theorem d_K_init_32 : decode c9_K_init 32 = .ok (.aload_n 0, 1) := by decide +kernel
theorem d_K_init_33 : decode c9_K_init 33 = .ok (.getfield 14, 3) := by decide +kernel
theorem d_K_init_36 : decode c9_K_init 36 = .ok (.aload_n 1, 1) := by decide +kernel
theorem d_K_init_37 : decode c9_K_init 37 = .ok (.iconst 1, 1) := by decide +kernel
theorem d_K_init_38 : decode c9_K_init 38 = .ok (.invokevirtual 27, 3) := by decide +kernel
theorem d_K_init_41 : decode c9_K_init 41 = .ok (.new 9, 3) := by decide +kernel
theorem d_K_init_44 : decode c9_K_init 44 = .ok (.dup, 1) := by decide +kernel
theorem d_K_init_45 : decode c9_K_init 45 = .ok (.iconst 0, 1) := by decide +kernel
theorem d_K_init_46 : decode c9_K_init 46 = .ok (.invokespecial 11, 3) := by decide +kernel
theorem d_K_init_49 : decode c9_K_init 49 = .ok (.astore_n 2, 1) := by decide +kernel
theorem d_K_init_50 : decode c9_K_init 50 = .ok (.aload_n 2, 1) := by decide +kernel
theorem d_K_init_51 : decode c9_K_init 51 = .ok (.iconst 1, 1) := by decide +kernel
theorem d_K_init_52 : decode c9_K_init 52 = .ok (.aload_n 0, 1) := by decide +kernel
theorem d_K_init_53 : decode c9_K_init 53 = .ok (.getfield 14, 3) := by decide +kernel
theorem d_K_init_56 : decode c9_K_init 56 = .ok (.aload_n 0, 1) := by decide +kernel
theorem d_K_init_57 : decode c9_K_init 57 = .ok (.getfield 14, 3) := by decide +kernel
theorem d_K_init_60 : decode c9_K_init 60 = .ok (.iconst 3, 1) := by decide +kernel
theorem d_K_init_61 : decode c9_K_init 61 = .ok (.invokevirtual 31, 3) := by decide +kernel
theorem d_K_init_64 : decode c9_K_init 64 = .ok (.iconst 0, 1) := by decide +kernel
theorem d_K_init_65 : decode c9_K_init 65 = .ok (.istore_n 3, 1) := by decide +kernel
theorem d_K_init_66 : decode c9_K_init 66 = .ok (.iload_n 3, 1) := by decide +kernel
theorem d_K_init_67 : decode c9_K_init 67 = .ok (.iconst 4, 1) := by decide +kernel
theorem d_K_init_68 : decode c9_K_init 68 = .ok (.if_icmp .ge 65, 3) := by decide +kernel
theorem d_K_init_71 : decode c9_K_init 71 = .ok (.aload_n 0, 1) := by decide +kernel
theorem d_K_init_72 : decode c9_K_init 72 = .ok (.getfield 20, 3) := by decide +kernel
theorem d_K_init_75 : decode c9_K_init 75 = .ok (.iload_n 3, 1) := by decide +kernel
theorem d_K_init_76 : decode c9_K_init 76 = .ok (.new 9, 3) := by decide +kernel
theorem d_K_init_79 : decode c9_K_init 79 = .ok (.dup, 1) := by decide +kernel
theorem d_K_init_80 : decode c9_K_init 80 = .ok (.iconst 0, 1) := by decide +kernel
theorem d_K_init_81 : decode c9_K_init 81 = .ok (.invokespecial 11, 3) := by decide +kernel
theorem d_K_init_84 : decode c9_K_init 84 = .ok (.aastore, 1) := by decide +kernel
theorem d_K_init_85 : decode c9_K_init 85 = .ok (.aload_n 0, 1) := by decide +kernel
theorem d_K_init_86 : decode c9_K_init 86 = .ok (.getfield 24, 3) := by decide +kernel
theorem d_K_init_89 : decode c9_K_init 89 = .ok (.iload_n 3, 1) := by decide +kernel
theorem d_K_init_90 : decode c9_K_init 90 = .ok (.new 9, 3) := by decide +kernel
theorem d_K_init_93 : decode c9_K_init 93 = .ok (.dup, 1) := by decide +kernel
theorem d_K_init_94 : decode c9_K_init 94 = .ok (.iconst 0, 1) := by decide +kernel
theorem d_K_init_95 : decode c9_K_init 95 = .ok (.invokespecial 11, 3) := by decide +kernel
theorem d_K_init_98 : decode c9_K_init 98 = .ok (.aastore, 1) := by decide +kernel
theorem d_K_init_99 : decode c9_K_init 99 = .ok (.aload_n 0, 1) := by decide +kernel
theorem d_K_init_100 : decode c9_K_init 100 = .ok (.aload_n 1, 1) := by decide +kernel
theorem d_K_init_101 : decode c9_K_init 101 = .ok (.aload_n 0, 1) := by decide +kernel
theorem d_K_init_102 : decode c9_K_init 102 = .ok (.getfield 24, 3) := by decide +kernel
theorem d_K_init_105 : decode c9_K_init 105 = .ok (.iload_n 3, 1) := by decide +kernel
theorem d_K_init_106 : decode c9_K_init 106 = .ok (.aaload, 1) := by decide +kernel
theorem d_K_init_107 : decode c9_K_init 107 = .ok (.aload_n 0, 1) := by decide +kernel
theorem d_K_init_108 : decode c9_K_init 108 = .ok (.getfield 20, 3) := by decide +kernel
theorem d_K_init_111 : decode c9_K_init 111 = .ok (.iload_n 3, 1) := by decide +kernel
theorem d_K_init_112 : decode c9_K_init 112 = .ok (.aaload, 1) := by decide +kernel
theorem d_K_init_113 : decode c9_K_init 113 = .ok (.invokevirtual 35, 3) := by decide +kernel
theorem d_K_init_116 : decode c9_K_init 116 = .ok (.aload_n 0, 1) := by decide +kernel
theorem d_K_init_117 : decode c9_K_init 117 = .ok (.getfield 24, 3) := by decide +kernel
theorem d_K_init_120 : decode c9_K_init 120 = .ok (.iload_n 3, 1) := by decide +kernel
theorem d_K_init_121 : decode c9_K_init 121 = .ok (.aaload, 1) := by decide +kernel
theorem d_K_init_122 : decode c9_K_init 122 = .ok (.aload_n 2, 1) := by decide +kernel
theorem d_K_init_123 : decode c9_K_init 123 = .ok (.iload_n 3, 1) := by decide +kernel
theorem d_K_init_124 : decode c9_K_init 124 = .ok (.invokevirtual 39, 3) := by decide +kernel
theorem d_K_init_127 : decode c9_K_init 127 = .ok (.iinc 3 1, 3) := by decide +kernel
theorem d_K_init_130 : decode c9_K_init 130 = .ok (.goto (-64), 3) := by decide +kernel
theorem d_K_init_133 : decode c9_K_init 133 = .ok (.return_, 1) := by decide +kernel
theorem d_P_drawSmall_0 : decode c9_P_drawSmall 0 = .ok (.iconst 0, 1) := by decide +kernel
theorem d_P_drawSmall_1 : decode c9_P_drawSmall 1 = .ok (.istore_n 3, 1) := by decide +kernel
theorem d_P_drawSmall_2 : decode c9_P_drawSmall 2 = .ok (.iload_n 3, 1) := by decide +kernel
theorem d_P_drawSmall_3 : decode c9_P_drawSmall 3 = .ok (.bipush 8, 2) := by decide +kernel
theorem d_P_drawSmall_5 : decode c9_P_drawSmall 5 = .ok (.if_icmp .ge 60, 3) := by decide +kernel
theorem d_P_drawSmall_8 : decode c9_P_drawSmall 8 = .ok (.iload_n 2, 1) := by decide +kernel
theorem d_P_drawSmall_9 : decode c9_P_drawSmall 9 = .ok (.aload_n 1, 1) := by decide +kernel
theorem d_P_drawSmall_10 : decode c9_P_drawSmall 10 = .ok (.invokevirtual 34, 3) := by decide +kernel
theorem d_P_drawSmall_13 : decode c9_P_drawSmall 13 = .ok (.iconst 3, 1) := by decide +kernel
theorem d_P_drawSmall_14 : decode c9_P_drawSmall 14 = .ok (.irem, 1) := by decide +kernel
theorem d_P_drawSmall_15 : decode c9_P_drawSmall 15 = .ok (.iconst 1, 1) := by decide +kernel
theorem d_P_drawSmall_16 : decode c9_P_drawSmall 16 = .ok (.isub, 1) := by decide +kernel
theorem d_P_drawSmall_17 : decode c9_P_drawSmall 17 = .ok (.imul, 1) := by decide +kernel
theorem d_P_drawSmall_18 : decode c9_P_drawSmall 18 = .ok (.istore 4, 2) := by decide +kernel
theorem d_P_drawSmall_20 : decode c9_P_drawSmall 20 = .ok (.iconst 0, 1) := by decide +kernel
theorem d_P_drawSmall_21 : decode c9_P_drawSmall 21 = .ok (.istore 5, 2) := by decide +kernel
theorem d_P_drawSmall_23 : decode c9_P_drawSmall 23 = .ok (.iload 5, 2) := by decide +kernel
theorem d_P_drawSmall_25 : decode c9_P_drawSmall 25 = .ok (.iconst 4, 1) := by decide +kernel
theorem d_P_drawSmall_26 : decode c9_P_drawSmall 26 = .ok (.if_icmp .ge 33, 3) := by decide +kernel
theorem d_P_drawSmall_29 : decode c9_P_drawSmall 29 = .ok (.aload_n 0, 1) := by decide +kernel
theorem d_P_drawSmall_30 : decode c9_P_drawSmall 30 = .ok (.getfield 15, 3) := by decide +kernel
theorem d_P_drawSmall_33 : decode c9_P_drawSmall 33 = .ok (.iload 5, 2) := by decide +kernel
theorem d_P_drawSmall_35 : decode c9_P_drawSmall 35 = .ok (.bipush 8, 2) := by decide +kernel
theorem d_P_drawSmall_37 : decode c9_P_drawSmall 37 = .ok (.imul, 1) := by decide +kernel
theorem d_P_drawSmall_38 : decode c9_P_drawSmall 38 = .ok (.iload_n 3, 1) := by decide +kernel
theorem d_P_drawSmall_39 : decode c9_P_drawSmall 39 = .ok (.iadd, 1) := by decide +kernel
theorem d_P_drawSmall_40 : decode c9_P_drawSmall 40 = .ok (.iload 4, 2) := by decide +kernel
theorem d_P_drawSmall_42 : decode c9_P_drawSmall 42 = .ok (.i2l, 1) := by decide +kernel
theorem d_P_drawSmall_43 : decode c9_P_drawSmall 43 = .ok (.getstatic 19, 3) := by decide +kernel
theorem d_P_drawSmall_46 : decode c9_P_drawSmall 46 = .ok (.iload 5, 2) := by decide +kernel
theorem d_P_drawSmall_48 : decode c9_P_drawSmall 48 = .ok (.iaload, 1) := by decide +kernel
theorem d_P_drawSmall_49 : decode c9_P_drawSmall 49 = .ok (.invokestatic 40, 3) := by decide +kernel
theorem d_P_drawSmall_52 : decode c9_P_drawSmall 52 = .ok (.iastore, 1) := by decide +kernel
theorem d_P_drawSmall_53 : decode c9_P_drawSmall 53 = .ok (.iinc 5 1, 3) := by decide +kernel
theorem d_P_drawSmall_56 : decode c9_P_drawSmall 56 = .ok (.goto (-33), 3) := by decide +kernel
theorem d_P_drawSmall_59 : decode c9_P_drawSmall 59 = .ok (.iinc 3 1, 3) := by decide +kernel
theorem d_P_drawSmall_62 : decode c9_P_drawSmall 62 = .ok (.goto (-60), 3) := by decide +kernel
theorem d_P_drawSmall_65 : decode c9_P_drawSmall 65 = .ok (.return_, 1) := by decide +kernel
theorem d_D_draw_0 : decode c9_D_draw 0 = .ok (.aload_n 0, 1) := by decide +kernel
theorem d_D_draw_1 : decode c9_D_draw 1 = .ok (.aload_n 0, 1) := by decide +kernel
theorem d_D_draw_2 : decode c9_D_draw 2 = .ok (.getfield 7, 3) := by decide +kernel
theorem d_D_draw_5 : decode c9_D_draw 5 = .ok (.ldc 13, 2) := by decide +kernel
theorem d_D_draw_7 : decode c9_D_draw 7 = .ok (.imul, 1) := by decide +kernel
theorem d_D_draw_8 : decode c9_D_draw 8 = .ok (.ldc 14, 2) := by decide +kernel
theorem d_D_draw_10 : decode c9_D_draw 10 = .ok (.iadd, 1) := by decide +kernel
theorem d_D_draw_11 : decode c9_D_draw 11 = .ok (.putfield 7, 3) := by decide +kernel
theorem d_D_draw_14 : decode c9_D_draw 14 = .ok (.aload_n 0, 1) := by decide +kernel
theorem d_D_draw_15 : decode c9_D_draw 15 = .ok (.getfield 7, 3) := by decide +kernel
theorem d_D_draw_18 : decode c9_D_draw 18 = .ok (.bipush 8, 2) := by decide +kernel
theorem d_D_draw_20 : decode c9_D_draw 20 = .ok (.iushr, 1) := by decide +kernel
theorem d_D_draw_21 : decode c9_D_draw 21 = .ok (.ireturn, 1) := by decide +kernel
theorem d_P_addProduct_0 : decode c9_P_addProduct 0 = .ok (.iconst 0, 1) := by decide +kernel
theorem d_P_addProduct_1 : decode c9_P_addProduct 1 = .ok (.istore 5, 2) := by decide +kernel
theorem d_P_addProduct_3 : decode c9_P_addProduct 3 = .ok (.iload 5, 2) := by decide +kernel
theorem d_P_addProduct_5 : decode c9_P_addProduct 5 = .ok (.iload 4, 2) := by decide +kernel
theorem d_P_addProduct_7 : decode c9_P_addProduct 7 = .ok (.if_icmp .gt 79, 3) := by decide +kernel
theorem d_P_addProduct_10 : decode c9_P_addProduct 10 = .ok (.aload_n 0, 1) := by decide +kernel
theorem d_P_addProduct_11 : decode c9_P_addProduct 11 = .ok (.iload 5, 2) := by decide +kernel
theorem d_P_addProduct_13 : decode c9_P_addProduct 13 = .ok (.invokevirtual 44, 3) := by decide +kernel
theorem d_P_addProduct_16 : decode c9_P_addProduct 16 = .ok (.istore 6, 2) := by decide +kernel
theorem d_P_addProduct_18 : decode c9_P_addProduct 18 = .ok (.iconst 0, 1) := by decide +kernel
theorem d_P_addProduct_19 : decode c9_P_addProduct 19 = .ok (.istore 7, 2) := by decide +kernel
theorem d_P_addProduct_21 : decode c9_P_addProduct 21 = .ok (.iload 7, 2) := by decide +kernel
theorem d_P_addProduct_23 : decode c9_P_addProduct 23 = .ok (.bipush 8, 2) := by decide +kernel
theorem d_P_addProduct_25 : decode c9_P_addProduct 25 = .ok (.if_icmp .ge 55, 3) := by decide +kernel
theorem d_P_addProduct_28 : decode c9_P_addProduct 28 = .ok (.iload 5, 2) := by decide +kernel
theorem d_P_addProduct_30 : decode c9_P_addProduct 30 = .ok (.bipush 8, 2) := by decide +kernel
theorem d_P_addProduct_32 : decode c9_P_addProduct 32 = .ok (.imul, 1) := by decide +kernel
theorem d_P_addProduct_33 : decode c9_P_addProduct 33 = .ok (.iload 7, 2) := by decide +kernel
theorem d_P_addProduct_35 : decode c9_P_addProduct 35 = .ok (.iadd, 1) := by decide +kernel
theorem d_P_addProduct_36 : decode c9_P_addProduct 36 = .ok (.istore 8, 2) := by decide +kernel
theorem d_P_addProduct_38 : decode c9_P_addProduct 38 = .ok (.aload_n 0, 1) := by decide +kernel
theorem d_P_addProduct_39 : decode c9_P_addProduct 39 = .ok (.getfield 15, 3) := by decide +kernel
theorem d_P_addProduct_42 : decode c9_P_addProduct 42 = .ok (.iload 8, 2) := by decide +kernel
theorem d_P_addProduct_44 : decode c9_P_addProduct 44 = .ok (.aload_n 0, 1) := by decide +kernel
theorem d_P_addProduct_45 : decode c9_P_addProduct 45 = .ok (.getfield 15, 3) := by decide +kernel
theorem d_P_addProduct_48 : decode c9_P_addProduct 48 = .ok (.iload 8, 2) := by decide +kernel
theorem d_P_addProduct_50 : decode c9_P_addProduct 50 = .ok (.iaload, 1) := by decide +kernel
theorem d_P_addProduct_51 : decode c9_P_addProduct 51 = .ok (.i2l, 1) := by decide +kernel
theorem d_P_addProduct_52 : decode c9_P_addProduct 52 = .ok (.iload_n 1, 1) := by decide +kernel
theorem d_P_addProduct_53 : decode c9_P_addProduct 53 = .ok (.i2l, 1) := by decide +kernel
theorem d_P_addProduct_54 : decode c9_P_addProduct 54 = .ok (.aload_n 2, 1) := by decide +kernel
theorem d_P_addProduct_55 : decode c9_P_addProduct 55 = .ok (.aload_n 3, 1) := by decide +kernel
theorem d_P_addProduct_56 : decode c9_P_addProduct 56 = .ok (.iload 5, 2) := by decide +kernel
theorem d_P_addProduct_58 : decode c9_P_addProduct 58 = .ok (.bipush 8, 2) := by decide +kernel
theorem d_P_addProduct_60 : decode c9_P_addProduct 60 = .ok (.imul, 1) := by decide +kernel
theorem d_P_addProduct_61 : decode c9_P_addProduct 61 = .ok (.iload 7, 2) := by decide +kernel
theorem d_P_addProduct_63 : decode c9_P_addProduct 63 = .ok (.invokestatic 48, 3) := by decide +kernel
theorem d_P_addProduct_66 : decode c9_P_addProduct 66 = .ok (.lmul, 1) := by decide +kernel
theorem d_P_addProduct_67 : decode c9_P_addProduct 67 = .ok (.ladd, 1) := by decide +kernel
theorem d_P_addProduct_68 : decode c9_P_addProduct 68 = .ok (.iload 6, 2) := by decide +kernel
theorem d_P_addProduct_70 : decode c9_P_addProduct 70 = .ok (.invokestatic 40, 3) := by decide +kernel
theorem d_P_addProduct_73 : decode c9_P_addProduct 73 = .ok (.iastore, 1) := by decide +kernel
theorem d_P_addProduct_74 : decode c9_P_addProduct 74 = .ok (.iinc 7 1, 3) := by decide +kernel
theorem d_P_addProduct_77 : decode c9_P_addProduct 77 = .ok (.goto (-56), 3) := by decide +kernel
theorem d_P_addProduct_80 : decode c9_P_addProduct 80 = .ok (.iinc 5 1, 3) := by decide +kernel
theorem d_P_addProduct_83 : decode c9_P_addProduct 83 = .ok (.goto (-80), 3) := by decide +kernel
theorem d_P_addProduct_86 : decode c9_P_addProduct 86 = .ok (.return_, 1) := by decide +kernel
theorem d_P_rowModulus_0 : decode c9_P_rowModulus 0 = .ok (.aload_n 0, 1) := by decide +kernel
theorem d_P_rowModulus_1 : decode c9_P_rowModulus 1 = .ok (.getfield 9, 3) := by decide +kernel
theorem d_P_rowModulus_4 : decode c9_P_rowModulus 4 = .ok (.ifCond .eq 8, 3) := by decide +kernel
theorem d_P_rowModulus_7 : decode c9_P_rowModulus 7 = .ok (.bipush 17, 2) := by decide +kernel
theorem d_P_rowModulus_9 : decode c9_P_rowModulus 9 = .ok (.goto 8, 3) := by decide +kernel
theorem d_P_rowModulus_12 : decode c9_P_rowModulus 12 = .ok (.getstatic 19, 3) := by decide +kernel
theorem d_P_rowModulus_15 : decode c9_P_rowModulus 15 = .ok (.iload_n 1, 1) := by decide +kernel
theorem d_P_rowModulus_16 : decode c9_P_rowModulus 16 = .ok (.iaload, 1) := by decide +kernel
theorem d_P_rowModulus_17 : decode c9_P_rowModulus 17 = .ok (.ireturn, 1) := by decide +kernel
theorem d_P_productCoefficient_0 : decode c9_P_productCoefficient 0 = .ok (.lconst 0, 1) := by decide +kernel
theorem d_P_productCoefficient_1 : decode c9_P_productCoefficient 1 = .ok (.lstore 4, 2) := by decide +kernel
theorem d_P_productCoefficient_3 : decode c9_P_productCoefficient 3 = .ok (.iconst 0, 1) := by decide +kernel
theorem d_P_productCoefficient_4 : decode c9_P_productCoefficient 4 = .ok (.istore 6, 2) := by decide +kernel
theorem d_P_productCoefficient_6 : decode c9_P_productCoefficient 6 = .ok (.iload 6, 2) := by decide +kernel
theorem d_P_productCoefficient_8 : decode c9_P_productCoefficient 8 = .ok (.iload_n 3, 1) := by decide +kernel
theorem d_P_productCoefficient_9 : decode c9_P_productCoefficient 9 = .ok (.if_icmp .gt 37, 3) := by decide +kernel
theorem d_P_productCoefficient_12 : decode c9_P_productCoefficient 12 = .ok (.lload 4, 2) := by decide +kernel
theorem d_P_productCoefficient_14 : decode c9_P_productCoefficient 14 = .ok (.aload_n 0, 1) := by decide +kernel
theorem d_P_productCoefficient_15 : decode c9_P_productCoefficient 15 = .ok (.getfield 15, 3) := by decide +kernel
theorem d_P_productCoefficient_18 : decode c9_P_productCoefficient 18 = .ok (.iload_n 2, 1) := by decide +kernel
theorem d_P_productCoefficient_19 : decode c9_P_productCoefficient 19 = .ok (.iload 6, 2) := by decide +kernel
theorem d_P_productCoefficient_21 : decode c9_P_productCoefficient 21 = .ok (.iadd, 1) := by decide +kernel
theorem d_P_productCoefficient_22 : decode c9_P_productCoefficient 22 = .ok (.iaload, 1) := by decide +kernel
theorem d_P_productCoefficient_23 : decode c9_P_productCoefficient 23 = .ok (.i2l, 1) := by decide +kernel
theorem d_P_productCoefficient_24 : decode c9_P_productCoefficient 24 = .ok (.aload_n 1, 1) := by decide +kernel
theorem d_P_productCoefficient_25 : decode c9_P_productCoefficient 25 = .ok (.getfield 15, 3) := by decide +kernel
theorem d_P_productCoefficient_28 : decode c9_P_productCoefficient 28 = .ok (.iload_n 2, 1) := by decide +kernel
theorem d_P_productCoefficient_29 : decode c9_P_productCoefficient 29 = .ok (.iload_n 3, 1) := by decide +kernel
theorem d_P_productCoefficient_30 : decode c9_P_productCoefficient 30 = .ok (.iadd, 1) := by decide +kernel
theorem d_P_productCoefficient_31 : decode c9_P_productCoefficient 31 = .ok (.iload 6, 2) := by decide +kernel
theorem d_P_productCoefficient_33 : decode c9_P_productCoefficient 33 = .ok (.isub, 1) := by decide +kernel
theorem d_P_productCoefficient_34 : decode c9_P_productCoefficient 34 = .ok (.iaload, 1) := by decide +kernel
theorem d_P_productCoefficient_35 : decode c9_P_productCoefficient 35 = .ok (.i2l, 1) := by decide +kernel
theorem d_P_productCoefficient_36 : decode c9_P_productCoefficient 36 = .ok (.lmul, 1) := by decide +kernel
theorem d_P_productCoefficient_37 : decode c9_P_productCoefficient 37 = .ok (.ladd, 1) := by decide +kernel
theorem d_P_productCoefficient_38 : decode c9_P_productCoefficient 38 = .ok (.lstore 4, 2) := by decide +kernel
theorem d_P_productCoefficient_40 : decode c9_P_productCoefficient 40 = .ok (.iinc 6 1, 3) := by decide +kernel
theorem d_P_productCoefficient_43 : decode c9_P_productCoefficient 43 = .ok (.goto (-37), 3) := by decide +kernel
theorem d_P_productCoefficient_46 : decode c9_P_productCoefficient 46 = .ok (.iload_n 3, 1) := by decide +kernel
theorem d_P_productCoefficient_47 : decode c9_P_productCoefficient 47 = .ok (.iconst 1, 1) := by decide +kernel
theorem d_P_productCoefficient_48 : decode c9_P_productCoefficient 48 = .ok (.iadd, 1) := by decide +kernel
theorem d_P_productCoefficient_49 : decode c9_P_productCoefficient 49 = .ok (.istore 6, 2) := by decide +kernel
theorem d_P_productCoefficient_51 : decode c9_P_productCoefficient 51 = .ok (.iload 6, 2) := by decide +kernel
theorem d_P_productCoefficient_53 : decode c9_P_productCoefficient 53 = .ok (.bipush 8, 2) := by decide +kernel
theorem d_P_productCoefficient_55 : decode c9_P_productCoefficient 55 = .ok (.if_icmp .ge 40, 3) := by decide +kernel
theorem d_P_productCoefficient_58 : decode c9_P_productCoefficient 58 = .ok (.lload 4, 2) := by decide +kernel
theorem d_P_productCoefficient_60 : decode c9_P_productCoefficient 60 = .ok (.aload_n 0, 1) := by decide +kernel
theorem d_P_productCoefficient_61 : decode c9_P_productCoefficient 61 = .ok (.getfield 15, 3) := by decide +kernel
theorem d_P_productCoefficient_64 : decode c9_P_productCoefficient 64 = .ok (.iload_n 2, 1) := by decide +kernel
theorem d_P_productCoefficient_65 : decode c9_P_productCoefficient 65 = .ok (.iload 6, 2) := by decide +kernel
theorem d_P_productCoefficient_67 : decode c9_P_productCoefficient 67 = .ok (.iadd, 1) := by decide +kernel
theorem d_P_productCoefficient_68 : decode c9_P_productCoefficient 68 = .ok (.iaload, 1) := by decide +kernel
theorem d_P_productCoefficient_69 : decode c9_P_productCoefficient 69 = .ok (.i2l, 1) := by decide +kernel
theorem d_P_productCoefficient_70 : decode c9_P_productCoefficient 70 = .ok (.aload_n 1, 1) := by decide +kernel
theorem d_P_productCoefficient_71 : decode c9_P_productCoefficient 71 = .ok (.getfield 15, 3) := by decide +kernel
theorem d_P_productCoefficient_74 : decode c9_P_productCoefficient 74 = .ok (.iload_n 2, 1) := by decide +kernel
theorem d_P_productCoefficient_75 : decode c9_P_productCoefficient 75 = .ok (.bipush 8, 2) := by decide +kernel
theorem d_P_productCoefficient_77 : decode c9_P_productCoefficient 77 = .ok (.iadd, 1) := by decide +kernel
theorem d_P_productCoefficient_78 : decode c9_P_productCoefficient 78 = .ok (.iload_n 3, 1) := by decide +kernel
theorem d_P_productCoefficient_79 : decode c9_P_productCoefficient 79 = .ok (.iadd, 1) := by decide +kernel
theorem d_P_productCoefficient_80 : decode c9_P_productCoefficient 80 = .ok (.iload 6, 2) := by decide +kernel
theorem d_P_productCoefficient_82 : decode c9_P_productCoefficient 82 = .ok (.isub, 1) := by decide +kernel
theorem d_P_productCoefficient_83 : decode c9_P_productCoefficient 83 = .ok (.iaload, 1) := by decide +kernel
theorem d_P_productCoefficient_84 : decode c9_P_productCoefficient 84 = .ok (.i2l, 1) := by decide +kernel
theorem d_P_productCoefficient_85 : decode c9_P_productCoefficient 85 = .ok (.lmul, 1) := by decide +kernel
theorem d_P_productCoefficient_86 : decode c9_P_productCoefficient 86 = .ok (.lsub, 1) := by decide +kernel
theorem d_P_productCoefficient_87 : decode c9_P_productCoefficient 87 = .ok (.lstore 4, 2) := by decide +kernel
theorem d_P_productCoefficient_89 : decode c9_P_productCoefficient 89 = .ok (.iinc 6 1, 3) := by decide +kernel
theorem d_P_productCoefficient_92 : decode c9_P_productCoefficient 92 = .ok (.goto (-41), 3) := by decide +kernel
theorem d_P_productCoefficient_95 : decode c9_P_productCoefficient 95 = .ok (.lload 4, 2) := by decide +kernel
theorem d_P_productCoefficient_97 : decode c9_P_productCoefficient 97 = .ok (.lreturn, 1) := by decide +kernel
theorem d_K_drawHiddenZero_0 : decode c9_K_drawHiddenZero 0 = .ok (.aload_n 3, 1) := by decide +kernel
theorem d_K_drawHiddenZero_1 : decode c9_K_drawHiddenZero 1 = .ok (.aload_n 1, 1) := by decide +kernel
theorem d_K_drawHiddenZero_2 : decode c9_K_drawHiddenZero 2 = .ok (.invokevirtual 43, 3) := by decide +kernel
theorem d_K_drawHiddenZero_5 : decode c9_K_drawHiddenZero 5 = .ok (.aload_n 2, 1) := by decide +kernel
theorem d_K_drawHiddenZero_6 : decode c9_K_drawHiddenZero 6 = .ok (.aload_n 1, 1) := by decide +kernel
theorem d_K_drawHiddenZero_7 : decode c9_K_drawHiddenZero 7 = .ok (.bipush 17, 2) := by decide +kernel
theorem d_K_drawHiddenZero_9 : decode c9_K_drawHiddenZero 9 = .ok (.invokevirtual 27, 3) := by decide +kernel
theorem d_K_drawHiddenZero_12 : decode c9_K_drawHiddenZero 12 = .ok (.aload_n 2, 1) := by decide +kernel
theorem d_K_drawHiddenZero_13 : decode c9_K_drawHiddenZero 13 = .ok (.iconst (-1), 1) := by decide +kernel
theorem d_K_drawHiddenZero_14 : decode c9_K_drawHiddenZero 14 = .ok (.aload_n 3, 1) := by decide +kernel
theorem d_K_drawHiddenZero_15 : decode c9_K_drawHiddenZero 15 = .ok (.aload_n 0, 1) := by decide +kernel
theorem d_K_drawHiddenZero_16 : decode c9_K_drawHiddenZero 16 = .ok (.getfield 14, 3) := by decide +kernel
theorem d_K_drawHiddenZero_19 : decode c9_K_drawHiddenZero 19 = .ok (.iconst 3, 1) := by decide +kernel
theorem d_K_drawHiddenZero_20 : decode c9_K_drawHiddenZero 20 = .ok (.invokevirtual 31, 3) := by decide +kernel
theorem d_K_drawHiddenZero_23 : decode c9_K_drawHiddenZero 23 = .ok (.return_, 1) := by decide +kernel
theorem d_P_drawUniform_0 : decode c9_P_drawUniform 0 = .ok (.iconst 0, 1) := by decide +kernel
theorem d_P_drawUniform_1 : decode c9_P_drawUniform 1 = .ok (.istore_n 2, 1) := by decide +kernel
theorem d_P_drawUniform_2 : decode c9_P_drawUniform 2 = .ok (.iload_n 2, 1) := by decide +kernel
theorem d_P_drawUniform_3 : decode c9_P_drawUniform 3 = .ok (.bipush 8, 2) := by decide +kernel
theorem d_P_drawUniform_5 : decode c9_P_drawUniform 5 = .ok (.if_icmp .ge 43, 3) := by decide +kernel
theorem d_P_drawUniform_8 : decode c9_P_drawUniform 8 = .ok (.iconst 0, 1) := by decide +kernel
theorem d_P_drawUniform_9 : decode c9_P_drawUniform 9 = .ok (.istore_n 3, 1) := by decide +kernel
theorem d_P_drawUniform_10 : decode c9_P_drawUniform 10 = .ok (.iload_n 3, 1) := by decide +kernel
theorem d_P_drawUniform_11 : decode c9_P_drawUniform 11 = .ok (.iconst 4, 1) := by decide +kernel
theorem d_P_drawUniform_12 : decode c9_P_drawUniform 12 = .ok (.if_icmp .ge 30, 3) := by decide +kernel
theorem d_P_drawUniform_15 : decode c9_P_drawUniform 15 = .ok (.aload_n 0, 1) := by decide +kernel
theorem d_P_drawUniform_16 : decode c9_P_drawUniform 16 = .ok (.getfield 15, 3) := by decide +kernel
theorem d_P_drawUniform_19 : decode c9_P_drawUniform 19 = .ok (.iload_n 3, 1) := by decide +kernel
theorem d_P_drawUniform_20 : decode c9_P_drawUniform 20 = .ok (.bipush 8, 2) := by decide +kernel
theorem d_P_drawUniform_22 : decode c9_P_drawUniform 22 = .ok (.imul, 1) := by decide +kernel
theorem d_P_drawUniform_23 : decode c9_P_drawUniform 23 = .ok (.iload_n 2, 1) := by decide +kernel
theorem d_P_drawUniform_24 : decode c9_P_drawUniform 24 = .ok (.iadd, 1) := by decide +kernel
theorem d_P_drawUniform_25 : decode c9_P_drawUniform 25 = .ok (.aload_n 1, 1) := by decide +kernel
theorem d_P_drawUniform_26 : decode c9_P_drawUniform 26 = .ok (.invokevirtual 34, 3) := by decide +kernel
theorem d_P_drawUniform_29 : decode c9_P_drawUniform 29 = .ok (.getstatic 19, 3) := by decide +kernel
theorem d_P_drawUniform_32 : decode c9_P_drawUniform 32 = .ok (.iload_n 3, 1) := by decide +kernel
theorem d_P_drawUniform_33 : decode c9_P_drawUniform 33 = .ok (.iaload, 1) := by decide +kernel
theorem d_P_drawUniform_34 : decode c9_P_drawUniform 34 = .ok (.irem, 1) := by decide +kernel
theorem d_P_drawUniform_35 : decode c9_P_drawUniform 35 = .ok (.iastore, 1) := by decide +kernel
theorem d_P_drawUniform_36 : decode c9_P_drawUniform 36 = .ok (.iinc 3 1, 3) := by decide +kernel
theorem d_P_drawUniform_39 : decode c9_P_drawUniform 39 = .ok (.goto (-29), 3) := by decide +kernel
theorem d_P_drawUniform_42 : decode c9_P_drawUniform 42 = .ok (.iinc 2 1, 3) := by decide +kernel
theorem d_P_drawUniform_45 : decode c9_P_drawUniform 45 = .ok (.goto (-43), 3) := by decide +kernel
theorem d_P_drawUniform_48 : decode c9_P_drawUniform 48 = .ok (.return_, 1) := by decide +kernel
theorem d_P_addRow_0 : decode c9_P_addRow 0 = .ok (.iload_n 2, 1) := by decide +kernel
theorem d_P_addRow_1 : decode c9_P_addRow 1 = .ok (.bipush 8, 2) := by decide +kernel
theorem d_P_addRow_3 : decode c9_P_addRow 3 = .ok (.imul, 1) := by decide +kernel
theorem d_P_addRow_4 : decode c9_P_addRow 4 = .ok (.istore_n 3, 1) := by decide +kernel
theorem d_P_addRow_5 : decode c9_P_addRow 5 = .ok (.iload_n 3, 1) := by decide +kernel
theorem d_P_addRow_6 : decode c9_P_addRow 6 = .ok (.iload_n 2, 1) := by decide +kernel
theorem d_P_addRow_7 : decode c9_P_addRow 7 = .ok (.iconst 1, 1) := by decide +kernel
theorem d_P_addRow_8 : decode c9_P_addRow 8 = .ok (.iadd, 1) := by decide +kernel
theorem d_P_addRow_9 : decode c9_P_addRow 9 = .ok (.bipush 8, 2) := by decide +kernel
theorem d_P_addRow_11 : decode c9_P_addRow 11 = .ok (.imul, 1) := by decide +kernel
theorem d_P_addRow_12 : decode c9_P_addRow 12 = .ok (.if_icmp .ge 37, 3) := by decide +kernel
theorem d_P_addRow_15 : decode c9_P_addRow 15 = .ok (.aload_n 0, 1) := by decide +kernel
theorem d_P_addRow_16 : decode c9_P_addRow 16 = .ok (.getfield 15, 3) := by decide +kernel
theorem d_P_addRow_19 : decode c9_P_addRow 19 = .ok (.iload_n 3, 1) := by decide +kernel
theorem d_P_addRow_20 : decode c9_P_addRow 20 = .ok (.aload_n 0, 1) := by decide +kernel
theorem d_P_addRow_21 : decode c9_P_addRow 21 = .ok (.getfield 15, 3) := by decide +kernel
theorem d_P_addRow_24 : decode c9_P_addRow 24 = .ok (.iload_n 3, 1) := by decide +kernel
theorem d_P_addRow_25 : decode c9_P_addRow 25 = .ok (.iaload, 1) := by decide +kernel
theorem d_P_addRow_26 : decode c9_P_addRow 26 = .ok (.aload_n 1, 1) := by decide +kernel
theorem d_P_addRow_27 : decode c9_P_addRow 27 = .ok (.getfield 15, 3) := by decide +kernel
theorem d_P_addRow_30 : decode c9_P_addRow 30 = .ok (.iload_n 3, 1) := by decide +kernel
theorem d_P_addRow_31 : decode c9_P_addRow 31 = .ok (.iaload, 1) := by decide +kernel
theorem d_P_addRow_32 : decode c9_P_addRow 32 = .ok (.iadd, 1) := by decide +kernel
theorem d_P_addRow_33 : decode c9_P_addRow 33 = .ok (.i2l, 1) := by decide +kernel
theorem d_P_addRow_34 : decode c9_P_addRow 34 = .ok (.aload_n 0, 1) := by decide +kernel
theorem d_P_addRow_35 : decode c9_P_addRow 35 = .ok (.iload_n 2, 1) := by decide +kernel
theorem d_P_addRow_36 : decode c9_P_addRow 36 = .ok (.invokevirtual 44, 3) := by decide +kernel
theorem d_P_addRow_39 : decode c9_P_addRow 39 = .ok (.invokestatic 40, 3) := by decide +kernel
theorem d_P_addRow_42 : decode c9_P_addRow 42 = .ok (.iastore, 1) := by decide +kernel
theorem d_P_addRow_43 : decode c9_P_addRow 43 = .ok (.iinc 3 1, 3) := by decide +kernel
theorem d_P_addRow_46 : decode c9_P_addRow 46 = .ok (.goto (-41), 3) := by decide +kernel
theorem d_P_addRow_49 : decode c9_P_addRow 49 = .ok (.return_, 1) := by decide +kernel
theorem d_G_init_0 : decode c9_G_init 0 = .ok (.aload_n 0, 1) := by decide +kernel
theorem d_G_init_1 : decode c9_G_init 1 = .ok (.invokespecial 3, 3) := by decide +kernel
theorem d_G_init_4 : decode c9_G_init 4 = .ok (.aload_n 0, 1) := by decide +kernel
theorem d_G_init_5 : decode c9_G_init 5 = .ok (.getstatic 9, 3) := by decide +kernel
theorem d_G_init_8 : decode c9_G_init 8 = .ok (.putfield 15, 3) := by decide +kernel
theorem d_G_init_11 : decode c9_G_init 11 = .ok (.aload_n 0, 1) := by decide +kernel
theorem d_G_init_12 : decode c9_G_init 12 = .ok (.iconst (-1), 1) := by decide +kernel
theorem d_G_init_13 : decode c9_G_init 13 = .ok (.putfield 20, 3) := by decide +kernel
theorem d_G_init_16 : decode c9_G_init 16 = .ok (.aload_n 0, 1) := by decide +kernel
theorem d_G_init_17 : decode c9_G_init 17 = .ok (.iconst (-1), 1) := by decide +kernel
theorem d_G_init_18 : decode c9_G_init 18 = .ok (.putfield 24, 3) := by decide +kernel
theorem d_G_init_21 : decode c9_G_init 21 = .ok (.aload_n 0, 1) := by decide +kernel
theorem d_G_init_22 : decode c9_G_init 22 = .ok (.iconst 0, 1) := by decide +kernel
theorem d_G_init_23 : decode c9_G_init 23 = .ok (.putfield 27, 3) := by decide +kernel
theorem d_G_init_26 : decode c9_G_init 26 = .ok (.aload_n 0, 1) := by decide +kernel
theorem d_G_init_27 : decode c9_G_init 27 = .ok (.new 30, 3) := by decide +kernel
theorem d_G_init_30 : decode c9_G_init 30 = .ok (.dup, 1) := by decide +kernel
theorem d_G_init_31 : decode c9_G_init 31 = .ok (.iconst 1, 1) := by decide +kernel
theorem d_G_init_32 : decode c9_G_init 32 = .ok (.invokespecial 32, 3) := by decide +kernel
theorem d_G_init_35 : decode c9_G_init 35 = .ok (.putfield 35, 3) := by decide +kernel
theorem d_G_init_38 : decode c9_G_init 38 = .ok (.aload_n 0, 1) := by decide +kernel
theorem d_G_init_39 : decode c9_G_init 39 = .ok (.new 39, 3) := by decide +kernel
theorem d_G_init_42 : decode c9_G_init 42 = .ok (.dup, 1) := by decide +kernel
theorem d_G_init_43 : decode c9_G_init 43 = .ok (.invokespecial 41, 3) := by decide +kernel
theorem d_G_init_46 : decode c9_G_init 46 = .ok (.putfield 42, 3) := by decide +kernel
theorem d_G_init_49 : decode c9_G_init 49 = .ok (.return_, 1) := by decide +kernel
theorem d_G_become_0 : decode c9_G_become 0 = .ok (.aload_n 0, 1) := by decide +kernel
theorem d_G_become_1 : decode c9_G_become 1 = .ok (.aload_n 1, 1) := by decide +kernel
theorem d_G_become_2 : decode c9_G_become 2 = .ok (.putfield 15, 3) := by decide +kernel
theorem d_G_become_5 : decode c9_G_become 5 = .ok (.aload_n 0, 1) := by decide +kernel
theorem d_G_become_6 : decode c9_G_become 6 = .ok (.iload_n 2, 1) := by decide +kernel
theorem d_G_become_7 : decode c9_G_become 7 = .ok (.putfield 20, 3) := by decide +kernel
theorem d_G_become_10 : decode c9_G_become 10 = .ok (.aload_n 0, 1) := by decide +kernel
theorem d_G_become_11 : decode c9_G_become 11 = .ok (.iload_n 3, 1) := by decide +kernel
theorem d_G_become_12 : decode c9_G_become 12 = .ok (.putfield 24, 3) := by decide +kernel
theorem d_G_become_15 : decode c9_G_become 15 = .ok (.aload_n 0, 1) := by decide +kernel
theorem d_G_become_16 : decode c9_G_become 16 = .ok (.iload 4, 2) := by decide +kernel
theorem d_G_become_18 : decode c9_G_become 18 = .ok (.putfield 27, 3) := by decide +kernel
theorem d_G_become_21 : decode c9_G_become 21 = .ok (.return_, 1) := by decide +kernel
theorem d_P_copyFrom_0 : decode c9_P_copyFrom 0 = .ok (.aload_n 1, 1) := by decide +kernel
theorem d_P_copyFrom_1 : decode c9_P_copyFrom 1 = .ok (.getfield 15, 3) := by decide +kernel
theorem d_P_copyFrom_4 : decode c9_P_copyFrom 4 = .ok (.iconst 0, 1) := by decide +kernel
theorem d_P_copyFrom_5 : decode c9_P_copyFrom 5 = .ok (.aload_n 0, 1) := by decide +kernel
theorem d_P_copyFrom_6 : decode c9_P_copyFrom 6 = .ok (.getfield 15, 3) := by decide +kernel
theorem d_P_copyFrom_9 : decode c9_P_copyFrom 9 = .ok (.iconst 0, 1) := by decide +kernel
theorem d_P_copyFrom_10 : decode c9_P_copyFrom 10 = .ok (.aload_n 0, 1) := by decide +kernel
theorem d_P_copyFrom_11 : decode c9_P_copyFrom 11 = .ok (.getfield 15, 3) := by decide +kernel
theorem d_P_copyFrom_14 : decode c9_P_copyFrom 14 = .ok (.arraylength, 1) := by decide +kernel
theorem d_P_copyFrom_15 : decode c9_P_copyFrom 15 = .ok (.aload_n 1, 1) := by decide +kernel
theorem d_P_copyFrom_16 : decode c9_P_copyFrom 16 = .ok (.getfield 15, 3) := by decide +kernel
theorem d_P_copyFrom_19 : decode c9_P_copyFrom 19 = .ok (.arraylength, 1) := by decide +kernel
theorem d_P_copyFrom_20 : decode c9_P_copyFrom 20 = .ok (.invokestatic 22, 3) := by decide +kernel
theorem d_P_copyFrom_23 : decode c9_P_copyFrom 23 = .ok (.invokestatic 28, 3) := by decide +kernel
theorem d_P_copyFrom_26 : decode c9_P_copyFrom 26 = .ok (.return_, 1) := by decide +kernel
theorem d_P_setSum_0 : decode c9_P_setSum 0 = .ok (.iconst 0, 1) := by decide +kernel
theorem d_P_setSum_1 : decode c9_P_setSum 1 = .ok (.istore 5, 2) := by decide +kernel
theorem d_P_setSum_3 : decode c9_P_setSum 3 = .ok (.iload 5, 2) := by decide +kernel
theorem d_P_setSum_5 : decode c9_P_setSum 5 = .ok (.iload 4, 2) := by decide +kernel
theorem d_P_setSum_7 : decode c9_P_setSum 7 = .ok (.if_icmp .gt 72, 3) := by decide +kernel
theorem d_P_setSum_10 : decode c9_P_setSum 10 = .ok (.aload_n 0, 1) := by decide +kernel
theorem d_P_setSum_11 : decode c9_P_setSum 11 = .ok (.iload 5, 2) := by decide +kernel
theorem d_P_setSum_13 : decode c9_P_setSum 13 = .ok (.invokevirtual 44, 3) := by decide +kernel
theorem d_P_setSum_16 : decode c9_P_setSum 16 = .ok (.istore 6, 2) := by decide +kernel
theorem d_P_setSum_18 : decode c9_P_setSum 18 = .ok (.iload 5, 2) := by decide +kernel
theorem d_P_setSum_20 : decode c9_P_setSum 20 = .ok (.bipush 8, 2) := by decide +kernel
theorem d_P_setSum_22 : decode c9_P_setSum 22 = .ok (.imul, 1) := by decide +kernel
theorem d_P_setSum_23 : decode c9_P_setSum 23 = .ok (.istore 7, 2) := by decide +kernel
theorem d_P_setSum_25 : decode c9_P_setSum 25 = .ok (.iload 7, 2) := by decide +kernel
theorem d_P_setSum_27 : decode c9_P_setSum 27 = .ok (.iload 5, 2) := by decide +kernel
theorem d_P_setSum_29 : decode c9_P_setSum 29 = .ok (.iconst 1, 1) := by decide +kernel
theorem d_P_setSum_30 : decode c9_P_setSum 30 = .ok (.iadd, 1) := by decide +kernel
theorem d_P_setSum_31 : decode c9_P_setSum 31 = .ok (.bipush 8, 2) := by decide +kernel
theorem d_P_setSum_33 : decode c9_P_setSum 33 = .ok (.imul, 1) := by decide +kernel
theorem d_P_setSum_34 : decode c9_P_setSum 34 = .ok (.if_icmp .ge 39, 3) := by decide +kernel
theorem d_P_setSum_37 : decode c9_P_setSum 37 = .ok (.aload_n 0, 1) := by decide +kernel
theorem d_P_setSum_38 : decode c9_P_setSum 38 = .ok (.getfield 15, 3) := by decide +kernel
theorem d_P_setSum_41 : decode c9_P_setSum 41 = .ok (.iload 7, 2) := by decide +kernel
theorem d_P_setSum_43 : decode c9_P_setSum 43 = .ok (.aload_n 1, 1) := by decide +kernel
theorem d_P_setSum_44 : decode c9_P_setSum 44 = .ok (.getfield 15, 3) := by decide +kernel
theorem d_P_setSum_47 : decode c9_P_setSum 47 = .ok (.iload 7, 2) := by decide +kernel
theorem d_P_setSum_49 : decode c9_P_setSum 49 = .ok (.iaload, 1) := by decide +kernel
theorem d_P_setSum_50 : decode c9_P_setSum 50 = .ok (.iload_n 2, 1) := by decide +kernel
theorem d_P_setSum_51 : decode c9_P_setSum 51 = .ok (.aload_n 3, 1) := by decide +kernel
theorem d_P_setSum_52 : decode c9_P_setSum 52 = .ok (.getfield 15, 3) := by decide +kernel
theorem d_P_setSum_55 : decode c9_P_setSum 55 = .ok (.iload 7, 2) := by decide +kernel
theorem d_P_setSum_57 : decode c9_P_setSum 57 = .ok (.iaload, 1) := by decide +kernel
theorem d_P_setSum_58 : decode c9_P_setSum 58 = .ok (.imul, 1) := by decide +kernel
theorem d_P_setSum_59 : decode c9_P_setSum 59 = .ok (.iadd, 1) := by decide +kernel
theorem d_P_setSum_60 : decode c9_P_setSum 60 = .ok (.i2l, 1) := by decide +kernel
theorem d_P_setSum_61 : decode c9_P_setSum 61 = .ok (.iload 6, 2) := by decide +kernel
theorem d_P_setSum_63 : decode c9_P_setSum 63 = .ok (.invokestatic 40, 3) := by decide +kernel
theorem d_P_setSum_66 : decode c9_P_setSum 66 = .ok (.iastore, 1) := by decide +kernel
theorem d_P_setSum_67 : decode c9_P_setSum 67 = .ok (.iinc 7 1, 3) := by decide +kernel
theorem d_P_setSum_70 : decode c9_P_setSum 70 = .ok (.goto (-45), 3) := by decide +kernel
theorem d_P_setSum_73 : decode c9_P_setSum 73 = .ok (.iinc 5 1, 3) := by decide +kernel
theorem d_P_setSum_76 : decode c9_P_setSum 76 = .ok (.goto (-73), 3) := by decide +kernel
theorem d_P_setSum_79 : decode c9_P_setSum 79 = .ok (.return_, 1) := by decide +kernel
theorem d_P_setZero_0 : decode c9_P_setZero 0 = .ok (.iconst 0, 1) := by decide +kernel
theorem d_P_setZero_1 : decode c9_P_setZero 1 = .ok (.istore_n 1, 1) := by decide +kernel
theorem d_P_setZero_2 : decode c9_P_setZero 2 = .ok (.iload_n 1, 1) := by decide +kernel
theorem d_P_setZero_3 : decode c9_P_setZero 3 = .ok (.aload_n 0, 1) := by decide +kernel
theorem d_P_setZero_4 : decode c9_P_setZero 4 = .ok (.getfield 15, 3) := by decide +kernel
theorem d_P_setZero_7 : decode c9_P_setZero 7 = .ok (.arraylength, 1) := by decide +kernel
theorem d_P_setZero_8 : decode c9_P_setZero 8 = .ok (.if_icmp .ge 16, 3) := by decide +kernel
theorem d_P_setZero_11 : decode c9_P_setZero 11 = .ok (.aload_n 0, 1) := by decide +kernel
theorem d_P_setZero_12 : decode c9_P_setZero 12 = .ok (.getfield 15, 3) := by decide +kernel
theorem d_P_setZero_15 : decode c9_P_setZero 15 = .ok (.iload_n 1, 1) := by decide +kernel
theorem d_P_setZero_16 : decode c9_P_setZero 16 = .ok (.iconst 0, 1) := by decide +kernel
theorem d_P_setZero_17 : decode c9_P_setZero 17 = .ok (.iastore, 1) := by decide +kernel
theorem d_P_setZero_18 : decode c9_P_setZero 18 = .ok (.iinc 1 1, 3) := by decide +kernel
theorem d_P_setZero_21 : decode c9_P_setZero 21 = .ok (.goto (-19), 3) := by decide +kernel
theorem d_P_setZero_24 : decode c9_P_setZero 24 = .ok (.return_, 1) := by decide +kernel
theorem d_P_setTurned_0 : decode c9_P_setTurned 0 = .ok (.iconst 0, 1) := by decide +kernel
theorem d_P_setTurned_1 : decode c9_P_setTurned 1 = .ok (.istore 4, 2) := by decide +kernel
theorem d_P_setTurned_3 : decode c9_P_setTurned 3 = .ok (.iload 4, 2) := by decide +kernel
theorem d_P_setTurned_5 : decode c9_P_setTurned 5 = .ok (.iload_n 3, 1) := by decide +kernel
theorem d_P_setTurned_6 : decode c9_P_setTurned 6 = .ok (.if_icmp .gt 94, 3) := by decide +kernel
theorem d_P_setTurned_9 : decode c9_P_setTurned 9 = .ok (.aload_n 0, 1) := by decide +kernel
theorem d_P_setTurned_10 : decode c9_P_setTurned 10 = .ok (.iload 4, 2) := by decide +kernel
theorem d_P_setTurned_12 : decode c9_P_setTurned 12 = .ok (.invokevirtual 44, 3) := by decide +kernel
theorem d_P_setTurned_15 : decode c9_P_setTurned 15 = .ok (.istore 5, 2) := by decide +kernel
theorem d_P_setTurned_17 : decode c9_P_setTurned 17 = .ok (.iconst 0, 1) := by decide +kernel
theorem d_P_setTurned_18 : decode c9_P_setTurned 18 = .ok (.istore 6, 2) := by decide +kernel
theorem d_P_setTurned_20 : decode c9_P_setTurned 20 = .ok (.iload 6, 2) := by decide +kernel
theorem d_P_setTurned_22 : decode c9_P_setTurned 22 = .ok (.bipush 8, 2) := by decide +kernel
theorem d_P_setTurned_24 : decode c9_P_setTurned 24 = .ok (.if_icmp .ge 70, 3) := by decide +kernel
theorem d_P_setTurned_27 : decode c9_P_setTurned 27 = .ok (.iload 6, 2) := by decide +kernel
theorem d_P_setTurned_29 : decode c9_P_setTurned 29 = .ok (.iload_n 2, 1) := by decide +kernel
theorem d_P_setTurned_30 : decode c9_P_setTurned 30 = .ok (.iadd, 1) := by decide +kernel
theorem d_P_setTurned_31 : decode c9_P_setTurned 31 = .ok (.bipush 16, 2) := by decide +kernel
theorem d_P_setTurned_33 : decode c9_P_setTurned 33 = .ok (.irem, 1) := by decide +kernel
theorem d_P_setTurned_34 : decode c9_P_setTurned 34 = .ok (.istore 7, 2) := by decide +kernel
theorem d_P_setTurned_36 : decode c9_P_setTurned 36 = .ok (.aload_n 1, 1) := by decide +kernel
theorem d_P_setTurned_37 : decode c9_P_setTurned 37 = .ok (.getfield 15, 3) := by decide +kernel
theorem d_P_setTurned_40 : decode c9_P_setTurned 40 = .ok (.iload 4, 2) := by decide +kernel
theorem d_P_setTurned_42 : decode c9_P_setTurned 42 = .ok (.bipush 8, 2) := by decide +kernel
theorem d_P_setTurned_44 : decode c9_P_setTurned 44 = .ok (.imul, 1) := by decide +kernel
theorem d_P_setTurned_45 : decode c9_P_setTurned 45 = .ok (.iload 6, 2) := by decide +kernel
theorem d_P_setTurned_47 : decode c9_P_setTurned 47 = .ok (.iadd, 1) := by decide +kernel
theorem d_P_setTurned_48 : decode c9_P_setTurned 48 = .ok (.iaload, 1) := by decide +kernel
theorem d_P_setTurned_49 : decode c9_P_setTurned 49 = .ok (.istore 8, 2) := by decide +kernel
theorem d_P_setTurned_51 : decode c9_P_setTurned 51 = .ok (.aload_n 0, 1) := by decide +kernel
theorem d_P_setTurned_52 : decode c9_P_setTurned 52 = .ok (.getfield 15, 3) := by decide +kernel
theorem d_P_setTurned_55 : decode c9_P_setTurned 55 = .ok (.iload 4, 2) := by decide +kernel
theorem d_P_setTurned_57 : decode c9_P_setTurned 57 = .ok (.bipush 8, 2) := by decide +kernel
theorem d_P_setTurned_59 : decode c9_P_setTurned 59 = .ok (.imul, 1) := by decide +kernel
theorem d_P_setTurned_60 : decode c9_P_setTurned 60 = .ok (.iload 7, 2) := by decide +kernel
theorem d_P_setTurned_62 : decode c9_P_setTurned 62 = .ok (.bipush 8, 2) := by decide +kernel
theorem d_P_setTurned_64 : decode c9_P_setTurned 64 = .ok (.irem, 1) := by decide +kernel
theorem d_P_setTurned_65 : decode c9_P_setTurned 65 = .ok (.iadd, 1) := by decide +kernel
theorem d_P_setTurned_66 : decode c9_P_setTurned 66 = .ok (.iload 7, 2) := by decide +kernel
theorem d_P_setTurned_68 : decode c9_P_setTurned 68 = .ok (.bipush 8, 2) := by decide +kernel
theorem d_P_setTurned_70 : decode c9_P_setTurned 70 = .ok (.if_icmp .ge 8, 3) := by decide +kernel
theorem d_P_setTurned_73 : decode c9_P_setTurned 73 = .ok (.iload 8, 2) := by decide +kernel
theorem d_P_setTurned_75 : decode c9_P_setTurned 75 = .ok (.goto 12, 3) := by decide +kernel
theorem d_P_setTurned_78 : decode c9_P_setTurned 78 = .ok (.iload 8, 2) := by decide +kernel
theorem d_P_setTurned_80 : decode c9_P_setTurned 80 = .ok (.ineg, 1) := by decide +kernel
theorem d_P_setTurned_81 : decode c9_P_setTurned 81 = .ok (.i2l, 1) := by decide +kernel
theorem d_P_setTurned_82 : decode c9_P_setTurned 82 = .ok (.iload 5, 2) := by decide +kernel
theorem d_P_setTurned_84 : decode c9_P_setTurned 84 = .ok (.invokestatic 40, 3) := by decide +kernel
theorem d_P_setTurned_87 : decode c9_P_setTurned 87 = .ok (.iastore, 1) := by decide +kernel
theorem d_P_setTurned_88 : decode c9_P_setTurned 88 = .ok (.iinc 6 1, 3) := by decide +kernel
theorem d_P_setTurned_91 : decode c9_P_setTurned 91 = .ok (.goto (-71), 3) := by decide +kernel
theorem d_P_setTurned_94 : decode c9_P_setTurned 94 = .ok (.iinc 4 1, 3) := by decide +kernel
theorem d_P_setTurned_97 : decode c9_P_setTurned 97 = .ok (.goto (-94), 3) := by decide +kernel
theorem d_P_setTurned_100 : decode c9_P_setTurned 100 = .ok (.return_, 1) := by decide +kernel
theorem d_V_copyFrom_0 : decode c9_V_copyFrom 0 = .ok (.aload_n 0, 1) := by decide +kernel
theorem d_V_copyFrom_1 : decode c9_V_copyFrom 1 = .ok (.aload_n 1, 1) := by decide +kernel
theorem d_V_copyFrom_2 : decode c9_V_copyFrom 2 = .ok (.getfield 9, 3) := by decide +kernel
theorem d_V_copyFrom_5 : decode c9_V_copyFrom 5 = .ok (.putfield 9, 3) := by decide +kernel
theorem d_V_copyFrom_8 : decode c9_V_copyFrom 8 = .ok (.aload_n 0, 1) := by decide +kernel
theorem d_V_copyFrom_9 : decode c9_V_copyFrom 9 = .ok (.aload_n 1, 1) := by decide +kernel
theorem d_V_copyFrom_10 : decode c9_V_copyFrom 10 = .ok (.getfield 15, 3) := by decide +kernel
theorem d_V_copyFrom_13 : decode c9_V_copyFrom 13 = .ok (.putfield 15, 3) := by decide +kernel
theorem d_V_copyFrom_16 : decode c9_V_copyFrom 16 = .ok (.aload_n 0, 1) := by decide +kernel
theorem d_V_copyFrom_17 : decode c9_V_copyFrom 17 = .ok (.getfield 24, 3) := by decide +kernel
theorem d_V_copyFrom_20 : decode c9_V_copyFrom 20 = .ok (.aload_n 1, 1) := by decide +kernel
theorem d_V_copyFrom_21 : decode c9_V_copyFrom 21 = .ok (.getfield 24, 3) := by decide +kernel
theorem d_V_copyFrom_24 : decode c9_V_copyFrom 24 = .ok (.invokevirtual 31, 3) := by decide +kernel
theorem d_V_copyFrom_27 : decode c9_V_copyFrom 27 = .ok (.aload_n 0, 1) := by decide +kernel
theorem d_V_copyFrom_28 : decode c9_V_copyFrom 28 = .ok (.getfield 28, 3) := by decide +kernel
theorem d_V_copyFrom_31 : decode c9_V_copyFrom 31 = .ok (.aload_n 1, 1) := by decide +kernel
theorem d_V_copyFrom_32 : decode c9_V_copyFrom 32 = .ok (.getfield 28, 3) := by decide +kernel
theorem d_V_copyFrom_35 : decode c9_V_copyFrom 35 = .ok (.invokevirtual 31, 3) := by decide +kernel
theorem d_V_copyFrom_38 : decode c9_V_copyFrom 38 = .ok (.return_, 1) := by decide +kernel
theorem d_V_lowerTo_0 : decode c9_V_lowerTo 0 = .ok (.aload_n 0, 1) := by decide +kernel
theorem d_V_lowerTo_1 : decode c9_V_lowerTo 1 = .ok (.getfield 9, 3) := by decide +kernel
theorem d_V_lowerTo_4 : decode c9_V_lowerTo 4 = .ok (.istore_n 2, 1) := by decide +kernel
theorem d_V_lowerTo_5 : decode c9_V_lowerTo 5 = .ok (.iload_n 2, 1) := by decide +kernel
theorem d_V_lowerTo_6 : decode c9_V_lowerTo 6 = .ok (.iload_n 1, 1) := by decide +kernel
theorem d_V_lowerTo_7 : decode c9_V_lowerTo 7 = .ok (.if_icmp .le 18, 3) := by decide +kernel
theorem d_V_lowerTo_10 : decode c9_V_lowerTo 10 = .ok (.aload_n 0, 1) := by decide +kernel
theorem d_V_lowerTo_11 : decode c9_V_lowerTo 11 = .ok (.invokevirtual 55, 3) := by decide +kernel
theorem d_V_lowerTo_14 : decode c9_V_lowerTo 14 = .ok (.ifCond .ne 5, 3) := by decide +kernel
theorem d_V_lowerTo_17 : decode c9_V_lowerTo 17 = .ok (.iconst 0, 1) := by decide +kernel
theorem d_V_lowerTo_18 : decode c9_V_lowerTo 18 = .ok (.ireturn, 1) := by decide +kernel
theorem d_V_lowerTo_19 : decode c9_V_lowerTo 19 = .ok (.iinc 2 (-1), 3) := by decide +kernel
theorem d_V_lowerTo_22 : decode c9_V_lowerTo 22 = .ok (.goto (-17), 3) := by decide +kernel
theorem d_V_lowerTo_25 : decode c9_V_lowerTo 25 = .ok (.iconst 1, 1) := by decide +kernel
theorem d_V_lowerTo_26 : decode c9_V_lowerTo 26 = .ok (.ireturn, 1) := by decide +kernel
theorem d_V_lowerOnce_0 : decode c9_V_lowerOnce 0 = .ok (.aload_n 0, 1) := by decide +kernel
theorem d_V_lowerOnce_1 : decode c9_V_lowerOnce 1 = .ok (.getfield 9, 3) := by decide +kernel
theorem d_V_lowerOnce_4 : decode c9_V_lowerOnce 4 = .ok (.ifCond .gt 5, 3) := by decide +kernel
theorem d_V_lowerOnce_7 : decode c9_V_lowerOnce 7 = .ok (.iconst 0, 1) := by decide +kernel
theorem d_V_lowerOnce_8 : decode c9_V_lowerOnce 8 = .ok (.ireturn, 1) := by decide +kernel
theorem d_V_lowerOnce_9 : decode c9_V_lowerOnce 9 = .ok (.aload_n 0, 1) := by decide +kernel
theorem d_V_lowerOnce_10 : decode c9_V_lowerOnce 10 = .ok (.aload_n 0, 1) := by decide +kernel
theorem d_V_lowerOnce_11 : decode c9_V_lowerOnce 11 = .ok (.getfield 15, 3) := by decide +kernel
theorem d_V_lowerOnce_14 : decode c9_V_lowerOnce 14 = .ok (.getstatic 41, 3) := by decide +kernel
theorem d_V_lowerOnce_17 : decode c9_V_lowerOnce 17 = .ok (.aload_n 0, 1) := by decide +kernel
theorem d_V_lowerOnce_18 : decode c9_V_lowerOnce 18 = .ok (.getfield 9, 3) := by decide +kernel
theorem d_V_lowerOnce_21 : decode c9_V_lowerOnce 21 = .ok (.iaload, 1) := by decide +kernel
theorem d_V_lowerOnce_22 : decode c9_V_lowerOnce 22 = .ok (.i2l, 1) := by decide +kernel
theorem d_V_lowerOnce_23 : decode c9_V_lowerOnce 23 = .ok (.ldiv, 1) := by decide +kernel
theorem d_V_lowerOnce_24 : decode c9_V_lowerOnce 24 = .ok (.ldc2_w 45, 3) := by decide +kernel
theorem d_V_lowerOnce_27 : decode c9_V_lowerOnce 27 = .ok (.ladd, 1) := by decide +kernel
theorem d_V_lowerOnce_28 : decode c9_V_lowerOnce 28 = .ok (.putfield 15, 3) := by decide +kernel
theorem d_V_lowerOnce_31 : decode c9_V_lowerOnce 31 = .ok (.aload_n 0, 1) := by decide +kernel
theorem d_V_lowerOnce_32 : decode c9_V_lowerOnce 32 = .ok (.getfield 24, 3) := by decide +kernel
theorem d_V_lowerOnce_35 : decode c9_V_lowerOnce 35 = .ok (.aload_n 0, 1) := by decide +kernel
theorem d_V_lowerOnce_36 : decode c9_V_lowerOnce 36 = .ok (.getfield 9, 3) := by decide +kernel
theorem d_V_lowerOnce_39 : decode c9_V_lowerOnce 39 = .ok (.invokevirtual 47, 3) := by decide +kernel
theorem d_V_lowerOnce_42 : decode c9_V_lowerOnce 42 = .ok (.aload_n 0, 1) := by decide +kernel
theorem d_V_lowerOnce_43 : decode c9_V_lowerOnce 43 = .ok (.getfield 28, 3) := by decide +kernel
theorem d_V_lowerOnce_46 : decode c9_V_lowerOnce 46 = .ok (.aload_n 0, 1) := by decide +kernel
theorem d_V_lowerOnce_47 : decode c9_V_lowerOnce 47 = .ok (.getfield 9, 3) := by decide +kernel
theorem d_V_lowerOnce_50 : decode c9_V_lowerOnce 50 = .ok (.invokevirtual 47, 3) := by decide +kernel
theorem d_V_lowerOnce_53 : decode c9_V_lowerOnce 53 = .ok (.aload_n 0, 1) := by decide +kernel
theorem d_V_lowerOnce_54 : decode c9_V_lowerOnce 54 = .ok (.dup, 1) := by decide +kernel
theorem d_V_lowerOnce_55 : decode c9_V_lowerOnce 55 = .ok (.getfield 9, 3) := by decide +kernel
theorem d_V_lowerOnce_58 : decode c9_V_lowerOnce 58 = .ok (.iconst 1, 1) := by decide +kernel
theorem d_V_lowerOnce_59 : decode c9_V_lowerOnce 59 = .ok (.isub, 1) := by decide +kernel
theorem d_V_lowerOnce_60 : decode c9_V_lowerOnce 60 = .ok (.putfield 9, 3) := by decide +kernel
theorem d_V_lowerOnce_63 : decode c9_V_lowerOnce 63 = .ok (.aload_n 0, 1) := by decide +kernel
theorem d_V_lowerOnce_64 : decode c9_V_lowerOnce 64 = .ok (.invokevirtual 51, 3) := by decide +kernel
theorem d_V_lowerOnce_67 : decode c9_V_lowerOnce 67 = .ok (.ifCond .ne 7, 3) := by decide +kernel
theorem d_V_lowerOnce_70 : decode c9_V_lowerOnce 70 = .ok (.iconst 1, 1) := by decide +kernel
theorem d_V_lowerOnce_71 : decode c9_V_lowerOnce 71 = .ok (.goto 4, 3) := by decide +kernel
theorem d_V_lowerOnce_74 : decode c9_V_lowerOnce 74 = .ok (.iconst 0, 1) := by decide +kernel
theorem d_V_lowerOnce_75 : decode c9_V_lowerOnce 75 = .ok (.ireturn, 1) := by decide +kernel
theorem d_P_lowerFrom_0 : decode c9_P_lowerFrom 0 = .ok (.getstatic 19, 3) := by decide +kernel
theorem d_P_lowerFrom_3 : decode c9_P_lowerFrom 3 = .ok (.iload_n 1, 1) := by decide +kernel
theorem d_P_lowerFrom_4 : decode c9_P_lowerFrom 4 = .ok (.iaload, 1) := by decide +kernel
theorem d_P_lowerFrom_5 : decode c9_P_lowerFrom 5 = .ok (.istore_n 2, 1) := by decide +kernel
theorem d_P_lowerFrom_6 : decode c9_P_lowerFrom 6 = .ok (.iconst 0, 1) := by decide +kernel
theorem d_P_lowerFrom_7 : decode c9_P_lowerFrom 7 = .ok (.istore_n 3, 1) := by decide +kernel
theorem d_P_lowerFrom_8 : decode c9_P_lowerFrom 8 = .ok (.iload_n 3, 1) := by decide +kernel
theorem d_P_lowerFrom_9 : decode c9_P_lowerFrom 9 = .ok (.bipush 8, 2) := by decide +kernel
theorem d_P_lowerFrom_11 : decode c9_P_lowerFrom 11 = .ok (.if_icmp .ge 123, 3) := by decide +kernel
theorem d_P_lowerFrom_14 : decode c9_P_lowerFrom 14 = .ok (.aload_n 0, 1) := by decide +kernel
theorem d_P_lowerFrom_15 : decode c9_P_lowerFrom 15 = .ok (.getfield 15, 3) := by decide +kernel
theorem d_P_lowerFrom_18 : decode c9_P_lowerFrom 18 = .ok (.iload_n 1, 1) := by decide +kernel
theorem d_P_lowerFrom_19 : decode c9_P_lowerFrom 19 = .ok (.bipush 8, 2) := by decide +kernel
theorem d_P_lowerFrom_21 : decode c9_P_lowerFrom 21 = .ok (.imul, 1) := by decide +kernel
theorem d_P_lowerFrom_22 : decode c9_P_lowerFrom 22 = .ok (.iload_n 3, 1) := by decide +kernel
theorem d_P_lowerFrom_23 : decode c9_P_lowerFrom 23 = .ok (.iadd, 1) := by decide +kernel
theorem d_P_lowerFrom_24 : decode c9_P_lowerFrom 24 = .ok (.iaload, 1) := by decide +kernel
theorem d_P_lowerFrom_25 : decode c9_P_lowerFrom 25 = .ok (.i2l, 1) := by decide +kernel
theorem d_P_lowerFrom_26 : decode c9_P_lowerFrom 26 = .ok (.iload_n 2, 1) := by decide +kernel
theorem d_P_lowerFrom_27 : decode c9_P_lowerFrom 27 = .ok (.i2l, 1) := by decide +kernel
theorem d_P_lowerFrom_28 : decode c9_P_lowerFrom 28 = .ok (.invokestatic 52, 3) := by decide +kernel
theorem d_P_lowerFrom_31 : decode c9_P_lowerFrom 31 = .ok (.l2i, 1) := by decide +kernel
theorem d_P_lowerFrom_32 : decode c9_P_lowerFrom 32 = .ok (.istore 4, 2) := by decide +kernel
theorem d_P_lowerFrom_34 : decode c9_P_lowerFrom 34 = .ok (.iload 4, 2) := by decide +kernel
theorem d_P_lowerFrom_36 : decode c9_P_lowerFrom 36 = .ok (.ineg, 1) := by decide +kernel
theorem d_P_lowerFrom_37 : decode c9_P_lowerFrom 37 = .ok (.i2l, 1) := by decide +kernel
theorem d_P_lowerFrom_38 : decode c9_P_lowerFrom 38 = .ok (.bipush 17, 2) := by decide +kernel
theorem d_P_lowerFrom_40 : decode c9_P_lowerFrom 40 = .ok (.invokestatic 40, 3) := by decide +kernel
theorem d_P_lowerFrom_43 : decode c9_P_lowerFrom 43 = .ok (.i2l, 1) := by decide +kernel
theorem d_P_lowerFrom_44 : decode c9_P_lowerFrom 44 = .ok (.ldc2_w 56, 3) := by decide +kernel
theorem d_P_lowerFrom_47 : decode c9_P_lowerFrom 47 = .ok (.invokestatic 52, 3) := by decide +kernel
theorem d_P_lowerFrom_50 : decode c9_P_lowerFrom 50 = .ok (.l2i, 1) := by decide +kernel
theorem d_P_lowerFrom_51 : decode c9_P_lowerFrom 51 = .ok (.istore 5, 2) := by decide +kernel
theorem d_P_lowerFrom_53 : decode c9_P_lowerFrom 53 = .ok (.iload 4, 2) := by decide +kernel
theorem d_P_lowerFrom_55 : decode c9_P_lowerFrom 55 = .ok (.i2l, 1) := by decide +kernel
theorem d_P_lowerFrom_56 : decode c9_P_lowerFrom 56 = .ok (.iload 5, 2) := by decide +kernel
theorem d_P_lowerFrom_58 : decode c9_P_lowerFrom 58 = .ok (.i2l, 1) := by decide +kernel
theorem d_P_lowerFrom_59 : decode c9_P_lowerFrom 59 = .ok (.iload_n 2, 1) := by decide +kernel
theorem d_P_lowerFrom_60 : decode c9_P_lowerFrom 60 = .ok (.i2l, 1) := by decide +kernel
theorem d_P_lowerFrom_61 : decode c9_P_lowerFrom 61 = .ok (.lmul, 1) := by decide +kernel
theorem d_P_lowerFrom_62 : decode c9_P_lowerFrom 62 = .ok (.ladd, 1) := by decide +kernel
theorem d_P_lowerFrom_63 : decode c9_P_lowerFrom 63 = .ok (.lstore 6, 2) := by decide +kernel
theorem d_P_lowerFrom_65 : decode c9_P_lowerFrom 65 = .ok (.iconst 0, 1) := by decide +kernel
theorem d_P_lowerFrom_66 : decode c9_P_lowerFrom 66 = .ok (.istore 8, 2) := by decide +kernel
theorem d_P_lowerFrom_68 : decode c9_P_lowerFrom 68 = .ok (.iload 8, 2) := by decide +kernel
theorem d_P_lowerFrom_70 : decode c9_P_lowerFrom 70 = .ok (.iload_n 1, 1) := by decide +kernel
theorem d_P_lowerFrom_71 : decode c9_P_lowerFrom 71 = .ok (.if_icmp .ge 57, 3) := by decide +kernel
theorem d_P_lowerFrom_74 : decode c9_P_lowerFrom 74 = .ok (.iload 8, 2) := by decide +kernel
theorem d_P_lowerFrom_76 : decode c9_P_lowerFrom 76 = .ok (.bipush 8, 2) := by decide +kernel
theorem d_P_lowerFrom_78 : decode c9_P_lowerFrom 78 = .ok (.imul, 1) := by decide +kernel
theorem d_P_lowerFrom_79 : decode c9_P_lowerFrom 79 = .ok (.iload_n 3, 1) := by decide +kernel
theorem d_P_lowerFrom_80 : decode c9_P_lowerFrom 80 = .ok (.iadd, 1) := by decide +kernel
theorem d_P_lowerFrom_81 : decode c9_P_lowerFrom 81 = .ok (.istore 9, 2) := by decide +kernel
theorem d_P_lowerFrom_83 : decode c9_P_lowerFrom 83 = .ok (.aload_n 0, 1) := by decide +kernel
theorem d_P_lowerFrom_84 : decode c9_P_lowerFrom 84 = .ok (.getfield 15, 3) := by decide +kernel
theorem d_P_lowerFrom_87 : decode c9_P_lowerFrom 87 = .ok (.iload 9, 2) := by decide +kernel
theorem d_P_lowerFrom_89 : decode c9_P_lowerFrom 89 = .ok (.aload_n 0, 1) := by decide +kernel
theorem d_P_lowerFrom_90 : decode c9_P_lowerFrom 90 = .ok (.getfield 15, 3) := by decide +kernel
theorem d_P_lowerFrom_93 : decode c9_P_lowerFrom 93 = .ok (.iload 9, 2) := by decide +kernel
theorem d_P_lowerFrom_95 : decode c9_P_lowerFrom 95 = .ok (.iaload, 1) := by decide +kernel
theorem d_P_lowerFrom_96 : decode c9_P_lowerFrom 96 = .ok (.i2l, 1) := by decide +kernel
theorem d_P_lowerFrom_97 : decode c9_P_lowerFrom 97 = .ok (.lload 6, 2) := by decide +kernel
theorem d_P_lowerFrom_99 : decode c9_P_lowerFrom 99 = .ok (.lsub, 1) := by decide +kernel
theorem d_P_lowerFrom_100 : decode c9_P_lowerFrom 100 = .ok (.getstatic 58, 3) := by decide +kernel
theorem d_P_lowerFrom_103 : decode c9_P_lowerFrom 103 = .ok (.iload_n 1, 1) := by decide +kernel
theorem d_P_lowerFrom_104 : decode c9_P_lowerFrom 104 = .ok (.iconst 4, 1) := by decide +kernel
theorem d_P_lowerFrom_105 : decode c9_P_lowerFrom 105 = .ok (.imul, 1) := by decide +kernel
theorem d_P_lowerFrom_106 : decode c9_P_lowerFrom 106 = .ok (.iload 8, 2) := by decide +kernel
theorem d_P_lowerFrom_108 : decode c9_P_lowerFrom 108 = .ok (.iadd, 1) := by decide +kernel
theorem d_P_lowerFrom_109 : decode c9_P_lowerFrom 109 = .ok (.iaload, 1) := by decide +kernel
theorem d_P_lowerFrom_110 : decode c9_P_lowerFrom 110 = .ok (.i2l, 1) := by decide +kernel
theorem d_P_lowerFrom_111 : decode c9_P_lowerFrom 111 = .ok (.lmul, 1) := by decide +kernel
theorem d_P_lowerFrom_112 : decode c9_P_lowerFrom 112 = .ok (.getstatic 19, 3) := by decide +kernel
theorem d_P_lowerFrom_115 : decode c9_P_lowerFrom 115 = .ok (.iload 8, 2) := by decide +kernel
theorem d_P_lowerFrom_117 : decode c9_P_lowerFrom 117 = .ok (.iaload, 1) := by decide +kernel
theorem d_P_lowerFrom_118 : decode c9_P_lowerFrom 118 = .ok (.invokestatic 40, 3) := by decide +kernel
theorem d_P_lowerFrom_121 : decode c9_P_lowerFrom 121 = .ok (.iastore, 1) := by decide +kernel
theorem d_P_lowerFrom_122 : decode c9_P_lowerFrom 122 = .ok (.iinc 8 1, 3) := by decide +kernel
theorem d_P_lowerFrom_125 : decode c9_P_lowerFrom 125 = .ok (.goto (-57), 3) := by decide +kernel
theorem d_P_lowerFrom_128 : decode c9_P_lowerFrom 128 = .ok (.iinc 3 1, 3) := by decide +kernel
theorem d_P_lowerFrom_131 : decode c9_P_lowerFrom 131 = .ok (.goto (-123), 3) := by decide +kernel
theorem d_P_lowerFrom_134 : decode c9_P_lowerFrom 134 = .ok (.return_, 1) := by decide +kernel
theorem d_V_isTooGreat_0 : decode c9_V_isTooGreat 0 = .ok (.aload_n 0, 1) := by decide +kernel
theorem d_V_isTooGreat_1 : decode c9_V_isTooGreat 1 = .ok (.getfield 15, 3) := by decide +kernel
theorem d_V_isTooGreat_4 : decode c9_V_isTooGreat 4 = .ok (.getstatic 35, 3) := by decide +kernel
theorem d_V_isTooGreat_7 : decode c9_V_isTooGreat 7 = .ok (.aload_n 0, 1) := by decide +kernel
theorem d_V_isTooGreat_8 : decode c9_V_isTooGreat 8 = .ok (.getfield 9, 3) := by decide +kernel
theorem d_V_isTooGreat_11 : decode c9_V_isTooGreat 11 = .ok (.laload, 1) := by decide +kernel
theorem d_V_isTooGreat_12 : decode c9_V_isTooGreat 12 = .ok (.lconst 1, 1) := by decide +kernel
theorem d_V_isTooGreat_13 : decode c9_V_isTooGreat 13 = .ok (.lsub, 1) := by decide +kernel
theorem d_V_isTooGreat_14 : decode c9_V_isTooGreat 14 = .ok (.ldc2_w 39, 3) := by decide +kernel
theorem d_V_isTooGreat_17 : decode c9_V_isTooGreat 17 = .ok (.ldiv, 1) := by decide +kernel
theorem d_V_isTooGreat_18 : decode c9_V_isTooGreat 18 = .ok (.lcmp, 1) := by decide +kernel
theorem d_V_isTooGreat_19 : decode c9_V_isTooGreat 19 = .ok (.ifCond .le 7, 3) := by decide +kernel
theorem d_V_isTooGreat_22 : decode c9_V_isTooGreat 22 = .ok (.iconst 1, 1) := by decide +kernel
theorem d_V_isTooGreat_23 : decode c9_V_isTooGreat 23 = .ok (.goto 4, 3) := by decide +kernel
theorem d_V_isTooGreat_26 : decode c9_V_isTooGreat 26 = .ok (.iconst 0, 1) := by decide +kernel
theorem d_V_isTooGreat_27 : decode c9_V_isTooGreat 27 = .ok (.ireturn, 1) := by decide +kernel
theorem d_P_setFromRow_0 : decode c9_P_setFromRow 0 = .ok (.iconst 0, 1) := by decide +kernel
theorem d_P_setFromRow_1 : decode c9_P_setFromRow 1 = .ok (.istore 4, 2) := by decide +kernel
theorem d_P_setFromRow_3 : decode c9_P_setFromRow 3 = .ok (.iload 4, 2) := by decide +kernel
theorem d_P_setFromRow_5 : decode c9_P_setFromRow 5 = .ok (.iload_n 3, 1) := by decide +kernel
theorem d_P_setFromRow_6 : decode c9_P_setFromRow 6 = .ok (.if_icmp .gt 57, 3) := by decide +kernel
theorem d_P_setFromRow_9 : decode c9_P_setFromRow 9 = .ok (.iconst 0, 1) := by decide +kernel
theorem d_P_setFromRow_10 : decode c9_P_setFromRow 10 = .ok (.istore 5, 2) := by decide +kernel
theorem d_P_setFromRow_12 : decode c9_P_setFromRow 12 = .ok (.iload 5, 2) := by decide +kernel
theorem d_P_setFromRow_14 : decode c9_P_setFromRow 14 = .ok (.bipush 8, 2) := by decide +kernel
theorem d_P_setFromRow_16 : decode c9_P_setFromRow 16 = .ok (.if_icmp .ge 41, 3) := by decide +kernel
theorem d_P_setFromRow_19 : decode c9_P_setFromRow 19 = .ok (.aload_n 0, 1) := by decide +kernel
theorem d_P_setFromRow_20 : decode c9_P_setFromRow 20 = .ok (.getfield 15, 3) := by decide +kernel
theorem d_P_setFromRow_23 : decode c9_P_setFromRow 23 = .ok (.iload 4, 2) := by decide +kernel
theorem d_P_setFromRow_25 : decode c9_P_setFromRow 25 = .ok (.bipush 8, 2) := by decide +kernel
theorem d_P_setFromRow_27 : decode c9_P_setFromRow 27 = .ok (.imul, 1) := by decide +kernel
theorem d_P_setFromRow_28 : decode c9_P_setFromRow 28 = .ok (.iload 5, 2) := by decide +kernel
theorem d_P_setFromRow_30 : decode c9_P_setFromRow 30 = .ok (.iadd, 1) := by decide +kernel
theorem d_P_setFromRow_31 : decode c9_P_setFromRow 31 = .ok (.aload_n 1, 1) := by decide +kernel
theorem d_P_setFromRow_32 : decode c9_P_setFromRow 32 = .ok (.getfield 15, 3) := by decide +kernel
theorem d_P_setFromRow_35 : decode c9_P_setFromRow 35 = .ok (.iload_n 2, 1) := by decide +kernel
theorem d_P_setFromRow_36 : decode c9_P_setFromRow 36 = .ok (.bipush 8, 2) := by decide +kernel
theorem d_P_setFromRow_38 : decode c9_P_setFromRow 38 = .ok (.imul, 1) := by decide +kernel
theorem d_P_setFromRow_39 : decode c9_P_setFromRow 39 = .ok (.iload 5, 2) := by decide +kernel
theorem d_P_setFromRow_41 : decode c9_P_setFromRow 41 = .ok (.iadd, 1) := by decide +kernel
theorem d_P_setFromRow_42 : decode c9_P_setFromRow 42 = .ok (.iaload, 1) := by decide +kernel
theorem d_P_setFromRow_43 : decode c9_P_setFromRow 43 = .ok (.aload_n 0, 1) := by decide +kernel
theorem d_P_setFromRow_44 : decode c9_P_setFromRow 44 = .ok (.iload 4, 2) := by decide +kernel
theorem d_P_setFromRow_46 : decode c9_P_setFromRow 46 = .ok (.invokevirtual 44, 3) := by decide +kernel
theorem d_P_setFromRow_49 : decode c9_P_setFromRow 49 = .ok (.irem, 1) := by decide +kernel
theorem d_P_setFromRow_50 : decode c9_P_setFromRow 50 = .ok (.iastore, 1) := by decide +kernel
theorem d_P_setFromRow_51 : decode c9_P_setFromRow 51 = .ok (.iinc 5 1, 3) := by decide +kernel
theorem d_P_setFromRow_54 : decode c9_P_setFromRow 54 = .ok (.goto (-42), 3) := by decide +kernel
theorem d_P_setFromRow_57 : decode c9_P_setFromRow 57 = .ok (.iinc 4 1, 3) := by decide +kernel
theorem d_P_setFromRow_60 : decode c9_P_setFromRow 60 = .ok (.goto (-57), 3) := by decide +kernel
theorem d_P_setFromRow_63 : decode c9_P_setFromRow 63 = .ok (.return_, 1) := by decide +kernel
theorem d_P_addSmall_0 : decode c9_P_addSmall 0 = .ok (.iconst 0, 1) := by decide +kernel
theorem d_P_addSmall_1 : decode c9_P_addSmall 1 = .ok (.istore_n 2, 1) := by decide +kernel
theorem d_P_addSmall_2 : decode c9_P_addSmall 2 = .ok (.iload_n 2, 1) := by decide +kernel
theorem d_P_addSmall_3 : decode c9_P_addSmall 3 = .ok (.iconst 4, 1) := by decide +kernel
theorem d_P_addSmall_4 : decode c9_P_addSmall 4 = .ok (.if_icmp .ge 61, 3) := by decide +kernel
theorem d_P_addSmall_7 : decode c9_P_addSmall 7 = .ok (.iconst 0, 1) := by decide +kernel
theorem d_P_addSmall_8 : decode c9_P_addSmall 8 = .ok (.istore_n 3, 1) := by decide +kernel
theorem d_P_addSmall_9 : decode c9_P_addSmall 9 = .ok (.iload_n 3, 1) := by decide +kernel
theorem d_P_addSmall_10 : decode c9_P_addSmall 10 = .ok (.bipush 8, 2) := by decide +kernel
theorem d_P_addSmall_12 : decode c9_P_addSmall 12 = .ok (.if_icmp .ge 47, 3) := by decide +kernel
theorem d_P_addSmall_15 : decode c9_P_addSmall 15 = .ok (.aload_n 0, 1) := by decide +kernel
theorem d_P_addSmall_16 : decode c9_P_addSmall 16 = .ok (.getfield 15, 3) := by decide +kernel
theorem d_P_addSmall_19 : decode c9_P_addSmall 19 = .ok (.iload_n 2, 1) := by decide +kernel
theorem d_P_addSmall_20 : decode c9_P_addSmall 20 = .ok (.bipush 8, 2) := by decide +kernel
theorem d_P_addSmall_22 : decode c9_P_addSmall 22 = .ok (.imul, 1) := by decide +kernel
theorem d_P_addSmall_23 : decode c9_P_addSmall 23 = .ok (.iload_n 3, 1) := by decide +kernel
theorem d_P_addSmall_24 : decode c9_P_addSmall 24 = .ok (.iadd, 1) := by decide +kernel
theorem d_P_addSmall_25 : decode c9_P_addSmall 25 = .ok (.aload_n 0, 1) := by decide +kernel
theorem d_P_addSmall_26 : decode c9_P_addSmall 26 = .ok (.getfield 15, 3) := by decide +kernel
theorem d_P_addSmall_29 : decode c9_P_addSmall 29 = .ok (.iload_n 2, 1) := by decide +kernel
theorem d_P_addSmall_30 : decode c9_P_addSmall 30 = .ok (.bipush 8, 2) := by decide +kernel
theorem d_P_addSmall_32 : decode c9_P_addSmall 32 = .ok (.imul, 1) := by decide +kernel
theorem d_P_addSmall_33 : decode c9_P_addSmall 33 = .ok (.iload_n 3, 1) := by decide +kernel
theorem d_P_addSmall_34 : decode c9_P_addSmall 34 = .ok (.iadd, 1) := by decide +kernel
theorem d_P_addSmall_35 : decode c9_P_addSmall 35 = .ok (.iaload, 1) := by decide +kernel
theorem d_P_addSmall_36 : decode c9_P_addSmall 36 = .ok (.aload_n 1, 1) := by decide +kernel
theorem d_P_addSmall_37 : decode c9_P_addSmall 37 = .ok (.getfield 15, 3) := by decide +kernel
theorem d_P_addSmall_40 : decode c9_P_addSmall 40 = .ok (.iload_n 3, 1) := by decide +kernel
theorem d_P_addSmall_41 : decode c9_P_addSmall 41 = .ok (.iaload, 1) := by decide +kernel
theorem d_P_addSmall_42 : decode c9_P_addSmall 42 = .ok (.iadd, 1) := by decide +kernel
theorem d_P_addSmall_43 : decode c9_P_addSmall 43 = .ok (.i2l, 1) := by decide +kernel
theorem d_P_addSmall_44 : decode c9_P_addSmall 44 = .ok (.getstatic 19, 3) := by decide +kernel
theorem d_P_addSmall_47 : decode c9_P_addSmall 47 = .ok (.iload_n 2, 1) := by decide +kernel
theorem d_P_addSmall_48 : decode c9_P_addSmall 48 = .ok (.iaload, 1) := by decide +kernel
theorem d_P_addSmall_49 : decode c9_P_addSmall 49 = .ok (.invokestatic 40, 3) := by decide +kernel
theorem d_P_addSmall_52 : decode c9_P_addSmall 52 = .ok (.iastore, 1) := by decide +kernel
theorem d_P_addSmall_53 : decode c9_P_addSmall 53 = .ok (.iinc 3 1, 3) := by decide +kernel
theorem d_P_addSmall_56 : decode c9_P_addSmall 56 = .ok (.goto (-47), 3) := by decide +kernel
theorem d_P_addSmall_59 : decode c9_P_addSmall 59 = .ok (.iinc 2 1, 3) := by decide +kernel
theorem d_P_addSmall_62 : decode c9_P_addSmall 62 = .ok (.goto (-60), 3) := by decide +kernel
theorem d_P_addSmall_65 : decode c9_P_addSmall 65 = .ok (.return_, 1) := by decide +kernel
theorem d_P_centredCoefficient_0 : decode c9_P_centredCoefficient 0 = .ok (.aload_n 0, 1) := by decide +kernel
theorem d_P_centredCoefficient_1 : decode c9_P_centredCoefficient 1 = .ok (.iload_n 1, 1) := by decide +kernel
theorem d_P_centredCoefficient_2 : decode c9_P_centredCoefficient 2 = .ok (.iload_n 2, 1) := by decide +kernel
theorem d_P_centredCoefficient_3 : decode c9_P_centredCoefficient 3 = .ok (.invokevirtual 68, 3) := by decide +kernel
theorem d_P_centredCoefficient_6 : decode c9_P_centredCoefficient 6 = .ok (.getstatic 61, 3) := by decide +kernel
theorem d_P_centredCoefficient_9 : decode c9_P_centredCoefficient 9 = .ok (.iload_n 2, 1) := by decide +kernel
theorem d_P_centredCoefficient_10 : decode c9_P_centredCoefficient 10 = .ok (.laload, 1) := by decide +kernel
theorem d_P_centredCoefficient_11 : decode c9_P_centredCoefficient 11 = .ok (.invokestatic 52, 3) := by decide +kernel
theorem d_P_centredCoefficient_14 : decode c9_P_centredCoefficient 14 = .ok (.lreturn, 1) := by decide +kernel
theorem d_P_wholeCoefficient_0 : decode c9_P_wholeCoefficient 0 = .ok (.aload_n 0, 1) := by decide +kernel
theorem d_P_wholeCoefficient_1 : decode c9_P_wholeCoefficient 1 = .ok (.getfield 15, 3) := by decide +kernel
theorem d_P_wholeCoefficient_4 : decode c9_P_wholeCoefficient 4 = .ok (.iload_n 1, 1) := by decide +kernel
theorem d_P_wholeCoefficient_5 : decode c9_P_wholeCoefficient 5 = .ok (.iaload, 1) := by decide +kernel
theorem d_P_wholeCoefficient_6 : decode c9_P_wholeCoefficient 6 = .ok (.i2l, 1) := by decide +kernel
theorem d_P_wholeCoefficient_7 : decode c9_P_wholeCoefficient 7 = .ok (.lstore_n 3, 1) := by decide +kernel
theorem d_P_wholeCoefficient_8 : decode c9_P_wholeCoefficient 8 = .ok (.iconst 1, 1) := by decide +kernel
theorem d_P_wholeCoefficient_9 : decode c9_P_wholeCoefficient 9 = .ok (.istore 5, 2) := by decide +kernel
theorem d_P_wholeCoefficient_11 : decode c9_P_wholeCoefficient 11 = .ok (.iload 5, 2) := by decide +kernel
theorem d_P_wholeCoefficient_13 : decode c9_P_wholeCoefficient 13 = .ok (.iload_n 2, 1) := by decide +kernel
theorem d_P_wholeCoefficient_14 : decode c9_P_wholeCoefficient 14 = .ok (.if_icmp .gt 66, 3) := by decide +kernel
theorem d_P_wholeCoefficient_17 : decode c9_P_wholeCoefficient 17 = .ok (.aload_n 0, 1) := by decide +kernel
theorem d_P_wholeCoefficient_18 : decode c9_P_wholeCoefficient 18 = .ok (.getfield 15, 3) := by decide +kernel
theorem d_P_wholeCoefficient_21 : decode c9_P_wholeCoefficient 21 = .ok (.iload 5, 2) := by decide +kernel
theorem d_P_wholeCoefficient_23 : decode c9_P_wholeCoefficient 23 = .ok (.bipush 8, 2) := by decide +kernel
theorem d_P_wholeCoefficient_25 : decode c9_P_wholeCoefficient 25 = .ok (.imul, 1) := by decide +kernel
theorem d_P_wholeCoefficient_26 : decode c9_P_wholeCoefficient 26 = .ok (.iload_n 1, 1) := by decide +kernel
theorem d_P_wholeCoefficient_27 : decode c9_P_wholeCoefficient 27 = .ok (.iadd, 1) := by decide +kernel
theorem d_P_wholeCoefficient_28 : decode c9_P_wholeCoefficient 28 = .ok (.iaload, 1) := by decide +kernel
theorem d_P_wholeCoefficient_29 : decode c9_P_wholeCoefficient 29 = .ok (.i2l, 1) := by decide +kernel
theorem d_P_wholeCoefficient_30 : decode c9_P_wholeCoefficient 30 = .ok (.lload_n 3, 1) := by decide +kernel
theorem d_P_wholeCoefficient_31 : decode c9_P_wholeCoefficient 31 = .ok (.lsub, 1) := by decide +kernel
theorem d_P_wholeCoefficient_32 : decode c9_P_wholeCoefficient 32 = .ok (.getstatic 19, 3) := by decide +kernel
theorem d_P_wholeCoefficient_35 : decode c9_P_wholeCoefficient 35 = .ok (.iload 5, 2) := by decide +kernel
theorem d_P_wholeCoefficient_37 : decode c9_P_wholeCoefficient 37 = .ok (.iaload, 1) := by decide +kernel
theorem d_P_wholeCoefficient_38 : decode c9_P_wholeCoefficient 38 = .ok (.invokestatic 40, 3) := by decide +kernel
theorem d_P_wholeCoefficient_41 : decode c9_P_wholeCoefficient 41 = .ok (.i2l, 1) := by decide +kernel
theorem d_P_wholeCoefficient_42 : decode c9_P_wholeCoefficient 42 = .ok (.lstore 6, 2) := by decide +kernel
theorem d_P_wholeCoefficient_44 : decode c9_P_wholeCoefficient 44 = .ok (.lload_n 3, 1) := by decide +kernel
theorem d_P_wholeCoefficient_45 : decode c9_P_wholeCoefficient 45 = .ok (.getstatic 61, 3) := by decide +kernel
theorem d_P_wholeCoefficient_48 : decode c9_P_wholeCoefficient 48 = .ok (.iload 5, 2) := by decide +kernel
theorem d_P_wholeCoefficient_50 : decode c9_P_wholeCoefficient 50 = .ok (.iconst 1, 1) := by decide +kernel
theorem d_P_wholeCoefficient_51 : decode c9_P_wholeCoefficient 51 = .ok (.isub, 1) := by decide +kernel
theorem d_P_wholeCoefficient_52 : decode c9_P_wholeCoefficient 52 = .ok (.laload, 1) := by decide +kernel
theorem d_P_wholeCoefficient_53 : decode c9_P_wholeCoefficient 53 = .ok (.lload 6, 2) := by decide +kernel
theorem d_P_wholeCoefficient_55 : decode c9_P_wholeCoefficient 55 = .ok (.getstatic 65, 3) := by decide +kernel
theorem d_P_wholeCoefficient_58 : decode c9_P_wholeCoefficient 58 = .ok (.iload 5, 2) := by decide +kernel
theorem d_P_wholeCoefficient_60 : decode c9_P_wholeCoefficient 60 = .ok (.iaload, 1) := by decide +kernel
theorem d_P_wholeCoefficient_61 : decode c9_P_wholeCoefficient 61 = .ok (.i2l, 1) := by decide +kernel
theorem d_P_wholeCoefficient_62 : decode c9_P_wholeCoefficient 62 = .ok (.lmul, 1) := by decide +kernel
theorem d_P_wholeCoefficient_63 : decode c9_P_wholeCoefficient 63 = .ok (.getstatic 19, 3) := by decide +kernel
theorem d_P_wholeCoefficient_66 : decode c9_P_wholeCoefficient 66 = .ok (.iload 5, 2) := by decide +kernel
theorem d_P_wholeCoefficient_68 : decode c9_P_wholeCoefficient 68 = .ok (.iaload, 1) := by decide +kernel
theorem d_P_wholeCoefficient_69 : decode c9_P_wholeCoefficient 69 = .ok (.i2l, 1) := by decide +kernel
theorem d_P_wholeCoefficient_70 : decode c9_P_wholeCoefficient 70 = .ok (.lrem, 1) := by decide +kernel
theorem d_P_wholeCoefficient_71 : decode c9_P_wholeCoefficient 71 = .ok (.lmul, 1) := by decide +kernel
theorem d_P_wholeCoefficient_72 : decode c9_P_wholeCoefficient 72 = .ok (.ladd, 1) := by decide +kernel
theorem d_P_wholeCoefficient_73 : decode c9_P_wholeCoefficient 73 = .ok (.lstore_n 3, 1) := by decide +kernel
theorem d_P_wholeCoefficient_74 : decode c9_P_wholeCoefficient 74 = .ok (.iinc 5 1, 3) := by decide +kernel
theorem d_P_wholeCoefficient_77 : decode c9_P_wholeCoefficient 77 = .ok (.goto (-66), 3) := by decide +kernel
theorem d_P_wholeCoefficient_80 : decode c9_P_wholeCoefficient 80 = .ok (.lload_n 3, 1) := by decide +kernel
theorem d_P_wholeCoefficient_81 : decode c9_P_wholeCoefficient 81 = .ok (.lreturn, 1) := by decide +kernel
theorem d_R_modulo_0 : decode c9_R_modulo 0 = .ok (.lload_n 0, 1) := by decide +kernel
theorem d_R_modulo_1 : decode c9_R_modulo 1 = .ok (.iload_n 2, 1) := by decide +kernel
theorem d_R_modulo_2 : decode c9_R_modulo 2 = .ok (.i2l, 1) := by decide +kernel
theorem d_R_modulo_3 : decode c9_R_modulo 3 = .ok (.lrem, 1) := by decide +kernel
theorem d_R_modulo_4 : decode c9_R_modulo 4 = .ok (.l2i, 1) := by decide +kernel
theorem d_R_modulo_5 : decode c9_R_modulo 5 = .ok (.istore_n 3, 1) := by decide +kernel
theorem d_R_modulo_6 : decode c9_R_modulo 6 = .ok (.iload_n 3, 1) := by decide +kernel
theorem d_R_modulo_7 : decode c9_R_modulo 7 = .ok (.ifCond .ge 9, 3) := by decide +kernel
theorem d_R_modulo_10 : decode c9_R_modulo 10 = .ok (.iload_n 3, 1) := by decide +kernel
theorem d_R_modulo_11 : decode c9_R_modulo 11 = .ok (.iload_n 2, 1) := by decide +kernel
theorem d_R_modulo_12 : decode c9_R_modulo 12 = .ok (.iadd, 1) := by decide +kernel
theorem d_R_modulo_13 : decode c9_R_modulo 13 = .ok (.goto 4, 3) := by decide +kernel
theorem d_R_modulo_16 : decode c9_R_modulo 16 = .ok (.iload_n 3, 1) := by decide +kernel
theorem d_R_modulo_17 : decode c9_R_modulo 17 = .ok (.ireturn, 1) := by decide +kernel
theorem d_R_centred_0 : decode c9_R_centred 0 = .ok (.lload_n 0, 1) := by decide +kernel
theorem d_R_centred_1 : decode c9_R_centred 1 = .ok (.lload_n 2, 1) := by decide +kernel
theorem d_R_centred_2 : decode c9_R_centred 2 = .ok (.lconst 1, 1) := by decide +kernel
theorem d_R_centred_3 : decode c9_R_centred 3 = .ok (.lsub, 1) := by decide +kernel
theorem d_R_centred_4 : decode c9_R_centred 4 = .ok (.ldc2_w 179, 3) := by decide +kernel
theorem d_R_centred_7 : decode c9_R_centred 7 = .ok (.ldiv, 1) := by decide +kernel
theorem d_R_centred_8 : decode c9_R_centred 8 = .ok (.lcmp, 1) := by decide +kernel
theorem d_R_centred_9 : decode c9_R_centred 9 = .ok (.ifCond .le 9, 3) := by decide +kernel
theorem d_R_centred_12 : decode c9_R_centred 12 = .ok (.lload_n 0, 1) := by decide +kernel
theorem d_R_centred_13 : decode c9_R_centred 13 = .ok (.lload_n 2, 1) := by decide +kernel
theorem d_R_centred_14 : decode c9_R_centred 14 = .ok (.lsub, 1) := by decide +kernel
theorem d_R_centred_15 : decode c9_R_centred 15 = .ok (.goto 4, 3) := by decide +kernel
theorem d_R_centred_18 : decode c9_R_centred 18 = .ok (.lload_n 0, 1) := by decide +kernel
theorem d_R_centred_19 : decode c9_R_centred 19 = .ok (.lreturn, 1) := by decide +kernel
