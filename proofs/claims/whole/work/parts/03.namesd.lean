theorem dX5_init_0 : decode cX5_init 0 = .ok (.aload_n 0, 1) := by decide +kernel
theorem dX5_init_1 : decode cX5_init 1 = .ok (.invokespecial 1, 3) := by decide +kernel
theorem dX5_init_4 : decode cX5_init 4 = .ok (.aload_n 0, 1) := by decide +kernel
theorem dX5_init_5 : decode cX5_init 5 = .ok (.sipush 1050, 3) := by decide +kernel
theorem dX5_init_8 : decode cX5_init 8 = .ok (.newarray .int, 2) := by decide +kernel
theorem dX5_init_10 : decode cX5_init 10 = .ok (.putfield 7, 3) := by decide +kernel
theorem dX5_init_13 : decode cX5_init 13 = .ok (.aload_n 0, 1) := by decide +kernel
theorem dX5_init_14 : decode cX5_init 14 = .ok (.sipush 1050, 3) := by decide +kernel
theorem dX5_init_17 : decode cX5_init 17 = .ok (.newarray .int, 2) := by decide +kernel
theorem dX5_init_19 : decode cX5_init 19 = .ok (.putfield 13, 3) := by decide +kernel
theorem dX5_init_22 : decode cX5_init 22 = .ok (.aload_n 0, 1) := by decide +kernel
theorem dX5_init_23 : decode cX5_init 23 = .ok (.iconst 4, 1) := by decide +kernel
theorem dX5_init_24 : decode cX5_init 24 = .ok (.newarray .int, 2) := by decide +kernel
theorem dX5_init_26 : decode cX5_init 26 = .ok (.putfield 16, 3) := by decide +kernel
theorem dX5_init_29 : decode cX5_init 29 = .ok (.aload_n 0, 1) := by decide +kernel
theorem dX5_init_30 : decode cX5_init 30 = .ok (.iconst 4, 1) := by decide +kernel
theorem dX5_init_31 : decode cX5_init 31 = .ok (.newarray .int, 2) := by decide +kernel
theorem dX5_init_33 : decode cX5_init 33 = .ok (.putfield 19, 3) := by decide +kernel
theorem dX5_init_36 : decode cX5_init 36 = .ok (.aload_n 0, 1) := by decide +kernel
theorem dX5_init_37 : decode cX5_init 37 = .ok (.bipush 64, 2) := by decide +kernel
theorem dX5_init_39 : decode cX5_init 39 = .ok (.newarray .long, 2) := by decide +kernel
theorem dX5_init_41 : decode cX5_init 41 = .ok (.putfield 22, 3) := by decide +kernel
theorem dX5_init_44 : decode cX5_init 44 = .ok (.aload_n 0, 1) := by decide +kernel
theorem dX5_init_45 : decode cX5_init 45 = .ok (.bipush 64, 2) := by decide +kernel
theorem dX5_init_47 : decode cX5_init 47 = .ok (.newarray .long, 2) := by decide +kernel
theorem dX5_init_49 : decode cX5_init 49 = .ok (.putfield 26, 3) := by decide +kernel
theorem dX5_init_52 : decode cX5_init 52 = .ok (.aload_n 0, 1) := by decide +kernel
theorem dX5_init_53 : decode cX5_init 53 = .ok (.bipush 64, 2) := by decide +kernel
theorem dX5_init_55 : decode cX5_init 55 = .ok (.newarray .long, 2) := by decide +kernel
theorem dX5_init_57 : decode cX5_init 57 = .ok (.putfield 29, 3) := by decide +kernel
theorem dX5_init_60 : decode cX5_init 60 = .ok (.aload_n 0, 1) := by decide +kernel
theorem dX5_init_61 : decode cX5_init 61 = .ok (.bipush 64, 2) := by decide +kernel
theorem dX5_init_63 : decode cX5_init 63 = .ok (.newarray .long, 2) := by decide +kernel
theorem dX5_init_65 : decode cX5_init 65 = .ok (.putfield 32, 3) := by decide +kernel
theorem dX5_init_68 : decode cX5_init 68 = .ok (.aload_n 0, 1) := by decide +kernel
theorem dX5_init_69 : decode cX5_init 69 = .ok (.bipush 64, 2) := by decide +kernel
theorem dX5_init_71 : decode cX5_init 71 = .ok (.newarray .long, 2) := by decide +kernel
theorem dX5_init_73 : decode cX5_init 73 = .ok (.putfield 35, 3) := by decide +kernel
theorem dX5_init_76 : decode cX5_init 76 = .ok (.aload_n 0, 1) := by decide +kernel
theorem dX5_init_77 : decode cX5_init 77 = .ok (.bipush 64, 2) := by decide +kernel
theorem dX5_init_79 : decode cX5_init 79 = .ok (.newarray .long, 2) := by decide +kernel
theorem dX5_init_81 : decode cX5_init 81 = .ok (.putfield 38, 3) := by decide +kernel
theorem dX5_init_84 : decode cX5_init 84 = .ok (.aload_n 0, 1) := by decide +kernel
theorem dX5_init_85 : decode cX5_init 85 = .ok (.bipush 64, 2) := by decide +kernel
theorem dX5_init_87 : decode cX5_init 87 = .ok (.newarray .long, 2) := by decide +kernel
theorem dX5_init_89 : decode cX5_init 89 = .ok (.putfield 41, 3) := by decide +kernel
theorem dX5_init_92 : decode cX5_init 92 = .ok (.aload_n 0, 1) := by decide +kernel
theorem dX5_init_93 : decode cX5_init 93 = .ok (.bipush 64, 2) := by decide +kernel
theorem dX5_init_95 : decode cX5_init 95 = .ok (.newarray .long, 2) := by decide +kernel
theorem dX5_init_97 : decode cX5_init 97 = .ok (.putfield 44, 3) := by decide +kernel
theorem dX5_init_100 : decode cX5_init 100 = .ok (.aload_n 0, 1) := by decide +kernel
theorem dX5_init_101 : decode cX5_init 101 = .ok (.sipush 640, 3) := by decide +kernel
theorem dX5_init_104 : decode cX5_init 104 = .ok (.newarray .long, 2) := by decide +kernel
theorem dX5_init_106 : decode cX5_init 106 = .ok (.putfield 47, 3) := by decide +kernel
theorem dX5_init_109 : decode cX5_init 109 = .ok (.aload_n 0, 1) := by decide +kernel
theorem dX5_init_110 : decode cX5_init 110 = .ok (.bipush 9, 2) := by decide +kernel
theorem dX5_init_112 : decode cX5_init 112 = .ok (.newarray .int, 2) := by decide +kernel
theorem dX5_init_114 : decode cX5_init 114 = .ok (.putfield 50, 3) := by decide +kernel
theorem dX5_init_117 : decode cX5_init 117 = .ok (.aload_n 0, 1) := by decide +kernel
theorem dX5_init_118 : decode cX5_init 118 = .ok (.bipush 64, 2) := by decide +kernel
theorem dX5_init_120 : decode cX5_init 120 = .ok (.newarray .long, 2) := by decide +kernel
theorem dX5_init_122 : decode cX5_init 122 = .ok (.putfield 53, 3) := by decide +kernel
theorem dX5_init_125 : decode cX5_init 125 = .ok (.aload_n 0, 1) := by decide +kernel
theorem dX5_init_126 : decode cX5_init 126 = .ok (.bipush 64, 2) := by decide +kernel
theorem dX5_init_128 : decode cX5_init 128 = .ok (.newarray .long, 2) := by decide +kernel
theorem dX5_init_130 : decode cX5_init 130 = .ok (.putfield 56, 3) := by decide +kernel
theorem dX5_init_133 : decode cX5_init 133 = .ok (.aload_n 0, 1) := by decide +kernel
theorem dX5_init_134 : decode cX5_init 134 = .ok (.bipush 64, 2) := by decide +kernel
theorem dX5_init_136 : decode cX5_init 136 = .ok (.newarray .long, 2) := by decide +kernel
theorem dX5_init_138 : decode cX5_init 138 = .ok (.putfield 59, 3) := by decide +kernel
theorem dX5_init_141 : decode cX5_init 141 = .ok (.aload_n 0, 1) := by decide +kernel
theorem dX5_init_142 : decode cX5_init 142 = .ok (.getfield 16, 3) := by decide +kernel
theorem dX5_init_145 : decode cX5_init 145 = .ok (.iconst 0, 1) := by decide +kernel
theorem dX5_init_146 : decode cX5_init 146 = .ok (.iconst 1, 1) := by decide +kernel
theorem dX5_init_147 : decode cX5_init 147 = .ok (.iastore, 1) := by decide +kernel
theorem dX5_init_148 : decode cX5_init 148 = .ok (.aload_n 0, 1) := by decide +kernel
theorem dX5_init_149 : decode cX5_init 149 = .ok (.getfield 19, 3) := by decide +kernel
theorem dX5_init_152 : decode cX5_init 152 = .ok (.iconst 0, 1) := by decide +kernel
theorem dX5_init_153 : decode cX5_init 153 = .ok (.iconst 1, 1) := by decide +kernel
theorem dX5_init_154 : decode cX5_init 154 = .ok (.iastore, 1) := by decide +kernel
theorem dX5_init_155 : decode cX5_init 155 = .ok (.return_, 1) := by decide +kernel
theorem dX5_thrown_0 : decode cX5_thrown 0 = .ok (.aload_n 0, 1) := by decide +kernel
theorem dX5_thrown_1 : decode cX5_thrown 1 = .ok (.getfield 62, 3) := by decide +kernel
theorem dX5_thrown_4 : decode cX5_thrown 4 = .ok (.ireturn, 1) := by decide +kernel
theorem dX5_raise_0 : decode cX5_raise 0 = .ok (.aload_n 0, 1) := by decide +kernel
theorem dX5_raise_1 : decode cX5_raise 1 = .ok (.iload_n 1, 1) := by decide +kernel
theorem dX5_raise_2 : decode cX5_raise 2 = .ok (.putfield 62, 3) := by decide +kernel
theorem dX5_raise_5 : decode cX5_raise 5 = .ok (.iconst 0, 1) := by decide +kernel
theorem dX5_raise_6 : decode cX5_raise 6 = .ok (.ireturn, 1) := by decide +kernel
theorem dX5_in_0 : decode cX5_in 0 = .ok (.lload_n 0, 1) := by decide +kernel
theorem dX5_in_1 : decode cX5_in 1 = .ok (.lload_n 2, 1) := by decide +kernel
theorem dX5_in_2 : decode cX5_in 2 = .ok (.lcmp, 1) := by decide +kernel
theorem dX5_in_3 : decode cX5_in 3 = .ok (.ifCond .lt 14, 3) := by decide +kernel
theorem dX5_in_6 : decode cX5_in 6 = .ok (.lload_n 0, 1) := by decide +kernel
theorem dX5_in_7 : decode cX5_in 7 = .ok (.lload 4, 2) := by decide +kernel
theorem dX5_in_9 : decode cX5_in 9 = .ok (.lcmp, 1) := by decide +kernel
theorem dX5_in_10 : decode cX5_in 10 = .ok (.ifCond .gt 7, 3) := by decide +kernel
theorem dX5_in_13 : decode cX5_in 13 = .ok (.iconst 1, 1) := by decide +kernel
theorem dX5_in_14 : decode cX5_in 14 = .ok (.goto 4, 3) := by decide +kernel
theorem dX5_in_17 : decode cX5_in 17 = .ok (.iconst 0, 1) := by decide +kernel
theorem dX5_in_18 : decode cX5_in 18 = .ok (.ireturn, 1) := by decide +kernel
theorem dX5_modulo_0 : decode cX5_modulo 0 = .ok (.lload_n 0, 1) := by decide +kernel
theorem dX5_modulo_1 : decode cX5_modulo 1 = .ok (.ldc2_w 66, 3) := by decide +kernel
theorem dX5_modulo_4 : decode cX5_modulo 4 = .ok (.lrem, 1) := by decide +kernel
theorem dX5_modulo_5 : decode cX5_modulo 5 = .ok (.lstore_n 2, 1) := by decide +kernel
theorem dX5_modulo_6 : decode cX5_modulo 6 = .ok (.lload_n 2, 1) := by decide +kernel
theorem dX5_modulo_7 : decode cX5_modulo 7 = .ok (.lconst 0, 1) := by decide +kernel
theorem dX5_modulo_8 : decode cX5_modulo 8 = .ok (.lcmp, 1) := by decide +kernel
theorem dX5_modulo_9 : decode cX5_modulo 9 = .ok (.ifCond .ge 11, 3) := by decide +kernel
theorem dX5_modulo_12 : decode cX5_modulo 12 = .ok (.lload_n 2, 1) := by decide +kernel
theorem dX5_modulo_13 : decode cX5_modulo 13 = .ok (.ldc2_w 66, 3) := by decide +kernel
theorem dX5_modulo_16 : decode cX5_modulo 16 = .ok (.ladd, 1) := by decide +kernel
theorem dX5_modulo_17 : decode cX5_modulo 17 = .ok (.goto 4, 3) := by decide +kernel
theorem dX5_modulo_20 : decode cX5_modulo 20 = .ok (.lload_n 2, 1) := by decide +kernel
theorem dX5_modulo_21 : decode cX5_modulo 21 = .ok (.lreturn, 1) := by decide +kernel
theorem dX5_inverse_0 : decode cX5_inverse 0 = .ok (.lconst 1, 1) := by decide +kernel
theorem dX5_inverse_1 : decode cX5_inverse 1 = .ok (.lstore_n 2, 1) := by decide +kernel
theorem dX5_inverse_2 : decode cX5_inverse 2 = .ok (.lload_n 0, 1) := by decide +kernel
theorem dX5_inverse_3 : decode cX5_inverse 3 = .ok (.lstore 4, 2) := by decide +kernel
theorem dX5_inverse_5 : decode cX5_inverse 5 = .ok (.sipush 32001, 3) := by decide +kernel
theorem dX5_inverse_8 : decode cX5_inverse 8 = .ok (.istore 6, 2) := by decide +kernel
theorem dX5_inverse_10 : decode cX5_inverse 10 = .ok (.iload 6, 2) := by decide +kernel
theorem dX5_inverse_12 : decode cX5_inverse 12 = .ok (.ifCond .le 44, 3) := by decide +kernel
theorem dX5_inverse_15 : decode cX5_inverse 15 = .ok (.iload 6, 2) := by decide +kernel
theorem dX5_inverse_17 : decode cX5_inverse 17 = .ok (.iconst 2, 1) := by decide +kernel
theorem dX5_inverse_18 : decode cX5_inverse 18 = .ok (.irem, 1) := by decide +kernel
theorem dX5_inverse_19 : decode cX5_inverse 19 = .ok (.iconst 1, 1) := by decide +kernel
theorem dX5_inverse_20 : decode cX5_inverse 20 = .ok (.if_icmp .ne 14, 3) := by decide +kernel
theorem dX5_inverse_23 : decode cX5_inverse 23 = .ok (.lload_n 2, 1) := by decide +kernel
theorem dX5_inverse_24 : decode cX5_inverse 24 = .ok (.lload 4, 2) := by decide +kernel
theorem dX5_inverse_26 : decode cX5_inverse 26 = .ok (.lmul, 1) := by decide +kernel
theorem dX5_inverse_27 : decode cX5_inverse 27 = .ok (.ldc2_w 66, 3) := by decide +kernel
theorem dX5_inverse_30 : decode cX5_inverse 30 = .ok (.lrem, 1) := by decide +kernel
theorem dX5_inverse_31 : decode cX5_inverse 31 = .ok (.goto 4, 3) := by decide +kernel
theorem dX5_inverse_34 : decode cX5_inverse 34 = .ok (.lload_n 2, 1) := by decide +kernel
theorem dX5_inverse_35 : decode cX5_inverse 35 = .ok (.lstore_n 2, 1) := by decide +kernel
theorem dX5_inverse_36 : decode cX5_inverse 36 = .ok (.lload 4, 2) := by decide +kernel
theorem dX5_inverse_38 : decode cX5_inverse 38 = .ok (.lload 4, 2) := by decide +kernel
theorem dX5_inverse_40 : decode cX5_inverse 40 = .ok (.lmul, 1) := by decide +kernel
theorem dX5_inverse_41 : decode cX5_inverse 41 = .ok (.ldc2_w 66, 3) := by decide +kernel
theorem dX5_inverse_44 : decode cX5_inverse 44 = .ok (.lrem, 1) := by decide +kernel
theorem dX5_inverse_45 : decode cX5_inverse 45 = .ok (.lstore 4, 2) := by decide +kernel
theorem dX5_inverse_47 : decode cX5_inverse 47 = .ok (.iload 6, 2) := by decide +kernel
theorem dX5_inverse_49 : decode cX5_inverse 49 = .ok (.iconst 2, 1) := by decide +kernel
theorem dX5_inverse_50 : decode cX5_inverse 50 = .ok (.idiv, 1) := by decide +kernel
theorem dX5_inverse_51 : decode cX5_inverse 51 = .ok (.istore 6, 2) := by decide +kernel
theorem dX5_inverse_53 : decode cX5_inverse 53 = .ok (.goto (-43), 3) := by decide +kernel
theorem dX5_inverse_56 : decode cX5_inverse 56 = .ok (.lload_n 2, 1) := by decide +kernel
theorem dX5_inverse_57 : decode cX5_inverse 57 = .ok (.lreturn, 1) := by decide +kernel
theorem dX5_empty_0 : decode cX5_empty 0 = .ok (.iconst 0, 1) := by decide +kernel
theorem dX5_empty_1 : decode cX5_empty 1 = .ok (.istore_n 1, 1) := by decide +kernel
theorem dX5_empty_2 : decode cX5_empty 2 = .ok (.iload_n 1, 1) := by decide +kernel
theorem dX5_empty_3 : decode cX5_empty 3 = .ok (.bipush 64, 2) := by decide +kernel
theorem dX5_empty_5 : decode cX5_empty 5 = .ok (.if_icmp .ge 13, 3) := by decide +kernel
theorem dX5_empty_8 : decode cX5_empty 8 = .ok (.aload_n 0, 1) := by decide +kernel
theorem dX5_empty_9 : decode cX5_empty 9 = .ok (.iload_n 1, 1) := by decide +kernel
theorem dX5_empty_10 : decode cX5_empty 10 = .ok (.lconst 0, 1) := by decide +kernel
theorem dX5_empty_11 : decode cX5_empty 11 = .ok (.lastore, 1) := by decide +kernel
theorem dX5_empty_12 : decode cX5_empty 12 = .ok (.iinc 1 1, 3) := by decide +kernel
theorem dX5_empty_15 : decode cX5_empty 15 = .ok (.goto (-13), 3) := by decide +kernel
theorem dX5_empty_18 : decode cX5_empty 18 = .ok (.return_, 1) := by decide +kernel
theorem dX5_copy_0 : decode cX5_copy 0 = .ok (.iconst 0, 1) := by decide +kernel
theorem dX5_copy_1 : decode cX5_copy 1 = .ok (.istore_n 2, 1) := by decide +kernel
theorem dX5_copy_2 : decode cX5_copy 2 = .ok (.iload_n 2, 1) := by decide +kernel
theorem dX5_copy_3 : decode cX5_copy 3 = .ok (.bipush 64, 2) := by decide +kernel
theorem dX5_copy_5 : decode cX5_copy 5 = .ok (.if_icmp .ge 15, 3) := by decide +kernel
theorem dX5_copy_8 : decode cX5_copy 8 = .ok (.aload_n 0, 1) := by decide +kernel
theorem dX5_copy_9 : decode cX5_copy 9 = .ok (.iload_n 2, 1) := by decide +kernel
theorem dX5_copy_10 : decode cX5_copy 10 = .ok (.aload_n 1, 1) := by decide +kernel
theorem dX5_copy_11 : decode cX5_copy 11 = .ok (.iload_n 2, 1) := by decide +kernel
theorem dX5_copy_12 : decode cX5_copy 12 = .ok (.laload, 1) := by decide +kernel
theorem dX5_copy_13 : decode cX5_copy 13 = .ok (.lastore, 1) := by decide +kernel
theorem dX5_copy_14 : decode cX5_copy 14 = .ok (.iinc 2 1, 3) := by decide +kernel
theorem dX5_copy_17 : decode cX5_copy 17 = .ok (.goto (-15), 3) := by decide +kernel
theorem dX5_copy_20 : decode cX5_copy 20 = .ok (.return_, 1) := by decide +kernel
theorem dX5_high_0 : decode cX5_high 0 = .ok (.bipush 63, 2) := by decide +kernel
theorem dX5_high_2 : decode cX5_high 2 = .ok (.istore_n 1, 1) := by decide +kernel
theorem dX5_high_3 : decode cX5_high 3 = .ok (.iload_n 1, 1) := by decide +kernel
theorem dX5_high_4 : decode cX5_high 4 = .ok (.ifCond .lt 17, 3) := by decide +kernel
theorem dX5_high_7 : decode cX5_high 7 = .ok (.aload_n 0, 1) := by decide +kernel
theorem dX5_high_8 : decode cX5_high 8 = .ok (.iload_n 1, 1) := by decide +kernel
theorem dX5_high_9 : decode cX5_high 9 = .ok (.laload, 1) := by decide +kernel
theorem dX5_high_10 : decode cX5_high 10 = .ok (.lconst 0, 1) := by decide +kernel
theorem dX5_high_11 : decode cX5_high 11 = .ok (.lcmp, 1) := by decide +kernel
theorem dX5_high_12 : decode cX5_high 12 = .ok (.ifCond .ne 9, 3) := by decide +kernel
theorem dX5_high_15 : decode cX5_high 15 = .ok (.iinc 1 (-1), 3) := by decide +kernel
theorem dX5_high_18 : decode cX5_high 18 = .ok (.goto (-15), 3) := by decide +kernel
theorem dX5_high_21 : decode cX5_high 21 = .ok (.iload_n 1, 1) := by decide +kernel
theorem dX5_high_22 : decode cX5_high 22 = .ok (.ireturn, 1) := by decide +kernel
theorem dX5_load_0 : decode cX5_load 0 = .ok (.iconst 0, 1) := by decide +kernel
theorem dX5_load_1 : decode cX5_load 1 = .ok (.istore 4, 2) := by decide +kernel
theorem dX5_load_3 : decode cX5_load 3 = .ok (.iload 4, 2) := by decide +kernel
theorem dX5_load_5 : decode cX5_load 5 = .ok (.bipush 64, 2) := by decide +kernel
theorem dX5_load_7 : decode cX5_load 7 = .ok (.if_icmp .ge 30, 3) := by decide +kernel
theorem dX5_load_10 : decode cX5_load 10 = .ok (.aload_n 0, 1) := by decide +kernel
theorem dX5_load_11 : decode cX5_load 11 = .ok (.iload 4, 2) := by decide +kernel
theorem dX5_load_13 : decode cX5_load 13 = .ok (.iload 4, 2) := by decide +kernel
theorem dX5_load_15 : decode cX5_load 15 = .ok (.iload_n 3, 1) := by decide +kernel
theorem dX5_load_16 : decode cX5_load 16 = .ok (.if_icmp .ge 13, 3) := by decide +kernel
theorem dX5_load_19 : decode cX5_load 19 = .ok (.aload_n 1, 1) := by decide +kernel
theorem dX5_load_20 : decode cX5_load 20 = .ok (.iload_n 2, 1) := by decide +kernel
theorem dX5_load_21 : decode cX5_load 21 = .ok (.iload 4, 2) := by decide +kernel
theorem dX5_load_23 : decode cX5_load 23 = .ok (.iadd, 1) := by decide +kernel
theorem dX5_load_24 : decode cX5_load 24 = .ok (.iaload, 1) := by decide +kernel
theorem dX5_load_25 : decode cX5_load 25 = .ok (.i2l, 1) := by decide +kernel
theorem dX5_load_26 : decode cX5_load 26 = .ok (.goto 4, 3) := by decide +kernel
theorem dX5_load_29 : decode cX5_load 29 = .ok (.lconst 0, 1) := by decide +kernel
theorem dX5_load_30 : decode cX5_load 30 = .ok (.lastore, 1) := by decide +kernel
theorem dX5_load_31 : decode cX5_load 31 = .ok (.iinc 4 1, 3) := by decide +kernel
theorem dX5_load_34 : decode cX5_load 34 = .ok (.goto (-31), 3) := by decide +kernel
theorem dX5_load_37 : decode cX5_load 37 = .ok (.return_, 1) := by decide +kernel
set_option maxRecDepth 20000 in
theorem ggX5_multiply_X5_empty : GoodIn wsX5_multiply wsX5_empty := goodIn_r _ [6] (by decide +kernel) (by decide +kernel)
set_option maxRecDepth 20000 in
theorem gX5_multiply_X5_empty : GoodIn wsX5_multiply (va_wsS RX5 68 yX5_empty wsX5_empty) := goodIn_app (goodIn_of _ (by decide +kernel)) ggX5_multiply_X5_empty
set_option maxRecDepth 20000 in
theorem ggX5_multiply_X5_high : GoodIn wsX5_multiply wsX5_high := goodIn_r _ [9] (by decide +kernel) (by decide +kernel)
set_option maxRecDepth 20000 in
theorem gX5_multiply_X5_high : GoodIn wsX5_multiply (va_wsS RX5 72 yX5_high wsX5_high) := goodIn_app (goodIn_of _ (by decide +kernel)) ggX5_multiply_X5_high
theorem dX5_multiply_0 : decode cX5_multiply 0 = .ok (.aload_n 0, 1) := by decide +kernel
theorem dX5_multiply_1 : decode cX5_multiply 1 = .ok (.getfield 38, 3) := by decide +kernel
theorem dX5_multiply_4 : decode cX5_multiply 4 = .ok (.invokestatic 68, 3) := by decide +kernel
theorem dX5_multiply_7 : decode cX5_multiply 7 = .ok (.aload_n 2, 1) := by decide +kernel
theorem dX5_multiply_8 : decode cX5_multiply 8 = .ok (.invokestatic 72, 3) := by decide +kernel
theorem dX5_multiply_11 : decode cX5_multiply 11 = .ok (.istore_n 3, 1) := by decide +kernel
theorem dX5_multiply_12 : decode cX5_multiply 12 = .ok (.aload_n 1, 1) := by decide +kernel
theorem dX5_multiply_13 : decode cX5_multiply 13 = .ok (.invokestatic 72, 3) := by decide +kernel
theorem dX5_multiply_16 : decode cX5_multiply 16 = .ok (.istore 4, 2) := by decide +kernel
theorem dX5_multiply_18 : decode cX5_multiply 18 = .ok (.iload 4, 2) := by decide +kernel
theorem dX5_multiply_20 : decode cX5_multiply 20 = .ok (.ifCond .lt 58, 3) := by decide +kernel
theorem dX5_multiply_23 : decode cX5_multiply 23 = .ok (.iconst 0, 1) := by decide +kernel
theorem dX5_multiply_24 : decode cX5_multiply 24 = .ok (.istore 5, 2) := by decide +kernel
theorem dX5_multiply_26 : decode cX5_multiply 26 = .ok (.iload 5, 2) := by decide +kernel
theorem dX5_multiply_28 : decode cX5_multiply 28 = .ok (.iload_n 3, 1) := by decide +kernel
theorem dX5_multiply_29 : decode cX5_multiply 29 = .ok (.if_icmp .gt 43, 3) := by decide +kernel
theorem dX5_multiply_32 : decode cX5_multiply 32 = .ok (.aload_n 0, 1) := by decide +kernel
theorem dX5_multiply_33 : decode cX5_multiply 33 = .ok (.getfield 38, 3) := by decide +kernel
theorem dX5_multiply_36 : decode cX5_multiply 36 = .ok (.iload 4, 2) := by decide +kernel
theorem dX5_multiply_38 : decode cX5_multiply 38 = .ok (.iload 5, 2) := by decide +kernel
theorem dX5_multiply_40 : decode cX5_multiply 40 = .ok (.iadd, 1) := by decide +kernel
theorem dX5_multiply_41 : decode cX5_multiply 41 = .ok (.aload_n 0, 1) := by decide +kernel
theorem dX5_multiply_42 : decode cX5_multiply 42 = .ok (.getfield 38, 3) := by decide +kernel
theorem dX5_multiply_45 : decode cX5_multiply 45 = .ok (.iload 4, 2) := by decide +kernel
theorem dX5_multiply_47 : decode cX5_multiply 47 = .ok (.iload 5, 2) := by decide +kernel
theorem dX5_multiply_49 : decode cX5_multiply 49 = .ok (.iadd, 1) := by decide +kernel
theorem dX5_multiply_50 : decode cX5_multiply 50 = .ok (.laload, 1) := by decide +kernel
theorem dX5_multiply_51 : decode cX5_multiply 51 = .ok (.aload_n 1, 1) := by decide +kernel
theorem dX5_multiply_52 : decode cX5_multiply 52 = .ok (.iload 4, 2) := by decide +kernel
theorem dX5_multiply_54 : decode cX5_multiply 54 = .ok (.laload, 1) := by decide +kernel
theorem dX5_multiply_55 : decode cX5_multiply 55 = .ok (.aload_n 2, 1) := by decide +kernel
theorem dX5_multiply_56 : decode cX5_multiply 56 = .ok (.iload 5, 2) := by decide +kernel
theorem dX5_multiply_58 : decode cX5_multiply 58 = .ok (.laload, 1) := by decide +kernel
theorem dX5_multiply_59 : decode cX5_multiply 59 = .ok (.lmul, 1) := by decide +kernel
theorem dX5_multiply_60 : decode cX5_multiply 60 = .ok (.ladd, 1) := by decide +kernel
theorem dX5_multiply_61 : decode cX5_multiply 61 = .ok (.ldc2_w 66, 3) := by decide +kernel
theorem dX5_multiply_64 : decode cX5_multiply 64 = .ok (.lrem, 1) := by decide +kernel
theorem dX5_multiply_65 : decode cX5_multiply 65 = .ok (.lastore, 1) := by decide +kernel
theorem dX5_multiply_66 : decode cX5_multiply 66 = .ok (.iinc 5 1, 3) := by decide +kernel
theorem dX5_multiply_69 : decode cX5_multiply 69 = .ok (.goto (-43), 3) := by decide +kernel
theorem dX5_multiply_72 : decode cX5_multiply 72 = .ok (.iinc 4 (-1), 3) := by decide +kernel
theorem dX5_multiply_75 : decode cX5_multiply 75 = .ok (.goto (-57), 3) := by decide +kernel
theorem dX5_multiply_78 : decode cX5_multiply 78 = .ok (.return_, 1) := by decide +kernel
set_option maxRecDepth 20000 in
theorem ggX5_divide_X5_high : GoodIn wsX5_divide wsX5_high := goodIn_r _ [6] (by decide +kernel) (by decide +kernel)
set_option maxRecDepth 20000 in
theorem gX5_divide_X5_high : GoodIn wsX5_divide (va_wsS RX5 72 yX5_high wsX5_high) := goodIn_app (goodIn_of _ (by decide +kernel)) ggX5_divide_X5_high
set_option maxRecDepth 20000 in
theorem ggX5_divide_X5_inverse : GoodIn wsX5_divide wsX5_inverse := goodIn_r _ [9, 2] (by decide +kernel) (by decide +kernel)
set_option maxRecDepth 20000 in
theorem gX5_divide_X5_inverse : GoodIn wsX5_divide (va_wsS RX5 76 yX5_inverse wsX5_inverse) := goodIn_app (goodIn_of _ (by decide +kernel)) ggX5_divide_X5_inverse
set_option maxRecDepth 20000 in
theorem ggX5_divide_X5_empty : GoodIn wsX5_divide wsX5_empty := goodIn_r _ [12] (by decide +kernel) (by decide +kernel)
set_option maxRecDepth 20000 in
theorem gX5_divide_X5_empty : GoodIn wsX5_divide (va_wsS RX5 68 yX5_empty wsX5_empty) := goodIn_app (goodIn_of _ (by decide +kernel)) ggX5_divide_X5_empty
set_option maxRecDepth 20000 in
theorem ggX5_divide_X5_modulo : GoodIn wsX5_divide wsX5_modulo := goodIn_r _ [15, 2] (by decide +kernel) (by decide +kernel)
set_option maxRecDepth 20000 in
theorem gX5_divide_X5_modulo : GoodIn wsX5_divide (va_wsS RX5 80 yX5_modulo wsX5_modulo) := goodIn_app (goodIn_of _ (by decide +kernel)) ggX5_divide_X5_modulo
theorem dX5_divide_0 : decode cX5_divide 0 = .ok (.aload_n 2, 1) := by decide +kernel
theorem dX5_divide_1 : decode cX5_divide 1 = .ok (.invokestatic 72, 3) := by decide +kernel
theorem dX5_divide_4 : decode cX5_divide 4 = .ok (.istore_n 3, 1) := by decide +kernel
theorem dX5_divide_5 : decode cX5_divide 5 = .ok (.aload_n 2, 1) := by decide +kernel
theorem dX5_divide_6 : decode cX5_divide 6 = .ok (.iload_n 3, 1) := by decide +kernel
theorem dX5_divide_7 : decode cX5_divide 7 = .ok (.laload, 1) := by decide +kernel
theorem dX5_divide_8 : decode cX5_divide 8 = .ok (.invokestatic 76, 3) := by decide +kernel
theorem dX5_divide_11 : decode cX5_divide 11 = .ok (.lstore 4, 2) := by decide +kernel
theorem dX5_divide_13 : decode cX5_divide 13 = .ok (.aload_n 0, 1) := by decide +kernel
theorem dX5_divide_14 : decode cX5_divide 14 = .ok (.getfield 44, 3) := by decide +kernel
theorem dX5_divide_17 : decode cX5_divide 17 = .ok (.invokestatic 68, 3) := by decide +kernel
theorem dX5_divide_20 : decode cX5_divide 20 = .ok (.aload_n 1, 1) := by decide +kernel
theorem dX5_divide_21 : decode cX5_divide 21 = .ok (.invokestatic 72, 3) := by decide +kernel
theorem dX5_divide_24 : decode cX5_divide 24 = .ok (.istore 6, 2) := by decide +kernel
theorem dX5_divide_26 : decode cX5_divide 26 = .ok (.iload 6, 2) := by decide +kernel
theorem dX5_divide_28 : decode cX5_divide 28 = .ok (.iload_n 3, 1) := by decide +kernel
theorem dX5_divide_29 : decode cX5_divide 29 = .ok (.if_icmp .lt 84, 3) := by decide +kernel
theorem dX5_divide_32 : decode cX5_divide 32 = .ok (.aload_n 1, 1) := by decide +kernel
theorem dX5_divide_33 : decode cX5_divide 33 = .ok (.iload 6, 2) := by decide +kernel
theorem dX5_divide_35 : decode cX5_divide 35 = .ok (.laload, 1) := by decide +kernel
theorem dX5_divide_36 : decode cX5_divide 36 = .ok (.lload 4, 2) := by decide +kernel
theorem dX5_divide_38 : decode cX5_divide 38 = .ok (.lmul, 1) := by decide +kernel
theorem dX5_divide_39 : decode cX5_divide 39 = .ok (.ldc2_w 66, 3) := by decide +kernel
theorem dX5_divide_42 : decode cX5_divide 42 = .ok (.lrem, 1) := by decide +kernel
theorem dX5_divide_43 : decode cX5_divide 43 = .ok (.lstore 7, 2) := by decide +kernel
theorem dX5_divide_45 : decode cX5_divide 45 = .ok (.aload_n 0, 1) := by decide +kernel
theorem dX5_divide_46 : decode cX5_divide 46 = .ok (.getfield 44, 3) := by decide +kernel
theorem dX5_divide_49 : decode cX5_divide 49 = .ok (.iload 6, 2) := by decide +kernel
theorem dX5_divide_51 : decode cX5_divide 51 = .ok (.iload_n 3, 1) := by decide +kernel
theorem dX5_divide_52 : decode cX5_divide 52 = .ok (.isub, 1) := by decide +kernel
theorem dX5_divide_53 : decode cX5_divide 53 = .ok (.lload 7, 2) := by decide +kernel
theorem dX5_divide_55 : decode cX5_divide 55 = .ok (.lastore, 1) := by decide +kernel
theorem dX5_divide_56 : decode cX5_divide 56 = .ok (.iconst 0, 1) := by decide +kernel
theorem dX5_divide_57 : decode cX5_divide 57 = .ok (.istore 9, 2) := by decide +kernel
theorem dX5_divide_59 : decode cX5_divide 59 = .ok (.iload 9, 2) := by decide +kernel
theorem dX5_divide_61 : decode cX5_divide 61 = .ok (.iload_n 3, 1) := by decide +kernel
theorem dX5_divide_62 : decode cX5_divide 62 = .ok (.if_icmp .gt 45, 3) := by decide +kernel
theorem dX5_divide_65 : decode cX5_divide 65 = .ok (.lload 7, 2) := by decide +kernel
theorem dX5_divide_67 : decode cX5_divide 67 = .ok (.lconst 0, 1) := by decide +kernel
theorem dX5_divide_68 : decode cX5_divide 68 = .ok (.lcmp, 1) := by decide +kernel
theorem dX5_divide_69 : decode cX5_divide 69 = .ok (.ifCond .le 38, 3) := by decide +kernel
theorem dX5_divide_72 : decode cX5_divide 72 = .ok (.aload_n 1, 1) := by decide +kernel
theorem dX5_divide_73 : decode cX5_divide 73 = .ok (.iload 6, 2) := by decide +kernel
theorem dX5_divide_75 : decode cX5_divide 75 = .ok (.iload_n 3, 1) := by decide +kernel
theorem dX5_divide_76 : decode cX5_divide 76 = .ok (.isub, 1) := by decide +kernel
theorem dX5_divide_77 : decode cX5_divide 77 = .ok (.iload 9, 2) := by decide +kernel
theorem dX5_divide_79 : decode cX5_divide 79 = .ok (.iadd, 1) := by decide +kernel
theorem dX5_divide_80 : decode cX5_divide 80 = .ok (.aload_n 1, 1) := by decide +kernel
theorem dX5_divide_81 : decode cX5_divide 81 = .ok (.iload 6, 2) := by decide +kernel
theorem dX5_divide_83 : decode cX5_divide 83 = .ok (.iload_n 3, 1) := by decide +kernel
theorem dX5_divide_84 : decode cX5_divide 84 = .ok (.isub, 1) := by decide +kernel
theorem dX5_divide_85 : decode cX5_divide 85 = .ok (.iload 9, 2) := by decide +kernel
theorem dX5_divide_87 : decode cX5_divide 87 = .ok (.iadd, 1) := by decide +kernel
theorem dX5_divide_88 : decode cX5_divide 88 = .ok (.laload, 1) := by decide +kernel
theorem dX5_divide_89 : decode cX5_divide 89 = .ok (.lload 7, 2) := by decide +kernel
theorem dX5_divide_91 : decode cX5_divide 91 = .ok (.aload_n 2, 1) := by decide +kernel
theorem dX5_divide_92 : decode cX5_divide 92 = .ok (.iload 9, 2) := by decide +kernel
theorem dX5_divide_94 : decode cX5_divide 94 = .ok (.laload, 1) := by decide +kernel
theorem dX5_divide_95 : decode cX5_divide 95 = .ok (.lmul, 1) := by decide +kernel
theorem dX5_divide_96 : decode cX5_divide 96 = .ok (.lsub, 1) := by decide +kernel
theorem dX5_divide_97 : decode cX5_divide 97 = .ok (.invokestatic 80, 3) := by decide +kernel
theorem dX5_divide_100 : decode cX5_divide 100 = .ok (.lastore, 1) := by decide +kernel
theorem dX5_divide_101 : decode cX5_divide 101 = .ok (.iinc 9 1, 3) := by decide +kernel
theorem dX5_divide_104 : decode cX5_divide 104 = .ok (.goto (-45), 3) := by decide +kernel
theorem dX5_divide_107 : decode cX5_divide 107 = .ok (.iinc 6 (-1), 3) := by decide +kernel
theorem dX5_divide_110 : decode cX5_divide 110 = .ok (.goto (-84), 3) := by decide +kernel
theorem dX5_divide_113 : decode cX5_divide 113 = .ok (.return_, 1) := by decide +kernel
theorem dX5_move_0 : decode cX5_move 0 = .ok (.bipush 62, 2) := by decide +kernel
theorem dX5_move_2 : decode cX5_move 2 = .ok (.istore_n 1, 1) := by decide +kernel
theorem dX5_move_3 : decode cX5_move 3 = .ok (.iload_n 1, 1) := by decide +kernel
theorem dX5_move_4 : decode cX5_move 4 = .ok (.ifCond .lt 39, 3) := by decide +kernel
theorem dX5_move_7 : decode cX5_move 7 = .ok (.iload_n 1, 1) := by decide +kernel
theorem dX5_move_8 : decode cX5_move 8 = .ok (.istore_n 2, 1) := by decide +kernel
theorem dX5_move_9 : decode cX5_move 9 = .ok (.iload_n 2, 1) := by decide +kernel
theorem dX5_move_10 : decode cX5_move 10 = .ok (.bipush 63, 2) := by decide +kernel
theorem dX5_move_12 : decode cX5_move 12 = .ok (.if_icmp .ge 25, 3) := by decide +kernel
theorem dX5_move_15 : decode cX5_move 15 = .ok (.aload_n 0, 1) := by decide +kernel
theorem dX5_move_16 : decode cX5_move 16 = .ok (.iload_n 2, 1) := by decide +kernel
theorem dX5_move_17 : decode cX5_move 17 = .ok (.aload_n 0, 1) := by decide +kernel
theorem dX5_move_18 : decode cX5_move 18 = .ok (.iload_n 2, 1) := by decide +kernel
theorem dX5_move_19 : decode cX5_move 19 = .ok (.laload, 1) := by decide +kernel
theorem dX5_move_20 : decode cX5_move 20 = .ok (.aload_n 0, 1) := by decide +kernel
theorem dX5_move_21 : decode cX5_move 21 = .ok (.iload_n 2, 1) := by decide +kernel
theorem dX5_move_22 : decode cX5_move 22 = .ok (.iconst 1, 1) := by decide +kernel
theorem dX5_move_23 : decode cX5_move 23 = .ok (.iadd, 1) := by decide +kernel
theorem dX5_move_24 : decode cX5_move 24 = .ok (.laload, 1) := by decide +kernel
theorem dX5_move_25 : decode cX5_move 25 = .ok (.ladd, 1) := by decide +kernel
theorem dX5_move_26 : decode cX5_move 26 = .ok (.ldc2_w 66, 3) := by decide +kernel
theorem dX5_move_29 : decode cX5_move 29 = .ok (.lrem, 1) := by decide +kernel
theorem dX5_move_30 : decode cX5_move 30 = .ok (.lastore, 1) := by decide +kernel
theorem dX5_move_31 : decode cX5_move 31 = .ok (.iinc 2 1, 3) := by decide +kernel
theorem dX5_move_34 : decode cX5_move 34 = .ok (.goto (-25), 3) := by decide +kernel
theorem dX5_move_37 : decode cX5_move 37 = .ok (.iinc 1 (-1), 3) := by decide +kernel
theorem dX5_move_40 : decode cX5_move 40 = .ok (.goto (-37), 3) := by decide +kernel
theorem dX5_move_43 : decode cX5_move 43 = .ok (.return_, 1) := by decide +kernel
set_option maxRecDepth 20000 in
theorem ggX5_lowest_X5_copy : GoodIn wsX5_lowest wsX5_copy := goodIn_r _ [10] (by decide +kernel) (by decide +kernel)
set_option maxRecDepth 20000 in
theorem gX5_lowest_X5_copy : GoodIn wsX5_lowest (va_wsS RX5 83 yX5_copy wsX5_copy) := goodIn_app (goodIn_of _ (by decide +kernel)) ggX5_lowest_X5_copy
set_option maxRecDepth 20000 in
theorem ggX5_lowest_X5_high : GoodIn wsX5_lowest wsX5_high := goodIn_r _ [13] (by decide +kernel) (by decide +kernel)
set_option maxRecDepth 20000 in
theorem gX5_lowest_X5_high : GoodIn wsX5_lowest (va_wsS RX5 72 yX5_high wsX5_high) := goodIn_app (goodIn_of _ (by decide +kernel)) ggX5_lowest_X5_high
set_option maxRecDepth 20000 in
theorem ggX5_lowest_X5_divide : GoodIn wsX5_lowest wsX5_divide := goodIn_r _ [17, 5, 6, 11, 12, 9, 13, 18, 19, 20, 21, 22, 23, 24, 25, 26, 27, 28, 29, 30, 31, 32, 33, 34, 35, 36, 37, 38, 39, 40, 41, 42, 43, 44, 45, 46] (by decide +kernel) (by decide +kernel)
set_option maxRecDepth 20000 in
theorem gX5_lowest_X5_divide : GoodIn wsX5_lowest (wsV RX5 87 RX5 yX5_divide wsX5_divide) := goodIn_app (goodIn_of _ (by decide +kernel)) ggX5_lowest_X5_divide
set_option maxRecDepth 20000 in
theorem ggX5_lowest_X5_inverse : GoodIn wsX5_lowest wsX5_inverse := goodIn_r _ [20, 6] (by decide +kernel) (by decide +kernel)
set_option maxRecDepth 20000 in
theorem gX5_lowest_X5_inverse : GoodIn wsX5_lowest (va_wsS RX5 76 yX5_inverse wsX5_inverse) := goodIn_app (goodIn_of _ (by decide +kernel)) ggX5_lowest_X5_inverse
theorem dX5_lowest_0 : decode cX5_lowest 0 = .ok (.aload_n 0, 1) := by decide +kernel
theorem dX5_lowest_1 : decode cX5_lowest 1 = .ok (.getfield 38, 3) := by decide +kernel
theorem dX5_lowest_4 : decode cX5_lowest 4 = .ok (.aload_n 0, 1) := by decide +kernel
theorem dX5_lowest_5 : decode cX5_lowest 5 = .ok (.getfield 22, 3) := by decide +kernel
theorem dX5_lowest_8 : decode cX5_lowest 8 = .ok (.invokestatic 83, 3) := by decide +kernel
theorem dX5_lowest_11 : decode cX5_lowest 11 = .ok (.aload_n 0, 1) := by decide +kernel
theorem dX5_lowest_12 : decode cX5_lowest 12 = .ok (.getfield 41, 3) := by decide +kernel
theorem dX5_lowest_15 : decode cX5_lowest 15 = .ok (.aload_n 0, 1) := by decide +kernel
theorem dX5_lowest_16 : decode cX5_lowest 16 = .ok (.getfield 26, 3) := by decide +kernel
theorem dX5_lowest_19 : decode cX5_lowest 19 = .ok (.invokestatic 83, 3) := by decide +kernel
theorem dX5_lowest_22 : decode cX5_lowest 22 = .ok (.aload_n 0, 1) := by decide +kernel
theorem dX5_lowest_23 : decode cX5_lowest 23 = .ok (.getfield 41, 3) := by decide +kernel
theorem dX5_lowest_26 : decode cX5_lowest 26 = .ok (.invokestatic 72, 3) := by decide +kernel
theorem dX5_lowest_29 : decode cX5_lowest 29 = .ok (.ifCond .lt 58, 3) := by decide +kernel
theorem dX5_lowest_32 : decode cX5_lowest 32 = .ok (.aload_n 0, 1) := by decide +kernel
theorem dX5_lowest_33 : decode cX5_lowest 33 = .ok (.aload_n 0, 1) := by decide +kernel
theorem dX5_lowest_34 : decode cX5_lowest 34 = .ok (.getfield 38, 3) := by decide +kernel
theorem dX5_lowest_37 : decode cX5_lowest 37 = .ok (.aload_n 0, 1) := by decide +kernel
theorem dX5_lowest_38 : decode cX5_lowest 38 = .ok (.getfield 41, 3) := by decide +kernel
theorem dX5_lowest_41 : decode cX5_lowest 41 = .ok (.invokevirtual 87, 3) := by decide +kernel
theorem dX5_lowest_44 : decode cX5_lowest 44 = .ok (.iconst 0, 1) := by decide +kernel
theorem dX5_lowest_45 : decode cX5_lowest 45 = .ok (.istore_n 1, 1) := by decide +kernel
theorem dX5_lowest_46 : decode cX5_lowest 46 = .ok (.iload_n 1, 1) := by decide +kernel
theorem dX5_lowest_47 : decode cX5_lowest 47 = .ok (.bipush 64, 2) := by decide +kernel
theorem dX5_lowest_49 : decode cX5_lowest 49 = .ok (.if_icmp .ge 35, 3) := by decide +kernel
theorem dX5_lowest_52 : decode cX5_lowest 52 = .ok (.aload_n 0, 1) := by decide +kernel
theorem dX5_lowest_53 : decode cX5_lowest 53 = .ok (.getfield 38, 3) := by decide +kernel
theorem dX5_lowest_56 : decode cX5_lowest 56 = .ok (.iload_n 1, 1) := by decide +kernel
theorem dX5_lowest_57 : decode cX5_lowest 57 = .ok (.laload, 1) := by decide +kernel
theorem dX5_lowest_58 : decode cX5_lowest 58 = .ok (.lstore_n 2, 1) := by decide +kernel
theorem dX5_lowest_59 : decode cX5_lowest 59 = .ok (.aload_n 0, 1) := by decide +kernel
theorem dX5_lowest_60 : decode cX5_lowest 60 = .ok (.getfield 38, 3) := by decide +kernel
theorem dX5_lowest_63 : decode cX5_lowest 63 = .ok (.iload_n 1, 1) := by decide +kernel
theorem dX5_lowest_64 : decode cX5_lowest 64 = .ok (.aload_n 0, 1) := by decide +kernel
theorem dX5_lowest_65 : decode cX5_lowest 65 = .ok (.getfield 41, 3) := by decide +kernel
theorem dX5_lowest_68 : decode cX5_lowest 68 = .ok (.iload_n 1, 1) := by decide +kernel
theorem dX5_lowest_69 : decode cX5_lowest 69 = .ok (.laload, 1) := by decide +kernel
theorem dX5_lowest_70 : decode cX5_lowest 70 = .ok (.lastore, 1) := by decide +kernel
theorem dX5_lowest_71 : decode cX5_lowest 71 = .ok (.aload_n 0, 1) := by decide +kernel
theorem dX5_lowest_72 : decode cX5_lowest 72 = .ok (.getfield 41, 3) := by decide +kernel
theorem dX5_lowest_75 : decode cX5_lowest 75 = .ok (.iload_n 1, 1) := by decide +kernel
theorem dX5_lowest_76 : decode cX5_lowest 76 = .ok (.lload_n 2, 1) := by decide +kernel
theorem dX5_lowest_77 : decode cX5_lowest 77 = .ok (.lastore, 1) := by decide +kernel
theorem dX5_lowest_78 : decode cX5_lowest 78 = .ok (.iinc 1 1, 3) := by decide +kernel
theorem dX5_lowest_81 : decode cX5_lowest 81 = .ok (.goto (-35), 3) := by decide +kernel
theorem dX5_lowest_84 : decode cX5_lowest 84 = .ok (.goto (-62), 3) := by decide +kernel
theorem dX5_lowest_87 : decode cX5_lowest 87 = .ok (.aload_n 0, 1) := by decide +kernel
theorem dX5_lowest_88 : decode cX5_lowest 88 = .ok (.aload_n 0, 1) := by decide +kernel
theorem dX5_lowest_89 : decode cX5_lowest 89 = .ok (.getfield 22, 3) := by decide +kernel
theorem dX5_lowest_92 : decode cX5_lowest 92 = .ok (.aload_n 0, 1) := by decide +kernel
theorem dX5_lowest_93 : decode cX5_lowest 93 = .ok (.getfield 38, 3) := by decide +kernel
theorem dX5_lowest_96 : decode cX5_lowest 96 = .ok (.invokevirtual 87, 3) := by decide +kernel
theorem dX5_lowest_99 : decode cX5_lowest 99 = .ok (.aload_n 0, 1) := by decide +kernel
theorem dX5_lowest_100 : decode cX5_lowest 100 = .ok (.getfield 22, 3) := by decide +kernel
theorem dX5_lowest_103 : decode cX5_lowest 103 = .ok (.aload_n 0, 1) := by decide +kernel
theorem dX5_lowest_104 : decode cX5_lowest 104 = .ok (.getfield 44, 3) := by decide +kernel
theorem dX5_lowest_107 : decode cX5_lowest 107 = .ok (.invokestatic 83, 3) := by decide +kernel
theorem dX5_lowest_110 : decode cX5_lowest 110 = .ok (.aload_n 0, 1) := by decide +kernel
theorem dX5_lowest_111 : decode cX5_lowest 111 = .ok (.aload_n 0, 1) := by decide +kernel
theorem dX5_lowest_112 : decode cX5_lowest 112 = .ok (.getfield 26, 3) := by decide +kernel
theorem dX5_lowest_115 : decode cX5_lowest 115 = .ok (.aload_n 0, 1) := by decide +kernel
theorem dX5_lowest_116 : decode cX5_lowest 116 = .ok (.getfield 38, 3) := by decide +kernel
theorem dX5_lowest_119 : decode cX5_lowest 119 = .ok (.invokevirtual 87, 3) := by decide +kernel
theorem dX5_lowest_122 : decode cX5_lowest 122 = .ok (.aload_n 0, 1) := by decide +kernel
theorem dX5_lowest_123 : decode cX5_lowest 123 = .ok (.getfield 26, 3) := by decide +kernel
theorem dX5_lowest_126 : decode cX5_lowest 126 = .ok (.aload_n 0, 1) := by decide +kernel
theorem dX5_lowest_127 : decode cX5_lowest 127 = .ok (.getfield 44, 3) := by decide +kernel
theorem dX5_lowest_130 : decode cX5_lowest 130 = .ok (.invokestatic 83, 3) := by decide +kernel
theorem dX5_lowest_133 : decode cX5_lowest 133 = .ok (.aload_n 0, 1) := by decide +kernel
theorem dX5_lowest_134 : decode cX5_lowest 134 = .ok (.getfield 26, 3) := by decide +kernel
theorem dX5_lowest_137 : decode cX5_lowest 137 = .ok (.aload_n 0, 1) := by decide +kernel
theorem dX5_lowest_138 : decode cX5_lowest 138 = .ok (.getfield 26, 3) := by decide +kernel
theorem dX5_lowest_141 : decode cX5_lowest 141 = .ok (.invokestatic 72, 3) := by decide +kernel
theorem dX5_lowest_144 : decode cX5_lowest 144 = .ok (.laload, 1) := by decide +kernel
theorem dX5_lowest_145 : decode cX5_lowest 145 = .ok (.invokestatic 76, 3) := by decide +kernel
theorem dX5_lowest_148 : decode cX5_lowest 148 = .ok (.lstore_n 1, 1) := by decide +kernel
theorem dX5_lowest_149 : decode cX5_lowest 149 = .ok (.iconst 0, 1) := by decide +kernel
theorem dX5_lowest_150 : decode cX5_lowest 150 = .ok (.istore_n 3, 1) := by decide +kernel
theorem dX5_lowest_151 : decode cX5_lowest 151 = .ok (.iload_n 3, 1) := by decide +kernel
theorem dX5_lowest_152 : decode cX5_lowest 152 = .ok (.bipush 64, 2) := by decide +kernel
theorem dX5_lowest_154 : decode cX5_lowest 154 = .ok (.if_icmp .ge 45, 3) := by decide +kernel
theorem dX5_lowest_157 : decode cX5_lowest 157 = .ok (.aload_n 0, 1) := by decide +kernel
theorem dX5_lowest_158 : decode cX5_lowest 158 = .ok (.getfield 22, 3) := by decide +kernel
theorem dX5_lowest_161 : decode cX5_lowest 161 = .ok (.iload_n 3, 1) := by decide +kernel
theorem dX5_lowest_162 : decode cX5_lowest 162 = .ok (.aload_n 0, 1) := by decide +kernel
theorem dX5_lowest_163 : decode cX5_lowest 163 = .ok (.getfield 22, 3) := by decide +kernel
theorem dX5_lowest_166 : decode cX5_lowest 166 = .ok (.iload_n 3, 1) := by decide +kernel
theorem dX5_lowest_167 : decode cX5_lowest 167 = .ok (.laload, 1) := by decide +kernel
theorem dX5_lowest_168 : decode cX5_lowest 168 = .ok (.lload_n 1, 1) := by decide +kernel
theorem dX5_lowest_169 : decode cX5_lowest 169 = .ok (.lmul, 1) := by decide +kernel
theorem dX5_lowest_170 : decode cX5_lowest 170 = .ok (.ldc2_w 66, 3) := by decide +kernel
theorem dX5_lowest_173 : decode cX5_lowest 173 = .ok (.lrem, 1) := by decide +kernel
theorem dX5_lowest_174 : decode cX5_lowest 174 = .ok (.lastore, 1) := by decide +kernel
theorem dX5_lowest_175 : decode cX5_lowest 175 = .ok (.aload_n 0, 1) := by decide +kernel
theorem dX5_lowest_176 : decode cX5_lowest 176 = .ok (.getfield 26, 3) := by decide +kernel
theorem dX5_lowest_179 : decode cX5_lowest 179 = .ok (.iload_n 3, 1) := by decide +kernel
theorem dX5_lowest_180 : decode cX5_lowest 180 = .ok (.aload_n 0, 1) := by decide +kernel
theorem dX5_lowest_181 : decode cX5_lowest 181 = .ok (.getfield 26, 3) := by decide +kernel
theorem dX5_lowest_184 : decode cX5_lowest 184 = .ok (.iload_n 3, 1) := by decide +kernel
theorem dX5_lowest_185 : decode cX5_lowest 185 = .ok (.laload, 1) := by decide +kernel
theorem dX5_lowest_186 : decode cX5_lowest 186 = .ok (.lload_n 1, 1) := by decide +kernel
theorem dX5_lowest_187 : decode cX5_lowest 187 = .ok (.lmul, 1) := by decide +kernel
theorem dX5_lowest_188 : decode cX5_lowest 188 = .ok (.ldc2_w 66, 3) := by decide +kernel
theorem dX5_lowest_191 : decode cX5_lowest 191 = .ok (.lrem, 1) := by decide +kernel
theorem dX5_lowest_192 : decode cX5_lowest 192 = .ok (.lastore, 1) := by decide +kernel
theorem dX5_lowest_193 : decode cX5_lowest 193 = .ok (.iinc 3 1, 3) := by decide +kernel
theorem dX5_lowest_196 : decode cX5_lowest 196 = .ok (.goto (-45), 3) := by decide +kernel
theorem dX5_lowest_199 : decode cX5_lowest 199 = .ok (.return_, 1) := by decide +kernel
set_option maxRecDepth 20000 in
theorem ggX5_isThere_X5_in : GoodIn wsX5_isThere wsX5_in := goodIn_r _ [5] (by decide +kernel) (by decide +kernel)
set_option maxRecDepth 20000 in
theorem gX5_isThere_X5_in : GoodIn wsX5_isThere (va_wsS RX5 93 yX5_in wsX5_in) := goodIn_app (goodIn_of _ (by decide +kernel)) ggX5_isThere_X5_in
theorem dX5_isThere_0 : decode cX5_isThere 0 = .ok (.iload_n 1, 1) := by decide +kernel
theorem dX5_isThere_1 : decode cX5_isThere 1 = .ok (.i2l, 1) := by decide +kernel
theorem dX5_isThere_2 : decode cX5_isThere 2 = .ok (.lconst 0, 1) := by decide +kernel
theorem dX5_isThere_3 : decode cX5_isThere 3 = .ok (.aload_n 0, 1) := by decide +kernel
theorem dX5_isThere_4 : decode cX5_isThere 4 = .ok (.getfield 90, 3) := by decide +kernel
theorem dX5_isThere_7 : decode cX5_isThere 7 = .ok (.iconst 1, 1) := by decide +kernel
theorem dX5_isThere_8 : decode cX5_isThere 8 = .ok (.isub, 1) := by decide +kernel
theorem dX5_isThere_9 : decode cX5_isThere 9 = .ok (.i2l, 1) := by decide +kernel
theorem dX5_isThere_10 : decode cX5_isThere 10 = .ok (.invokestatic 93, 3) := by decide +kernel
theorem dX5_isThere_13 : decode cX5_isThere 13 = .ok (.ireturn, 1) := by decide +kernel
set_option maxRecDepth 20000 in
theorem ggX5_keep_X5_high : GoodIn wsX5_keep wsX5_high := goodIn_r _ [10] (by decide +kernel) (by decide +kernel)
set_option maxRecDepth 20000 in
theorem gX5_keep_X5_high : GoodIn wsX5_keep (va_wsS RX5 72 yX5_high wsX5_high) := goodIn_app (goodIn_of _ (by decide +kernel)) ggX5_keep_X5_high
set_option maxRecDepth 20000 in
theorem ggX5_keep_X5_raise : GoodIn wsX5_keep wsX5_raise := goodIn_r _ [14, 4, 15, 16, 17, 18, 19, 20, 21, 22, 23, 24, 25, 26, 27, 28, 29, 30, 31, 32, 33, 34] (by decide +kernel) (by decide +kernel)
set_option maxRecDepth 20000 in
theorem gX5_keep_X5_raise : GoodIn wsX5_keep (wsV RX5 97 RX5 yX5_raise wsX5_raise) := goodIn_app (goodIn_of _ (by decide +kernel)) ggX5_keep_X5_raise
theorem dX5_keep_0 : decode cX5_keep 0 = .ok (.aload_n 0, 1) := by decide +kernel
theorem dX5_keep_1 : decode cX5_keep 1 = .ok (.getfield 90, 3) := by decide +kernel
theorem dX5_keep_4 : decode cX5_keep 4 = .ok (.bipush 50, 2) := by decide +kernel
theorem dX5_keep_6 : decode cX5_keep 6 = .ok (.if_icmp .eq 27, 3) := by decide +kernel
theorem dX5_keep_9 : decode cX5_keep 9 = .ok (.aload_n 0, 1) := by decide +kernel
theorem dX5_keep_10 : decode cX5_keep 10 = .ok (.getfield 22, 3) := by decide +kernel
theorem dX5_keep_13 : decode cX5_keep 13 = .ok (.invokestatic 72, 3) := by decide +kernel
theorem dX5_keep_16 : decode cX5_keep 16 = .ok (.bipush 20, 2) := by decide +kernel
theorem dX5_keep_18 : decode cX5_keep 18 = .ok (.if_icmp .gt 15, 3) := by decide +kernel
theorem dX5_keep_21 : decode cX5_keep 21 = .ok (.aload_n 0, 1) := by decide +kernel
theorem dX5_keep_22 : decode cX5_keep 22 = .ok (.getfield 26, 3) := by decide +kernel
theorem dX5_keep_25 : decode cX5_keep 25 = .ok (.invokestatic 72, 3) := by decide +kernel
theorem dX5_keep_28 : decode cX5_keep 28 = .ok (.bipush 20, 2) := by decide +kernel
theorem dX5_keep_30 : decode cX5_keep 30 = .ok (.if_icmp .le 9, 3) := by decide +kernel
theorem dX5_keep_33 : decode cX5_keep 33 = .ok (.aload_n 0, 1) := by decide +kernel
theorem dX5_keep_34 : decode cX5_keep 34 = .ok (.iload_n 1, 1) := by decide +kernel
theorem dX5_keep_35 : decode cX5_keep 35 = .ok (.invokevirtual 97, 3) := by decide +kernel
theorem dX5_keep_38 : decode cX5_keep 38 = .ok (.ireturn, 1) := by decide +kernel
theorem dX5_keep_39 : decode cX5_keep 39 = .ok (.aload_n 0, 1) := by decide +kernel
theorem dX5_keep_40 : decode cX5_keep 40 = .ok (.iconst 0, 1) := by decide +kernel
theorem dX5_keep_41 : decode cX5_keep 41 = .ok (.putfield 62, 3) := by decide +kernel
theorem dX5_keep_44 : decode cX5_keep 44 = .ok (.iconst 0, 1) := by decide +kernel
theorem dX5_keep_45 : decode cX5_keep 45 = .ok (.istore_n 2, 1) := by decide +kernel
theorem dX5_keep_46 : decode cX5_keep 46 = .ok (.iload_n 2, 1) := by decide +kernel
theorem dX5_keep_47 : decode cX5_keep 47 = .ok (.bipush 20, 2) := by decide +kernel
theorem dX5_keep_49 : decode cX5_keep 49 = .ok (.if_icmp .gt 51, 3) := by decide +kernel
theorem dX5_keep_52 : decode cX5_keep 52 = .ok (.aload_n 0, 1) := by decide +kernel
theorem dX5_keep_53 : decode cX5_keep 53 = .ok (.getfield 7, 3) := by decide +kernel
theorem dX5_keep_56 : decode cX5_keep 56 = .ok (.bipush 21, 2) := by decide +kernel
theorem dX5_keep_58 : decode cX5_keep 58 = .ok (.aload_n 0, 1) := by decide +kernel
theorem dX5_keep_59 : decode cX5_keep 59 = .ok (.getfield 90, 3) := by decide +kernel
theorem dX5_keep_62 : decode cX5_keep 62 = .ok (.imul, 1) := by decide +kernel
theorem dX5_keep_63 : decode cX5_keep 63 = .ok (.iload_n 2, 1) := by decide +kernel
theorem dX5_keep_64 : decode cX5_keep 64 = .ok (.iadd, 1) := by decide +kernel
theorem dX5_keep_65 : decode cX5_keep 65 = .ok (.aload_n 0, 1) := by decide +kernel
theorem dX5_keep_66 : decode cX5_keep 66 = .ok (.getfield 22, 3) := by decide +kernel
theorem dX5_keep_69 : decode cX5_keep 69 = .ok (.iload_n 2, 1) := by decide +kernel
theorem dX5_keep_70 : decode cX5_keep 70 = .ok (.laload, 1) := by decide +kernel
theorem dX5_keep_71 : decode cX5_keep 71 = .ok (.l2i, 1) := by decide +kernel
theorem dX5_keep_72 : decode cX5_keep 72 = .ok (.iastore, 1) := by decide +kernel
theorem dX5_keep_73 : decode cX5_keep 73 = .ok (.aload_n 0, 1) := by decide +kernel
theorem dX5_keep_74 : decode cX5_keep 74 = .ok (.getfield 13, 3) := by decide +kernel
theorem dX5_keep_77 : decode cX5_keep 77 = .ok (.bipush 21, 2) := by decide +kernel
theorem dX5_keep_79 : decode cX5_keep 79 = .ok (.aload_n 0, 1) := by decide +kernel
theorem dX5_keep_80 : decode cX5_keep 80 = .ok (.getfield 90, 3) := by decide +kernel
theorem dX5_keep_83 : decode cX5_keep 83 = .ok (.imul, 1) := by decide +kernel
theorem dX5_keep_84 : decode cX5_keep 84 = .ok (.iload_n 2, 1) := by decide +kernel
theorem dX5_keep_85 : decode cX5_keep 85 = .ok (.iadd, 1) := by decide +kernel
theorem dX5_keep_86 : decode cX5_keep 86 = .ok (.aload_n 0, 1) := by decide +kernel
theorem dX5_keep_87 : decode cX5_keep 87 = .ok (.getfield 26, 3) := by decide +kernel
theorem dX5_keep_90 : decode cX5_keep 90 = .ok (.iload_n 2, 1) := by decide +kernel
theorem dX5_keep_91 : decode cX5_keep 91 = .ok (.laload, 1) := by decide +kernel
theorem dX5_keep_92 : decode cX5_keep 92 = .ok (.l2i, 1) := by decide +kernel
theorem dX5_keep_93 : decode cX5_keep 93 = .ok (.iastore, 1) := by decide +kernel
theorem dX5_keep_94 : decode cX5_keep 94 = .ok (.iinc 2 1, 3) := by decide +kernel
theorem dX5_keep_97 : decode cX5_keep 97 = .ok (.goto (-51), 3) := by decide +kernel
theorem dX5_keep_100 : decode cX5_keep 100 = .ok (.aload_n 0, 1) := by decide +kernel
theorem dX5_keep_101 : decode cX5_keep 101 = .ok (.dup, 1) := by decide +kernel
theorem dX5_keep_102 : decode cX5_keep 102 = .ok (.getfield 90, 3) := by decide +kernel
theorem dX5_keep_105 : decode cX5_keep 105 = .ok (.iconst 1, 1) := by decide +kernel
theorem dX5_keep_106 : decode cX5_keep 106 = .ok (.iadd, 1) := by decide +kernel
theorem dX5_keep_107 : decode cX5_keep 107 = .ok (.putfield 90, 3) := by decide +kernel
theorem dX5_keep_110 : decode cX5_keep 110 = .ok (.aload_n 0, 1) := by decide +kernel
theorem dX5_keep_111 : decode cX5_keep 111 = .ok (.getfield 90, 3) := by decide +kernel
theorem dX5_keep_114 : decode cX5_keep 114 = .ok (.iconst 1, 1) := by decide +kernel
theorem dX5_keep_115 : decode cX5_keep 115 = .ok (.isub, 1) := by decide +kernel
theorem dX5_keep_116 : decode cX5_keep 116 = .ok (.ireturn, 1) := by decide +kernel
set_option maxRecDepth 20000 in
theorem ggX5_loadTop_X5_load : GoodIn wsX5_loadTop wsX5_load := goodIn_r _ [5] (by decide +kernel) (by decide +kernel)
set_option maxRecDepth 20000 in
theorem gX5_loadTop_X5_load : GoodIn wsX5_loadTop (va_wsS RX5 101 yX5_load wsX5_load) := goodIn_app (goodIn_of _ (by decide +kernel)) ggX5_loadTop_X5_load
theorem dX5_loadTop_0 : decode cX5_loadTop 0 = .ok (.aload_n 1, 1) := by decide +kernel
theorem dX5_loadTop_1 : decode cX5_loadTop 1 = .ok (.aload_n 0, 1) := by decide +kernel
theorem dX5_loadTop_2 : decode cX5_loadTop 2 = .ok (.getfield 7, 3) := by decide +kernel
theorem dX5_loadTop_5 : decode cX5_loadTop 5 = .ok (.bipush 21, 2) := by decide +kernel
theorem dX5_loadTop_7 : decode cX5_loadTop 7 = .ok (.iload_n 2, 1) := by decide +kernel
theorem dX5_loadTop_8 : decode cX5_loadTop 8 = .ok (.imul, 1) := by decide +kernel
theorem dX5_loadTop_9 : decode cX5_loadTop 9 = .ok (.bipush 21, 2) := by decide +kernel
theorem dX5_loadTop_11 : decode cX5_loadTop 11 = .ok (.invokestatic 101, 3) := by decide +kernel
theorem dX5_loadTop_14 : decode cX5_loadTop 14 = .ok (.return_, 1) := by decide +kernel
set_option maxRecDepth 20000 in
theorem ggX5_loadBottom_X5_load : GoodIn wsX5_loadBottom wsX5_load := goodIn_r _ [5] (by decide +kernel) (by decide +kernel)
set_option maxRecDepth 20000 in
theorem gX5_loadBottom_X5_load : GoodIn wsX5_loadBottom (va_wsS RX5 101 yX5_load wsX5_load) := goodIn_app (goodIn_of _ (by decide +kernel)) ggX5_loadBottom_X5_load
theorem dX5_loadBottom_0 : decode cX5_loadBottom 0 = .ok (.aload_n 1, 1) := by decide +kernel
theorem dX5_loadBottom_1 : decode cX5_loadBottom 1 = .ok (.aload_n 0, 1) := by decide +kernel
theorem dX5_loadBottom_2 : decode cX5_loadBottom 2 = .ok (.getfield 13, 3) := by decide +kernel
theorem dX5_loadBottom_5 : decode cX5_loadBottom 5 = .ok (.bipush 21, 2) := by decide +kernel
theorem dX5_loadBottom_7 : decode cX5_loadBottom 7 = .ok (.iload_n 2, 1) := by decide +kernel
theorem dX5_loadBottom_8 : decode cX5_loadBottom 8 = .ok (.imul, 1) := by decide +kernel
theorem dX5_loadBottom_9 : decode cX5_loadBottom 9 = .ok (.bipush 21, 2) := by decide +kernel
theorem dX5_loadBottom_11 : decode cX5_loadBottom 11 = .ok (.invokestatic 101, 3) := by decide +kernel
theorem dX5_loadBottom_14 : decode cX5_loadBottom 14 = .ok (.return_, 1) := by decide +kernel
set_option maxRecDepth 20000 in
theorem ggX5_ratio_X5_in : GoodIn wsX5_ratio wsX5_in := goodIn_r _ [8] (by decide +kernel) (by decide +kernel)
set_option maxRecDepth 20000 in
theorem gX5_ratio_X5_in : GoodIn wsX5_ratio (va_wsS RX5 93 yX5_in wsX5_in) := goodIn_app (goodIn_of _ (by decide +kernel)) ggX5_ratio_X5_in
set_option maxRecDepth 20000 in
theorem ggX5_ratio_X5_modulo : GoodIn wsX5_ratio wsX5_modulo := goodIn_r _ [11, 12] (by decide +kernel) (by decide +kernel)
set_option maxRecDepth 20000 in
theorem gX5_ratio_X5_modulo : GoodIn wsX5_ratio (va_wsS RX5 80 yX5_modulo wsX5_modulo) := goodIn_app (goodIn_of _ (by decide +kernel)) ggX5_ratio_X5_modulo
theorem dX5_ratio_0 : decode cX5_ratio 0 = .ok (.aload_n 0, 1) := by decide +kernel
theorem dX5_ratio_1 : decode cX5_ratio 1 = .ok (.iload_n 2, 1) := by decide +kernel
theorem dX5_ratio_2 : decode cX5_ratio 2 = .ok (.i2l, 1) := by decide +kernel
theorem dX5_ratio_3 : decode cX5_ratio 3 = .ok (.lconst 0, 1) := by decide +kernel
theorem dX5_ratio_4 : decode cX5_ratio 4 = .ok (.ldc2_w 105, 3) := by decide +kernel
theorem dX5_ratio_7 : decode cX5_ratio 7 = .ok (.invokestatic 93, 3) := by decide +kernel
theorem dX5_ratio_10 : decode cX5_ratio 10 = .ok (.ifCond .eq 7, 3) := by decide +kernel
theorem dX5_ratio_13 : decode cX5_ratio 13 = .ok (.iconst 0, 1) := by decide +kernel
theorem dX5_ratio_14 : decode cX5_ratio 14 = .ok (.goto 4, 3) := by decide +kernel
theorem dX5_ratio_17 : decode cX5_ratio 17 = .ok (.iconst 1, 1) := by decide +kernel
theorem dX5_ratio_18 : decode cX5_ratio 18 = .ok (.putfield 62, 3) := by decide +kernel
theorem dX5_ratio_21 : decode cX5_ratio 21 = .ok (.aload_n 0, 1) := by decide +kernel
theorem dX5_ratio_22 : decode cX5_ratio 22 = .ok (.getfield 62, 3) := by decide +kernel
theorem dX5_ratio_25 : decode cX5_ratio 25 = .ok (.ifCond .le 5, 3) := by decide +kernel
theorem dX5_ratio_28 : decode cX5_ratio 28 = .ok (.iconst 0, 1) := by decide +kernel
theorem dX5_ratio_29 : decode cX5_ratio 29 = .ok (.ireturn, 1) := by decide +kernel
theorem dX5_ratio_30 : decode cX5_ratio 30 = .ok (.iload_n 1, 1) := by decide +kernel
theorem dX5_ratio_31 : decode cX5_ratio 31 = .ok (.ifCond .eq 12, 3) := by decide +kernel
theorem dX5_ratio_34 : decode cX5_ratio 34 = .ok (.aload_n 0, 1) := by decide +kernel
theorem dX5_ratio_35 : decode cX5_ratio 35 = .ok (.getfield 16, 3) := by decide +kernel
theorem dX5_ratio_38 : decode cX5_ratio 38 = .ok (.iload_n 2, 1) := by decide +kernel
theorem dX5_ratio_39 : decode cX5_ratio 39 = .ok (.iaload, 1) := by decide +kernel
theorem dX5_ratio_40 : decode cX5_ratio 40 = .ok (.goto 9, 3) := by decide +kernel
theorem dX5_ratio_43 : decode cX5_ratio 43 = .ok (.aload_n 0, 1) := by decide +kernel
theorem dX5_ratio_44 : decode cX5_ratio 44 = .ok (.getfield 19, 3) := by decide +kernel
theorem dX5_ratio_47 : decode cX5_ratio 47 = .ok (.iload_n 2, 1) := by decide +kernel
theorem dX5_ratio_48 : decode cX5_ratio 48 = .ok (.iaload, 1) := by decide +kernel
theorem dX5_ratio_49 : decode cX5_ratio 49 = .ok (.istore 5, 2) := by decide +kernel
theorem dX5_ratio_51 : decode cX5_ratio 51 = .ok (.lload_n 3, 1) := by decide +kernel
theorem dX5_ratio_52 : decode cX5_ratio 52 = .ok (.invokestatic 80, 3) := by decide +kernel
theorem dX5_ratio_55 : decode cX5_ratio 55 = .ok (.l2i, 1) := by decide +kernel
theorem dX5_ratio_56 : decode cX5_ratio 56 = .ok (.istore 6, 2) := by decide +kernel
theorem dX5_ratio_58 : decode cX5_ratio 58 = .ok (.iload_n 1, 1) := by decide +kernel
theorem dX5_ratio_59 : decode cX5_ratio 59 = .ok (.ifCond .eq 14, 3) := by decide +kernel
theorem dX5_ratio_62 : decode cX5_ratio 62 = .ok (.aload_n 0, 1) := by decide +kernel
theorem dX5_ratio_63 : decode cX5_ratio 63 = .ok (.getfield 16, 3) := by decide +kernel
theorem dX5_ratio_66 : decode cX5_ratio 66 = .ok (.iload_n 2, 1) := by decide +kernel
theorem dX5_ratio_67 : decode cX5_ratio 67 = .ok (.iload 6, 2) := by decide +kernel
theorem dX5_ratio_69 : decode cX5_ratio 69 = .ok (.iastore, 1) := by decide +kernel
theorem dX5_ratio_70 : decode cX5_ratio 70 = .ok (.goto 11, 3) := by decide +kernel
theorem dX5_ratio_73 : decode cX5_ratio 73 = .ok (.aload_n 0, 1) := by decide +kernel
theorem dX5_ratio_74 : decode cX5_ratio 74 = .ok (.getfield 19, 3) := by decide +kernel
theorem dX5_ratio_77 : decode cX5_ratio 77 = .ok (.iload_n 2, 1) := by decide +kernel
theorem dX5_ratio_78 : decode cX5_ratio 78 = .ok (.iload 6, 2) := by decide +kernel
theorem dX5_ratio_80 : decode cX5_ratio 80 = .ok (.iastore, 1) := by decide +kernel
theorem dX5_ratio_81 : decode cX5_ratio 81 = .ok (.iload 5, 2) := by decide +kernel
theorem dX5_ratio_83 : decode cX5_ratio 83 = .ok (.iload 6, 2) := by decide +kernel
theorem dX5_ratio_85 : decode cX5_ratio 85 = .ok (.if_icmp .eq 7, 3) := by decide +kernel
theorem dX5_ratio_88 : decode cX5_ratio 88 = .ok (.iconst 1, 1) := by decide +kernel
theorem dX5_ratio_89 : decode cX5_ratio 89 = .ok (.goto 4, 3) := by decide +kernel
theorem dX5_ratio_92 : decode cX5_ratio 92 = .ok (.iconst 0, 1) := by decide +kernel
theorem dX5_ratio_93 : decode cX5_ratio 93 = .ok (.ireturn, 1) := by decide +kernel
theorem dX5_isNoRatio_0 : decode cX5_isNoRatio 0 = .ok (.aload_n 0, 1) := by decide +kernel
theorem dX5_isNoRatio_1 : decode cX5_isNoRatio 1 = .ok (.getfield 19, 3) := by decide +kernel
theorem dX5_isNoRatio_4 : decode cX5_isNoRatio 4 = .ok (.iconst 0, 1) := by decide +kernel
theorem dX5_isNoRatio_5 : decode cX5_isNoRatio 5 = .ok (.iaload, 1) := by decide +kernel
theorem dX5_isNoRatio_6 : decode cX5_isNoRatio 6 = .ok (.ifCond .ne 34, 3) := by decide +kernel
theorem dX5_isNoRatio_9 : decode cX5_isNoRatio 9 = .ok (.aload_n 0, 1) := by decide +kernel
theorem dX5_isNoRatio_10 : decode cX5_isNoRatio 10 = .ok (.getfield 19, 3) := by decide +kernel
theorem dX5_isNoRatio_13 : decode cX5_isNoRatio 13 = .ok (.iconst 1, 1) := by decide +kernel
theorem dX5_isNoRatio_14 : decode cX5_isNoRatio 14 = .ok (.iaload, 1) := by decide +kernel
theorem dX5_isNoRatio_15 : decode cX5_isNoRatio 15 = .ok (.ifCond .ne 25, 3) := by decide +kernel
theorem dX5_isNoRatio_18 : decode cX5_isNoRatio 18 = .ok (.aload_n 0, 1) := by decide +kernel
theorem dX5_isNoRatio_19 : decode cX5_isNoRatio 19 = .ok (.getfield 19, 3) := by decide +kernel
theorem dX5_isNoRatio_22 : decode cX5_isNoRatio 22 = .ok (.iconst 2, 1) := by decide +kernel
theorem dX5_isNoRatio_23 : decode cX5_isNoRatio 23 = .ok (.iaload, 1) := by decide +kernel
theorem dX5_isNoRatio_24 : decode cX5_isNoRatio 24 = .ok (.ifCond .ne 16, 3) := by decide +kernel
theorem dX5_isNoRatio_27 : decode cX5_isNoRatio 27 = .ok (.aload_n 0, 1) := by decide +kernel
theorem dX5_isNoRatio_28 : decode cX5_isNoRatio 28 = .ok (.getfield 19, 3) := by decide +kernel
theorem dX5_isNoRatio_31 : decode cX5_isNoRatio 31 = .ok (.iconst 3, 1) := by decide +kernel
theorem dX5_isNoRatio_32 : decode cX5_isNoRatio 32 = .ok (.iaload, 1) := by decide +kernel
theorem dX5_isNoRatio_33 : decode cX5_isNoRatio 33 = .ok (.ifCond .ne 7, 3) := by decide +kernel
theorem dX5_isNoRatio_36 : decode cX5_isNoRatio 36 = .ok (.iconst 1, 1) := by decide +kernel
theorem dX5_isNoRatio_37 : decode cX5_isNoRatio 37 = .ok (.goto 4, 3) := by decide +kernel
theorem dX5_isNoRatio_40 : decode cX5_isNoRatio 40 = .ok (.iconst 0, 1) := by decide +kernel
theorem dX5_isNoRatio_41 : decode cX5_isNoRatio 41 = .ok (.ireturn, 1) := by decide +kernel
set_option maxRecDepth 20000 in
theorem ggX5_number_X5_empty : GoodIn wsX5_number wsX5_empty := goodIn_r _ [6] (by decide +kernel) (by decide +kernel)
set_option maxRecDepth 20000 in
theorem gX5_number_X5_empty : GoodIn wsX5_number (va_wsS RX5 68 yX5_empty wsX5_empty) := goodIn_app (goodIn_of _ (by decide +kernel)) ggX5_number_X5_empty
set_option maxRecDepth 20000 in
theorem ggX5_number_X5_modulo : GoodIn wsX5_number wsX5_modulo := goodIn_r _ [9, 10] (by decide +kernel) (by decide +kernel)
set_option maxRecDepth 20000 in
theorem gX5_number_X5_modulo : GoodIn wsX5_number (va_wsS RX5 80 yX5_modulo wsX5_modulo) := goodIn_app (goodIn_of _ (by decide +kernel)) ggX5_number_X5_modulo
set_option maxRecDepth 20000 in
theorem ggX5_number_X5_keep : GoodIn wsX5_number wsX5_keep := goodIn_r _ [14, 15, 1, 2, 16, 17, 18, 19, 20, 5, 21, 22, 23, 24, 25, 26, 27, 28, 29, 30, 31, 32, 33, 34, 35, 36, 37, 38, 39, 40, 41, 42, 43, 44, 45] (by decide +kernel) (by decide +kernel)
set_option maxRecDepth 20000 in
theorem gX5_number_X5_keep : GoodIn wsX5_number (wsV RX5 107 RX5 yX5_keep wsX5_keep) := goodIn_app (goodIn_of _ (by decide +kernel)) ggX5_number_X5_keep
theorem dX5_number_0 : decode cX5_number 0 = .ok (.aload_n 0, 1) := by decide +kernel
theorem dX5_number_1 : decode cX5_number 1 = .ok (.getfield 22, 3) := by decide +kernel
theorem dX5_number_4 : decode cX5_number 4 = .ok (.invokestatic 68, 3) := by decide +kernel
theorem dX5_number_7 : decode cX5_number 7 = .ok (.aload_n 0, 1) := by decide +kernel
theorem dX5_number_8 : decode cX5_number 8 = .ok (.getfield 26, 3) := by decide +kernel
theorem dX5_number_11 : decode cX5_number 11 = .ok (.invokestatic 68, 3) := by decide +kernel
theorem dX5_number_14 : decode cX5_number 14 = .ok (.aload_n 0, 1) := by decide +kernel
theorem dX5_number_15 : decode cX5_number 15 = .ok (.getfield 22, 3) := by decide +kernel
theorem dX5_number_18 : decode cX5_number 18 = .ok (.iconst 0, 1) := by decide +kernel
theorem dX5_number_19 : decode cX5_number 19 = .ok (.lload_n 1, 1) := by decide +kernel
theorem dX5_number_20 : decode cX5_number 20 = .ok (.invokestatic 80, 3) := by decide +kernel
theorem dX5_number_23 : decode cX5_number 23 = .ok (.lastore, 1) := by decide +kernel
theorem dX5_number_24 : decode cX5_number 24 = .ok (.aload_n 0, 1) := by decide +kernel
theorem dX5_number_25 : decode cX5_number 25 = .ok (.getfield 26, 3) := by decide +kernel
theorem dX5_number_28 : decode cX5_number 28 = .ok (.iconst 0, 1) := by decide +kernel
theorem dX5_number_29 : decode cX5_number 29 = .ok (.lconst 1, 1) := by decide +kernel
theorem dX5_number_30 : decode cX5_number 30 = .ok (.lastore, 1) := by decide +kernel
theorem dX5_number_31 : decode cX5_number 31 = .ok (.aload_n 0, 1) := by decide +kernel
theorem dX5_number_32 : decode cX5_number 32 = .ok (.iconst 1, 1) := by decide +kernel
theorem dX5_number_33 : decode cX5_number 33 = .ok (.invokevirtual 107, 3) := by decide +kernel
theorem dX5_number_36 : decode cX5_number 36 = .ok (.ireturn, 1) := by decide +kernel
set_option maxRecDepth 20000 in
theorem ggX5_letter_X5_empty : GoodIn wsX5_letter wsX5_empty := goodIn_r _ [6] (by decide +kernel) (by decide +kernel)
set_option maxRecDepth 20000 in
theorem gX5_letter_X5_empty : GoodIn wsX5_letter (va_wsS RX5 68 yX5_empty wsX5_empty) := goodIn_app (goodIn_of _ (by decide +kernel)) ggX5_letter_X5_empty
set_option maxRecDepth 20000 in
theorem ggX5_letter_X5_keep : GoodIn wsX5_letter wsX5_keep := goodIn_r _ [10, 11, 1, 2, 12, 13, 14, 15, 16, 5, 17, 18, 19, 20, 21, 22, 23, 24, 25, 26, 27, 28, 29, 30, 31, 32, 33, 34, 35, 36, 37, 38, 39, 40, 41] (by decide +kernel) (by decide +kernel)
set_option maxRecDepth 20000 in
theorem gX5_letter_X5_keep : GoodIn wsX5_letter (wsV RX5 107 RX5 yX5_keep wsX5_keep) := goodIn_app (goodIn_of _ (by decide +kernel)) ggX5_letter_X5_keep
theorem dX5_letter_0 : decode cX5_letter 0 = .ok (.aload_n 0, 1) := by decide +kernel
theorem dX5_letter_1 : decode cX5_letter 1 = .ok (.getfield 22, 3) := by decide +kernel
theorem dX5_letter_4 : decode cX5_letter 4 = .ok (.invokestatic 68, 3) := by decide +kernel
theorem dX5_letter_7 : decode cX5_letter 7 = .ok (.aload_n 0, 1) := by decide +kernel
theorem dX5_letter_8 : decode cX5_letter 8 = .ok (.getfield 26, 3) := by decide +kernel
theorem dX5_letter_11 : decode cX5_letter 11 = .ok (.invokestatic 68, 3) := by decide +kernel
theorem dX5_letter_14 : decode cX5_letter 14 = .ok (.aload_n 0, 1) := by decide +kernel
theorem dX5_letter_15 : decode cX5_letter 15 = .ok (.getfield 22, 3) := by decide +kernel
theorem dX5_letter_18 : decode cX5_letter 18 = .ok (.iconst 1, 1) := by decide +kernel
theorem dX5_letter_19 : decode cX5_letter 19 = .ok (.lconst 1, 1) := by decide +kernel
theorem dX5_letter_20 : decode cX5_letter 20 = .ok (.lastore, 1) := by decide +kernel
theorem dX5_letter_21 : decode cX5_letter 21 = .ok (.aload_n 0, 1) := by decide +kernel
theorem dX5_letter_22 : decode cX5_letter 22 = .ok (.getfield 26, 3) := by decide +kernel
theorem dX5_letter_25 : decode cX5_letter 25 = .ok (.iconst 0, 1) := by decide +kernel
theorem dX5_letter_26 : decode cX5_letter 26 = .ok (.lconst 1, 1) := by decide +kernel
theorem dX5_letter_27 : decode cX5_letter 27 = .ok (.lastore, 1) := by decide +kernel
theorem dX5_letter_28 : decode cX5_letter 28 = .ok (.aload_n 0, 1) := by decide +kernel
theorem dX5_letter_29 : decode cX5_letter 29 = .ok (.iconst 1, 1) := by decide +kernel
theorem dX5_letter_30 : decode cX5_letter 30 = .ok (.invokevirtual 107, 3) := by decide +kernel
theorem dX5_letter_33 : decode cX5_letter 33 = .ok (.ireturn, 1) := by decide +kernel
set_option maxRecDepth 20000 in
theorem ggX5_are_X5_isThere : GoodIn wsX5_are wsX5_isThere := goodIn_r _ [6, 7, 8, 9, 5, 10, 11, 12, 13, 14, 15, 16, 17, 18, 19, 20, 21, 22, 23, 24, 25, 26, 27, 28, 29, 30] (by decide +kernel) (by decide +kernel)
set_option maxRecDepth 20000 in
theorem gX5_are_X5_isThere : GoodIn wsX5_are (wsV RX5 110 RX5 yX5_isThere wsX5_isThere) := goodIn_app (goodIn_of _ (by decide +kernel)) ggX5_are_X5_isThere
theorem dX5_are_0 : decode cX5_are 0 = .ok (.aload_n 0, 1) := by decide +kernel
theorem dX5_are_1 : decode cX5_are 1 = .ok (.aload_n 0, 1) := by decide +kernel
theorem dX5_are_2 : decode cX5_are 2 = .ok (.iload_n 1, 1) := by decide +kernel
theorem dX5_are_3 : decode cX5_are 3 = .ok (.invokevirtual 110, 3) := by decide +kernel
theorem dX5_are_6 : decode cX5_are 6 = .ok (.ifCond .eq 15, 3) := by decide +kernel
theorem dX5_are_9 : decode cX5_are 9 = .ok (.aload_n 0, 1) := by decide +kernel
theorem dX5_are_10 : decode cX5_are 10 = .ok (.iload_n 2, 1) := by decide +kernel
theorem dX5_are_11 : decode cX5_are 11 = .ok (.invokevirtual 110, 3) := by decide +kernel
theorem dX5_are_14 : decode cX5_are 14 = .ok (.ifCond .eq 7, 3) := by decide +kernel
theorem dX5_are_17 : decode cX5_are 17 = .ok (.iconst 0, 1) := by decide +kernel
theorem dX5_are_18 : decode cX5_are 18 = .ok (.goto 4, 3) := by decide +kernel
theorem dX5_are_21 : decode cX5_are 21 = .ok (.iconst 1, 1) := by decide +kernel
theorem dX5_are_22 : decode cX5_are 22 = .ok (.putfield 62, 3) := by decide +kernel
theorem dX5_are_25 : decode cX5_are 25 = .ok (.aload_n 0, 1) := by decide +kernel
theorem dX5_are_26 : decode cX5_are 26 = .ok (.getfield 62, 3) := by decide +kernel
theorem dX5_are_29 : decode cX5_are 29 = .ok (.ifCond .ne 7, 3) := by decide +kernel
theorem dX5_are_32 : decode cX5_are 32 = .ok (.iconst 1, 1) := by decide +kernel
theorem dX5_are_33 : decode cX5_are 33 = .ok (.goto 4, 3) := by decide +kernel
theorem dX5_are_36 : decode cX5_are 36 = .ok (.iconst 0, 1) := by decide +kernel
theorem dX5_are_37 : decode cX5_are 37 = .ok (.ireturn, 1) := by decide +kernel
set_option maxRecDepth 20000 in
theorem ggX5_add_X5_are : GoodIn wsX5_add wsX5_are := goodIn_r _ [5, 6, 7, 8, 9, 4, 10, 11, 12, 13, 14, 75, 76, 77, 78, 79, 80, 81, 82, 83, 84, 85, 86, 87, 88, 89, 90, 91, 92, 93, 94] (by decide +kernel) (by decide +kernel)
set_option maxRecDepth 20000 in
theorem gX5_add_X5_are : GoodIn wsX5_add (wsV RX5 114 RX5 yX5_are wsX5_are) := goodIn_app (goodIn_of _ (by decide +kernel)) ggX5_add_X5_are
set_option maxRecDepth 20000 in
theorem ggX5_add_X5_sum : GoodIn wsX5_add wsX5_sum := goodIn_r _ [18, 19, 20, 21, 22, 23, 24, 25, 26, 27, 4, 28, 29, 30, 31, 32, 33, 34, 35, 36, 37, 38, 39, 40, 41, 42, 43, 44, 45, 46, 47, 48, 49, 50, 51, 52, 53, 54, 55, 56, 57, 58, 59, 60, 61, 62, 63, 64, 65, 66, 75, 76, 77, 78, 79, 80, 81, 82, 83, 84, 85, 86, 87, 88, 89, 90, 91, 92, 93, 94] (by decide +kernel) (by decide +kernel)
set_option maxRecDepth 20000 in
theorem gX5_add_X5_sum : GoodIn wsX5_add (wsV RX5 118 RX5 yX5_sum wsX5_sum) := goodIn_app (goodIn_of _ (by decide +kernel)) ggX5_add_X5_sum
set_option maxRecDepth 20000 in
theorem ggX5_add_X5_keep : GoodIn wsX5_add wsX5_keep := goodIn_r _ [70, 11, 19, 20, 6, 29, 37, 45, 46, 4, 47, 71, 72, 73, 74, 75, 76, 77, 78, 79, 80, 81, 82, 83, 84, 85, 86, 87, 88, 89, 90, 91, 92, 93, 94] (by decide +kernel) (by decide +kernel)
set_option maxRecDepth 20000 in
theorem gX5_add_X5_keep : GoodIn wsX5_add (wsV RX5 107 RX5 yX5_keep wsX5_keep) := goodIn_app (goodIn_of _ (by decide +kernel)) ggX5_add_X5_keep
theorem dX5_add_0 : decode cX5_add 0 = .ok (.aload_n 0, 1) := by decide +kernel
theorem dX5_add_1 : decode cX5_add 1 = .ok (.iload_n 1, 1) := by decide +kernel
theorem dX5_add_2 : decode cX5_add 2 = .ok (.iload_n 2, 1) := by decide +kernel
theorem dX5_add_3 : decode cX5_add 3 = .ok (.invokevirtual 114, 3) := by decide +kernel
theorem dX5_add_6 : decode cX5_add 6 = .ok (.ifCond .ne 5, 3) := by decide +kernel
theorem dX5_add_9 : decode cX5_add 9 = .ok (.iconst 0, 1) := by decide +kernel
theorem dX5_add_10 : decode cX5_add 10 = .ok (.ireturn, 1) := by decide +kernel
theorem dX5_add_11 : decode cX5_add 11 = .ok (.aload_n 0, 1) := by decide +kernel
theorem dX5_add_12 : decode cX5_add 12 = .ok (.iload_n 1, 1) := by decide +kernel
theorem dX5_add_13 : decode cX5_add 13 = .ok (.iload_n 2, 1) := by decide +kernel
theorem dX5_add_14 : decode cX5_add 14 = .ok (.invokevirtual 118, 3) := by decide +kernel
theorem dX5_add_17 : decode cX5_add 17 = .ok (.aload_n 0, 1) := by decide +kernel
theorem dX5_add_18 : decode cX5_add 18 = .ok (.iconst 2, 1) := by decide +kernel
theorem dX5_add_19 : decode cX5_add 19 = .ok (.invokevirtual 107, 3) := by decide +kernel
theorem dX5_add_22 : decode cX5_add 22 = .ok (.ireturn, 1) := by decide +kernel
set_option maxRecDepth 20000 in
theorem ggX5_sum_X5_loadTop : GoodIn wsX5_sum wsX5_loadTop := goodIn_r _ [11, 12, 13, 14, 10, 15, 50, 51, 52, 53, 54, 55, 56, 57, 58, 59, 60, 61, 62, 63, 64, 65, 66, 67, 68, 69] (by decide +kernel) (by decide +kernel)
set_option maxRecDepth 20000 in
theorem gX5_sum_X5_loadTop : GoodIn wsX5_sum (wsV RX5 122 RX5 yX5_loadTop wsX5_loadTop) := goodIn_app (goodIn_of _ (by decide +kernel)) ggX5_sum_X5_loadTop
set_option maxRecDepth 20000 in
theorem ggX5_sum_X5_loadBottom : GoodIn wsX5_sum wsX5_loadBottom := goodIn_r _ [19, 20, 13, 14, 10, 15, 50, 51, 52, 53, 54, 55, 56, 57, 58, 59, 60, 61, 62, 63, 64, 65, 66, 67, 68, 69] (by decide +kernel) (by decide +kernel)
set_option maxRecDepth 20000 in
theorem gX5_sum_X5_loadBottom : GoodIn wsX5_sum (wsV RX5 126 RX5 yX5_loadBottom wsX5_loadBottom) := goodIn_app (goodIn_of _ (by decide +kernel)) ggX5_sum_X5_loadBottom
set_option maxRecDepth 20000 in
theorem ggX5_sum_X5_multiply : GoodIn wsX5_sum wsX5_multiply := goodIn_r _ [24, 4, 6, 25, 26, 10, 27, 28, 29, 30, 50, 51, 52, 53, 54, 55, 56, 57, 58, 59, 60, 61, 62, 63, 64, 65, 66, 67, 68, 69] (by decide +kernel) (by decide +kernel)
set_option maxRecDepth 20000 in
theorem gX5_sum_X5_multiply : GoodIn wsX5_sum (wsV RX5 129 RX5 yX5_multiply wsX5_multiply) := goodIn_app (goodIn_of _ (by decide +kernel)) ggX5_sum_X5_multiply
set_option maxRecDepth 20000 in
theorem ggX5_sum_X5_copy : GoodIn wsX5_sum wsX5_copy := goodIn_r _ [33] (by decide +kernel) (by decide +kernel)
set_option maxRecDepth 20000 in
theorem gX5_sum_X5_copy : GoodIn wsX5_sum (va_wsS RX5 83 yX5_copy wsX5_copy) := goodIn_app (goodIn_of _ (by decide +kernel)) ggX5_sum_X5_copy
set_option maxRecDepth 20000 in
theorem ggX5_sum_X5_lowest : GoodIn wsX5_sum wsX5_lowest := goodIn_r _ [37, 4, 1, 38, 2, 39, 6, 31, 32, 10, 33, 28, 29, 30, 40, 41, 42, 43, 44, 45, 46, 25, 26, 27, 47, 48, 49, 50, 51, 52, 53, 54, 55, 56, 57, 58, 59, 60, 61, 62, 63, 64, 65, 66, 67, 68, 69] (by decide +kernel) (by decide +kernel)
set_option maxRecDepth 20000 in
theorem gX5_sum_X5_lowest : GoodIn wsX5_sum (wsV RX5 132 RX5 yX5_lowest wsX5_lowest) := goodIn_app (goodIn_of _ (by decide +kernel)) ggX5_sum_X5_lowest
theorem dX5_sum_0 : decode cX5_sum 0 = .ok (.aload_n 0, 1) := by decide +kernel
theorem dX5_sum_1 : decode cX5_sum 1 = .ok (.aload_n 0, 1) := by decide +kernel
theorem dX5_sum_2 : decode cX5_sum 2 = .ok (.getfield 22, 3) := by decide +kernel
theorem dX5_sum_5 : decode cX5_sum 5 = .ok (.iload_n 1, 1) := by decide +kernel
theorem dX5_sum_6 : decode cX5_sum 6 = .ok (.invokevirtual 122, 3) := by decide +kernel
theorem dX5_sum_9 : decode cX5_sum 9 = .ok (.aload_n 0, 1) := by decide +kernel
theorem dX5_sum_10 : decode cX5_sum 10 = .ok (.aload_n 0, 1) := by decide +kernel
theorem dX5_sum_11 : decode cX5_sum 11 = .ok (.getfield 26, 3) := by decide +kernel
theorem dX5_sum_14 : decode cX5_sum 14 = .ok (.iload_n 2, 1) := by decide +kernel
theorem dX5_sum_15 : decode cX5_sum 15 = .ok (.invokevirtual 126, 3) := by decide +kernel
theorem dX5_sum_18 : decode cX5_sum 18 = .ok (.aload_n 0, 1) := by decide +kernel
theorem dX5_sum_19 : decode cX5_sum 19 = .ok (.aload_n 0, 1) := by decide +kernel
theorem dX5_sum_20 : decode cX5_sum 20 = .ok (.getfield 22, 3) := by decide +kernel
theorem dX5_sum_23 : decode cX5_sum 23 = .ok (.aload_n 0, 1) := by decide +kernel
theorem dX5_sum_24 : decode cX5_sum 24 = .ok (.getfield 26, 3) := by decide +kernel
theorem dX5_sum_27 : decode cX5_sum 27 = .ok (.invokevirtual 129, 3) := by decide +kernel
theorem dX5_sum_30 : decode cX5_sum 30 = .ok (.aload_n 0, 1) := by decide +kernel
theorem dX5_sum_31 : decode cX5_sum 31 = .ok (.getfield 29, 3) := by decide +kernel
theorem dX5_sum_34 : decode cX5_sum 34 = .ok (.aload_n 0, 1) := by decide +kernel
theorem dX5_sum_35 : decode cX5_sum 35 = .ok (.getfield 38, 3) := by decide +kernel
theorem dX5_sum_38 : decode cX5_sum 38 = .ok (.invokestatic 83, 3) := by decide +kernel
theorem dX5_sum_41 : decode cX5_sum 41 = .ok (.aload_n 0, 1) := by decide +kernel
theorem dX5_sum_42 : decode cX5_sum 42 = .ok (.aload_n 0, 1) := by decide +kernel
theorem dX5_sum_43 : decode cX5_sum 43 = .ok (.getfield 22, 3) := by decide +kernel
theorem dX5_sum_46 : decode cX5_sum 46 = .ok (.iload_n 2, 1) := by decide +kernel
theorem dX5_sum_47 : decode cX5_sum 47 = .ok (.invokevirtual 122, 3) := by decide +kernel
theorem dX5_sum_50 : decode cX5_sum 50 = .ok (.aload_n 0, 1) := by decide +kernel
theorem dX5_sum_51 : decode cX5_sum 51 = .ok (.aload_n 0, 1) := by decide +kernel
theorem dX5_sum_52 : decode cX5_sum 52 = .ok (.getfield 32, 3) := by decide +kernel
theorem dX5_sum_55 : decode cX5_sum 55 = .ok (.iload_n 1, 1) := by decide +kernel
theorem dX5_sum_56 : decode cX5_sum 56 = .ok (.invokevirtual 126, 3) := by decide +kernel
theorem dX5_sum_59 : decode cX5_sum 59 = .ok (.aload_n 0, 1) := by decide +kernel
theorem dX5_sum_60 : decode cX5_sum 60 = .ok (.aload_n 0, 1) := by decide +kernel
theorem dX5_sum_61 : decode cX5_sum 61 = .ok (.getfield 22, 3) := by decide +kernel
theorem dX5_sum_64 : decode cX5_sum 64 = .ok (.aload_n 0, 1) := by decide +kernel
theorem dX5_sum_65 : decode cX5_sum 65 = .ok (.getfield 32, 3) := by decide +kernel
theorem dX5_sum_68 : decode cX5_sum 68 = .ok (.invokevirtual 129, 3) := by decide +kernel
theorem dX5_sum_71 : decode cX5_sum 71 = .ok (.iconst 0, 1) := by decide +kernel
theorem dX5_sum_72 : decode cX5_sum 72 = .ok (.istore_n 3, 1) := by decide +kernel
theorem dX5_sum_73 : decode cX5_sum 73 = .ok (.iload_n 3, 1) := by decide +kernel
theorem dX5_sum_74 : decode cX5_sum 74 = .ok (.bipush 64, 2) := by decide +kernel
theorem dX5_sum_76 : decode cX5_sum 76 = .ok (.if_icmp .ge 32, 3) := by decide +kernel
theorem dX5_sum_79 : decode cX5_sum 79 = .ok (.aload_n 0, 1) := by decide +kernel
theorem dX5_sum_80 : decode cX5_sum 80 = .ok (.getfield 22, 3) := by decide +kernel
theorem dX5_sum_83 : decode cX5_sum 83 = .ok (.iload_n 3, 1) := by decide +kernel
theorem dX5_sum_84 : decode cX5_sum 84 = .ok (.aload_n 0, 1) := by decide +kernel
theorem dX5_sum_85 : decode cX5_sum 85 = .ok (.getfield 38, 3) := by decide +kernel
theorem dX5_sum_88 : decode cX5_sum 88 = .ok (.iload_n 3, 1) := by decide +kernel
theorem dX5_sum_89 : decode cX5_sum 89 = .ok (.laload, 1) := by decide +kernel
theorem dX5_sum_90 : decode cX5_sum 90 = .ok (.aload_n 0, 1) := by decide +kernel
theorem dX5_sum_91 : decode cX5_sum 91 = .ok (.getfield 29, 3) := by decide +kernel
theorem dX5_sum_94 : decode cX5_sum 94 = .ok (.iload_n 3, 1) := by decide +kernel
theorem dX5_sum_95 : decode cX5_sum 95 = .ok (.laload, 1) := by decide +kernel
theorem dX5_sum_96 : decode cX5_sum 96 = .ok (.ladd, 1) := by decide +kernel
theorem dX5_sum_97 : decode cX5_sum 97 = .ok (.ldc2_w 66, 3) := by decide +kernel
theorem dX5_sum_100 : decode cX5_sum 100 = .ok (.lrem, 1) := by decide +kernel
theorem dX5_sum_101 : decode cX5_sum 101 = .ok (.lastore, 1) := by decide +kernel
theorem dX5_sum_102 : decode cX5_sum 102 = .ok (.iinc 3 1, 3) := by decide +kernel
theorem dX5_sum_105 : decode cX5_sum 105 = .ok (.goto (-32), 3) := by decide +kernel
theorem dX5_sum_108 : decode cX5_sum 108 = .ok (.aload_n 0, 1) := by decide +kernel
theorem dX5_sum_109 : decode cX5_sum 109 = .ok (.aload_n 0, 1) := by decide +kernel
theorem dX5_sum_110 : decode cX5_sum 110 = .ok (.getfield 26, 3) := by decide +kernel
theorem dX5_sum_113 : decode cX5_sum 113 = .ok (.aload_n 0, 1) := by decide +kernel
theorem dX5_sum_114 : decode cX5_sum 114 = .ok (.getfield 32, 3) := by decide +kernel
theorem dX5_sum_117 : decode cX5_sum 117 = .ok (.invokevirtual 129, 3) := by decide +kernel
theorem dX5_sum_120 : decode cX5_sum 120 = .ok (.aload_n 0, 1) := by decide +kernel
theorem dX5_sum_121 : decode cX5_sum 121 = .ok (.getfield 26, 3) := by decide +kernel
theorem dX5_sum_124 : decode cX5_sum 124 = .ok (.aload_n 0, 1) := by decide +kernel
theorem dX5_sum_125 : decode cX5_sum 125 = .ok (.getfield 38, 3) := by decide +kernel
theorem dX5_sum_128 : decode cX5_sum 128 = .ok (.invokestatic 83, 3) := by decide +kernel
theorem dX5_sum_131 : decode cX5_sum 131 = .ok (.aload_n 0, 1) := by decide +kernel
theorem dX5_sum_132 : decode cX5_sum 132 = .ok (.invokevirtual 132, 3) := by decide +kernel
theorem dX5_sum_135 : decode cX5_sum 135 = .ok (.return_, 1) := by decide +kernel
set_option maxRecDepth 20000 in
theorem ggX5_times_X5_are : GoodIn wsX5_times wsX5_are := goodIn_r _ [9, 10, 11, 12, 13, 8, 14, 15, 16, 17, 18, 70, 71, 72, 73, 74, 75, 76, 77, 78, 79, 80, 81, 82, 83, 84, 85, 86, 87, 88, 89] (by decide +kernel) (by decide +kernel)
set_option maxRecDepth 20000 in
theorem gX5_times_X5_are : GoodIn wsX5_times (wsV RX5 114 RX5 yX5_are wsX5_are) := goodIn_app (goodIn_of _ (by decide +kernel)) ggX5_times_X5_are
set_option maxRecDepth 20000 in
theorem ggX5_times_X5_loadTop : GoodIn wsX5_times wsX5_loadTop := goodIn_r _ [22, 23, 24, 25, 8, 26, 70, 71, 72, 73, 74, 75, 76, 77, 78, 79, 80, 81, 82, 83, 84, 85, 86, 87, 88, 89] (by decide +kernel) (by decide +kernel)
set_option maxRecDepth 20000 in
theorem gX5_times_X5_loadTop : GoodIn wsX5_times (wsV RX5 122 RX5 yX5_loadTop wsX5_loadTop) := goodIn_app (goodIn_of _ (by decide +kernel)) ggX5_times_X5_loadTop
set_option maxRecDepth 20000 in
theorem ggX5_times_X5_multiply : GoodIn wsX5_times wsX5_multiply := goodIn_r _ [30, 3, 31, 32, 33, 8, 34, 35, 36, 37, 70, 71, 72, 73, 74, 75, 76, 77, 78, 79, 80, 81, 82, 83, 84, 85, 86, 87, 88, 89] (by decide +kernel) (by decide +kernel)
set_option maxRecDepth 20000 in
theorem gX5_times_X5_multiply : GoodIn wsX5_times (wsV RX5 129 RX5 yX5_multiply wsX5_multiply) := goodIn_app (goodIn_of _ (by decide +kernel)) ggX5_times_X5_multiply
set_option maxRecDepth 20000 in
theorem ggX5_times_X5_copy : GoodIn wsX5_times wsX5_copy := goodIn_r _ [40] (by decide +kernel) (by decide +kernel)
set_option maxRecDepth 20000 in
theorem gX5_times_X5_copy : GoodIn wsX5_times (va_wsS RX5 83 yX5_copy wsX5_copy) := goodIn_app (goodIn_of _ (by decide +kernel)) ggX5_times_X5_copy
set_option maxRecDepth 20000 in
theorem ggX5_times_X5_loadBottom : GoodIn wsX5_times wsX5_loadBottom := goodIn_r _ [44, 45, 24, 25, 8, 26, 70, 71, 72, 73, 74, 75, 76, 77, 78, 79, 80, 81, 82, 83, 84, 85, 86, 87, 88, 89] (by decide +kernel) (by decide +kernel)
set_option maxRecDepth 20000 in
theorem gX5_times_X5_loadBottom : GoodIn wsX5_times (wsV RX5 126 RX5 yX5_loadBottom wsX5_loadBottom) := goodIn_app (goodIn_of _ (by decide +kernel)) ggX5_times_X5_loadBottom
set_option maxRecDepth 20000 in
theorem ggX5_times_X5_lowest : GoodIn wsX5_times wsX5_lowest := goodIn_r _ [49, 3, 1, 50, 4, 51, 31, 38, 39, 8, 40, 35, 36, 37, 52, 53, 54, 55, 56, 57, 58, 32, 33, 34, 59, 60, 61, 70, 71, 72, 73, 74, 75, 76, 77, 78, 79, 80, 81, 82, 83, 84, 85, 86, 87, 88, 89] (by decide +kernel) (by decide +kernel)
set_option maxRecDepth 20000 in
theorem gX5_times_X5_lowest : GoodIn wsX5_times (wsV RX5 132 RX5 yX5_lowest wsX5_lowest) := goodIn_app (goodIn_of _ (by decide +kernel)) ggX5_times_X5_lowest
set_option maxRecDepth 20000 in
theorem ggX5_times_X5_keep : GoodIn wsX5_times wsX5_keep := goodIn_r _ [65, 15, 1, 4, 10, 23, 45, 35, 36, 8, 37, 66, 67, 68, 69, 70, 71, 72, 73, 74, 75, 76, 77, 78, 79, 80, 81, 82, 83, 84, 85, 86, 87, 88, 89] (by decide +kernel) (by decide +kernel)
set_option maxRecDepth 20000 in
theorem gX5_times_X5_keep : GoodIn wsX5_times (wsV RX5 107 RX5 yX5_keep wsX5_keep) := goodIn_app (goodIn_of _ (by decide +kernel)) ggX5_times_X5_keep
theorem dX5_times_0 : decode cX5_times 0 = .ok (.aload_n 0, 1) := by decide +kernel
theorem dX5_times_1 : decode cX5_times 1 = .ok (.iload_n 1, 1) := by decide +kernel
theorem dX5_times_2 : decode cX5_times 2 = .ok (.iload_n 2, 1) := by decide +kernel
theorem dX5_times_3 : decode cX5_times 3 = .ok (.invokevirtual 114, 3) := by decide +kernel
theorem dX5_times_6 : decode cX5_times 6 = .ok (.ifCond .ne 5, 3) := by decide +kernel
theorem dX5_times_9 : decode cX5_times 9 = .ok (.iconst 0, 1) := by decide +kernel
theorem dX5_times_10 : decode cX5_times 10 = .ok (.ireturn, 1) := by decide +kernel
theorem dX5_times_11 : decode cX5_times 11 = .ok (.aload_n 0, 1) := by decide +kernel
theorem dX5_times_12 : decode cX5_times 12 = .ok (.aload_n 0, 1) := by decide +kernel
theorem dX5_times_13 : decode cX5_times 13 = .ok (.getfield 22, 3) := by decide +kernel
theorem dX5_times_16 : decode cX5_times 16 = .ok (.iload_n 1, 1) := by decide +kernel
theorem dX5_times_17 : decode cX5_times 17 = .ok (.invokevirtual 122, 3) := by decide +kernel
theorem dX5_times_20 : decode cX5_times 20 = .ok (.aload_n 0, 1) := by decide +kernel
theorem dX5_times_21 : decode cX5_times 21 = .ok (.aload_n 0, 1) := by decide +kernel
theorem dX5_times_22 : decode cX5_times 22 = .ok (.getfield 29, 3) := by decide +kernel
theorem dX5_times_25 : decode cX5_times 25 = .ok (.iload_n 2, 1) := by decide +kernel
theorem dX5_times_26 : decode cX5_times 26 = .ok (.invokevirtual 122, 3) := by decide +kernel
theorem dX5_times_29 : decode cX5_times 29 = .ok (.aload_n 0, 1) := by decide +kernel
theorem dX5_times_30 : decode cX5_times 30 = .ok (.aload_n 0, 1) := by decide +kernel
theorem dX5_times_31 : decode cX5_times 31 = .ok (.getfield 22, 3) := by decide +kernel
theorem dX5_times_34 : decode cX5_times 34 = .ok (.aload_n 0, 1) := by decide +kernel
theorem dX5_times_35 : decode cX5_times 35 = .ok (.getfield 29, 3) := by decide +kernel
theorem dX5_times_38 : decode cX5_times 38 = .ok (.invokevirtual 129, 3) := by decide +kernel
theorem dX5_times_41 : decode cX5_times 41 = .ok (.aload_n 0, 1) := by decide +kernel
theorem dX5_times_42 : decode cX5_times 42 = .ok (.getfield 22, 3) := by decide +kernel
theorem dX5_times_45 : decode cX5_times 45 = .ok (.aload_n 0, 1) := by decide +kernel
theorem dX5_times_46 : decode cX5_times 46 = .ok (.getfield 38, 3) := by decide +kernel
theorem dX5_times_49 : decode cX5_times 49 = .ok (.invokestatic 83, 3) := by decide +kernel
theorem dX5_times_52 : decode cX5_times 52 = .ok (.aload_n 0, 1) := by decide +kernel
theorem dX5_times_53 : decode cX5_times 53 = .ok (.aload_n 0, 1) := by decide +kernel
theorem dX5_times_54 : decode cX5_times 54 = .ok (.getfield 26, 3) := by decide +kernel
theorem dX5_times_57 : decode cX5_times 57 = .ok (.iload_n 1, 1) := by decide +kernel
theorem dX5_times_58 : decode cX5_times 58 = .ok (.invokevirtual 126, 3) := by decide +kernel
theorem dX5_times_61 : decode cX5_times 61 = .ok (.aload_n 0, 1) := by decide +kernel
theorem dX5_times_62 : decode cX5_times 62 = .ok (.aload_n 0, 1) := by decide +kernel
theorem dX5_times_63 : decode cX5_times 63 = .ok (.getfield 29, 3) := by decide +kernel
theorem dX5_times_66 : decode cX5_times 66 = .ok (.iload_n 2, 1) := by decide +kernel
theorem dX5_times_67 : decode cX5_times 67 = .ok (.invokevirtual 126, 3) := by decide +kernel
theorem dX5_times_70 : decode cX5_times 70 = .ok (.aload_n 0, 1) := by decide +kernel
theorem dX5_times_71 : decode cX5_times 71 = .ok (.aload_n 0, 1) := by decide +kernel
theorem dX5_times_72 : decode cX5_times 72 = .ok (.getfield 26, 3) := by decide +kernel
theorem dX5_times_75 : decode cX5_times 75 = .ok (.aload_n 0, 1) := by decide +kernel
theorem dX5_times_76 : decode cX5_times 76 = .ok (.getfield 29, 3) := by decide +kernel
theorem dX5_times_79 : decode cX5_times 79 = .ok (.invokevirtual 129, 3) := by decide +kernel
theorem dX5_times_82 : decode cX5_times 82 = .ok (.aload_n 0, 1) := by decide +kernel
theorem dX5_times_83 : decode cX5_times 83 = .ok (.getfield 26, 3) := by decide +kernel
theorem dX5_times_86 : decode cX5_times 86 = .ok (.aload_n 0, 1) := by decide +kernel
theorem dX5_times_87 : decode cX5_times 87 = .ok (.getfield 38, 3) := by decide +kernel
theorem dX5_times_90 : decode cX5_times 90 = .ok (.invokestatic 83, 3) := by decide +kernel
theorem dX5_times_93 : decode cX5_times 93 = .ok (.aload_n 0, 1) := by decide +kernel
theorem dX5_times_94 : decode cX5_times 94 = .ok (.invokevirtual 132, 3) := by decide +kernel
theorem dX5_times_97 : decode cX5_times 97 = .ok (.aload_n 0, 1) := by decide +kernel
theorem dX5_times_98 : decode cX5_times 98 = .ok (.iconst 2, 1) := by decide +kernel
theorem dX5_times_99 : decode cX5_times 99 = .ok (.invokevirtual 107, 3) := by decide +kernel
theorem dX5_times_102 : decode cX5_times 102 = .ok (.ireturn, 1) := by decide +kernel
set_option maxRecDepth 20000 in
theorem ggX5_over_X5_are : GoodIn wsX5_over wsX5_are := goodIn_r _ [9, 10, 11, 12, 13, 8, 14, 15, 16, 17, 18, 70, 71, 72, 73, 74, 75, 76, 77, 78, 79, 80, 81, 82, 83, 84, 85, 86, 87, 88, 89] (by decide +kernel) (by decide +kernel)
set_option maxRecDepth 20000 in
theorem gX5_over_X5_are : GoodIn wsX5_over (wsV RX5 114 RX5 yX5_are wsX5_are) := goodIn_app (goodIn_of _ (by decide +kernel)) ggX5_over_X5_are
set_option maxRecDepth 20000 in
theorem ggX5_over_X5_loadTop : GoodIn wsX5_over wsX5_loadTop := goodIn_r _ [22, 23, 24, 25, 8, 26, 70, 71, 72, 73, 74, 75, 76, 77, 78, 79, 80, 81, 82, 83, 84, 85, 86, 87, 88, 89] (by decide +kernel) (by decide +kernel)
set_option maxRecDepth 20000 in
theorem gX5_over_X5_loadTop : GoodIn wsX5_over (wsV RX5 122 RX5 yX5_loadTop wsX5_loadTop) := goodIn_app (goodIn_of _ (by decide +kernel)) ggX5_over_X5_loadTop
set_option maxRecDepth 20000 in
theorem ggX5_over_X5_high : GoodIn wsX5_over wsX5_high := goodIn_r _ [29] (by decide +kernel) (by decide +kernel)
set_option maxRecDepth 20000 in
theorem gX5_over_X5_high : GoodIn wsX5_over (va_wsS RX5 72 yX5_high wsX5_high) := goodIn_app (goodIn_of _ (by decide +kernel)) ggX5_over_X5_high
set_option maxRecDepth 20000 in
theorem ggX5_over_X5_raise : GoodIn wsX5_over wsX5_raise := goodIn_r _ [33, 10, 70, 71, 72, 73, 74, 75, 76, 77, 78, 79, 80, 81, 82, 83, 84, 85, 86, 87, 88, 89] (by decide +kernel) (by decide +kernel)
set_option maxRecDepth 20000 in
theorem gX5_over_X5_raise : GoodIn wsX5_over (wsV RX5 97 RX5 yX5_raise wsX5_raise) := goodIn_app (goodIn_of _ (by decide +kernel)) ggX5_over_X5_raise
set_option maxRecDepth 20000 in
theorem ggX5_over_X5_loadBottom : GoodIn wsX5_over wsX5_loadBottom := goodIn_r _ [37, 38, 24, 25, 8, 26, 70, 71, 72, 73, 74, 75, 76, 77, 78, 79, 80, 81, 82, 83, 84, 85, 86, 87, 88, 89] (by decide +kernel) (by decide +kernel)
set_option maxRecDepth 20000 in
theorem gX5_over_X5_loadBottom : GoodIn wsX5_over (wsV RX5 126 RX5 yX5_loadBottom wsX5_loadBottom) := goodIn_app (goodIn_of _ (by decide +kernel)) ggX5_over_X5_loadBottom
set_option maxRecDepth 20000 in
theorem ggX5_over_X5_multiply : GoodIn wsX5_over wsX5_multiply := goodIn_r _ [42, 3, 43, 44, 45, 8, 46, 27, 28, 29, 70, 71, 72, 73, 74, 75, 76, 77, 78, 79, 80, 81, 82, 83, 84, 85, 86, 87, 88, 89] (by decide +kernel) (by decide +kernel)
set_option maxRecDepth 20000 in
theorem gX5_over_X5_multiply : GoodIn wsX5_over (wsV RX5 129 RX5 yX5_multiply wsX5_multiply) := goodIn_app (goodIn_of _ (by decide +kernel)) ggX5_over_X5_multiply
set_option maxRecDepth 20000 in
theorem ggX5_over_X5_copy : GoodIn wsX5_over wsX5_copy := goodIn_r _ [49] (by decide +kernel) (by decide +kernel)
set_option maxRecDepth 20000 in
theorem gX5_over_X5_copy : GoodIn wsX5_over (va_wsS RX5 83 yX5_copy wsX5_copy) := goodIn_app (goodIn_of _ (by decide +kernel)) ggX5_over_X5_copy
set_option maxRecDepth 20000 in
theorem ggX5_over_X5_lowest : GoodIn wsX5_over wsX5_lowest := goodIn_r _ [53, 3, 4, 54, 2, 55, 43, 47, 48, 8, 49, 27, 28, 29, 56, 57, 58, 59, 60, 61, 62, 44, 45, 46, 63, 64, 65, 70, 71, 72, 73, 74, 75, 76, 77, 78, 79, 80, 81, 82, 83, 84, 85, 86, 87, 88, 89] (by decide +kernel) (by decide +kernel)
set_option maxRecDepth 20000 in
theorem gX5_over_X5_lowest : GoodIn wsX5_over (wsV RX5 132 RX5 yX5_lowest wsX5_lowest) := goodIn_app (goodIn_of _ (by decide +kernel)) ggX5_over_X5_lowest
set_option maxRecDepth 20000 in
theorem ggX5_over_X5_keep : GoodIn wsX5_over wsX5_keep := goodIn_r _ [69, 15, 4, 2, 10, 23, 38, 27, 28, 8, 29, 30, 31, 32, 33, 70, 71, 72, 73, 74, 75, 76, 77, 78, 79, 80, 81, 82, 83, 84, 85, 86, 87, 88, 89] (by decide +kernel) (by decide +kernel)
set_option maxRecDepth 20000 in
theorem gX5_over_X5_keep : GoodIn wsX5_over (wsV RX5 107 RX5 yX5_keep wsX5_keep) := goodIn_app (goodIn_of _ (by decide +kernel)) ggX5_over_X5_keep
theorem dX5_over_0 : decode cX5_over 0 = .ok (.aload_n 0, 1) := by decide +kernel
theorem dX5_over_1 : decode cX5_over 1 = .ok (.iload_n 1, 1) := by decide +kernel
theorem dX5_over_2 : decode cX5_over 2 = .ok (.iload_n 2, 1) := by decide +kernel
theorem dX5_over_3 : decode cX5_over 3 = .ok (.invokevirtual 114, 3) := by decide +kernel
theorem dX5_over_6 : decode cX5_over 6 = .ok (.ifCond .ne 5, 3) := by decide +kernel
theorem dX5_over_9 : decode cX5_over 9 = .ok (.iconst 0, 1) := by decide +kernel
theorem dX5_over_10 : decode cX5_over 10 = .ok (.ireturn, 1) := by decide +kernel
theorem dX5_over_11 : decode cX5_over 11 = .ok (.aload_n 0, 1) := by decide +kernel
theorem dX5_over_12 : decode cX5_over 12 = .ok (.aload_n 0, 1) := by decide +kernel
theorem dX5_over_13 : decode cX5_over 13 = .ok (.getfield 29, 3) := by decide +kernel
theorem dX5_over_16 : decode cX5_over 16 = .ok (.iload_n 2, 1) := by decide +kernel
theorem dX5_over_17 : decode cX5_over 17 = .ok (.invokevirtual 122, 3) := by decide +kernel
theorem dX5_over_20 : decode cX5_over 20 = .ok (.aload_n 0, 1) := by decide +kernel
theorem dX5_over_21 : decode cX5_over 21 = .ok (.getfield 29, 3) := by decide +kernel
theorem dX5_over_24 : decode cX5_over 24 = .ok (.invokestatic 72, 3) := by decide +kernel
theorem dX5_over_27 : decode cX5_over 27 = .ok (.ifCond .ge 9, 3) := by decide +kernel
theorem dX5_over_30 : decode cX5_over 30 = .ok (.aload_n 0, 1) := by decide +kernel
theorem dX5_over_31 : decode cX5_over 31 = .ok (.iconst 2, 1) := by decide +kernel
theorem dX5_over_32 : decode cX5_over 32 = .ok (.invokevirtual 97, 3) := by decide +kernel
theorem dX5_over_35 : decode cX5_over 35 = .ok (.ireturn, 1) := by decide +kernel
theorem dX5_over_36 : decode cX5_over 36 = .ok (.aload_n 0, 1) := by decide +kernel
theorem dX5_over_37 : decode cX5_over 37 = .ok (.aload_n 0, 1) := by decide +kernel
theorem dX5_over_38 : decode cX5_over 38 = .ok (.getfield 26, 3) := by decide +kernel
theorem dX5_over_41 : decode cX5_over 41 = .ok (.iload_n 1, 1) := by decide +kernel
theorem dX5_over_42 : decode cX5_over 42 = .ok (.invokevirtual 126, 3) := by decide +kernel
theorem dX5_over_45 : decode cX5_over 45 = .ok (.aload_n 0, 1) := by decide +kernel
theorem dX5_over_46 : decode cX5_over 46 = .ok (.aload_n 0, 1) := by decide +kernel
theorem dX5_over_47 : decode cX5_over 47 = .ok (.getfield 26, 3) := by decide +kernel
theorem dX5_over_50 : decode cX5_over 50 = .ok (.aload_n 0, 1) := by decide +kernel
theorem dX5_over_51 : decode cX5_over 51 = .ok (.getfield 29, 3) := by decide +kernel
theorem dX5_over_54 : decode cX5_over 54 = .ok (.invokevirtual 129, 3) := by decide +kernel
theorem dX5_over_57 : decode cX5_over 57 = .ok (.aload_n 0, 1) := by decide +kernel
theorem dX5_over_58 : decode cX5_over 58 = .ok (.getfield 26, 3) := by decide +kernel
theorem dX5_over_61 : decode cX5_over 61 = .ok (.aload_n 0, 1) := by decide +kernel
theorem dX5_over_62 : decode cX5_over 62 = .ok (.getfield 38, 3) := by decide +kernel
theorem dX5_over_65 : decode cX5_over 65 = .ok (.invokestatic 83, 3) := by decide +kernel
theorem dX5_over_68 : decode cX5_over 68 = .ok (.aload_n 0, 1) := by decide +kernel
theorem dX5_over_69 : decode cX5_over 69 = .ok (.aload_n 0, 1) := by decide +kernel
theorem dX5_over_70 : decode cX5_over 70 = .ok (.getfield 22, 3) := by decide +kernel
theorem dX5_over_73 : decode cX5_over 73 = .ok (.iload_n 1, 1) := by decide +kernel
theorem dX5_over_74 : decode cX5_over 74 = .ok (.invokevirtual 122, 3) := by decide +kernel
theorem dX5_over_77 : decode cX5_over 77 = .ok (.aload_n 0, 1) := by decide +kernel
theorem dX5_over_78 : decode cX5_over 78 = .ok (.aload_n 0, 1) := by decide +kernel
theorem dX5_over_79 : decode cX5_over 79 = .ok (.getfield 29, 3) := by decide +kernel
theorem dX5_over_82 : decode cX5_over 82 = .ok (.iload_n 2, 1) := by decide +kernel
theorem dX5_over_83 : decode cX5_over 83 = .ok (.invokevirtual 126, 3) := by decide +kernel
theorem dX5_over_86 : decode cX5_over 86 = .ok (.aload_n 0, 1) := by decide +kernel
theorem dX5_over_87 : decode cX5_over 87 = .ok (.aload_n 0, 1) := by decide +kernel
theorem dX5_over_88 : decode cX5_over 88 = .ok (.getfield 22, 3) := by decide +kernel
theorem dX5_over_91 : decode cX5_over 91 = .ok (.aload_n 0, 1) := by decide +kernel
theorem dX5_over_92 : decode cX5_over 92 = .ok (.getfield 29, 3) := by decide +kernel
theorem dX5_over_95 : decode cX5_over 95 = .ok (.invokevirtual 129, 3) := by decide +kernel
theorem dX5_over_98 : decode cX5_over 98 = .ok (.aload_n 0, 1) := by decide +kernel
theorem dX5_over_99 : decode cX5_over 99 = .ok (.getfield 22, 3) := by decide +kernel
theorem dX5_over_102 : decode cX5_over 102 = .ok (.aload_n 0, 1) := by decide +kernel
theorem dX5_over_103 : decode cX5_over 103 = .ok (.getfield 38, 3) := by decide +kernel
theorem dX5_over_106 : decode cX5_over 106 = .ok (.invokestatic 83, 3) := by decide +kernel
theorem dX5_over_109 : decode cX5_over 109 = .ok (.aload_n 0, 1) := by decide +kernel
theorem dX5_over_110 : decode cX5_over 110 = .ok (.invokevirtual 132, 3) := by decide +kernel
theorem dX5_over_113 : decode cX5_over 113 = .ok (.aload_n 0, 1) := by decide +kernel
theorem dX5_over_114 : decode cX5_over 114 = .ok (.iconst 3, 1) := by decide +kernel
theorem dX5_over_115 : decode cX5_over 115 = .ok (.invokevirtual 107, 3) := by decide +kernel
theorem dX5_over_118 : decode cX5_over 118 = .ok (.ireturn, 1) := by decide +kernel
set_option maxRecDepth 20000 in
theorem ggX5_moved_X5_are : GoodIn wsX5_moved wsX5_are := goodIn_r _ [7, 8, 9, 10, 11, 6, 12, 13, 14, 15, 16, 45, 46, 47, 48, 49, 50, 51, 52, 53, 54, 55, 56, 57, 58, 59, 60, 61, 62, 63, 64] (by decide +kernel) (by decide +kernel)
set_option maxRecDepth 20000 in
theorem gX5_moved_X5_are : GoodIn wsX5_moved (wsV RX5 114 RX5 yX5_are wsX5_are) := goodIn_app (goodIn_of _ (by decide +kernel)) ggX5_moved_X5_are
set_option maxRecDepth 20000 in
theorem ggX5_moved_X5_loadTop : GoodIn wsX5_moved wsX5_loadTop := goodIn_r _ [20, 21, 22, 23, 6, 24, 45, 46, 47, 48, 49, 50, 51, 52, 53, 54, 55, 56, 57, 58, 59, 60, 61, 62, 63, 64] (by decide +kernel) (by decide +kernel)
set_option maxRecDepth 20000 in
theorem gX5_moved_X5_loadTop : GoodIn wsX5_moved (wsV RX5 122 RX5 yX5_loadTop wsX5_loadTop) := goodIn_app (goodIn_of _ (by decide +kernel)) ggX5_moved_X5_loadTop
set_option maxRecDepth 20000 in
theorem ggX5_moved_X5_loadBottom : GoodIn wsX5_moved wsX5_loadBottom := goodIn_r _ [28, 29, 22, 23, 6, 24, 45, 46, 47, 48, 49, 50, 51, 52, 53, 54, 55, 56, 57, 58, 59, 60, 61, 62, 63, 64] (by decide +kernel) (by decide +kernel)
set_option maxRecDepth 20000 in
theorem gX5_moved_X5_loadBottom : GoodIn wsX5_moved (wsV RX5 126 RX5 yX5_loadBottom wsX5_loadBottom) := goodIn_app (goodIn_of _ (by decide +kernel)) ggX5_moved_X5_loadBottom
set_option maxRecDepth 20000 in
theorem ggX5_moved_X5_move : GoodIn wsX5_moved wsX5_move := goodIn_r _ [32, 33] (by decide +kernel) (by decide +kernel)
set_option maxRecDepth 20000 in
theorem gX5_moved_X5_move : GoodIn wsX5_moved (va_wsS RX5 135 yX5_move wsX5_move) := goodIn_app (goodIn_of _ (by decide +kernel)) ggX5_moved_X5_move
set_option maxRecDepth 20000 in
theorem ggX5_moved_X5_keep : GoodIn wsX5_moved wsX5_keep := goodIn_r _ [37, 13, 1, 2, 8, 21, 29, 38, 39, 6, 40, 41, 42, 43, 44, 45, 46, 47, 48, 49, 50, 51, 52, 53, 54, 55, 56, 57, 58, 59, 60, 61, 62, 63, 64] (by decide +kernel) (by decide +kernel)
set_option maxRecDepth 20000 in
theorem gX5_moved_X5_keep : GoodIn wsX5_moved (wsV RX5 107 RX5 yX5_keep wsX5_keep) := goodIn_app (goodIn_of _ (by decide +kernel)) ggX5_moved_X5_keep
theorem dX5_moved_0 : decode cX5_moved 0 = .ok (.aload_n 0, 1) := by decide +kernel
theorem dX5_moved_1 : decode cX5_moved 1 = .ok (.iload_n 1, 1) := by decide +kernel
theorem dX5_moved_2 : decode cX5_moved 2 = .ok (.iload_n 1, 1) := by decide +kernel
theorem dX5_moved_3 : decode cX5_moved 3 = .ok (.invokevirtual 114, 3) := by decide +kernel
theorem dX5_moved_6 : decode cX5_moved 6 = .ok (.ifCond .ne 5, 3) := by decide +kernel
theorem dX5_moved_9 : decode cX5_moved 9 = .ok (.iconst 0, 1) := by decide +kernel
theorem dX5_moved_10 : decode cX5_moved 10 = .ok (.ireturn, 1) := by decide +kernel
theorem dX5_moved_11 : decode cX5_moved 11 = .ok (.aload_n 0, 1) := by decide +kernel
theorem dX5_moved_12 : decode cX5_moved 12 = .ok (.aload_n 0, 1) := by decide +kernel
theorem dX5_moved_13 : decode cX5_moved 13 = .ok (.getfield 22, 3) := by decide +kernel
theorem dX5_moved_16 : decode cX5_moved 16 = .ok (.iload_n 1, 1) := by decide +kernel
theorem dX5_moved_17 : decode cX5_moved 17 = .ok (.invokevirtual 122, 3) := by decide +kernel
theorem dX5_moved_20 : decode cX5_moved 20 = .ok (.aload_n 0, 1) := by decide +kernel
theorem dX5_moved_21 : decode cX5_moved 21 = .ok (.aload_n 0, 1) := by decide +kernel
theorem dX5_moved_22 : decode cX5_moved 22 = .ok (.getfield 26, 3) := by decide +kernel
theorem dX5_moved_25 : decode cX5_moved 25 = .ok (.iload_n 1, 1) := by decide +kernel
theorem dX5_moved_26 : decode cX5_moved 26 = .ok (.invokevirtual 126, 3) := by decide +kernel
theorem dX5_moved_29 : decode cX5_moved 29 = .ok (.aload_n 0, 1) := by decide +kernel
theorem dX5_moved_30 : decode cX5_moved 30 = .ok (.getfield 22, 3) := by decide +kernel
theorem dX5_moved_33 : decode cX5_moved 33 = .ok (.invokestatic 135, 3) := by decide +kernel
theorem dX5_moved_36 : decode cX5_moved 36 = .ok (.aload_n 0, 1) := by decide +kernel
theorem dX5_moved_37 : decode cX5_moved 37 = .ok (.getfield 26, 3) := by decide +kernel
theorem dX5_moved_40 : decode cX5_moved 40 = .ok (.invokestatic 135, 3) := by decide +kernel
theorem dX5_moved_43 : decode cX5_moved 43 = .ok (.aload_n 0, 1) := by decide +kernel
theorem dX5_moved_44 : decode cX5_moved 44 = .ok (.iconst 2, 1) := by decide +kernel
theorem dX5_moved_45 : decode cX5_moved 45 = .ok (.invokevirtual 107, 3) := by decide +kernel
theorem dX5_moved_48 : decode cX5_moved 48 = .ok (.ireturn, 1) := by decide +kernel
set_option maxRecDepth 20000 in
theorem ggX5_makeStep_X5_copy : GoodIn wsX5_makeStep wsX5_copy := goodIn_r _ [13] (by decide +kernel) (by decide +kernel)
set_option maxRecDepth 20000 in
theorem gX5_makeStep_X5_copy : GoodIn wsX5_makeStep (va_wsS RX5 83 yX5_copy wsX5_copy) := goodIn_app (goodIn_of _ (by decide +kernel)) ggX5_makeStep_X5_copy
set_option maxRecDepth 20000 in
theorem ggX5_makeStep_X5_move : GoodIn wsX5_makeStep wsX5_move := goodIn_r _ [16, 9] (by decide +kernel) (by decide +kernel)
set_option maxRecDepth 20000 in
theorem gX5_makeStep_X5_move : GoodIn wsX5_makeStep (va_wsS RX5 135 yX5_move wsX5_move) := goodIn_app (goodIn_of _ (by decide +kernel)) ggX5_makeStep_X5_move
set_option maxRecDepth 20000 in
theorem ggX5_makeStep_X5_load : GoodIn wsX5_makeStep wsX5_load := goodIn_r _ [19] (by decide +kernel) (by decide +kernel)
set_option maxRecDepth 20000 in
theorem gX5_makeStep_X5_load : GoodIn wsX5_makeStep (va_wsS RX5 101 yX5_load wsX5_load) := goodIn_app (goodIn_of _ (by decide +kernel)) ggX5_makeStep_X5_load
set_option maxRecDepth 20000 in
theorem ggX5_makeStep_X5_multiply : GoodIn wsX5_makeStep wsX5_multiply := goodIn_r _ [23, 7, 9, 24, 25, 12, 26, 27, 28, 29, 46, 47, 48, 49, 50, 51, 52, 53, 54, 55, 56, 57, 58, 59, 60, 61, 62, 63, 64, 65] (by decide +kernel) (by decide +kernel)
set_option maxRecDepth 20000 in
theorem gX5_makeStep_X5_multiply : GoodIn wsX5_makeStep (wsV RX5 129 RX5 yX5_multiply wsX5_multiply) := goodIn_app (goodIn_of _ (by decide +kernel)) ggX5_makeStep_X5_multiply
set_option maxRecDepth 20000 in
theorem ggX5_makeStep_X5_lowest : GoodIn wsX5_makeStep wsX5_lowest := goodIn_r _ [33, 7, 2, 34, 4, 35, 9, 10, 11, 12, 13, 27, 28, 29, 36, 37, 38, 39, 40, 41, 42, 24, 25, 26, 43, 44, 45, 46, 47, 48, 49, 50, 51, 52, 53, 54, 55, 56, 57, 58, 59, 60, 61, 62, 63, 64, 65] (by decide +kernel) (by decide +kernel)
set_option maxRecDepth 20000 in
theorem gX5_makeStep_X5_lowest : GoodIn wsX5_makeStep (wsV RX5 132 RX5 yX5_lowest wsX5_lowest) := goodIn_app (goodIn_of _ (by decide +kernel)) ggX5_makeStep_X5_lowest
theorem dX5_makeStep_0 : decode cX5_makeStep 0 = .ok (.aload_n 0, 1) := by decide +kernel
theorem dX5_makeStep_1 : decode cX5_makeStep 1 = .ok (.getfield 32, 3) := by decide +kernel
theorem dX5_makeStep_4 : decode cX5_makeStep 4 = .ok (.aload_n 0, 1) := by decide +kernel
theorem dX5_makeStep_5 : decode cX5_makeStep 5 = .ok (.getfield 22, 3) := by decide +kernel
theorem dX5_makeStep_8 : decode cX5_makeStep 8 = .ok (.invokestatic 83, 3) := by decide +kernel
theorem dX5_makeStep_11 : decode cX5_makeStep 11 = .ok (.aload_n 0, 1) := by decide +kernel
theorem dX5_makeStep_12 : decode cX5_makeStep 12 = .ok (.getfield 35, 3) := by decide +kernel
theorem dX5_makeStep_15 : decode cX5_makeStep 15 = .ok (.aload_n 0, 1) := by decide +kernel
theorem dX5_makeStep_16 : decode cX5_makeStep 16 = .ok (.getfield 26, 3) := by decide +kernel
theorem dX5_makeStep_19 : decode cX5_makeStep 19 = .ok (.invokestatic 83, 3) := by decide +kernel
theorem dX5_makeStep_22 : decode cX5_makeStep 22 = .ok (.aload_n 0, 1) := by decide +kernel
theorem dX5_makeStep_23 : decode cX5_makeStep 23 = .ok (.getfield 22, 3) := by decide +kernel
theorem dX5_makeStep_26 : decode cX5_makeStep 26 = .ok (.invokestatic 135, 3) := by decide +kernel
theorem dX5_makeStep_29 : decode cX5_makeStep 29 = .ok (.aload_n 0, 1) := by decide +kernel
theorem dX5_makeStep_30 : decode cX5_makeStep 30 = .ok (.getfield 26, 3) := by decide +kernel
theorem dX5_makeStep_33 : decode cX5_makeStep 33 = .ok (.invokestatic 135, 3) := by decide +kernel
theorem dX5_makeStep_36 : decode cX5_makeStep 36 = .ok (.aload_n 0, 1) := by decide +kernel
theorem dX5_makeStep_37 : decode cX5_makeStep 37 = .ok (.getfield 29, 3) := by decide +kernel
theorem dX5_makeStep_40 : decode cX5_makeStep 40 = .ok (.aload_n 0, 1) := by decide +kernel
theorem dX5_makeStep_41 : decode cX5_makeStep 41 = .ok (.getfield 16, 3) := by decide +kernel
theorem dX5_makeStep_44 : decode cX5_makeStep 44 = .ok (.iconst 0, 1) := by decide +kernel
theorem dX5_makeStep_45 : decode cX5_makeStep 45 = .ok (.iconst 4, 1) := by decide +kernel
theorem dX5_makeStep_46 : decode cX5_makeStep 46 = .ok (.invokestatic 101, 3) := by decide +kernel
theorem dX5_makeStep_49 : decode cX5_makeStep 49 = .ok (.aload_n 0, 1) := by decide +kernel
theorem dX5_makeStep_50 : decode cX5_makeStep 50 = .ok (.aload_n 0, 1) := by decide +kernel
theorem dX5_makeStep_51 : decode cX5_makeStep 51 = .ok (.getfield 22, 3) := by decide +kernel
theorem dX5_makeStep_54 : decode cX5_makeStep 54 = .ok (.aload_n 0, 1) := by decide +kernel
theorem dX5_makeStep_55 : decode cX5_makeStep 55 = .ok (.getfield 29, 3) := by decide +kernel
theorem dX5_makeStep_58 : decode cX5_makeStep 58 = .ok (.invokevirtual 129, 3) := by decide +kernel
theorem dX5_makeStep_61 : decode cX5_makeStep 61 = .ok (.aload_n 0, 1) := by decide +kernel
theorem dX5_makeStep_62 : decode cX5_makeStep 62 = .ok (.getfield 22, 3) := by decide +kernel
theorem dX5_makeStep_65 : decode cX5_makeStep 65 = .ok (.aload_n 0, 1) := by decide +kernel
theorem dX5_makeStep_66 : decode cX5_makeStep 66 = .ok (.getfield 38, 3) := by decide +kernel
theorem dX5_makeStep_69 : decode cX5_makeStep 69 = .ok (.invokestatic 83, 3) := by decide +kernel
theorem dX5_makeStep_72 : decode cX5_makeStep 72 = .ok (.aload_n 0, 1) := by decide +kernel
theorem dX5_makeStep_73 : decode cX5_makeStep 73 = .ok (.getfield 29, 3) := by decide +kernel
theorem dX5_makeStep_76 : decode cX5_makeStep 76 = .ok (.aload_n 0, 1) := by decide +kernel
theorem dX5_makeStep_77 : decode cX5_makeStep 77 = .ok (.getfield 19, 3) := by decide +kernel
theorem dX5_makeStep_80 : decode cX5_makeStep 80 = .ok (.iconst 0, 1) := by decide +kernel
theorem dX5_makeStep_81 : decode cX5_makeStep 81 = .ok (.iconst 4, 1) := by decide +kernel
theorem dX5_makeStep_82 : decode cX5_makeStep 82 = .ok (.invokestatic 101, 3) := by decide +kernel
theorem dX5_makeStep_85 : decode cX5_makeStep 85 = .ok (.aload_n 0, 1) := by decide +kernel
theorem dX5_makeStep_86 : decode cX5_makeStep 86 = .ok (.aload_n 0, 1) := by decide +kernel
theorem dX5_makeStep_87 : decode cX5_makeStep 87 = .ok (.getfield 26, 3) := by decide +kernel
theorem dX5_makeStep_90 : decode cX5_makeStep 90 = .ok (.aload_n 0, 1) := by decide +kernel
theorem dX5_makeStep_91 : decode cX5_makeStep 91 = .ok (.getfield 29, 3) := by decide +kernel
theorem dX5_makeStep_94 : decode cX5_makeStep 94 = .ok (.invokevirtual 129, 3) := by decide +kernel
theorem dX5_makeStep_97 : decode cX5_makeStep 97 = .ok (.aload_n 0, 1) := by decide +kernel
theorem dX5_makeStep_98 : decode cX5_makeStep 98 = .ok (.getfield 26, 3) := by decide +kernel
theorem dX5_makeStep_101 : decode cX5_makeStep 101 = .ok (.aload_n 0, 1) := by decide +kernel
theorem dX5_makeStep_102 : decode cX5_makeStep 102 = .ok (.getfield 38, 3) := by decide +kernel
theorem dX5_makeStep_105 : decode cX5_makeStep 105 = .ok (.invokestatic 83, 3) := by decide +kernel
theorem dX5_makeStep_108 : decode cX5_makeStep 108 = .ok (.aload_n 0, 1) := by decide +kernel
theorem dX5_makeStep_109 : decode cX5_makeStep 109 = .ok (.aload_n 0, 1) := by decide +kernel
theorem dX5_makeStep_110 : decode cX5_makeStep 110 = .ok (.getfield 22, 3) := by decide +kernel
theorem dX5_makeStep_113 : decode cX5_makeStep 113 = .ok (.aload_n 0, 1) := by decide +kernel
theorem dX5_makeStep_114 : decode cX5_makeStep 114 = .ok (.getfield 35, 3) := by decide +kernel
theorem dX5_makeStep_117 : decode cX5_makeStep 117 = .ok (.invokevirtual 129, 3) := by decide +kernel
theorem dX5_makeStep_120 : decode cX5_makeStep 120 = .ok (.aload_n 0, 1) := by decide +kernel
theorem dX5_makeStep_121 : decode cX5_makeStep 121 = .ok (.getfield 22, 3) := by decide +kernel
theorem dX5_makeStep_124 : decode cX5_makeStep 124 = .ok (.aload_n 0, 1) := by decide +kernel
theorem dX5_makeStep_125 : decode cX5_makeStep 125 = .ok (.getfield 38, 3) := by decide +kernel
theorem dX5_makeStep_128 : decode cX5_makeStep 128 = .ok (.invokestatic 83, 3) := by decide +kernel
theorem dX5_makeStep_131 : decode cX5_makeStep 131 = .ok (.aload_n 0, 1) := by decide +kernel
theorem dX5_makeStep_132 : decode cX5_makeStep 132 = .ok (.aload_n 0, 1) := by decide +kernel
theorem dX5_makeStep_133 : decode cX5_makeStep 133 = .ok (.getfield 32, 3) := by decide +kernel
theorem dX5_makeStep_136 : decode cX5_makeStep 136 = .ok (.aload_n 0, 1) := by decide +kernel
theorem dX5_makeStep_137 : decode cX5_makeStep 137 = .ok (.getfield 26, 3) := by decide +kernel
theorem dX5_makeStep_140 : decode cX5_makeStep 140 = .ok (.invokevirtual 129, 3) := by decide +kernel
theorem dX5_makeStep_143 : decode cX5_makeStep 143 = .ok (.iconst 0, 1) := by decide +kernel
theorem dX5_makeStep_144 : decode cX5_makeStep 144 = .ok (.istore_n 1, 1) := by decide +kernel
theorem dX5_makeStep_145 : decode cX5_makeStep 145 = .ok (.iload_n 1, 1) := by decide +kernel
theorem dX5_makeStep_146 : decode cX5_makeStep 146 = .ok (.bipush 64, 2) := by decide +kernel
theorem dX5_makeStep_148 : decode cX5_makeStep 148 = .ok (.if_icmp .ge 36, 3) := by decide +kernel
theorem dX5_makeStep_151 : decode cX5_makeStep 151 = .ok (.aload_n 0, 1) := by decide +kernel
theorem dX5_makeStep_152 : decode cX5_makeStep 152 = .ok (.getfield 22, 3) := by decide +kernel
theorem dX5_makeStep_155 : decode cX5_makeStep 155 = .ok (.iload_n 1, 1) := by decide +kernel
theorem dX5_makeStep_156 : decode cX5_makeStep 156 = .ok (.aload_n 0, 1) := by decide +kernel
theorem dX5_makeStep_157 : decode cX5_makeStep 157 = .ok (.getfield 22, 3) := by decide +kernel
theorem dX5_makeStep_160 : decode cX5_makeStep 160 = .ok (.iload_n 1, 1) := by decide +kernel
theorem dX5_makeStep_161 : decode cX5_makeStep 161 = .ok (.laload, 1) := by decide +kernel
theorem dX5_makeStep_162 : decode cX5_makeStep 162 = .ok (.ldc2_w 66, 3) := by decide +kernel
theorem dX5_makeStep_165 : decode cX5_makeStep 165 = .ok (.ladd, 1) := by decide +kernel
theorem dX5_makeStep_166 : decode cX5_makeStep 166 = .ok (.aload_n 0, 1) := by decide +kernel
theorem dX5_makeStep_167 : decode cX5_makeStep 167 = .ok (.getfield 38, 3) := by decide +kernel
theorem dX5_makeStep_170 : decode cX5_makeStep 170 = .ok (.iload_n 1, 1) := by decide +kernel
theorem dX5_makeStep_171 : decode cX5_makeStep 171 = .ok (.laload, 1) := by decide +kernel
theorem dX5_makeStep_172 : decode cX5_makeStep 172 = .ok (.lsub, 1) := by decide +kernel
theorem dX5_makeStep_173 : decode cX5_makeStep 173 = .ok (.ldc2_w 66, 3) := by decide +kernel
theorem dX5_makeStep_176 : decode cX5_makeStep 176 = .ok (.lrem, 1) := by decide +kernel
theorem dX5_makeStep_177 : decode cX5_makeStep 177 = .ok (.lastore, 1) := by decide +kernel
theorem dX5_makeStep_178 : decode cX5_makeStep 178 = .ok (.iinc 1 1, 3) := by decide +kernel
theorem dX5_makeStep_181 : decode cX5_makeStep 181 = .ok (.goto (-36), 3) := by decide +kernel
theorem dX5_makeStep_184 : decode cX5_makeStep 184 = .ok (.aload_n 0, 1) := by decide +kernel
theorem dX5_makeStep_185 : decode cX5_makeStep 185 = .ok (.aload_n 0, 1) := by decide +kernel
theorem dX5_makeStep_186 : decode cX5_makeStep 186 = .ok (.getfield 26, 3) := by decide +kernel
theorem dX5_makeStep_189 : decode cX5_makeStep 189 = .ok (.aload_n 0, 1) := by decide +kernel
theorem dX5_makeStep_190 : decode cX5_makeStep 190 = .ok (.getfield 35, 3) := by decide +kernel
theorem dX5_makeStep_193 : decode cX5_makeStep 193 = .ok (.invokevirtual 129, 3) := by decide +kernel
theorem dX5_makeStep_196 : decode cX5_makeStep 196 = .ok (.aload_n 0, 1) := by decide +kernel
theorem dX5_makeStep_197 : decode cX5_makeStep 197 = .ok (.getfield 26, 3) := by decide +kernel
theorem dX5_makeStep_200 : decode cX5_makeStep 200 = .ok (.aload_n 0, 1) := by decide +kernel
theorem dX5_makeStep_201 : decode cX5_makeStep 201 = .ok (.getfield 38, 3) := by decide +kernel
theorem dX5_makeStep_204 : decode cX5_makeStep 204 = .ok (.invokestatic 83, 3) := by decide +kernel
theorem dX5_makeStep_207 : decode cX5_makeStep 207 = .ok (.aload_n 0, 1) := by decide +kernel
theorem dX5_makeStep_208 : decode cX5_makeStep 208 = .ok (.invokevirtual 132, 3) := by decide +kernel
theorem dX5_makeStep_211 : decode cX5_makeStep 211 = .ok (.return_, 1) := by decide +kernel
set_option maxRecDepth 20000 in
theorem ggX5_step_X5_are : GoodIn wsX5_step wsX5_are := goodIn_r _ [7, 8, 9, 10, 11, 6, 12, 13, 14, 15, 16, 85, 86, 87, 88, 89, 90, 91, 92, 93, 94, 95, 96, 97, 98, 99, 100, 101, 102, 103, 104] (by decide +kernel) (by decide +kernel)
set_option maxRecDepth 20000 in
theorem gX5_step_X5_are : GoodIn wsX5_step (wsV RX5 114 RX5 yX5_are wsX5_are) := goodIn_app (goodIn_of _ (by decide +kernel)) ggX5_step_X5_are
set_option maxRecDepth 20000 in
theorem ggX5_step_X5_isNoRatio : GoodIn wsX5_step wsX5_isNoRatio := goodIn_r _ [20, 21, 85, 86, 87, 88, 89, 90, 91, 92, 93, 94, 95, 96, 97, 98, 99, 100, 101, 102, 103, 104] (by decide +kernel) (by decide +kernel)
set_option maxRecDepth 20000 in
theorem gX5_step_X5_isNoRatio : GoodIn wsX5_step (wsV RX5 138 RX5 yX5_isNoRatio wsX5_isNoRatio) := goodIn_app (goodIn_of _ (by decide +kernel)) ggX5_step_X5_isNoRatio
set_option maxRecDepth 20000 in
theorem ggX5_step_X5_raise : GoodIn wsX5_step wsX5_raise := goodIn_r _ [25, 8, 85, 86, 87, 88, 89, 90, 91, 92, 93, 94, 95, 96, 97, 98, 99, 100, 101, 102, 103, 104] (by decide +kernel) (by decide +kernel)
set_option maxRecDepth 20000 in
theorem gX5_step_X5_raise : GoodIn wsX5_step (wsV RX5 97 RX5 yX5_raise wsX5_raise) := goodIn_app (goodIn_of _ (by decide +kernel)) ggX5_step_X5_raise
set_option maxRecDepth 20000 in
theorem ggX5_step_X5_loadTop : GoodIn wsX5_step wsX5_loadTop := goodIn_r _ [29, 30, 31, 32, 6, 33, 85, 86, 87, 88, 89, 90, 91, 92, 93, 94, 95, 96, 97, 98, 99, 100, 101, 102, 103, 104] (by decide +kernel) (by decide +kernel)
set_option maxRecDepth 20000 in
theorem gX5_step_X5_loadTop : GoodIn wsX5_step (wsV RX5 122 RX5 yX5_loadTop wsX5_loadTop) := goodIn_app (goodIn_of _ (by decide +kernel)) ggX5_step_X5_loadTop
set_option maxRecDepth 20000 in
theorem ggX5_step_X5_loadBottom : GoodIn wsX5_step wsX5_loadBottom := goodIn_r _ [37, 38, 31, 32, 6, 33, 85, 86, 87, 88, 89, 90, 91, 92, 93, 94, 95, 96, 97, 98, 99, 100, 101, 102, 103, 104] (by decide +kernel) (by decide +kernel)
set_option maxRecDepth 20000 in
theorem gX5_step_X5_loadBottom : GoodIn wsX5_step (wsV RX5 126 RX5 yX5_loadBottom wsX5_loadBottom) := goodIn_app (goodIn_of _ (by decide +kernel)) ggX5_step_X5_loadBottom
set_option maxRecDepth 20000 in
theorem ggX5_step_X5_makeStep : GoodIn wsX5_step wsX5_makeStep := goodIn_r _ [42, 43, 1, 44, 2, 45, 46, 47, 21, 48, 49, 50, 6, 51, 52, 53, 54, 31, 32, 33, 55, 56, 57, 58, 59, 60, 61, 62, 63, 64, 65, 66, 67, 68, 69, 70, 71, 72, 73, 74, 75, 76, 77, 78, 79, 80, 85, 86, 87, 88, 89, 90, 91, 92, 93, 94, 95, 96, 97, 98, 99, 100, 101, 102, 103, 104] (by decide +kernel) (by decide +kernel)
set_option maxRecDepth 20000 in
theorem gX5_step_X5_makeStep : GoodIn wsX5_step (wsV RX5 142 RX5 yX5_makeStep wsX5_makeStep) := goodIn_app (goodIn_of _ (by decide +kernel)) ggX5_step_X5_makeStep
set_option maxRecDepth 20000 in
theorem ggX5_step_X5_keep : GoodIn wsX5_step wsX5_keep := goodIn_r _ [84, 13, 1, 2, 8, 30, 38, 62, 63, 6, 64, 22, 23, 24, 25, 85, 86, 87, 88, 89, 90, 91, 92, 93, 94, 95, 96, 97, 98, 99, 100, 101, 102, 103, 104] (by decide +kernel) (by decide +kernel)
set_option maxRecDepth 20000 in
theorem gX5_step_X5_keep : GoodIn wsX5_step (wsV RX5 107 RX5 yX5_keep wsX5_keep) := goodIn_app (goodIn_of _ (by decide +kernel)) ggX5_step_X5_keep
theorem dX5_step_0 : decode cX5_step 0 = .ok (.aload_n 0, 1) := by decide +kernel
theorem dX5_step_1 : decode cX5_step 1 = .ok (.iload_n 1, 1) := by decide +kernel
theorem dX5_step_2 : decode cX5_step 2 = .ok (.iload_n 1, 1) := by decide +kernel
theorem dX5_step_3 : decode cX5_step 3 = .ok (.invokevirtual 114, 3) := by decide +kernel
theorem dX5_step_6 : decode cX5_step 6 = .ok (.ifCond .ne 5, 3) := by decide +kernel
theorem dX5_step_9 : decode cX5_step 9 = .ok (.iconst 0, 1) := by decide +kernel
theorem dX5_step_10 : decode cX5_step 10 = .ok (.ireturn, 1) := by decide +kernel
theorem dX5_step_11 : decode cX5_step 11 = .ok (.aload_n 0, 1) := by decide +kernel
theorem dX5_step_12 : decode cX5_step 12 = .ok (.invokevirtual 138, 3) := by decide +kernel
theorem dX5_step_15 : decode cX5_step 15 = .ok (.ifCond .eq 9, 3) := by decide +kernel
theorem dX5_step_18 : decode cX5_step 18 = .ok (.aload_n 0, 1) := by decide +kernel
theorem dX5_step_19 : decode cX5_step 19 = .ok (.iconst 2, 1) := by decide +kernel
theorem dX5_step_20 : decode cX5_step 20 = .ok (.invokevirtual 97, 3) := by decide +kernel
theorem dX5_step_23 : decode cX5_step 23 = .ok (.ireturn, 1) := by decide +kernel
theorem dX5_step_24 : decode cX5_step 24 = .ok (.aload_n 0, 1) := by decide +kernel
theorem dX5_step_25 : decode cX5_step 25 = .ok (.aload_n 0, 1) := by decide +kernel
theorem dX5_step_26 : decode cX5_step 26 = .ok (.getfield 22, 3) := by decide +kernel
theorem dX5_step_29 : decode cX5_step 29 = .ok (.iload_n 1, 1) := by decide +kernel
theorem dX5_step_30 : decode cX5_step 30 = .ok (.invokevirtual 122, 3) := by decide +kernel
theorem dX5_step_33 : decode cX5_step 33 = .ok (.aload_n 0, 1) := by decide +kernel
theorem dX5_step_34 : decode cX5_step 34 = .ok (.aload_n 0, 1) := by decide +kernel
theorem dX5_step_35 : decode cX5_step 35 = .ok (.getfield 26, 3) := by decide +kernel
theorem dX5_step_38 : decode cX5_step 38 = .ok (.iload_n 1, 1) := by decide +kernel
theorem dX5_step_39 : decode cX5_step 39 = .ok (.invokevirtual 126, 3) := by decide +kernel
theorem dX5_step_42 : decode cX5_step 42 = .ok (.aload_n 0, 1) := by decide +kernel
theorem dX5_step_43 : decode cX5_step 43 = .ok (.invokevirtual 142, 3) := by decide +kernel
theorem dX5_step_46 : decode cX5_step 46 = .ok (.aload_n 0, 1) := by decide +kernel
theorem dX5_step_47 : decode cX5_step 47 = .ok (.iconst 3, 1) := by decide +kernel
theorem dX5_step_48 : decode cX5_step 48 = .ok (.invokevirtual 107, 3) := by decide +kernel
theorem dX5_step_51 : decode cX5_step 51 = .ok (.ireturn, 1) := by decide +kernel
set_option maxRecDepth 20000 in
theorem ggX5_proves_X5_are : GoodIn wsX5_proves wsX5_are := goodIn_r _ [10, 1, 11, 12, 13, 9, 14, 15, 16, 17, 18, 77, 78, 79, 80, 81, 82, 83, 84, 85, 86, 87, 88, 89, 90, 91, 92, 93, 94, 95, 96] (by decide +kernel) (by decide +kernel)
set_option maxRecDepth 20000 in
theorem gX5_proves_X5_are : GoodIn wsX5_proves (wsV RX5 114 RX5 yX5_are wsX5_are) := goodIn_app (goodIn_of _ (by decide +kernel)) ggX5_proves_X5_are
set_option maxRecDepth 20000 in
theorem ggX5_proves_X5_isNoRatio : GoodIn wsX5_proves wsX5_isNoRatio := goodIn_r _ [22, 23, 77, 78, 79, 80, 81, 82, 83, 84, 85, 86, 87, 88, 89, 90, 91, 92, 93, 94, 95, 96] (by decide +kernel) (by decide +kernel)
set_option maxRecDepth 20000 in
theorem gX5_proves_X5_isNoRatio : GoodIn wsX5_proves (wsV RX5 138 RX5 yX5_isNoRatio wsX5_isNoRatio) := goodIn_app (goodIn_of _ (by decide +kernel)) ggX5_proves_X5_isNoRatio
set_option maxRecDepth 20000 in
theorem ggX5_proves_X5_loadTop : GoodIn wsX5_proves wsX5_loadTop := goodIn_r _ [27, 4, 28, 29, 9, 30, 77, 78, 79, 80, 81, 82, 83, 84, 85, 86, 87, 88, 89, 90, 91, 92, 93, 94, 95, 96] (by decide +kernel) (by decide +kernel)
set_option maxRecDepth 20000 in
theorem gX5_proves_X5_loadTop : GoodIn wsX5_proves (wsV RX5 122 RX5 yX5_loadTop wsX5_loadTop) := goodIn_app (goodIn_of _ (by decide +kernel)) ggX5_proves_X5_loadTop
set_option maxRecDepth 20000 in
theorem ggX5_proves_X5_loadBottom : GoodIn wsX5_proves wsX5_loadBottom := goodIn_r _ [34, 5, 28, 29, 9, 30, 77, 78, 79, 80, 81, 82, 83, 84, 85, 86, 87, 88, 89, 90, 91, 92, 93, 94, 95, 96] (by decide +kernel) (by decide +kernel)
set_option maxRecDepth 20000 in
theorem gX5_proves_X5_loadBottom : GoodIn wsX5_proves (wsV RX5 126 RX5 yX5_loadBottom wsX5_loadBottom) := goodIn_app (goodIn_of _ (by decide +kernel)) ggX5_proves_X5_loadBottom
set_option maxRecDepth 20000 in
theorem ggX5_proves_X5_makeStep : GoodIn wsX5_proves wsX5_makeStep := goodIn_r _ [38, 39, 2, 40, 3, 41, 42, 43, 23, 44, 45, 46, 9, 47, 48, 49, 50, 28, 29, 30, 51, 52, 53, 54, 55, 56, 57, 58, 59, 60, 61, 62, 63, 64, 65, 66, 67, 68, 69, 70, 71, 72, 73, 74, 75, 76, 77, 78, 79, 80, 81, 82, 83, 84, 85, 86, 87, 88, 89, 90, 91, 92, 93, 94, 95, 96] (by decide +kernel) (by decide +kernel)
set_option maxRecDepth 20000 in
theorem gX5_proves_X5_makeStep : GoodIn wsX5_proves (wsV RX5 142 RX5 yX5_makeStep wsX5_makeStep) := goodIn_app (goodIn_of _ (by decide +kernel)) ggX5_proves_X5_makeStep
theorem dX5_proves_0 : decode cX5_proves 0 = .ok (.aload_n 0, 1) := by decide +kernel
theorem dX5_proves_1 : decode cX5_proves 1 = .ok (.iload_n 1, 1) := by decide +kernel
theorem dX5_proves_2 : decode cX5_proves 2 = .ok (.iload_n 2, 1) := by decide +kernel
theorem dX5_proves_3 : decode cX5_proves 3 = .ok (.invokevirtual 114, 3) := by decide +kernel
theorem dX5_proves_6 : decode cX5_proves 6 = .ok (.ifCond .ne 5, 3) := by decide +kernel
theorem dX5_proves_9 : decode cX5_proves 9 = .ok (.iconst 0, 1) := by decide +kernel
theorem dX5_proves_10 : decode cX5_proves 10 = .ok (.ireturn, 1) := by decide +kernel
theorem dX5_proves_11 : decode cX5_proves 11 = .ok (.aload_n 0, 1) := by decide +kernel
theorem dX5_proves_12 : decode cX5_proves 12 = .ok (.aload_n 0, 1) := by decide +kernel
theorem dX5_proves_13 : decode cX5_proves 13 = .ok (.invokevirtual 138, 3) := by decide +kernel
theorem dX5_proves_16 : decode cX5_proves 16 = .ok (.ifCond .eq 7, 3) := by decide +kernel
theorem dX5_proves_19 : decode cX5_proves 19 = .ok (.iconst 2, 1) := by decide +kernel
theorem dX5_proves_20 : decode cX5_proves 20 = .ok (.goto 4, 3) := by decide +kernel
theorem dX5_proves_23 : decode cX5_proves 23 = .ok (.iconst 0, 1) := by decide +kernel
theorem dX5_proves_24 : decode cX5_proves 24 = .ok (.putfield 62, 3) := by decide +kernel
theorem dX5_proves_27 : decode cX5_proves 27 = .ok (.aload_n 0, 1) := by decide +kernel
theorem dX5_proves_28 : decode cX5_proves 28 = .ok (.getfield 62, 3) := by decide +kernel
theorem dX5_proves_31 : decode cX5_proves 31 = .ok (.ifCond .le 5, 3) := by decide +kernel
theorem dX5_proves_34 : decode cX5_proves 34 = .ok (.iconst 0, 1) := by decide +kernel
theorem dX5_proves_35 : decode cX5_proves 35 = .ok (.ireturn, 1) := by decide +kernel
theorem dX5_proves_36 : decode cX5_proves 36 = .ok (.aload_n 0, 1) := by decide +kernel
theorem dX5_proves_37 : decode cX5_proves 37 = .ok (.aload_n 0, 1) := by decide +kernel
theorem dX5_proves_38 : decode cX5_proves 38 = .ok (.getfield 22, 3) := by decide +kernel
theorem dX5_proves_41 : decode cX5_proves 41 = .ok (.iload_n 2, 1) := by decide +kernel
theorem dX5_proves_42 : decode cX5_proves 42 = .ok (.invokevirtual 122, 3) := by decide +kernel
theorem dX5_proves_45 : decode cX5_proves 45 = .ok (.aload_n 0, 1) := by decide +kernel
theorem dX5_proves_46 : decode cX5_proves 46 = .ok (.aload_n 0, 1) := by decide +kernel
theorem dX5_proves_47 : decode cX5_proves 47 = .ok (.getfield 26, 3) := by decide +kernel
theorem dX5_proves_50 : decode cX5_proves 50 = .ok (.iload_n 2, 1) := by decide +kernel
theorem dX5_proves_51 : decode cX5_proves 51 = .ok (.invokevirtual 126, 3) := by decide +kernel
theorem dX5_proves_54 : decode cX5_proves 54 = .ok (.aload_n 0, 1) := by decide +kernel
theorem dX5_proves_55 : decode cX5_proves 55 = .ok (.invokevirtual 142, 3) := by decide +kernel
theorem dX5_proves_58 : decode cX5_proves 58 = .ok (.iconst 0, 1) := by decide +kernel
theorem dX5_proves_59 : decode cX5_proves 59 = .ok (.istore_n 3, 1) := by decide +kernel
theorem dX5_proves_60 : decode cX5_proves 60 = .ok (.iload_n 3, 1) := by decide +kernel
theorem dX5_proves_61 : decode cX5_proves 61 = .ok (.bipush 64, 2) := by decide +kernel
theorem dX5_proves_63 : decode cX5_proves 63 = .ok (.if_icmp .ge 75, 3) := by decide +kernel
theorem dX5_proves_66 : decode cX5_proves 66 = .ok (.aload_n 0, 1) := by decide +kernel
theorem dX5_proves_67 : decode cX5_proves 67 = .ok (.getfield 22, 3) := by decide +kernel
theorem dX5_proves_70 : decode cX5_proves 70 = .ok (.iload_n 3, 1) := by decide +kernel
theorem dX5_proves_71 : decode cX5_proves 71 = .ok (.laload, 1) := by decide +kernel
theorem dX5_proves_72 : decode cX5_proves 72 = .ok (.iload_n 3, 1) := by decide +kernel
theorem dX5_proves_73 : decode cX5_proves 73 = .ok (.bipush 21, 2) := by decide +kernel
theorem dX5_proves_75 : decode cX5_proves 75 = .ok (.if_icmp .ge 17, 3) := by decide +kernel
theorem dX5_proves_78 : decode cX5_proves 78 = .ok (.aload_n 0, 1) := by decide +kernel
theorem dX5_proves_79 : decode cX5_proves 79 = .ok (.getfield 7, 3) := by decide +kernel
theorem dX5_proves_82 : decode cX5_proves 82 = .ok (.bipush 21, 2) := by decide +kernel
theorem dX5_proves_84 : decode cX5_proves 84 = .ok (.iload_n 1, 1) := by decide +kernel
theorem dX5_proves_85 : decode cX5_proves 85 = .ok (.imul, 1) := by decide +kernel
theorem dX5_proves_86 : decode cX5_proves 86 = .ok (.iload_n 3, 1) := by decide +kernel
theorem dX5_proves_87 : decode cX5_proves 87 = .ok (.iadd, 1) := by decide +kernel
theorem dX5_proves_88 : decode cX5_proves 88 = .ok (.iaload, 1) := by decide +kernel
theorem dX5_proves_89 : decode cX5_proves 89 = .ok (.goto 4, 3) := by decide +kernel
theorem dX5_proves_92 : decode cX5_proves 92 = .ok (.iconst 0, 1) := by decide +kernel
theorem dX5_proves_93 : decode cX5_proves 93 = .ok (.i2l, 1) := by decide +kernel
theorem dX5_proves_94 : decode cX5_proves 94 = .ok (.lcmp, 1) := by decide +kernel
theorem dX5_proves_95 : decode cX5_proves 95 = .ok (.ifCond .ne 35, 3) := by decide +kernel
theorem dX5_proves_98 : decode cX5_proves 98 = .ok (.aload_n 0, 1) := by decide +kernel
theorem dX5_proves_99 : decode cX5_proves 99 = .ok (.getfield 26, 3) := by decide +kernel
theorem dX5_proves_102 : decode cX5_proves 102 = .ok (.iload_n 3, 1) := by decide +kernel
theorem dX5_proves_103 : decode cX5_proves 103 = .ok (.laload, 1) := by decide +kernel
theorem dX5_proves_104 : decode cX5_proves 104 = .ok (.iload_n 3, 1) := by decide +kernel
theorem dX5_proves_105 : decode cX5_proves 105 = .ok (.bipush 21, 2) := by decide +kernel
theorem dX5_proves_107 : decode cX5_proves 107 = .ok (.if_icmp .ge 17, 3) := by decide +kernel
theorem dX5_proves_110 : decode cX5_proves 110 = .ok (.aload_n 0, 1) := by decide +kernel
theorem dX5_proves_111 : decode cX5_proves 111 = .ok (.getfield 13, 3) := by decide +kernel
theorem dX5_proves_114 : decode cX5_proves 114 = .ok (.bipush 21, 2) := by decide +kernel
theorem dX5_proves_116 : decode cX5_proves 116 = .ok (.iload_n 1, 1) := by decide +kernel
theorem dX5_proves_117 : decode cX5_proves 117 = .ok (.imul, 1) := by decide +kernel
theorem dX5_proves_118 : decode cX5_proves 118 = .ok (.iload_n 3, 1) := by decide +kernel
theorem dX5_proves_119 : decode cX5_proves 119 = .ok (.iadd, 1) := by decide +kernel
theorem dX5_proves_120 : decode cX5_proves 120 = .ok (.iaload, 1) := by decide +kernel
theorem dX5_proves_121 : decode cX5_proves 121 = .ok (.goto 4, 3) := by decide +kernel
theorem dX5_proves_124 : decode cX5_proves 124 = .ok (.iconst 0, 1) := by decide +kernel
theorem dX5_proves_125 : decode cX5_proves 125 = .ok (.i2l, 1) := by decide +kernel
theorem dX5_proves_126 : decode cX5_proves 126 = .ok (.lcmp, 1) := by decide +kernel
theorem dX5_proves_127 : decode cX5_proves 127 = .ok (.ifCond .eq 5, 3) := by decide +kernel
theorem dX5_proves_130 : decode cX5_proves 130 = .ok (.iconst 0, 1) := by decide +kernel
theorem dX5_proves_131 : decode cX5_proves 131 = .ok (.ireturn, 1) := by decide +kernel
theorem dX5_proves_132 : decode cX5_proves 132 = .ok (.iinc 3 1, 3) := by decide +kernel
theorem dX5_proves_135 : decode cX5_proves 135 = .ok (.goto (-75), 3) := by decide +kernel
theorem dX5_proves_138 : decode cX5_proves 138 = .ok (.iconst 1, 1) := by decide +kernel
theorem dX5_proves_139 : decode cX5_proves 139 = .ok (.ireturn, 1) := by decide +kernel
set_option maxRecDepth 20000 in
theorem ggX5_fill_X5_loadTop : GoodIn wsX5_fill wsX5_loadTop := goodIn_r _ [18, 19, 20, 21, 17, 22, 44, 45, 46, 47, 48, 49, 50, 51, 52, 53, 54, 55, 56, 57, 58, 59, 60, 61, 62, 63] (by decide +kernel) (by decide +kernel)
set_option maxRecDepth 20000 in
theorem gX5_fill_X5_loadTop : GoodIn wsX5_fill (wsV RX5 122 RX5 yX5_loadTop wsX5_loadTop) := goodIn_app (goodIn_of _ (by decide +kernel)) ggX5_fill_X5_loadTop
set_option maxRecDepth 20000 in
theorem ggX5_fill_X5_copy : GoodIn wsX5_fill wsX5_copy := goodIn_r _ [25] (by decide +kernel) (by decide +kernel)
set_option maxRecDepth 20000 in
theorem gX5_fill_X5_copy : GoodIn wsX5_fill (va_wsS RX5 83 yX5_copy wsX5_copy) := goodIn_app (goodIn_of _ (by decide +kernel)) ggX5_fill_X5_copy
set_option maxRecDepth 20000 in
theorem ggX5_fill_X5_move : GoodIn wsX5_fill wsX5_move := goodIn_r _ [28, 13] (by decide +kernel) (by decide +kernel)
set_option maxRecDepth 20000 in
theorem gX5_fill_X5_move : GoodIn wsX5_fill (va_wsS RX5 135 yX5_move wsX5_move) := goodIn_app (goodIn_of _ (by decide +kernel)) ggX5_fill_X5_move
set_option maxRecDepth 20000 in
theorem ggX5_fill_X5_load : GoodIn wsX5_fill wsX5_load := goodIn_r _ [22] (by decide +kernel) (by decide +kernel)
set_option maxRecDepth 20000 in
theorem gX5_fill_X5_load : GoodIn wsX5_fill (va_wsS RX5 101 yX5_load wsX5_load) := goodIn_app (goodIn_of _ (by decide +kernel)) ggX5_fill_X5_load
set_option maxRecDepth 20000 in
theorem ggX5_fill_X5_multiply : GoodIn wsX5_fill wsX5_multiply := goodIn_r _ [32, 6, 13, 33, 34, 17, 35, 36, 37, 38, 44, 45, 46, 47, 48, 49, 50, 51, 52, 53, 54, 55, 56, 57, 58, 59, 60, 61, 62, 63] (by decide +kernel) (by decide +kernel)
set_option maxRecDepth 20000 in
theorem gX5_fill_X5_multiply : GoodIn wsX5_fill (wsV RX5 129 RX5 yX5_multiply wsX5_multiply) := goodIn_app (goodIn_of _ (by decide +kernel)) ggX5_fill_X5_multiply
set_option maxRecDepth 20000 in
theorem ggX5_fill_X5_loadBottom : GoodIn wsX5_fill wsX5_loadBottom := goodIn_r _ [42, 43, 20, 21, 17, 22, 44, 45, 46, 47, 48, 49, 50, 51, 52, 53, 54, 55, 56, 57, 58, 59, 60, 61, 62, 63] (by decide +kernel) (by decide +kernel)
set_option maxRecDepth 20000 in
theorem gX5_fill_X5_loadBottom : GoodIn wsX5_fill (wsV RX5 126 RX5 yX5_loadBottom wsX5_loadBottom) := goodIn_app (goodIn_of _ (by decide +kernel)) ggX5_fill_X5_loadBottom
set_option maxRecDepth 20000 in
theorem ggX5_fill_X5_empty : GoodIn wsX5_fill wsX5_empty := goodIn_r _ [35] (by decide +kernel) (by decide +kernel)
set_option maxRecDepth 20000 in
theorem gX5_fill_X5_empty : GoodIn wsX5_fill (va_wsS RX5 68 yX5_empty wsX5_empty) := goodIn_app (goodIn_of _ (by decide +kernel)) ggX5_fill_X5_empty
theorem dX5_fill_0 : decode cX5_fill 0 = .ok (.aload_n 0, 1) := by decide +kernel
theorem dX5_fill_1 : decode cX5_fill 1 = .ok (.aload_n 0, 1) := by decide +kernel
theorem dX5_fill_2 : decode cX5_fill 2 = .ok (.getfield 53, 3) := by decide +kernel
theorem dX5_fill_5 : decode cX5_fill 5 = .ok (.iload_n 2, 1) := by decide +kernel
theorem dX5_fill_6 : decode cX5_fill 6 = .ok (.invokevirtual 122, 3) := by decide +kernel
theorem dX5_fill_9 : decode cX5_fill 9 = .ok (.aload_n 0, 1) := by decide +kernel
theorem dX5_fill_10 : decode cX5_fill 10 = .ok (.getfield 56, 3) := by decide +kernel
theorem dX5_fill_13 : decode cX5_fill 13 = .ok (.aload_n 0, 1) := by decide +kernel
theorem dX5_fill_14 : decode cX5_fill 14 = .ok (.getfield 53, 3) := by decide +kernel
theorem dX5_fill_17 : decode cX5_fill 17 = .ok (.invokestatic 83, 3) := by decide +kernel
theorem dX5_fill_20 : decode cX5_fill 20 = .ok (.aload_n 0, 1) := by decide +kernel
theorem dX5_fill_21 : decode cX5_fill 21 = .ok (.getfield 56, 3) := by decide +kernel
theorem dX5_fill_24 : decode cX5_fill 24 = .ok (.invokestatic 135, 3) := by decide +kernel
theorem dX5_fill_27 : decode cX5_fill 27 = .ok (.aload_n 0, 1) := by decide +kernel
theorem dX5_fill_28 : decode cX5_fill 28 = .ok (.getfield 29, 3) := by decide +kernel
theorem dX5_fill_31 : decode cX5_fill 31 = .ok (.aload_n 0, 1) := by decide +kernel
theorem dX5_fill_32 : decode cX5_fill 32 = .ok (.getfield 16, 3) := by decide +kernel
theorem dX5_fill_35 : decode cX5_fill 35 = .ok (.iconst 0, 1) := by decide +kernel
theorem dX5_fill_36 : decode cX5_fill 36 = .ok (.iconst 4, 1) := by decide +kernel
theorem dX5_fill_37 : decode cX5_fill 37 = .ok (.invokestatic 101, 3) := by decide +kernel
theorem dX5_fill_40 : decode cX5_fill 40 = .ok (.aload_n 0, 1) := by decide +kernel
theorem dX5_fill_41 : decode cX5_fill 41 = .ok (.aload_n 0, 1) := by decide +kernel
theorem dX5_fill_42 : decode cX5_fill 42 = .ok (.getfield 29, 3) := by decide +kernel
theorem dX5_fill_45 : decode cX5_fill 45 = .ok (.aload_n 0, 1) := by decide +kernel
theorem dX5_fill_46 : decode cX5_fill 46 = .ok (.getfield 53, 3) := by decide +kernel
theorem dX5_fill_49 : decode cX5_fill 49 = .ok (.invokevirtual 129, 3) := by decide +kernel
theorem dX5_fill_52 : decode cX5_fill 52 = .ok (.aload_n 0, 1) := by decide +kernel
theorem dX5_fill_53 : decode cX5_fill 53 = .ok (.getfield 32, 3) := by decide +kernel
theorem dX5_fill_56 : decode cX5_fill 56 = .ok (.aload_n 0, 1) := by decide +kernel
theorem dX5_fill_57 : decode cX5_fill 57 = .ok (.getfield 38, 3) := by decide +kernel
theorem dX5_fill_60 : decode cX5_fill 60 = .ok (.invokestatic 83, 3) := by decide +kernel
theorem dX5_fill_63 : decode cX5_fill 63 = .ok (.aload_n 0, 1) := by decide +kernel
theorem dX5_fill_64 : decode cX5_fill 64 = .ok (.getfield 29, 3) := by decide +kernel
theorem dX5_fill_67 : decode cX5_fill 67 = .ok (.aload_n 0, 1) := by decide +kernel
theorem dX5_fill_68 : decode cX5_fill 68 = .ok (.getfield 19, 3) := by decide +kernel
theorem dX5_fill_71 : decode cX5_fill 71 = .ok (.iconst 0, 1) := by decide +kernel
theorem dX5_fill_72 : decode cX5_fill 72 = .ok (.iconst 4, 1) := by decide +kernel
theorem dX5_fill_73 : decode cX5_fill 73 = .ok (.invokestatic 101, 3) := by decide +kernel
theorem dX5_fill_76 : decode cX5_fill 76 = .ok (.aload_n 0, 1) := by decide +kernel
theorem dX5_fill_77 : decode cX5_fill 77 = .ok (.aload_n 0, 1) := by decide +kernel
theorem dX5_fill_78 : decode cX5_fill 78 = .ok (.getfield 29, 3) := by decide +kernel
theorem dX5_fill_81 : decode cX5_fill 81 = .ok (.aload_n 0, 1) := by decide +kernel
theorem dX5_fill_82 : decode cX5_fill 82 = .ok (.getfield 56, 3) := by decide +kernel
theorem dX5_fill_85 : decode cX5_fill 85 = .ok (.invokevirtual 129, 3) := by decide +kernel
theorem dX5_fill_88 : decode cX5_fill 88 = .ok (.aload_n 0, 1) := by decide +kernel
theorem dX5_fill_89 : decode cX5_fill 89 = .ok (.getfield 35, 3) := by decide +kernel
theorem dX5_fill_92 : decode cX5_fill 92 = .ok (.aload_n 0, 1) := by decide +kernel
theorem dX5_fill_93 : decode cX5_fill 93 = .ok (.getfield 38, 3) := by decide +kernel
theorem dX5_fill_96 : decode cX5_fill 96 = .ok (.invokestatic 83, 3) := by decide +kernel
theorem dX5_fill_99 : decode cX5_fill 99 = .ok (.aload_n 0, 1) := by decide +kernel
theorem dX5_fill_100 : decode cX5_fill 100 = .ok (.aload_n 0, 1) := by decide +kernel
theorem dX5_fill_101 : decode cX5_fill 101 = .ok (.getfield 29, 3) := by decide +kernel
theorem dX5_fill_104 : decode cX5_fill 104 = .ok (.iload_n 1, 1) := by decide +kernel
theorem dX5_fill_105 : decode cX5_fill 105 = .ok (.invokevirtual 126, 3) := by decide +kernel
theorem dX5_fill_108 : decode cX5_fill 108 = .ok (.aload_n 0, 1) := by decide +kernel
theorem dX5_fill_109 : decode cX5_fill 109 = .ok (.aload_n 0, 1) := by decide +kernel
theorem dX5_fill_110 : decode cX5_fill 110 = .ok (.getfield 32, 3) := by decide +kernel
theorem dX5_fill_113 : decode cX5_fill 113 = .ok (.aload_n 0, 1) := by decide +kernel
theorem dX5_fill_114 : decode cX5_fill 114 = .ok (.getfield 29, 3) := by decide +kernel
theorem dX5_fill_117 : decode cX5_fill 117 = .ok (.invokevirtual 129, 3) := by decide +kernel
theorem dX5_fill_120 : decode cX5_fill 120 = .ok (.aload_n 0, 1) := by decide +kernel
theorem dX5_fill_121 : decode cX5_fill 121 = .ok (.getfield 32, 3) := by decide +kernel
theorem dX5_fill_124 : decode cX5_fill 124 = .ok (.aload_n 0, 1) := by decide +kernel
theorem dX5_fill_125 : decode cX5_fill 125 = .ok (.getfield 38, 3) := by decide +kernel
theorem dX5_fill_128 : decode cX5_fill 128 = .ok (.invokestatic 83, 3) := by decide +kernel
theorem dX5_fill_131 : decode cX5_fill 131 = .ok (.aload_n 0, 1) := by decide +kernel
theorem dX5_fill_132 : decode cX5_fill 132 = .ok (.aload_n 0, 1) := by decide +kernel
theorem dX5_fill_133 : decode cX5_fill 133 = .ok (.getfield 35, 3) := by decide +kernel
theorem dX5_fill_136 : decode cX5_fill 136 = .ok (.aload_n 0, 1) := by decide +kernel
theorem dX5_fill_137 : decode cX5_fill 137 = .ok (.getfield 29, 3) := by decide +kernel
theorem dX5_fill_140 : decode cX5_fill 140 = .ok (.invokevirtual 129, 3) := by decide +kernel
theorem dX5_fill_143 : decode cX5_fill 143 = .ok (.aload_n 0, 1) := by decide +kernel
theorem dX5_fill_144 : decode cX5_fill 144 = .ok (.getfield 59, 3) := by decide +kernel
theorem dX5_fill_147 : decode cX5_fill 147 = .ok (.aload_n 0, 1) := by decide +kernel
theorem dX5_fill_148 : decode cX5_fill 148 = .ok (.getfield 38, 3) := by decide +kernel
theorem dX5_fill_151 : decode cX5_fill 151 = .ok (.invokestatic 83, 3) := by decide +kernel
theorem dX5_fill_154 : decode cX5_fill 154 = .ok (.iconst 0, 1) := by decide +kernel
theorem dX5_fill_155 : decode cX5_fill 155 = .ok (.istore_n 3, 1) := by decide +kernel
theorem dX5_fill_156 : decode cX5_fill 156 = .ok (.iload_n 3, 1) := by decide +kernel
theorem dX5_fill_157 : decode cX5_fill 157 = .ok (.bipush 9, 2) := by decide +kernel
theorem dX5_fill_159 : decode cX5_fill 159 = .ok (.if_icmp .ge 130, 3) := by decide +kernel
theorem dX5_fill_162 : decode cX5_fill 162 = .ok (.aload_n 0, 1) := by decide +kernel
theorem dX5_fill_163 : decode cX5_fill 163 = .ok (.getfield 22, 3) := by decide +kernel
theorem dX5_fill_166 : decode cX5_fill 166 = .ok (.invokestatic 68, 3) := by decide +kernel
theorem dX5_fill_169 : decode cX5_fill 169 = .ok (.aload_n 0, 1) := by decide +kernel
theorem dX5_fill_170 : decode cX5_fill 170 = .ok (.getfield 22, 3) := by decide +kernel
theorem dX5_fill_173 : decode cX5_fill 173 = .ok (.iload_n 3, 1) := by decide +kernel
theorem dX5_fill_174 : decode cX5_fill 174 = .ok (.lconst 1, 1) := by decide +kernel
theorem dX5_fill_175 : decode cX5_fill 175 = .ok (.lastore, 1) := by decide +kernel
theorem dX5_fill_176 : decode cX5_fill 176 = .ok (.aload_n 0, 1) := by decide +kernel
theorem dX5_fill_177 : decode cX5_fill 177 = .ok (.getfield 26, 3) := by decide +kernel
theorem dX5_fill_180 : decode cX5_fill 180 = .ok (.invokestatic 68, 3) := by decide +kernel
theorem dX5_fill_183 : decode cX5_fill 183 = .ok (.aload_n 0, 1) := by decide +kernel
theorem dX5_fill_184 : decode cX5_fill 184 = .ok (.getfield 26, 3) := by decide +kernel
theorem dX5_fill_187 : decode cX5_fill 187 = .ok (.iload_n 3, 1) := by decide +kernel
theorem dX5_fill_188 : decode cX5_fill 188 = .ok (.lconst 1, 1) := by decide +kernel
theorem dX5_fill_189 : decode cX5_fill 189 = .ok (.lastore, 1) := by decide +kernel
theorem dX5_fill_190 : decode cX5_fill 190 = .ok (.aload_n 0, 1) := by decide +kernel
theorem dX5_fill_191 : decode cX5_fill 191 = .ok (.getfield 26, 3) := by decide +kernel
theorem dX5_fill_194 : decode cX5_fill 194 = .ok (.invokestatic 135, 3) := by decide +kernel
theorem dX5_fill_197 : decode cX5_fill 197 = .ok (.aload_n 0, 1) := by decide +kernel
theorem dX5_fill_198 : decode cX5_fill 198 = .ok (.aload_n 0, 1) := by decide +kernel
theorem dX5_fill_199 : decode cX5_fill 199 = .ok (.getfield 26, 3) := by decide +kernel
theorem dX5_fill_202 : decode cX5_fill 202 = .ok (.aload_n 0, 1) := by decide +kernel
theorem dX5_fill_203 : decode cX5_fill 203 = .ok (.getfield 32, 3) := by decide +kernel
theorem dX5_fill_206 : decode cX5_fill 206 = .ok (.invokevirtual 129, 3) := by decide +kernel
theorem dX5_fill_209 : decode cX5_fill 209 = .ok (.aload_n 0, 1) := by decide +kernel
theorem dX5_fill_210 : decode cX5_fill 210 = .ok (.getfield 26, 3) := by decide +kernel
theorem dX5_fill_213 : decode cX5_fill 213 = .ok (.aload_n 0, 1) := by decide +kernel
theorem dX5_fill_214 : decode cX5_fill 214 = .ok (.getfield 38, 3) := by decide +kernel
theorem dX5_fill_217 : decode cX5_fill 217 = .ok (.invokestatic 83, 3) := by decide +kernel
theorem dX5_fill_220 : decode cX5_fill 220 = .ok (.aload_n 0, 1) := by decide +kernel
theorem dX5_fill_221 : decode cX5_fill 221 = .ok (.aload_n 0, 1) := by decide +kernel
theorem dX5_fill_222 : decode cX5_fill 222 = .ok (.getfield 22, 3) := by decide +kernel
theorem dX5_fill_225 : decode cX5_fill 225 = .ok (.aload_n 0, 1) := by decide +kernel
theorem dX5_fill_226 : decode cX5_fill 226 = .ok (.getfield 59, 3) := by decide +kernel
theorem dX5_fill_229 : decode cX5_fill 229 = .ok (.invokevirtual 129, 3) := by decide +kernel
theorem dX5_fill_232 : decode cX5_fill 232 = .ok (.iconst 0, 1) := by decide +kernel
theorem dX5_fill_233 : decode cX5_fill 233 = .ok (.istore 4, 2) := by decide +kernel
theorem dX5_fill_235 : decode cX5_fill 235 = .ok (.iload 4, 2) := by decide +kernel
theorem dX5_fill_237 : decode cX5_fill 237 = .ok (.bipush 64, 2) := by decide +kernel
theorem dX5_fill_239 : decode cX5_fill 239 = .ok (.if_icmp .ge 44, 3) := by decide +kernel
theorem dX5_fill_242 : decode cX5_fill 242 = .ok (.aload_n 0, 1) := by decide +kernel
theorem dX5_fill_243 : decode cX5_fill 243 = .ok (.getfield 47, 3) := by decide +kernel
theorem dX5_fill_246 : decode cX5_fill 246 = .ok (.bipush 10, 2) := by decide +kernel
theorem dX5_fill_248 : decode cX5_fill 248 = .ok (.iload 4, 2) := by decide +kernel
theorem dX5_fill_250 : decode cX5_fill 250 = .ok (.imul, 1) := by decide +kernel
theorem dX5_fill_251 : decode cX5_fill 251 = .ok (.iload_n 3, 1) := by decide +kernel
theorem dX5_fill_252 : decode cX5_fill 252 = .ok (.iadd, 1) := by decide +kernel
theorem dX5_fill_253 : decode cX5_fill 253 = .ok (.aload_n 0, 1) := by decide +kernel
theorem dX5_fill_254 : decode cX5_fill 254 = .ok (.getfield 26, 3) := by decide +kernel
theorem dX5_fill_257 : decode cX5_fill 257 = .ok (.iload 4, 2) := by decide +kernel
theorem dX5_fill_259 : decode cX5_fill 259 = .ok (.laload, 1) := by decide +kernel
theorem dX5_fill_260 : decode cX5_fill 260 = .ok (.ldc2_w 66, 3) := by decide +kernel
theorem dX5_fill_263 : decode cX5_fill 263 = .ok (.ladd, 1) := by decide +kernel
theorem dX5_fill_264 : decode cX5_fill 264 = .ok (.aload_n 0, 1) := by decide +kernel
theorem dX5_fill_265 : decode cX5_fill 265 = .ok (.getfield 38, 3) := by decide +kernel
theorem dX5_fill_268 : decode cX5_fill 268 = .ok (.iload 4, 2) := by decide +kernel
theorem dX5_fill_270 : decode cX5_fill 270 = .ok (.laload, 1) := by decide +kernel
theorem dX5_fill_271 : decode cX5_fill 271 = .ok (.lsub, 1) := by decide +kernel
theorem dX5_fill_272 : decode cX5_fill 272 = .ok (.ldc2_w 66, 3) := by decide +kernel
theorem dX5_fill_275 : decode cX5_fill 275 = .ok (.lrem, 1) := by decide +kernel
theorem dX5_fill_276 : decode cX5_fill 276 = .ok (.lastore, 1) := by decide +kernel
theorem dX5_fill_277 : decode cX5_fill 277 = .ok (.iinc 4 1, 3) := by decide +kernel
theorem dX5_fill_280 : decode cX5_fill 280 = .ok (.goto (-45), 3) := by decide +kernel
theorem dX5_fill_283 : decode cX5_fill 283 = .ok (.iinc 3 1, 3) := by decide +kernel
theorem dX5_fill_286 : decode cX5_fill 286 = .ok (.goto (-130), 3) := by decide +kernel
theorem dX5_fill_289 : decode cX5_fill 289 = .ok (.aload_n 0, 1) := by decide +kernel
theorem dX5_fill_290 : decode cX5_fill 290 = .ok (.aload_n 0, 1) := by decide +kernel
theorem dX5_fill_291 : decode cX5_fill 291 = .ok (.getfield 29, 3) := by decide +kernel
theorem dX5_fill_294 : decode cX5_fill 294 = .ok (.iload_n 1, 1) := by decide +kernel
theorem dX5_fill_295 : decode cX5_fill 295 = .ok (.invokevirtual 122, 3) := by decide +kernel
theorem dX5_fill_298 : decode cX5_fill 298 = .ok (.aload_n 0, 1) := by decide +kernel
theorem dX5_fill_299 : decode cX5_fill 299 = .ok (.aload_n 0, 1) := by decide +kernel
theorem dX5_fill_300 : decode cX5_fill 300 = .ok (.getfield 29, 3) := by decide +kernel
theorem dX5_fill_303 : decode cX5_fill 303 = .ok (.aload_n 0, 1) := by decide +kernel
theorem dX5_fill_304 : decode cX5_fill 304 = .ok (.getfield 53, 3) := by decide +kernel
theorem dX5_fill_307 : decode cX5_fill 307 = .ok (.invokevirtual 129, 3) := by decide +kernel
theorem dX5_fill_310 : decode cX5_fill 310 = .ok (.aload_n 0, 1) := by decide +kernel
theorem dX5_fill_311 : decode cX5_fill 311 = .ok (.getfield 29, 3) := by decide +kernel
theorem dX5_fill_314 : decode cX5_fill 314 = .ok (.aload_n 0, 1) := by decide +kernel
theorem dX5_fill_315 : decode cX5_fill 315 = .ok (.getfield 38, 3) := by decide +kernel
theorem dX5_fill_318 : decode cX5_fill 318 = .ok (.invokestatic 83, 3) := by decide +kernel
theorem dX5_fill_321 : decode cX5_fill 321 = .ok (.aload_n 0, 1) := by decide +kernel
theorem dX5_fill_322 : decode cX5_fill 322 = .ok (.aload_n 0, 1) := by decide +kernel
theorem dX5_fill_323 : decode cX5_fill 323 = .ok (.getfield 35, 3) := by decide +kernel
theorem dX5_fill_326 : decode cX5_fill 326 = .ok (.aload_n 0, 1) := by decide +kernel
theorem dX5_fill_327 : decode cX5_fill 327 = .ok (.getfield 29, 3) := by decide +kernel
theorem dX5_fill_330 : decode cX5_fill 330 = .ok (.invokevirtual 129, 3) := by decide +kernel
theorem dX5_fill_333 : decode cX5_fill 333 = .ok (.iconst 0, 1) := by decide +kernel
theorem dX5_fill_334 : decode cX5_fill 334 = .ok (.istore_n 3, 1) := by decide +kernel
theorem dX5_fill_335 : decode cX5_fill 335 = .ok (.iload_n 3, 1) := by decide +kernel
theorem dX5_fill_336 : decode cX5_fill 336 = .ok (.bipush 64, 2) := by decide +kernel
theorem dX5_fill_338 : decode cX5_fill 338 = .ok (.if_icmp .ge 27, 3) := by decide +kernel
theorem dX5_fill_341 : decode cX5_fill 341 = .ok (.aload_n 0, 1) := by decide +kernel
theorem dX5_fill_342 : decode cX5_fill 342 = .ok (.getfield 47, 3) := by decide +kernel
theorem dX5_fill_345 : decode cX5_fill 345 = .ok (.bipush 10, 2) := by decide +kernel
theorem dX5_fill_347 : decode cX5_fill 347 = .ok (.iload_n 3, 1) := by decide +kernel
theorem dX5_fill_348 : decode cX5_fill 348 = .ok (.imul, 1) := by decide +kernel
theorem dX5_fill_349 : decode cX5_fill 349 = .ok (.bipush 9, 2) := by decide +kernel
theorem dX5_fill_351 : decode cX5_fill 351 = .ok (.iadd, 1) := by decide +kernel
theorem dX5_fill_352 : decode cX5_fill 352 = .ok (.aload_n 0, 1) := by decide +kernel
theorem dX5_fill_353 : decode cX5_fill 353 = .ok (.getfield 38, 3) := by decide +kernel
theorem dX5_fill_356 : decode cX5_fill 356 = .ok (.iload_n 3, 1) := by decide +kernel
theorem dX5_fill_357 : decode cX5_fill 357 = .ok (.laload, 1) := by decide +kernel
theorem dX5_fill_358 : decode cX5_fill 358 = .ok (.lastore, 1) := by decide +kernel
theorem dX5_fill_359 : decode cX5_fill 359 = .ok (.iinc 3 1, 3) := by decide +kernel
theorem dX5_fill_362 : decode cX5_fill 362 = .ok (.goto (-27), 3) := by decide +kernel
theorem dX5_fill_365 : decode cX5_fill 365 = .ok (.return_, 1) := by decide +kernel
set_option maxRecDepth 20000 in
theorem ggX5_clear_X5_inverse : GoodIn wsX5_clear wsX5_inverse := goodIn_r _ [8, 3] (by decide +kernel) (by decide +kernel)
set_option maxRecDepth 20000 in
theorem gX5_clear_X5_inverse : GoodIn wsX5_clear (va_wsS RX5 76 yX5_inverse wsX5_inverse) := goodIn_app (goodIn_of _ (by decide +kernel)) ggX5_clear_X5_inverse
set_option maxRecDepth 20000 in
theorem ggX5_clear_X5_modulo : GoodIn wsX5_clear wsX5_modulo := goodIn_r _ [11, 3] (by decide +kernel) (by decide +kernel)
set_option maxRecDepth 20000 in
theorem gX5_clear_X5_modulo : GoodIn wsX5_clear (va_wsS RX5 80 yX5_modulo wsX5_modulo) := goodIn_app (goodIn_of _ (by decide +kernel)) ggX5_clear_X5_modulo
theorem dX5_clear_0 : decode cX5_clear 0 = .ok (.iconst 0, 1) := by decide +kernel
theorem dX5_clear_1 : decode cX5_clear 1 = .ok (.istore_n 2, 1) := by decide +kernel
theorem dX5_clear_2 : decode cX5_clear 2 = .ok (.iconst 0, 1) := by decide +kernel
theorem dX5_clear_3 : decode cX5_clear 3 = .ok (.istore_n 3, 1) := by decide +kernel
theorem dX5_clear_4 : decode cX5_clear 4 = .ok (.iconst 0, 1) := by decide +kernel
theorem dX5_clear_5 : decode cX5_clear 5 = .ok (.istore 4, 2) := by decide +kernel
theorem dX5_clear_7 : decode cX5_clear 7 = .ok (.iload 4, 2) := by decide +kernel
theorem dX5_clear_9 : decode cX5_clear 9 = .ok (.iload_n 1, 1) := by decide +kernel
theorem dX5_clear_10 : decode cX5_clear 10 = .ok (.if_icmp .gt 318, 3) := by decide +kernel
theorem dX5_clear_13 : decode cX5_clear 13 = .ok (.iload_n 2, 1) := by decide +kernel
theorem dX5_clear_14 : decode cX5_clear 14 = .ok (.istore 5, 2) := by decide +kernel
theorem dX5_clear_16 : decode cX5_clear 16 = .ok (.iload 5, 2) := by decide +kernel
theorem dX5_clear_18 : decode cX5_clear 18 = .ok (.bipush 64, 2) := by decide +kernel
theorem dX5_clear_20 : decode cX5_clear 20 = .ok (.if_icmp .ge 27, 3) := by decide +kernel
theorem dX5_clear_23 : decode cX5_clear 23 = .ok (.aload_n 0, 1) := by decide +kernel
theorem dX5_clear_24 : decode cX5_clear 24 = .ok (.getfield 47, 3) := by decide +kernel
theorem dX5_clear_27 : decode cX5_clear 27 = .ok (.bipush 10, 2) := by decide +kernel
theorem dX5_clear_29 : decode cX5_clear 29 = .ok (.iload 5, 2) := by decide +kernel
theorem dX5_clear_31 : decode cX5_clear 31 = .ok (.imul, 1) := by decide +kernel
theorem dX5_clear_32 : decode cX5_clear 32 = .ok (.iload 4, 2) := by decide +kernel
theorem dX5_clear_34 : decode cX5_clear 34 = .ok (.iadd, 1) := by decide +kernel
theorem dX5_clear_35 : decode cX5_clear 35 = .ok (.laload, 1) := by decide +kernel
theorem dX5_clear_36 : decode cX5_clear 36 = .ok (.lconst 0, 1) := by decide +kernel
theorem dX5_clear_37 : decode cX5_clear 37 = .ok (.lcmp, 1) := by decide +kernel
theorem dX5_clear_38 : decode cX5_clear 38 = .ok (.ifCond .ne 9, 3) := by decide +kernel
theorem dX5_clear_41 : decode cX5_clear 41 = .ok (.iinc 5 1, 3) := by decide +kernel
theorem dX5_clear_44 : decode cX5_clear 44 = .ok (.goto (-28), 3) := by decide +kernel
theorem dX5_clear_47 : decode cX5_clear 47 = .ok (.aload_n 0, 1) := by decide +kernel
theorem dX5_clear_48 : decode cX5_clear 48 = .ok (.getfield 50, 3) := by decide +kernel
theorem dX5_clear_51 : decode cX5_clear 51 = .ok (.iload 4, 2) := by decide +kernel
theorem dX5_clear_53 : decode cX5_clear 53 = .ok (.iconst (-1), 1) := by decide +kernel
theorem dX5_clear_54 : decode cX5_clear 54 = .ok (.iastore, 1) := by decide +kernel
theorem dX5_clear_55 : decode cX5_clear 55 = .ok (.iload 5, 2) := by decide +kernel
theorem dX5_clear_57 : decode cX5_clear 57 = .ok (.bipush 64, 2) := by decide +kernel
theorem dX5_clear_59 : decode cX5_clear 59 = .ok (.if_icmp .ne 9, 3) := by decide +kernel
theorem dX5_clear_62 : decode cX5_clear 62 = .ok (.iinc 3 1, 3) := by decide +kernel
theorem dX5_clear_65 : decode cX5_clear 65 = .ok (.goto 257, 3) := by decide +kernel
theorem dX5_clear_68 : decode cX5_clear 68 = .ok (.iconst 0, 1) := by decide +kernel
theorem dX5_clear_69 : decode cX5_clear 69 = .ok (.istore 6, 2) := by decide +kernel
theorem dX5_clear_71 : decode cX5_clear 71 = .ok (.iload 6, 2) := by decide +kernel
theorem dX5_clear_73 : decode cX5_clear 73 = .ok (.bipush 10, 2) := by decide +kernel
theorem dX5_clear_75 : decode cX5_clear 75 = .ok (.if_icmp .ge 63, 3) := by decide +kernel
theorem dX5_clear_78 : decode cX5_clear 78 = .ok (.aload_n 0, 1) := by decide +kernel
theorem dX5_clear_79 : decode cX5_clear 79 = .ok (.getfield 47, 3) := by decide +kernel
theorem dX5_clear_82 : decode cX5_clear 82 = .ok (.bipush 10, 2) := by decide +kernel
theorem dX5_clear_84 : decode cX5_clear 84 = .ok (.iload 5, 2) := by decide +kernel
theorem dX5_clear_86 : decode cX5_clear 86 = .ok (.imul, 1) := by decide +kernel
theorem dX5_clear_87 : decode cX5_clear 87 = .ok (.iload 6, 2) := by decide +kernel
theorem dX5_clear_89 : decode cX5_clear 89 = .ok (.iadd, 1) := by decide +kernel
theorem dX5_clear_90 : decode cX5_clear 90 = .ok (.laload, 1) := by decide +kernel
theorem dX5_clear_91 : decode cX5_clear 91 = .ok (.lstore 7, 2) := by decide +kernel
theorem dX5_clear_93 : decode cX5_clear 93 = .ok (.aload_n 0, 1) := by decide +kernel
theorem dX5_clear_94 : decode cX5_clear 94 = .ok (.getfield 47, 3) := by decide +kernel
theorem dX5_clear_97 : decode cX5_clear 97 = .ok (.bipush 10, 2) := by decide +kernel
theorem dX5_clear_99 : decode cX5_clear 99 = .ok (.iload 5, 2) := by decide +kernel
theorem dX5_clear_101 : decode cX5_clear 101 = .ok (.imul, 1) := by decide +kernel
theorem dX5_clear_102 : decode cX5_clear 102 = .ok (.iload 6, 2) := by decide +kernel
theorem dX5_clear_104 : decode cX5_clear 104 = .ok (.iadd, 1) := by decide +kernel
theorem dX5_clear_105 : decode cX5_clear 105 = .ok (.aload_n 0, 1) := by decide +kernel
theorem dX5_clear_106 : decode cX5_clear 106 = .ok (.getfield 47, 3) := by decide +kernel
theorem dX5_clear_109 : decode cX5_clear 109 = .ok (.bipush 10, 2) := by decide +kernel
theorem dX5_clear_111 : decode cX5_clear 111 = .ok (.iload_n 2, 1) := by decide +kernel
theorem dX5_clear_112 : decode cX5_clear 112 = .ok (.imul, 1) := by decide +kernel
theorem dX5_clear_113 : decode cX5_clear 113 = .ok (.iload 6, 2) := by decide +kernel
theorem dX5_clear_115 : decode cX5_clear 115 = .ok (.iadd, 1) := by decide +kernel
theorem dX5_clear_116 : decode cX5_clear 116 = .ok (.laload, 1) := by decide +kernel
theorem dX5_clear_117 : decode cX5_clear 117 = .ok (.lastore, 1) := by decide +kernel
theorem dX5_clear_118 : decode cX5_clear 118 = .ok (.aload_n 0, 1) := by decide +kernel
theorem dX5_clear_119 : decode cX5_clear 119 = .ok (.getfield 47, 3) := by decide +kernel
theorem dX5_clear_122 : decode cX5_clear 122 = .ok (.bipush 10, 2) := by decide +kernel
theorem dX5_clear_124 : decode cX5_clear 124 = .ok (.iload_n 2, 1) := by decide +kernel
theorem dX5_clear_125 : decode cX5_clear 125 = .ok (.imul, 1) := by decide +kernel
theorem dX5_clear_126 : decode cX5_clear 126 = .ok (.iload 6, 2) := by decide +kernel
theorem dX5_clear_128 : decode cX5_clear 128 = .ok (.iadd, 1) := by decide +kernel
theorem dX5_clear_129 : decode cX5_clear 129 = .ok (.lload 7, 2) := by decide +kernel
theorem dX5_clear_131 : decode cX5_clear 131 = .ok (.lastore, 1) := by decide +kernel
theorem dX5_clear_132 : decode cX5_clear 132 = .ok (.iinc 6 1, 3) := by decide +kernel
theorem dX5_clear_135 : decode cX5_clear 135 = .ok (.goto (-64), 3) := by decide +kernel
theorem dX5_clear_138 : decode cX5_clear 138 = .ok (.aload_n 0, 1) := by decide +kernel
theorem dX5_clear_139 : decode cX5_clear 139 = .ok (.getfield 47, 3) := by decide +kernel
theorem dX5_clear_142 : decode cX5_clear 142 = .ok (.bipush 10, 2) := by decide +kernel
theorem dX5_clear_144 : decode cX5_clear 144 = .ok (.iload_n 2, 1) := by decide +kernel
theorem dX5_clear_145 : decode cX5_clear 145 = .ok (.imul, 1) := by decide +kernel
theorem dX5_clear_146 : decode cX5_clear 146 = .ok (.iload 4, 2) := by decide +kernel
theorem dX5_clear_148 : decode cX5_clear 148 = .ok (.iadd, 1) := by decide +kernel
theorem dX5_clear_149 : decode cX5_clear 149 = .ok (.laload, 1) := by decide +kernel
theorem dX5_clear_150 : decode cX5_clear 150 = .ok (.invokestatic 76, 3) := by decide +kernel
theorem dX5_clear_153 : decode cX5_clear 153 = .ok (.lstore 6, 2) := by decide +kernel
theorem dX5_clear_155 : decode cX5_clear 155 = .ok (.iconst 0, 1) := by decide +kernel
theorem dX5_clear_156 : decode cX5_clear 156 = .ok (.istore 8, 2) := by decide +kernel
theorem dX5_clear_158 : decode cX5_clear 158 = .ok (.iload 8, 2) := by decide +kernel
theorem dX5_clear_160 : decode cX5_clear 160 = .ok (.bipush 10, 2) := by decide +kernel
theorem dX5_clear_162 : decode cX5_clear 162 = .ok (.if_icmp .ge 40, 3) := by decide +kernel
theorem dX5_clear_165 : decode cX5_clear 165 = .ok (.aload_n 0, 1) := by decide +kernel
theorem dX5_clear_166 : decode cX5_clear 166 = .ok (.getfield 47, 3) := by decide +kernel
theorem dX5_clear_169 : decode cX5_clear 169 = .ok (.bipush 10, 2) := by decide +kernel
theorem dX5_clear_171 : decode cX5_clear 171 = .ok (.iload_n 2, 1) := by decide +kernel
theorem dX5_clear_172 : decode cX5_clear 172 = .ok (.imul, 1) := by decide +kernel
theorem dX5_clear_173 : decode cX5_clear 173 = .ok (.iload 8, 2) := by decide +kernel
theorem dX5_clear_175 : decode cX5_clear 175 = .ok (.iadd, 1) := by decide +kernel
theorem dX5_clear_176 : decode cX5_clear 176 = .ok (.aload_n 0, 1) := by decide +kernel
theorem dX5_clear_177 : decode cX5_clear 177 = .ok (.getfield 47, 3) := by decide +kernel
theorem dX5_clear_180 : decode cX5_clear 180 = .ok (.bipush 10, 2) := by decide +kernel
theorem dX5_clear_182 : decode cX5_clear 182 = .ok (.iload_n 2, 1) := by decide +kernel
theorem dX5_clear_183 : decode cX5_clear 183 = .ok (.imul, 1) := by decide +kernel
theorem dX5_clear_184 : decode cX5_clear 184 = .ok (.iload 8, 2) := by decide +kernel
theorem dX5_clear_186 : decode cX5_clear 186 = .ok (.iadd, 1) := by decide +kernel
theorem dX5_clear_187 : decode cX5_clear 187 = .ok (.laload, 1) := by decide +kernel
theorem dX5_clear_188 : decode cX5_clear 188 = .ok (.lload 6, 2) := by decide +kernel
theorem dX5_clear_190 : decode cX5_clear 190 = .ok (.lmul, 1) := by decide +kernel
theorem dX5_clear_191 : decode cX5_clear 191 = .ok (.ldc2_w 66, 3) := by decide +kernel
theorem dX5_clear_194 : decode cX5_clear 194 = .ok (.lrem, 1) := by decide +kernel
theorem dX5_clear_195 : decode cX5_clear 195 = .ok (.lastore, 1) := by decide +kernel
theorem dX5_clear_196 : decode cX5_clear 196 = .ok (.iinc 8 1, 3) := by decide +kernel
theorem dX5_clear_199 : decode cX5_clear 199 = .ok (.goto (-41), 3) := by decide +kernel
theorem dX5_clear_202 : decode cX5_clear 202 = .ok (.iconst 0, 1) := by decide +kernel
theorem dX5_clear_203 : decode cX5_clear 203 = .ok (.istore 8, 2) := by decide +kernel
theorem dX5_clear_205 : decode cX5_clear 205 = .ok (.iload 8, 2) := by decide +kernel
theorem dX5_clear_207 : decode cX5_clear 207 = .ok (.bipush 64, 2) := by decide +kernel
theorem dX5_clear_209 : decode cX5_clear 209 = .ok (.if_icmp .ge 102, 3) := by decide +kernel
theorem dX5_clear_212 : decode cX5_clear 212 = .ok (.iload 8, 2) := by decide +kernel
theorem dX5_clear_214 : decode cX5_clear 214 = .ok (.iload_n 2, 1) := by decide +kernel
theorem dX5_clear_215 : decode cX5_clear 215 = .ok (.if_icmp .ne 7, 3) := by decide +kernel
theorem dX5_clear_218 : decode cX5_clear 218 = .ok (.lconst 0, 1) := by decide +kernel
theorem dX5_clear_219 : decode cX5_clear 219 = .ok (.goto 16, 3) := by decide +kernel
theorem dX5_clear_222 : decode cX5_clear 222 = .ok (.aload_n 0, 1) := by decide +kernel
theorem dX5_clear_223 : decode cX5_clear 223 = .ok (.getfield 47, 3) := by decide +kernel
theorem dX5_clear_226 : decode cX5_clear 226 = .ok (.bipush 10, 2) := by decide +kernel
theorem dX5_clear_228 : decode cX5_clear 228 = .ok (.iload 8, 2) := by decide +kernel
theorem dX5_clear_230 : decode cX5_clear 230 = .ok (.imul, 1) := by decide +kernel
theorem dX5_clear_231 : decode cX5_clear 231 = .ok (.iload 4, 2) := by decide +kernel
theorem dX5_clear_233 : decode cX5_clear 233 = .ok (.iadd, 1) := by decide +kernel
theorem dX5_clear_234 : decode cX5_clear 234 = .ok (.laload, 1) := by decide +kernel
theorem dX5_clear_235 : decode cX5_clear 235 = .ok (.lstore 9, 2) := by decide +kernel
theorem dX5_clear_237 : decode cX5_clear 237 = .ok (.iconst 0, 1) := by decide +kernel
theorem dX5_clear_238 : decode cX5_clear 238 = .ok (.istore 11, 2) := by decide +kernel
theorem dX5_clear_240 : decode cX5_clear 240 = .ok (.iload 11, 2) := by decide +kernel
theorem dX5_clear_242 : decode cX5_clear 242 = .ok (.bipush 10, 2) := by decide +kernel
theorem dX5_clear_244 : decode cX5_clear 244 = .ok (.if_icmp .ge 61, 3) := by decide +kernel
theorem dX5_clear_247 : decode cX5_clear 247 = .ok (.lload 9, 2) := by decide +kernel
theorem dX5_clear_249 : decode cX5_clear 249 = .ok (.lconst 0, 1) := by decide +kernel
theorem dX5_clear_250 : decode cX5_clear 250 = .ok (.lcmp, 1) := by decide +kernel
theorem dX5_clear_251 : decode cX5_clear 251 = .ok (.ifCond .le 54, 3) := by decide +kernel
theorem dX5_clear_254 : decode cX5_clear 254 = .ok (.aload_n 0, 1) := by decide +kernel
theorem dX5_clear_255 : decode cX5_clear 255 = .ok (.getfield 47, 3) := by decide +kernel
theorem dX5_clear_258 : decode cX5_clear 258 = .ok (.bipush 10, 2) := by decide +kernel
theorem dX5_clear_260 : decode cX5_clear 260 = .ok (.iload 8, 2) := by decide +kernel
theorem dX5_clear_262 : decode cX5_clear 262 = .ok (.imul, 1) := by decide +kernel
theorem dX5_clear_263 : decode cX5_clear 263 = .ok (.iload 11, 2) := by decide +kernel
theorem dX5_clear_265 : decode cX5_clear 265 = .ok (.iadd, 1) := by decide +kernel
theorem dX5_clear_266 : decode cX5_clear 266 = .ok (.aload_n 0, 1) := by decide +kernel
theorem dX5_clear_267 : decode cX5_clear 267 = .ok (.getfield 47, 3) := by decide +kernel
theorem dX5_clear_270 : decode cX5_clear 270 = .ok (.bipush 10, 2) := by decide +kernel
theorem dX5_clear_272 : decode cX5_clear 272 = .ok (.iload 8, 2) := by decide +kernel
theorem dX5_clear_274 : decode cX5_clear 274 = .ok (.imul, 1) := by decide +kernel
theorem dX5_clear_275 : decode cX5_clear 275 = .ok (.iload 11, 2) := by decide +kernel
theorem dX5_clear_277 : decode cX5_clear 277 = .ok (.iadd, 1) := by decide +kernel
theorem dX5_clear_278 : decode cX5_clear 278 = .ok (.laload, 1) := by decide +kernel
theorem dX5_clear_279 : decode cX5_clear 279 = .ok (.lload 9, 2) := by decide +kernel
theorem dX5_clear_281 : decode cX5_clear 281 = .ok (.aload_n 0, 1) := by decide +kernel
theorem dX5_clear_282 : decode cX5_clear 282 = .ok (.getfield 47, 3) := by decide +kernel
theorem dX5_clear_285 : decode cX5_clear 285 = .ok (.bipush 10, 2) := by decide +kernel
theorem dX5_clear_287 : decode cX5_clear 287 = .ok (.iload_n 2, 1) := by decide +kernel
theorem dX5_clear_288 : decode cX5_clear 288 = .ok (.imul, 1) := by decide +kernel
theorem dX5_clear_289 : decode cX5_clear 289 = .ok (.iload 11, 2) := by decide +kernel
theorem dX5_clear_291 : decode cX5_clear 291 = .ok (.iadd, 1) := by decide +kernel
theorem dX5_clear_292 : decode cX5_clear 292 = .ok (.laload, 1) := by decide +kernel
theorem dX5_clear_293 : decode cX5_clear 293 = .ok (.lmul, 1) := by decide +kernel
theorem dX5_clear_294 : decode cX5_clear 294 = .ok (.lsub, 1) := by decide +kernel
theorem dX5_clear_295 : decode cX5_clear 295 = .ok (.invokestatic 80, 3) := by decide +kernel
theorem dX5_clear_298 : decode cX5_clear 298 = .ok (.lastore, 1) := by decide +kernel
theorem dX5_clear_299 : decode cX5_clear 299 = .ok (.iinc 11 1, 3) := by decide +kernel
theorem dX5_clear_302 : decode cX5_clear 302 = .ok (.goto (-62), 3) := by decide +kernel
theorem dX5_clear_305 : decode cX5_clear 305 = .ok (.iinc 8 1, 3) := by decide +kernel
theorem dX5_clear_308 : decode cX5_clear 308 = .ok (.goto (-103), 3) := by decide +kernel
theorem dX5_clear_311 : decode cX5_clear 311 = .ok (.aload_n 0, 1) := by decide +kernel
theorem dX5_clear_312 : decode cX5_clear 312 = .ok (.getfield 50, 3) := by decide +kernel
theorem dX5_clear_315 : decode cX5_clear 315 = .ok (.iload 4, 2) := by decide +kernel
theorem dX5_clear_317 : decode cX5_clear 317 = .ok (.iload_n 2, 1) := by decide +kernel
theorem dX5_clear_318 : decode cX5_clear 318 = .ok (.iastore, 1) := by decide +kernel
theorem dX5_clear_319 : decode cX5_clear 319 = .ok (.iinc 2 1, 3) := by decide +kernel
theorem dX5_clear_322 : decode cX5_clear 322 = .ok (.iinc 4 1, 3) := by decide +kernel
theorem dX5_clear_325 : decode cX5_clear 325 = .ok (.goto (-318), 3) := by decide +kernel
theorem dX5_clear_328 : decode cX5_clear 328 = .ok (.aload_n 0, 1) := by decide +kernel
theorem dX5_clear_329 : decode cX5_clear 329 = .ok (.iconst 1, 1) := by decide +kernel
theorem dX5_clear_330 : decode cX5_clear 330 = .ok (.putfield 145, 3) := by decide +kernel
theorem dX5_clear_333 : decode cX5_clear 333 = .ok (.iload_n 2, 1) := by decide +kernel
theorem dX5_clear_334 : decode cX5_clear 334 = .ok (.istore 4, 2) := by decide +kernel
theorem dX5_clear_336 : decode cX5_clear 336 = .ok (.iload 4, 2) := by decide +kernel
theorem dX5_clear_338 : decode cX5_clear 338 = .ok (.bipush 64, 2) := by decide +kernel
theorem dX5_clear_340 : decode cX5_clear 340 = .ok (.if_icmp .ge 43, 3) := by decide +kernel
theorem dX5_clear_343 : decode cX5_clear 343 = .ok (.aload_n 0, 1) := by decide +kernel
theorem dX5_clear_344 : decode cX5_clear 344 = .ok (.aload_n 0, 1) := by decide +kernel
theorem dX5_clear_345 : decode cX5_clear 345 = .ok (.getfield 145, 3) := by decide +kernel
theorem dX5_clear_348 : decode cX5_clear 348 = .ok (.ifCond .eq 25, 3) := by decide +kernel
theorem dX5_clear_351 : decode cX5_clear 351 = .ok (.aload_n 0, 1) := by decide +kernel
theorem dX5_clear_352 : decode cX5_clear 352 = .ok (.getfield 47, 3) := by decide +kernel
theorem dX5_clear_355 : decode cX5_clear 355 = .ok (.bipush 10, 2) := by decide +kernel
theorem dX5_clear_357 : decode cX5_clear 357 = .ok (.iload 4, 2) := by decide +kernel
theorem dX5_clear_359 : decode cX5_clear 359 = .ok (.imul, 1) := by decide +kernel
theorem dX5_clear_360 : decode cX5_clear 360 = .ok (.bipush 9, 2) := by decide +kernel
theorem dX5_clear_362 : decode cX5_clear 362 = .ok (.iadd, 1) := by decide +kernel
theorem dX5_clear_363 : decode cX5_clear 363 = .ok (.laload, 1) := by decide +kernel
theorem dX5_clear_364 : decode cX5_clear 364 = .ok (.lconst 0, 1) := by decide +kernel
theorem dX5_clear_365 : decode cX5_clear 365 = .ok (.lcmp, 1) := by decide +kernel
theorem dX5_clear_366 : decode cX5_clear 366 = .ok (.ifCond .ne 7, 3) := by decide +kernel
theorem dX5_clear_369 : decode cX5_clear 369 = .ok (.iconst 1, 1) := by decide +kernel
theorem dX5_clear_370 : decode cX5_clear 370 = .ok (.goto 4, 3) := by decide +kernel
theorem dX5_clear_373 : decode cX5_clear 373 = .ok (.iconst 0, 1) := by decide +kernel
theorem dX5_clear_374 : decode cX5_clear 374 = .ok (.putfield 145, 3) := by decide +kernel
theorem dX5_clear_377 : decode cX5_clear 377 = .ok (.iinc 4 1, 3) := by decide +kernel
theorem dX5_clear_380 : decode cX5_clear 380 = .ok (.goto (-44), 3) := by decide +kernel
theorem dX5_clear_383 : decode cX5_clear 383 = .ok (.iload_n 3, 1) := by decide +kernel
theorem dX5_clear_384 : decode cX5_clear 384 = .ok (.ireturn, 1) := by decide +kernel
set_option maxRecDepth 20000 in
theorem ggX5_mayBe_X5_are : GoodIn wsX5_mayBe wsX5_are := goodIn_r _ [7, 2, 8, 9, 10, 6, 11, 12, 13, 14, 15, 32, 33, 34, 35, 36, 37, 38, 39, 40, 41, 42, 43, 44, 45, 46, 47, 48, 49, 50, 51] (by decide +kernel) (by decide +kernel)
set_option maxRecDepth 20000 in
theorem gX5_mayBe_X5_are : GoodIn wsX5_mayBe (wsV RX5 114 RX5 yX5_are wsX5_are) := goodIn_app (goodIn_of _ (by decide +kernel)) ggX5_mayBe_X5_are
set_option maxRecDepth 20000 in
theorem ggX5_mayBe_X5_loadTop : GoodIn wsX5_mayBe wsX5_loadTop := goodIn_r _ [19, 20, 21, 22, 6, 23, 32, 33, 34, 35, 36, 37, 38, 39, 40, 41, 42, 43, 44, 45, 46, 47, 48, 49, 50, 51] (by decide +kernel) (by decide +kernel)
set_option maxRecDepth 20000 in
theorem gX5_mayBe_X5_loadTop : GoodIn wsX5_mayBe (wsV RX5 122 RX5 yX5_loadTop wsX5_loadTop) := goodIn_app (goodIn_of _ (by decide +kernel)) ggX5_mayBe_X5_loadTop
set_option maxRecDepth 20000 in
theorem ggX5_mayBe_X5_high : GoodIn wsX5_mayBe wsX5_high := goodIn_r _ [26] (by decide +kernel) (by decide +kernel)
set_option maxRecDepth 20000 in
theorem gX5_mayBe_X5_high : GoodIn wsX5_mayBe (va_wsS RX5 72 yX5_high wsX5_high) := goodIn_app (goodIn_of _ (by decide +kernel)) ggX5_mayBe_X5_high
set_option maxRecDepth 20000 in
theorem ggX5_mayBe_X5_isNoRatio : GoodIn wsX5_mayBe wsX5_isNoRatio := goodIn_r _ [30, 31, 32, 33, 34, 35, 36, 37, 38, 39, 40, 41, 42, 43, 44, 45, 46, 47, 48, 49, 50, 51] (by decide +kernel) (by decide +kernel)
set_option maxRecDepth 20000 in
theorem gX5_mayBe_X5_isNoRatio : GoodIn wsX5_mayBe (wsV RX5 138 RX5 yX5_isNoRatio wsX5_isNoRatio) := goodIn_app (goodIn_of _ (by decide +kernel)) ggX5_mayBe_X5_isNoRatio
theorem dX5_mayBe_0 : decode cX5_mayBe 0 = .ok (.aload_n 0, 1) := by decide +kernel
theorem dX5_mayBe_1 : decode cX5_mayBe 1 = .ok (.iload_n 1, 1) := by decide +kernel
theorem dX5_mayBe_2 : decode cX5_mayBe 2 = .ok (.iload_n 2, 1) := by decide +kernel
theorem dX5_mayBe_3 : decode cX5_mayBe 3 = .ok (.invokevirtual 114, 3) := by decide +kernel
theorem dX5_mayBe_6 : decode cX5_mayBe 6 = .ok (.ifCond .ne 5, 3) := by decide +kernel
theorem dX5_mayBe_9 : decode cX5_mayBe 9 = .ok (.iconst 0, 1) := by decide +kernel
theorem dX5_mayBe_10 : decode cX5_mayBe 10 = .ok (.ireturn, 1) := by decide +kernel
theorem dX5_mayBe_11 : decode cX5_mayBe 11 = .ok (.aload_n 0, 1) := by decide +kernel
theorem dX5_mayBe_12 : decode cX5_mayBe 12 = .ok (.aload_n 0, 1) := by decide +kernel
theorem dX5_mayBe_13 : decode cX5_mayBe 13 = .ok (.getfield 29, 3) := by decide +kernel
theorem dX5_mayBe_16 : decode cX5_mayBe 16 = .ok (.iload_n 2, 1) := by decide +kernel
theorem dX5_mayBe_17 : decode cX5_mayBe 17 = .ok (.invokevirtual 122, 3) := by decide +kernel
theorem dX5_mayBe_20 : decode cX5_mayBe 20 = .ok (.aload_n 0, 1) := by decide +kernel
theorem dX5_mayBe_21 : decode cX5_mayBe 21 = .ok (.aload_n 0, 1) := by decide +kernel
theorem dX5_mayBe_22 : decode cX5_mayBe 22 = .ok (.getfield 29, 3) := by decide +kernel
theorem dX5_mayBe_25 : decode cX5_mayBe 25 = .ok (.invokestatic 72, 3) := by decide +kernel
theorem dX5_mayBe_28 : decode cX5_mayBe 28 = .ok (.ifCond .lt 10, 3) := by decide +kernel
theorem dX5_mayBe_31 : decode cX5_mayBe 31 = .ok (.aload_n 0, 1) := by decide +kernel
theorem dX5_mayBe_32 : decode cX5_mayBe 32 = .ok (.invokevirtual 138, 3) := by decide +kernel
theorem dX5_mayBe_35 : decode cX5_mayBe 35 = .ok (.ifCond .eq 7, 3) := by decide +kernel
theorem dX5_mayBe_38 : decode cX5_mayBe 38 = .ok (.iconst 2, 1) := by decide +kernel
theorem dX5_mayBe_39 : decode cX5_mayBe 39 = .ok (.goto 4, 3) := by decide +kernel
theorem dX5_mayBe_42 : decode cX5_mayBe 42 = .ok (.iconst 0, 1) := by decide +kernel
theorem dX5_mayBe_43 : decode cX5_mayBe 43 = .ok (.putfield 62, 3) := by decide +kernel
theorem dX5_mayBe_46 : decode cX5_mayBe 46 = .ok (.aload_n 0, 1) := by decide +kernel
theorem dX5_mayBe_47 : decode cX5_mayBe 47 = .ok (.getfield 62, 3) := by decide +kernel
theorem dX5_mayBe_50 : decode cX5_mayBe 50 = .ok (.ifCond .ne 7, 3) := by decide +kernel
theorem dX5_mayBe_53 : decode cX5_mayBe 53 = .ok (.iconst 1, 1) := by decide +kernel
theorem dX5_mayBe_54 : decode cX5_mayBe 54 = .ok (.goto 4, 3) := by decide +kernel
theorem dX5_mayBe_57 : decode cX5_mayBe 57 = .ok (.iconst 0, 1) := by decide +kernel
theorem dX5_mayBe_58 : decode cX5_mayBe 58 = .ok (.ireturn, 1) := by decide +kernel
set_option maxRecDepth 20000 in
theorem ggX5_find_X5_mayBe : GoodIn wsX5_find wsX5_mayBe := goodIn_r _ [12, 13, 14, 15, 16, 17, 11, 18, 19, 20, 21, 22, 2, 23, 24, 25, 26, 27, 28, 29, 30, 31, 32, 33, 34, 35, 36, 37, 38, 39, 40, 41, 100, 101, 102, 103, 104, 105, 106, 107, 108, 109, 110, 111, 112, 113, 114, 115, 116, 117, 118, 119] (by decide +kernel) (by decide +kernel)
set_option maxRecDepth 20000 in
theorem gX5_find_X5_mayBe : GoodIn wsX5_find (wsV RX5 149 RX5 yX5_mayBe wsX5_mayBe) := goodIn_app (goodIn_of _ (by decide +kernel)) ggX5_find_X5_mayBe
set_option maxRecDepth 20000 in
theorem ggX5_find_X5_in : GoodIn wsX5_find wsX5_in := goodIn_r _ [25] (by decide +kernel) (by decide +kernel)
set_option maxRecDepth 20000 in
theorem gX5_find_X5_in : GoodIn wsX5_find (va_wsS RX5 93 yX5_in wsX5_in) := goodIn_app (goodIn_of _ (by decide +kernel)) ggX5_find_X5_in
set_option maxRecDepth 20000 in
theorem ggX5_find_X5_raise : GoodIn wsX5_find wsX5_raise := goodIn_r _ [45, 14, 100, 101, 102, 103, 104, 105, 106, 107, 108, 109, 110, 111, 112, 113, 114, 115, 116, 117, 118, 119] (by decide +kernel) (by decide +kernel)
set_option maxRecDepth 20000 in
theorem gX5_find_X5_raise : GoodIn wsX5_find (wsV RX5 97 RX5 yX5_raise wsX5_raise) := goodIn_app (goodIn_of _ (by decide +kernel)) ggX5_find_X5_raise
set_option maxRecDepth 20000 in
theorem ggX5_find_X5_fill : GoodIn wsX5_find wsX5_fill := goodIn_r _ [49, 50, 51, 13, 52, 53, 54, 41, 55, 56, 4, 7, 6, 57, 26, 27, 28, 11, 29, 30, 31, 32, 33, 58, 59, 60, 61, 62, 63, 64, 65, 66, 67, 68, 69, 70, 34, 35, 36, 71, 72, 73, 74, 75, 100, 101, 102, 103, 104, 105, 106, 107, 108, 109, 110, 111, 112, 113, 114, 115, 116, 117, 118, 119] (by decide +kernel) (by decide +kernel)
set_option maxRecDepth 20000 in
theorem gX5_find_X5_fill : GoodIn wsX5_find (wsV RX5 154 RX5 yX5_fill wsX5_fill) := goodIn_app (goodIn_of _ (by decide +kernel)) ggX5_find_X5_fill
set_option maxRecDepth 20000 in
theorem ggX5_find_X5_clear : GoodIn wsX5_find wsX5_clear := goodIn_r _ [79, 6, 5, 57, 3, 80, 81, 11, 82, 83, 84, 85, 100, 101, 102, 103, 104, 105, 106, 107, 108, 109, 110, 111, 112, 113, 114, 115, 116, 117, 118, 119] (by decide +kernel) (by decide +kernel)
set_option maxRecDepth 20000 in
theorem gX5_find_X5_clear : GoodIn wsX5_find (wsV RX5 157 RX5 yX5_clear wsX5_clear) := goodIn_app (goodIn_of _ (by decide +kernel)) ggX5_find_X5_clear
set_option maxRecDepth 20000 in
theorem ggX5_find_X5_empty : GoodIn wsX5_find wsX5_empty := goodIn_r _ [70] (by decide +kernel) (by decide +kernel)
set_option maxRecDepth 20000 in
theorem gX5_find_X5_empty : GoodIn wsX5_find (va_wsS RX5 68 yX5_empty wsX5_empty) := goodIn_app (goodIn_of _ (by decide +kernel)) ggX5_find_X5_empty
set_option maxRecDepth 20000 in
theorem ggX5_find_X5_loadTop : GoodIn wsX5_find wsX5_loadTop := goodIn_r _ [29, 30, 31, 32, 11, 33, 100, 101, 102, 103, 104, 105, 106, 107, 108, 109, 110, 111, 112, 113, 114, 115, 116, 117, 118, 119] (by decide +kernel) (by decide +kernel)
set_option maxRecDepth 20000 in
theorem gX5_find_X5_loadTop : GoodIn wsX5_find (wsV RX5 122 RX5 yX5_loadTop wsX5_loadTop) := goodIn_app (goodIn_of _ (by decide +kernel)) ggX5_find_X5_loadTop
set_option maxRecDepth 20000 in
theorem ggX5_find_X5_lowest : GoodIn wsX5_find wsX5_lowest := goodIn_r _ [89, 54, 4, 90, 7, 91, 57, 58, 59, 11, 60, 34, 35, 36, 92, 93, 94, 95, 80, 81, 82, 68, 69, 70, 83, 84, 85, 100, 101, 102, 103, 104, 105, 106, 107, 108, 109, 110, 111, 112, 113, 114, 115, 116, 117, 118, 119] (by decide +kernel) (by decide +kernel)
set_option maxRecDepth 20000 in
theorem gX5_find_X5_lowest : GoodIn wsX5_find (wsV RX5 132 RX5 yX5_lowest wsX5_lowest) := goodIn_app (goodIn_of _ (by decide +kernel)) ggX5_find_X5_lowest
set_option maxRecDepth 20000 in
theorem ggX5_find_X5_keep : GoodIn wsX5_find wsX5_keep := goodIn_r _ [99, 2, 4, 7, 14, 30, 75, 34, 35, 11, 36, 42, 43, 44, 45, 100, 101, 102, 103, 104, 105, 106, 107, 108, 109, 110, 111, 112, 113, 114, 115, 116, 117, 118, 119] (by decide +kernel) (by decide +kernel)
set_option maxRecDepth 20000 in
theorem gX5_find_X5_keep : GoodIn wsX5_find (wsV RX5 107 RX5 yX5_keep wsX5_keep) := goodIn_app (goodIn_of _ (by decide +kernel)) ggX5_find_X5_keep
theorem dX5_find_0 : decode cX5_find 0 = .ok (.aload_n 0, 1) := by decide +kernel
theorem dX5_find_1 : decode cX5_find 1 = .ok (.iload_n 1, 1) := by decide +kernel
theorem dX5_find_2 : decode cX5_find 2 = .ok (.iload_n 2, 1) := by decide +kernel
theorem dX5_find_3 : decode cX5_find 3 = .ok (.invokevirtual 149, 3) := by decide +kernel
theorem dX5_find_6 : decode cX5_find 6 = .ok (.ifCond .ne 5, 3) := by decide +kernel
theorem dX5_find_9 : decode cX5_find 9 = .ok (.iconst 0, 1) := by decide +kernel
theorem dX5_find_10 : decode cX5_find 10 = .ok (.ireturn, 1) := by decide +kernel
theorem dX5_find_11 : decode cX5_find 11 = .ok (.iload_n 3, 1) := by decide +kernel
theorem dX5_find_12 : decode cX5_find 12 = .ok (.i2l, 1) := by decide +kernel
theorem dX5_find_13 : decode cX5_find 13 = .ok (.lconst 0, 1) := by decide +kernel
theorem dX5_find_14 : decode cX5_find 14 = .ok (.ldc2_w 152, 3) := by decide +kernel
theorem dX5_find_17 : decode cX5_find 17 = .ok (.invokestatic 93, 3) := by decide +kernel
theorem dX5_find_20 : decode cX5_find 20 = .ok (.ifCond .ne 9, 3) := by decide +kernel
theorem dX5_find_23 : decode cX5_find 23 = .ok (.aload_n 0, 1) := by decide +kernel
theorem dX5_find_24 : decode cX5_find 24 = .ok (.iconst 3, 1) := by decide +kernel
theorem dX5_find_25 : decode cX5_find 25 = .ok (.invokevirtual 97, 3) := by decide +kernel
theorem dX5_find_28 : decode cX5_find 28 = .ok (.ireturn, 1) := by decide +kernel
theorem dX5_find_29 : decode cX5_find 29 = .ok (.aload_n 0, 1) := by decide +kernel
theorem dX5_find_30 : decode cX5_find 30 = .ok (.getfield 90, 3) := by decide +kernel
theorem dX5_find_33 : decode cX5_find 33 = .ok (.bipush 50, 2) := by decide +kernel
theorem dX5_find_35 : decode cX5_find 35 = .ok (.if_icmp .ne 9, 3) := by decide +kernel
theorem dX5_find_38 : decode cX5_find 38 = .ok (.aload_n 0, 1) := by decide +kernel
theorem dX5_find_39 : decode cX5_find 39 = .ok (.iconst 4, 1) := by decide +kernel
theorem dX5_find_40 : decode cX5_find 40 = .ok (.invokevirtual 97, 3) := by decide +kernel
theorem dX5_find_43 : decode cX5_find 43 = .ok (.ireturn, 1) := by decide +kernel
theorem dX5_find_44 : decode cX5_find 44 = .ok (.aload_n 0, 1) := by decide +kernel
theorem dX5_find_45 : decode cX5_find 45 = .ok (.iload_n 1, 1) := by decide +kernel
theorem dX5_find_46 : decode cX5_find 46 = .ok (.iload_n 2, 1) := by decide +kernel
theorem dX5_find_47 : decode cX5_find 47 = .ok (.invokevirtual 154, 3) := by decide +kernel
theorem dX5_find_50 : decode cX5_find 50 = .ok (.aload_n 0, 1) := by decide +kernel
theorem dX5_find_51 : decode cX5_find 51 = .ok (.iload_n 3, 1) := by decide +kernel
theorem dX5_find_52 : decode cX5_find 52 = .ok (.invokevirtual 157, 3) := by decide +kernel
theorem dX5_find_55 : decode cX5_find 55 = .ok (.pop, 1) := by decide +kernel
theorem dX5_find_56 : decode cX5_find 56 = .ok (.aload_n 0, 1) := by decide +kernel
theorem dX5_find_57 : decode cX5_find 57 = .ok (.getfield 145, 3) := by decide +kernel
theorem dX5_find_60 : decode cX5_find 60 = .ok (.ifCond .ne 5, 3) := by decide +kernel
theorem dX5_find_63 : decode cX5_find 63 = .ok (.iconst (-1), 1) := by decide +kernel
theorem dX5_find_64 : decode cX5_find 64 = .ok (.ireturn, 1) := by decide +kernel
theorem dX5_find_65 : decode cX5_find 65 = .ok (.aload_n 0, 1) := by decide +kernel
theorem dX5_find_66 : decode cX5_find 66 = .ok (.getfield 22, 3) := by decide +kernel
theorem dX5_find_69 : decode cX5_find 69 = .ok (.invokestatic 68, 3) := by decide +kernel
theorem dX5_find_72 : decode cX5_find 72 = .ok (.iconst 0, 1) := by decide +kernel
theorem dX5_find_73 : decode cX5_find 73 = .ok (.istore 4, 2) := by decide +kernel
theorem dX5_find_75 : decode cX5_find 75 = .ok (.iload 4, 2) := by decide +kernel
theorem dX5_find_77 : decode cX5_find 77 = .ok (.iload_n 3, 1) := by decide +kernel
theorem dX5_find_78 : decode cX5_find 78 = .ok (.if_icmp .gt 49, 3) := by decide +kernel
theorem dX5_find_81 : decode cX5_find 81 = .ok (.aload_n 0, 1) := by decide +kernel
theorem dX5_find_82 : decode cX5_find 82 = .ok (.getfield 22, 3) := by decide +kernel
theorem dX5_find_85 : decode cX5_find 85 = .ok (.iload 4, 2) := by decide +kernel
theorem dX5_find_87 : decode cX5_find 87 = .ok (.aload_n 0, 1) := by decide +kernel
theorem dX5_find_88 : decode cX5_find 88 = .ok (.getfield 50, 3) := by decide +kernel
theorem dX5_find_91 : decode cX5_find 91 = .ok (.iload 4, 2) := by decide +kernel
theorem dX5_find_93 : decode cX5_find 93 = .ok (.iaload, 1) := by decide +kernel
theorem dX5_find_94 : decode cX5_find 94 = .ok (.iconst (-1), 1) := by decide +kernel
theorem dX5_find_95 : decode cX5_find 95 = .ok (.if_icmp .ne 7, 3) := by decide +kernel
theorem dX5_find_98 : decode cX5_find 98 = .ok (.lconst 0, 1) := by decide +kernel
theorem dX5_find_99 : decode cX5_find 99 = .ok (.goto 21, 3) := by decide +kernel
theorem dX5_find_102 : decode cX5_find 102 = .ok (.aload_n 0, 1) := by decide +kernel
theorem dX5_find_103 : decode cX5_find 103 = .ok (.getfield 47, 3) := by decide +kernel
theorem dX5_find_106 : decode cX5_find 106 = .ok (.bipush 10, 2) := by decide +kernel
theorem dX5_find_108 : decode cX5_find 108 = .ok (.aload_n 0, 1) := by decide +kernel
theorem dX5_find_109 : decode cX5_find 109 = .ok (.getfield 50, 3) := by decide +kernel
theorem dX5_find_112 : decode cX5_find 112 = .ok (.iload 4, 2) := by decide +kernel
theorem dX5_find_114 : decode cX5_find 114 = .ok (.iaload, 1) := by decide +kernel
theorem dX5_find_115 : decode cX5_find 115 = .ok (.imul, 1) := by decide +kernel
theorem dX5_find_116 : decode cX5_find 116 = .ok (.bipush 9, 2) := by decide +kernel
theorem dX5_find_118 : decode cX5_find 118 = .ok (.iadd, 1) := by decide +kernel
theorem dX5_find_119 : decode cX5_find 119 = .ok (.laload, 1) := by decide +kernel
theorem dX5_find_120 : decode cX5_find 120 = .ok (.lastore, 1) := by decide +kernel
theorem dX5_find_121 : decode cX5_find 121 = .ok (.iinc 4 1, 3) := by decide +kernel
theorem dX5_find_124 : decode cX5_find 124 = .ok (.goto (-49), 3) := by decide +kernel
theorem dX5_find_127 : decode cX5_find 127 = .ok (.aload_n 0, 1) := by decide +kernel
theorem dX5_find_128 : decode cX5_find 128 = .ok (.aload_n 0, 1) := by decide +kernel
theorem dX5_find_129 : decode cX5_find 129 = .ok (.getfield 26, 3) := by decide +kernel
theorem dX5_find_132 : decode cX5_find 132 = .ok (.iload_n 2, 1) := by decide +kernel
theorem dX5_find_133 : decode cX5_find 133 = .ok (.invokevirtual 122, 3) := by decide +kernel
theorem dX5_find_136 : decode cX5_find 136 = .ok (.aload_n 0, 1) := by decide +kernel
theorem dX5_find_137 : decode cX5_find 137 = .ok (.invokevirtual 132, 3) := by decide +kernel
theorem dX5_find_140 : decode cX5_find 140 = .ok (.aload_n 0, 1) := by decide +kernel
theorem dX5_find_141 : decode cX5_find 141 = .ok (.iconst 4, 1) := by decide +kernel
theorem dX5_find_142 : decode cX5_find 142 = .ok (.invokevirtual 107, 3) := by decide +kernel
theorem dX5_find_145 : decode cX5_find 145 = .ok (.ireturn, 1) := by decide +kernel
set_option maxRecDepth 20000 in
theorem ggX5_least_X5_mayBe : GoodIn wsX5_least wsX5_mayBe := goodIn_r _ [6, 7, 8, 9, 10, 11, 5, 12, 13, 14, 15, 16, 17, 18, 19, 20, 21, 22, 23, 24, 25, 26, 27, 28, 29, 30, 31, 32, 33, 34, 35, 36, 81, 82, 83, 84, 85, 86, 87, 88, 89, 90, 91, 92, 93, 94, 95, 96, 97, 98, 99, 100] (by decide +kernel) (by decide +kernel)
set_option maxRecDepth 20000 in
theorem gX5_least_X5_mayBe : GoodIn wsX5_least (wsV RX5 149 RX5 yX5_mayBe wsX5_mayBe) := goodIn_app (goodIn_of _ (by decide +kernel)) ggX5_least_X5_mayBe
set_option maxRecDepth 20000 in
theorem ggX5_least_X5_fill : GoodIn wsX5_least wsX5_fill := goodIn_r _ [40, 41, 42, 7, 43, 44, 45, 36, 46, 47, 48, 49, 50, 51, 21, 22, 23, 5, 24, 25, 26, 27, 28, 52, 53, 54, 55, 56, 57, 58, 59, 60, 61, 62, 63, 64, 29, 30, 31, 65, 66, 67, 68, 69, 81, 82, 83, 84, 85, 86, 87, 88, 89, 90, 91, 92, 93, 94, 95, 96, 97, 98, 99, 100] (by decide +kernel) (by decide +kernel)
set_option maxRecDepth 20000 in
theorem gX5_least_X5_fill : GoodIn wsX5_least (wsV RX5 154 RX5 yX5_fill wsX5_fill) := goodIn_app (goodIn_of _ (by decide +kernel)) ggX5_least_X5_fill
set_option maxRecDepth 20000 in
theorem ggX5_least_X5_clear : GoodIn wsX5_least wsX5_clear := goodIn_r _ [73, 50, 74, 51, 1, 75, 76, 5, 77, 78, 79, 80, 81, 82, 83, 84, 85, 86, 87, 88, 89, 90, 91, 92, 93, 94, 95, 96, 97, 98, 99, 100] (by decide +kernel) (by decide +kernel)
set_option maxRecDepth 20000 in
theorem gX5_least_X5_clear : GoodIn wsX5_least (wsV RX5 157 RX5 yX5_clear wsX5_clear) := goodIn_app (goodIn_of _ (by decide +kernel)) ggX5_least_X5_clear
theorem dX5_least_0 : decode cX5_least 0 = .ok (.aload_n 0, 1) := by decide +kernel
theorem dX5_least_1 : decode cX5_least 1 = .ok (.iload_n 1, 1) := by decide +kernel
theorem dX5_least_2 : decode cX5_least 2 = .ok (.iload_n 2, 1) := by decide +kernel
theorem dX5_least_3 : decode cX5_least 3 = .ok (.invokevirtual 149, 3) := by decide +kernel
theorem dX5_least_6 : decode cX5_least 6 = .ok (.ifCond .ne 5, 3) := by decide +kernel
theorem dX5_least_9 : decode cX5_least 9 = .ok (.iconst 0, 1) := by decide +kernel
theorem dX5_least_10 : decode cX5_least 10 = .ok (.ireturn, 1) := by decide +kernel
theorem dX5_least_11 : decode cX5_least 11 = .ok (.iconst 0, 1) := by decide +kernel
theorem dX5_least_12 : decode cX5_least 12 = .ok (.istore_n 3, 1) := by decide +kernel
theorem dX5_least_13 : decode cX5_least 13 = .ok (.iload_n 3, 1) := by decide +kernel
theorem dX5_least_14 : decode cX5_least 14 = .ok (.bipush 9, 2) := by decide +kernel
theorem dX5_least_16 : decode cX5_least 16 = .ok (.if_icmp .ge 30, 3) := by decide +kernel
theorem dX5_least_19 : decode cX5_least 19 = .ok (.aload_n 0, 1) := by decide +kernel
theorem dX5_least_20 : decode cX5_least 20 = .ok (.iload_n 1, 1) := by decide +kernel
theorem dX5_least_21 : decode cX5_least 21 = .ok (.iload_n 2, 1) := by decide +kernel
theorem dX5_least_22 : decode cX5_least 22 = .ok (.invokevirtual 154, 3) := by decide +kernel
theorem dX5_least_25 : decode cX5_least 25 = .ok (.aload_n 0, 1) := by decide +kernel
theorem dX5_least_26 : decode cX5_least 26 = .ok (.iload_n 3, 1) := by decide +kernel
theorem dX5_least_27 : decode cX5_least 27 = .ok (.invokevirtual 157, 3) := by decide +kernel
theorem dX5_least_30 : decode cX5_least 30 = .ok (.pop, 1) := by decide +kernel
theorem dX5_least_31 : decode cX5_least 31 = .ok (.aload_n 0, 1) := by decide +kernel
theorem dX5_least_32 : decode cX5_least 32 = .ok (.getfield 145, 3) := by decide +kernel
theorem dX5_least_35 : decode cX5_least 35 = .ok (.ifCond .eq 5, 3) := by decide +kernel
theorem dX5_least_38 : decode cX5_least 38 = .ok (.iload_n 3, 1) := by decide +kernel
theorem dX5_least_39 : decode cX5_least 39 = .ok (.ireturn, 1) := by decide +kernel
theorem dX5_least_40 : decode cX5_least 40 = .ok (.iinc 3 1, 3) := by decide +kernel
theorem dX5_least_43 : decode cX5_least 43 = .ok (.goto (-30), 3) := by decide +kernel
theorem dX5_least_46 : decode cX5_least 46 = .ok (.iconst (-1), 1) := by decide +kernel
theorem dX5_least_47 : decode cX5_least 47 = .ok (.ireturn, 1) := by decide +kernel
set_option maxRecDepth 20000 in
theorem ggX5_free_X5_mayBe : GoodIn wsX5_free wsX5_mayBe := goodIn_r _ [6, 7, 8, 9, 10, 11, 5, 12, 13, 14, 15, 16, 17, 18, 19, 20, 21, 22, 23, 24, 25, 26, 27, 28, 29, 30, 31, 32, 33, 34, 35, 36, 86, 87, 88, 89, 90, 91, 92, 93, 94, 95, 96, 97, 98, 99, 100, 101, 102, 103, 104, 105] (by decide +kernel) (by decide +kernel)
set_option maxRecDepth 20000 in
theorem gX5_free_X5_mayBe : GoodIn wsX5_free (wsV RX5 149 RX5 yX5_mayBe wsX5_mayBe) := goodIn_app (goodIn_of _ (by decide +kernel)) ggX5_free_X5_mayBe
set_option maxRecDepth 20000 in
theorem ggX5_free_X5_in : GoodIn wsX5_free wsX5_in := goodIn_r _ [20] (by decide +kernel) (by decide +kernel)
set_option maxRecDepth 20000 in
theorem gX5_free_X5_in : GoodIn wsX5_free (va_wsS RX5 93 yX5_in wsX5_in) := goodIn_app (goodIn_of _ (by decide +kernel)) ggX5_free_X5_in
set_option maxRecDepth 20000 in
theorem ggX5_free_X5_raise : GoodIn wsX5_free wsX5_raise := goodIn_r _ [40, 8, 86, 87, 88, 89, 90, 91, 92, 93, 94, 95, 96, 97, 98, 99, 100, 101, 102, 103, 104, 105] (by decide +kernel) (by decide +kernel)
set_option maxRecDepth 20000 in
theorem gX5_free_X5_raise : GoodIn wsX5_free (wsV RX5 97 RX5 yX5_raise wsX5_raise) := goodIn_app (goodIn_of _ (by decide +kernel)) ggX5_free_X5_raise
set_option maxRecDepth 20000 in
theorem ggX5_free_X5_fill : GoodIn wsX5_free wsX5_fill := goodIn_r _ [44, 45, 46, 7, 47, 48, 49, 36, 50, 51, 52, 53, 54, 55, 21, 22, 23, 5, 24, 25, 26, 27, 28, 56, 57, 58, 59, 60, 61, 62, 63, 64, 65, 66, 67, 68, 29, 30, 31, 69, 70, 71, 72, 73, 86, 87, 88, 89, 90, 91, 92, 93, 94, 95, 96, 97, 98, 99, 100, 101, 102, 103, 104, 105] (by decide +kernel) (by decide +kernel)
set_option maxRecDepth 20000 in
theorem gX5_free_X5_fill : GoodIn wsX5_free (wsV RX5 154 RX5 yX5_fill wsX5_fill) := goodIn_app (goodIn_of _ (by decide +kernel)) ggX5_free_X5_fill
set_option maxRecDepth 20000 in
theorem ggX5_free_X5_clear : GoodIn wsX5_free wsX5_clear := goodIn_r _ [77, 54, 78, 55, 79, 80, 81, 5, 82, 83, 84, 85, 86, 87, 88, 89, 90, 91, 92, 93, 94, 95, 96, 97, 98, 99, 100, 101, 102, 103, 104, 105] (by decide +kernel) (by decide +kernel)
set_option maxRecDepth 20000 in
theorem gX5_free_X5_clear : GoodIn wsX5_free (wsV RX5 157 RX5 yX5_clear wsX5_clear) := goodIn_app (goodIn_of _ (by decide +kernel)) ggX5_free_X5_clear
theorem dX5_free_0 : decode cX5_free 0 = .ok (.aload_n 0, 1) := by decide +kernel
theorem dX5_free_1 : decode cX5_free 1 = .ok (.iload_n 1, 1) := by decide +kernel
theorem dX5_free_2 : decode cX5_free 2 = .ok (.iload_n 1, 1) := by decide +kernel
theorem dX5_free_3 : decode cX5_free 3 = .ok (.invokevirtual 149, 3) := by decide +kernel
theorem dX5_free_6 : decode cX5_free 6 = .ok (.ifCond .ne 5, 3) := by decide +kernel
theorem dX5_free_9 : decode cX5_free 9 = .ok (.iconst 0, 1) := by decide +kernel
theorem dX5_free_10 : decode cX5_free 10 = .ok (.ireturn, 1) := by decide +kernel
theorem dX5_free_11 : decode cX5_free 11 = .ok (.iload_n 2, 1) := by decide +kernel
theorem dX5_free_12 : decode cX5_free 12 = .ok (.i2l, 1) := by decide +kernel
theorem dX5_free_13 : decode cX5_free 13 = .ok (.lconst 0, 1) := by decide +kernel
theorem dX5_free_14 : decode cX5_free 14 = .ok (.ldc2_w 152, 3) := by decide +kernel
theorem dX5_free_17 : decode cX5_free 17 = .ok (.invokestatic 93, 3) := by decide +kernel
theorem dX5_free_20 : decode cX5_free 20 = .ok (.ifCond .ne 9, 3) := by decide +kernel
theorem dX5_free_23 : decode cX5_free 23 = .ok (.aload_n 0, 1) := by decide +kernel
theorem dX5_free_24 : decode cX5_free 24 = .ok (.iconst 3, 1) := by decide +kernel
theorem dX5_free_25 : decode cX5_free 25 = .ok (.invokevirtual 97, 3) := by decide +kernel
theorem dX5_free_28 : decode cX5_free 28 = .ok (.ireturn, 1) := by decide +kernel
theorem dX5_free_29 : decode cX5_free 29 = .ok (.aload_n 0, 1) := by decide +kernel
theorem dX5_free_30 : decode cX5_free 30 = .ok (.iload_n 1, 1) := by decide +kernel
theorem dX5_free_31 : decode cX5_free 31 = .ok (.iload_n 1, 1) := by decide +kernel
theorem dX5_free_32 : decode cX5_free 32 = .ok (.invokevirtual 154, 3) := by decide +kernel
theorem dX5_free_35 : decode cX5_free 35 = .ok (.aload_n 0, 1) := by decide +kernel
theorem dX5_free_36 : decode cX5_free 36 = .ok (.iload_n 2, 1) := by decide +kernel
theorem dX5_free_37 : decode cX5_free 37 = .ok (.invokevirtual 157, 3) := by decide +kernel
theorem dX5_free_40 : decode cX5_free 40 = .ok (.ireturn, 1) := by decide +kernel
set_option maxRecDepth 20000 in
theorem ggX5_loadPart_X5_loadTop : GoodIn wsX5_loadPart wsX5_loadTop := goodIn_r _ [6, 7, 8, 9, 5, 10, 16, 17, 18, 19, 20, 21, 22, 23, 24, 25, 26, 27, 28, 29, 30, 31, 32, 33, 34, 35] (by decide +kernel) (by decide +kernel)
set_option maxRecDepth 20000 in
theorem gX5_loadPart_X5_loadTop : GoodIn wsX5_loadPart (wsV RX5 122 RX5 yX5_loadTop wsX5_loadTop) := goodIn_app (goodIn_of _ (by decide +kernel)) ggX5_loadPart_X5_loadTop
set_option maxRecDepth 20000 in
theorem ggX5_loadPart_X5_loadBottom : GoodIn wsX5_loadPart wsX5_loadBottom := goodIn_r _ [14, 15, 8, 9, 5, 10, 16, 17, 18, 19, 20, 21, 22, 23, 24, 25, 26, 27, 28, 29, 30, 31, 32, 33, 34, 35] (by decide +kernel) (by decide +kernel)
set_option maxRecDepth 20000 in
theorem gX5_loadPart_X5_loadBottom : GoodIn wsX5_loadPart (wsV RX5 126 RX5 yX5_loadBottom wsX5_loadBottom) := goodIn_app (goodIn_of _ (by decide +kernel)) ggX5_loadPart_X5_loadBottom
theorem dX5_loadPart_0 : decode cX5_loadPart 0 = .ok (.iload_n 2, 1) := by decide +kernel
theorem dX5_loadPart_1 : decode cX5_loadPart 1 = .ok (.ifCond .eq 15, 3) := by decide +kernel
theorem dX5_loadPart_4 : decode cX5_loadPart 4 = .ok (.aload_n 0, 1) := by decide +kernel
theorem dX5_loadPart_5 : decode cX5_loadPart 5 = .ok (.aload_n 0, 1) := by decide +kernel
theorem dX5_loadPart_6 : decode cX5_loadPart 6 = .ok (.getfield 22, 3) := by decide +kernel
theorem dX5_loadPart_9 : decode cX5_loadPart 9 = .ok (.iload_n 1, 1) := by decide +kernel
theorem dX5_loadPart_10 : decode cX5_loadPart 10 = .ok (.invokevirtual 122, 3) := by decide +kernel
theorem dX5_loadPart_13 : decode cX5_loadPart 13 = .ok (.goto 12, 3) := by decide +kernel
theorem dX5_loadPart_16 : decode cX5_loadPart 16 = .ok (.aload_n 0, 1) := by decide +kernel
theorem dX5_loadPart_17 : decode cX5_loadPart 17 = .ok (.aload_n 0, 1) := by decide +kernel
theorem dX5_loadPart_18 : decode cX5_loadPart 18 = .ok (.getfield 22, 3) := by decide +kernel
theorem dX5_loadPart_21 : decode cX5_loadPart 21 = .ok (.iload_n 1, 1) := by decide +kernel
theorem dX5_loadPart_22 : decode cX5_loadPart 22 = .ok (.invokevirtual 126, 3) := by decide +kernel
theorem dX5_loadPart_25 : decode cX5_loadPart 25 = .ok (.return_, 1) := by decide +kernel
set_option maxRecDepth 20000 in
theorem ggX5_degree_X5_are : GoodIn wsX5_degree wsX5_are := goodIn_r _ [6, 7, 8, 9, 10, 5, 11, 12, 13, 14, 15, 36, 37, 38, 39, 40, 41, 42, 43, 44, 45, 46, 47, 48, 49, 50, 51, 52, 53, 54, 55] (by decide +kernel) (by decide +kernel)
set_option maxRecDepth 20000 in
theorem gX5_degree_X5_are : GoodIn wsX5_degree (wsV RX5 114 RX5 yX5_are wsX5_are) := goodIn_app (goodIn_of _ (by decide +kernel)) ggX5_degree_X5_are
set_option maxRecDepth 20000 in
theorem ggX5_degree_X5_loadPart : GoodIn wsX5_degree wsX5_loadPart := goodIn_r _ [19, 1, 20, 21, 22, 5, 23, 24, 25, 26, 27, 28, 29, 30, 31, 32, 36, 37, 38, 39, 40, 41, 42, 43, 44, 45, 46, 47, 48, 49, 50, 51, 52, 53, 54, 55] (by decide +kernel) (by decide +kernel)
set_option maxRecDepth 20000 in
theorem gX5_degree_X5_loadPart : GoodIn wsX5_degree (wsV RX5 160 RX5 yX5_loadPart wsX5_loadPart) := goodIn_app (goodIn_of _ (by decide +kernel)) ggX5_degree_X5_loadPart
set_option maxRecDepth 20000 in
theorem ggX5_degree_X5_high : GoodIn wsX5_degree wsX5_high := goodIn_r _ [35] (by decide +kernel) (by decide +kernel)
set_option maxRecDepth 20000 in
theorem gX5_degree_X5_high : GoodIn wsX5_degree (va_wsS RX5 72 yX5_high wsX5_high) := goodIn_app (goodIn_of _ (by decide +kernel)) ggX5_degree_X5_high
theorem dX5_degree_0 : decode cX5_degree 0 = .ok (.aload_n 0, 1) := by decide +kernel
theorem dX5_degree_1 : decode cX5_degree 1 = .ok (.iload_n 1, 1) := by decide +kernel
theorem dX5_degree_2 : decode cX5_degree 2 = .ok (.iload_n 1, 1) := by decide +kernel
theorem dX5_degree_3 : decode cX5_degree 3 = .ok (.invokevirtual 114, 3) := by decide +kernel
theorem dX5_degree_6 : decode cX5_degree 6 = .ok (.ifCond .ne 5, 3) := by decide +kernel
theorem dX5_degree_9 : decode cX5_degree 9 = .ok (.iconst 0, 1) := by decide +kernel
theorem dX5_degree_10 : decode cX5_degree 10 = .ok (.ireturn, 1) := by decide +kernel
theorem dX5_degree_11 : decode cX5_degree 11 = .ok (.aload_n 0, 1) := by decide +kernel
theorem dX5_degree_12 : decode cX5_degree 12 = .ok (.iload_n 1, 1) := by decide +kernel
theorem dX5_degree_13 : decode cX5_degree 13 = .ok (.iload_n 2, 1) := by decide +kernel
theorem dX5_degree_14 : decode cX5_degree 14 = .ok (.invokevirtual 160, 3) := by decide +kernel
theorem dX5_degree_17 : decode cX5_degree 17 = .ok (.aload_n 0, 1) := by decide +kernel
theorem dX5_degree_18 : decode cX5_degree 18 = .ok (.getfield 22, 3) := by decide +kernel
theorem dX5_degree_21 : decode cX5_degree 21 = .ok (.invokestatic 72, 3) := by decide +kernel
theorem dX5_degree_24 : decode cX5_degree 24 = .ok (.ireturn, 1) := by decide +kernel
set_option maxRecDepth 20000 in
theorem ggX5_at_X5_are : GoodIn wsX5_at wsX5_are := goodIn_r _ [7, 8, 9, 10, 11, 6, 12, 13, 14, 15, 16, 34, 35, 36, 37, 38, 39, 40, 41, 42, 43, 44, 45, 46, 47, 48, 49, 50, 51, 52, 53] (by decide +kernel) (by decide +kernel)
set_option maxRecDepth 20000 in
theorem gX5_at_X5_are : GoodIn wsX5_at (wsV RX5 114 RX5 yX5_are wsX5_are) := goodIn_app (goodIn_of _ (by decide +kernel)) ggX5_at_X5_are
set_option maxRecDepth 20000 in
theorem ggX5_at_X5_in : GoodIn wsX5_at wsX5_in := goodIn_r _ [16] (by decide +kernel) (by decide +kernel)
set_option maxRecDepth 20000 in
theorem gX5_at_X5_in : GoodIn wsX5_at (va_wsS RX5 93 yX5_in wsX5_in) := goodIn_app (goodIn_of _ (by decide +kernel)) ggX5_at_X5_in
set_option maxRecDepth 20000 in
theorem ggX5_at_X5_loadPart : GoodIn wsX5_at wsX5_loadPart := goodIn_r _ [20, 2, 21, 22, 23, 6, 24, 25, 26, 27, 28, 29, 30, 31, 32, 33, 34, 35, 36, 37, 38, 39, 40, 41, 42, 43, 44, 45, 46, 47, 48, 49, 50, 51, 52, 53] (by decide +kernel) (by decide +kernel)
set_option maxRecDepth 20000 in
theorem gX5_at_X5_loadPart : GoodIn wsX5_at (wsV RX5 160 RX5 yX5_loadPart wsX5_loadPart) := goodIn_app (goodIn_of _ (by decide +kernel)) ggX5_at_X5_loadPart
theorem dX5_at_0 : decode cX5_at 0 = .ok (.aload_n 0, 1) := by decide +kernel
theorem dX5_at_1 : decode cX5_at 1 = .ok (.iload_n 1, 1) := by decide +kernel
theorem dX5_at_2 : decode cX5_at 2 = .ok (.iload_n 1, 1) := by decide +kernel
theorem dX5_at_3 : decode cX5_at 3 = .ok (.invokevirtual 114, 3) := by decide +kernel
theorem dX5_at_6 : decode cX5_at 6 = .ok (.ifCond .eq 15, 3) := by decide +kernel
theorem dX5_at_9 : decode cX5_at 9 = .ok (.iload_n 3, 1) := by decide +kernel
theorem dX5_at_10 : decode cX5_at 10 = .ok (.i2l, 1) := by decide +kernel
theorem dX5_at_11 : decode cX5_at 11 = .ok (.lconst 0, 1) := by decide +kernel
theorem dX5_at_12 : decode cX5_at 12 = .ok (.ldc2_w 164, 3) := by decide +kernel
theorem dX5_at_15 : decode cX5_at 15 = .ok (.invokestatic 93, 3) := by decide +kernel
theorem dX5_at_18 : decode cX5_at 18 = .ok (.ifCond .ne 5, 3) := by decide +kernel
theorem dX5_at_21 : decode cX5_at 21 = .ok (.iconst 0, 1) := by decide +kernel
theorem dX5_at_22 : decode cX5_at 22 = .ok (.ireturn, 1) := by decide +kernel
theorem dX5_at_23 : decode cX5_at 23 = .ok (.aload_n 0, 1) := by decide +kernel
theorem dX5_at_24 : decode cX5_at 24 = .ok (.iload_n 1, 1) := by decide +kernel
theorem dX5_at_25 : decode cX5_at 25 = .ok (.iload_n 2, 1) := by decide +kernel
theorem dX5_at_26 : decode cX5_at 26 = .ok (.invokevirtual 160, 3) := by decide +kernel
theorem dX5_at_29 : decode cX5_at 29 = .ok (.aload_n 0, 1) := by decide +kernel
theorem dX5_at_30 : decode cX5_at 30 = .ok (.getfield 22, 3) := by decide +kernel
theorem dX5_at_33 : decode cX5_at 33 = .ok (.iload_n 3, 1) := by decide +kernel
theorem dX5_at_34 : decode cX5_at 34 = .ok (.laload, 1) := by decide +kernel
theorem dX5_at_35 : decode cX5_at 35 = .ok (.l2i, 1) := by decide +kernel
theorem dX5_at_36 : decode cX5_at 36 = .ok (.ireturn, 1) := by decide +kernel
theorem dX5_valueAt_0 : decode cX5_valueAt 0 = .ok (.lconst 0, 1) := by decide +kernel
theorem dX5_valueAt_1 : decode cX5_valueAt 1 = .ok (.lstore_n 3, 1) := by decide +kernel
theorem dX5_valueAt_2 : decode cX5_valueAt 2 = .ok (.bipush 63, 2) := by decide +kernel
theorem dX5_valueAt_4 : decode cX5_valueAt 4 = .ok (.istore 5, 2) := by decide +kernel
theorem dX5_valueAt_6 : decode cX5_valueAt 6 = .ok (.iload 5, 2) := by decide +kernel
theorem dX5_valueAt_8 : decode cX5_valueAt 8 = .ok (.ifCond .lt 22, 3) := by decide +kernel
theorem dX5_valueAt_11 : decode cX5_valueAt 11 = .ok (.lload_n 3, 1) := by decide +kernel
theorem dX5_valueAt_12 : decode cX5_valueAt 12 = .ok (.lload_n 1, 1) := by decide +kernel
theorem dX5_valueAt_13 : decode cX5_valueAt 13 = .ok (.lmul, 1) := by decide +kernel
theorem dX5_valueAt_14 : decode cX5_valueAt 14 = .ok (.aload_n 0, 1) := by decide +kernel
theorem dX5_valueAt_15 : decode cX5_valueAt 15 = .ok (.iload 5, 2) := by decide +kernel
theorem dX5_valueAt_17 : decode cX5_valueAt 17 = .ok (.laload, 1) := by decide +kernel
theorem dX5_valueAt_18 : decode cX5_valueAt 18 = .ok (.ladd, 1) := by decide +kernel
theorem dX5_valueAt_19 : decode cX5_valueAt 19 = .ok (.ldc2_w 66, 3) := by decide +kernel
theorem dX5_valueAt_22 : decode cX5_valueAt 22 = .ok (.lrem, 1) := by decide +kernel
theorem dX5_valueAt_23 : decode cX5_valueAt 23 = .ok (.lstore_n 3, 1) := by decide +kernel
theorem dX5_valueAt_24 : decode cX5_valueAt 24 = .ok (.iinc 5 (-1), 3) := by decide +kernel
theorem dX5_valueAt_27 : decode cX5_valueAt 27 = .ok (.goto (-21), 3) := by decide +kernel
theorem dX5_valueAt_30 : decode cX5_valueAt 30 = .ok (.lload_n 3, 1) := by decide +kernel
theorem dX5_valueAt_31 : decode cX5_valueAt 31 = .ok (.lreturn, 1) := by decide +kernel
set_option maxRecDepth 20000 in
theorem ggX5_value_X5_are : GoodIn wsX5_value wsX5_are := goodIn_r _ [7, 8, 9, 10, 11, 6, 12, 13, 14, 15, 16, 43, 44, 45, 46, 47, 48, 49, 50, 51, 52, 53, 54, 55, 56, 57, 58, 59, 60, 61, 62] (by decide +kernel) (by decide +kernel)
set_option maxRecDepth 20000 in
theorem gX5_value_X5_are : GoodIn wsX5_value (wsV RX5 114 RX5 yX5_are wsX5_are) := goodIn_app (goodIn_of _ (by decide +kernel)) ggX5_value_X5_are
set_option maxRecDepth 20000 in
theorem ggX5_value_X5_loadPart : GoodIn wsX5_value wsX5_loadPart := goodIn_r _ [20, 1, 21, 22, 23, 6, 24, 25, 26, 27, 28, 29, 30, 31, 32, 33, 43, 44, 45, 46, 47, 48, 49, 50, 51, 52, 53, 54, 55, 56, 57, 58, 59, 60, 61, 62] (by decide +kernel) (by decide +kernel)
set_option maxRecDepth 20000 in
theorem gX5_value_X5_loadPart : GoodIn wsX5_value (wsV RX5 160 RX5 yX5_loadPart wsX5_loadPart) := goodIn_app (goodIn_of _ (by decide +kernel)) ggX5_value_X5_loadPart
set_option maxRecDepth 20000 in
theorem ggX5_value_X5_modulo : GoodIn wsX5_value wsX5_modulo := goodIn_r _ [36, 2] (by decide +kernel) (by decide +kernel)
set_option maxRecDepth 20000 in
theorem gX5_value_X5_modulo : GoodIn wsX5_value (va_wsS RX5 80 yX5_modulo wsX5_modulo) := goodIn_app (goodIn_of _ (by decide +kernel)) ggX5_value_X5_modulo
set_option maxRecDepth 20000 in
theorem ggX5_value_X5_valueAt : GoodIn wsX5_value wsX5_valueAt := goodIn_r _ [39, 2] (by decide +kernel) (by decide +kernel)
set_option maxRecDepth 20000 in
theorem gX5_value_X5_valueAt : GoodIn wsX5_value (va_wsS RX5 166 yX5_valueAt wsX5_valueAt) := goodIn_app (goodIn_of _ (by decide +kernel)) ggX5_value_X5_valueAt
set_option maxRecDepth 20000 in
theorem ggX5_value_X5_inverse : GoodIn wsX5_value wsX5_inverse := goodIn_r _ [42, 2] (by decide +kernel) (by decide +kernel)
set_option maxRecDepth 20000 in
theorem gX5_value_X5_inverse : GoodIn wsX5_value (va_wsS RX5 76 yX5_inverse wsX5_inverse) := goodIn_app (goodIn_of _ (by decide +kernel)) ggX5_value_X5_inverse
theorem dX5_value_0 : decode cX5_value 0 = .ok (.aload_n 0, 1) := by decide +kernel
theorem dX5_value_1 : decode cX5_value 1 = .ok (.iload_n 1, 1) := by decide +kernel
theorem dX5_value_2 : decode cX5_value 2 = .ok (.iload_n 1, 1) := by decide +kernel
theorem dX5_value_3 : decode cX5_value 3 = .ok (.invokevirtual 114, 3) := by decide +kernel
theorem dX5_value_6 : decode cX5_value 6 = .ok (.ifCond .ne 5, 3) := by decide +kernel
theorem dX5_value_9 : decode cX5_value 9 = .ok (.iconst 0, 1) := by decide +kernel
theorem dX5_value_10 : decode cX5_value 10 = .ok (.ireturn, 1) := by decide +kernel
theorem dX5_value_11 : decode cX5_value 11 = .ok (.aload_n 0, 1) := by decide +kernel
theorem dX5_value_12 : decode cX5_value 12 = .ok (.iload_n 1, 1) := by decide +kernel
theorem dX5_value_13 : decode cX5_value 13 = .ok (.iconst 0, 1) := by decide +kernel
theorem dX5_value_14 : decode cX5_value 14 = .ok (.invokevirtual 160, 3) := by decide +kernel
theorem dX5_value_17 : decode cX5_value 17 = .ok (.aload_n 0, 1) := by decide +kernel
theorem dX5_value_18 : decode cX5_value 18 = .ok (.getfield 22, 3) := by decide +kernel
theorem dX5_value_21 : decode cX5_value 21 = .ok (.lload_n 2, 1) := by decide +kernel
theorem dX5_value_22 : decode cX5_value 22 = .ok (.invokestatic 80, 3) := by decide +kernel
theorem dX5_value_25 : decode cX5_value 25 = .ok (.invokestatic 166, 3) := by decide +kernel
theorem dX5_value_28 : decode cX5_value 28 = .ok (.lstore 4, 2) := by decide +kernel
theorem dX5_value_30 : decode cX5_value 30 = .ok (.lload 4, 2) := by decide +kernel
theorem dX5_value_32 : decode cX5_value 32 = .ok (.lconst 0, 1) := by decide +kernel
theorem dX5_value_33 : decode cX5_value 33 = .ok (.lcmp, 1) := by decide +kernel
theorem dX5_value_34 : decode cX5_value 34 = .ok (.ifCond .ne 5, 3) := by decide +kernel
theorem dX5_value_37 : decode cX5_value 37 = .ok (.iconst (-1), 1) := by decide +kernel
theorem dX5_value_38 : decode cX5_value 38 = .ok (.ireturn, 1) := by decide +kernel
theorem dX5_value_39 : decode cX5_value 39 = .ok (.aload_n 0, 1) := by decide +kernel
theorem dX5_value_40 : decode cX5_value 40 = .ok (.iload_n 1, 1) := by decide +kernel
theorem dX5_value_41 : decode cX5_value 41 = .ok (.iconst 1, 1) := by decide +kernel
theorem dX5_value_42 : decode cX5_value 42 = .ok (.invokevirtual 160, 3) := by decide +kernel
theorem dX5_value_45 : decode cX5_value 45 = .ok (.aload_n 0, 1) := by decide +kernel
theorem dX5_value_46 : decode cX5_value 46 = .ok (.getfield 22, 3) := by decide +kernel
theorem dX5_value_49 : decode cX5_value 49 = .ok (.lload_n 2, 1) := by decide +kernel
theorem dX5_value_50 : decode cX5_value 50 = .ok (.invokestatic 80, 3) := by decide +kernel
theorem dX5_value_53 : decode cX5_value 53 = .ok (.invokestatic 166, 3) := by decide +kernel
theorem dX5_value_56 : decode cX5_value 56 = .ok (.lload 4, 2) := by decide +kernel
theorem dX5_value_58 : decode cX5_value 58 = .ok (.invokestatic 76, 3) := by decide +kernel
theorem dX5_value_61 : decode cX5_value 61 = .ok (.lmul, 1) := by decide +kernel
theorem dX5_value_62 : decode cX5_value 62 = .ok (.ldc2_w 66, 3) := by decide +kernel
theorem dX5_value_65 : decode cX5_value 65 = .ok (.lrem, 1) := by decide +kernel
theorem dX5_value_66 : decode cX5_value 66 = .ok (.l2i, 1) := by decide +kernel
theorem dX5_value_67 : decode cX5_value 67 = .ok (.ireturn, 1) := by decide +kernel
set_option maxRecDepth 20000 in
theorem ggX5_same_X5_are : GoodIn wsX5_same wsX5_are := goodIn_r _ [7, 8, 9, 10, 11, 6, 12, 13, 14, 15, 16, 17, 18, 19, 20, 21, 22, 23, 24, 25, 26, 27, 28, 29, 30, 31, 32, 33, 34, 35, 36] (by decide +kernel) (by decide +kernel)
set_option maxRecDepth 20000 in
theorem gX5_same_X5_are : GoodIn wsX5_same (wsV RX5 114 RX5 yX5_are wsX5_are) := goodIn_app (goodIn_of _ (by decide +kernel)) ggX5_same_X5_are
theorem dX5_same_0 : decode cX5_same 0 = .ok (.aload_n 0, 1) := by decide +kernel
theorem dX5_same_1 : decode cX5_same 1 = .ok (.iload_n 1, 1) := by decide +kernel
theorem dX5_same_2 : decode cX5_same 2 = .ok (.iload_n 2, 1) := by decide +kernel
theorem dX5_same_3 : decode cX5_same 3 = .ok (.invokevirtual 114, 3) := by decide +kernel
theorem dX5_same_6 : decode cX5_same 6 = .ok (.ifCond .ne 5, 3) := by decide +kernel
theorem dX5_same_9 : decode cX5_same 9 = .ok (.iconst 0, 1) := by decide +kernel
theorem dX5_same_10 : decode cX5_same 10 = .ok (.ireturn, 1) := by decide +kernel
theorem dX5_same_11 : decode cX5_same 11 = .ok (.iconst 0, 1) := by decide +kernel
theorem dX5_same_12 : decode cX5_same 12 = .ok (.istore_n 3, 1) := by decide +kernel
theorem dX5_same_13 : decode cX5_same 13 = .ok (.iload_n 3, 1) := by decide +kernel
theorem dX5_same_14 : decode cX5_same 14 = .ok (.bipush 21, 2) := by decide +kernel
theorem dX5_same_16 : decode cX5_same 16 = .ok (.if_icmp .ge 61, 3) := by decide +kernel
theorem dX5_same_19 : decode cX5_same 19 = .ok (.aload_n 0, 1) := by decide +kernel
theorem dX5_same_20 : decode cX5_same 20 = .ok (.getfield 7, 3) := by decide +kernel
theorem dX5_same_23 : decode cX5_same 23 = .ok (.bipush 21, 2) := by decide +kernel
theorem dX5_same_25 : decode cX5_same 25 = .ok (.iload_n 1, 1) := by decide +kernel
theorem dX5_same_26 : decode cX5_same 26 = .ok (.imul, 1) := by decide +kernel
theorem dX5_same_27 : decode cX5_same 27 = .ok (.iload_n 3, 1) := by decide +kernel
theorem dX5_same_28 : decode cX5_same 28 = .ok (.iadd, 1) := by decide +kernel
theorem dX5_same_29 : decode cX5_same 29 = .ok (.iaload, 1) := by decide +kernel
theorem dX5_same_30 : decode cX5_same 30 = .ok (.aload_n 0, 1) := by decide +kernel
theorem dX5_same_31 : decode cX5_same 31 = .ok (.getfield 7, 3) := by decide +kernel
theorem dX5_same_34 : decode cX5_same 34 = .ok (.bipush 21, 2) := by decide +kernel
theorem dX5_same_36 : decode cX5_same 36 = .ok (.iload_n 2, 1) := by decide +kernel
theorem dX5_same_37 : decode cX5_same 37 = .ok (.imul, 1) := by decide +kernel
theorem dX5_same_38 : decode cX5_same 38 = .ok (.iload_n 3, 1) := by decide +kernel
theorem dX5_same_39 : decode cX5_same 39 = .ok (.iadd, 1) := by decide +kernel
theorem dX5_same_40 : decode cX5_same 40 = .ok (.iaload, 1) := by decide +kernel
theorem dX5_same_41 : decode cX5_same 41 = .ok (.if_icmp .ne 28, 3) := by decide +kernel
theorem dX5_same_44 : decode cX5_same 44 = .ok (.aload_n 0, 1) := by decide +kernel
theorem dX5_same_45 : decode cX5_same 45 = .ok (.getfield 13, 3) := by decide +kernel
theorem dX5_same_48 : decode cX5_same 48 = .ok (.bipush 21, 2) := by decide +kernel
theorem dX5_same_50 : decode cX5_same 50 = .ok (.iload_n 1, 1) := by decide +kernel
theorem dX5_same_51 : decode cX5_same 51 = .ok (.imul, 1) := by decide +kernel
theorem dX5_same_52 : decode cX5_same 52 = .ok (.iload_n 3, 1) := by decide +kernel
theorem dX5_same_53 : decode cX5_same 53 = .ok (.iadd, 1) := by decide +kernel
theorem dX5_same_54 : decode cX5_same 54 = .ok (.iaload, 1) := by decide +kernel
theorem dX5_same_55 : decode cX5_same 55 = .ok (.aload_n 0, 1) := by decide +kernel
theorem dX5_same_56 : decode cX5_same 56 = .ok (.getfield 13, 3) := by decide +kernel
theorem dX5_same_59 : decode cX5_same 59 = .ok (.bipush 21, 2) := by decide +kernel
theorem dX5_same_61 : decode cX5_same 61 = .ok (.iload_n 2, 1) := by decide +kernel
theorem dX5_same_62 : decode cX5_same 62 = .ok (.imul, 1) := by decide +kernel
theorem dX5_same_63 : decode cX5_same 63 = .ok (.iload_n 3, 1) := by decide +kernel
theorem dX5_same_64 : decode cX5_same 64 = .ok (.iadd, 1) := by decide +kernel
theorem dX5_same_65 : decode cX5_same 65 = .ok (.iaload, 1) := by decide +kernel
theorem dX5_same_66 : decode cX5_same 66 = .ok (.if_icmp .eq 5, 3) := by decide +kernel
theorem dX5_same_69 : decode cX5_same 69 = .ok (.iconst 0, 1) := by decide +kernel
theorem dX5_same_70 : decode cX5_same 70 = .ok (.ireturn, 1) := by decide +kernel
theorem dX5_same_71 : decode cX5_same 71 = .ok (.iinc 3 1, 3) := by decide +kernel
theorem dX5_same_74 : decode cX5_same 74 = .ok (.goto (-61), 3) := by decide +kernel
theorem dX5_same_77 : decode cX5_same 77 = .ok (.iconst 1, 1) := by decide +kernel
theorem dX5_same_78 : decode cX5_same 78 = .ok (.ireturn, 1) := by decide +kernel
theorem dX5_count_0 : decode cX5_count 0 = .ok (.aload_n 0, 1) := by decide +kernel
theorem dX5_count_1 : decode cX5_count 1 = .ok (.iconst 0, 1) := by decide +kernel
theorem dX5_count_2 : decode cX5_count 2 = .ok (.putfield 62, 3) := by decide +kernel
theorem dX5_count_5 : decode cX5_count 5 = .ok (.aload_n 0, 1) := by decide +kernel
theorem dX5_count_6 : decode cX5_count 6 = .ok (.getfield 90, 3) := by decide +kernel
theorem dX5_count_9 : decode cX5_count 9 = .ok (.ireturn, 1) := by decide +kernel
