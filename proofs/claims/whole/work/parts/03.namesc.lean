set_option maxRecDepth 20000 in
theorem ggX4_init_X3_init : GoodIn wsX4_init wsX3_init := goodIn_r _ [23, 24, 2, 3, 25, 26, 27, 28, 29, 30, 31, 51, 52] (by decide +kernel) (by decide +kernel)
set_option maxRecDepth 20000 in
theorem gX4_init_X3_init : GoodIn wsX4_init (wsX3_init) := ggX4_init_X3_init
set_option maxRecDepth 20000 in
theorem ggX4_init_X3_put : GoodIn wsX4_init wsX3_put := goodIn_r _ [35, 30, 31, 51, 52] (by decide +kernel) (by decide +kernel)
set_option maxRecDepth 20000 in
theorem gX4_init_X3_put : GoodIn wsX4_init (wsV RX4 18 RX3 yX3_put wsX3_put) := goodIn_app (goodIn_of _ (by decide +kernel)) ggX4_init_X3_put
set_option maxRecDepth 20000 in
theorem ggX4_init_X0_init : GoodIn wsX4_init wsX0_init := goodIn_r _ [38, 39, 2, 3, 40, 41, 5, 6, 42, 43, 44, 45, 46, 29, 47, 48, 49, 50, 22, 23, 24, 25, 26, 27, 28, 30, 31, 63, 64, 65, 66, 67, 68, 69, 70, 51, 52] (by decide +kernel) (by decide +kernel)
set_option maxRecDepth 20000 in
theorem gX4_init_X0_init : GoodIn wsX4_init (wsX0_init) := ggX4_init_X0_init
theorem dX4_init_0 : decode cX4_init 0 = .ok (.aload_n 0, 1) := by decide +kernel
theorem dX4_init_1 : decode cX4_init 1 = .ok (.invokespecial 3, 3) := by decide +kernel
theorem dX4_init_4 : decode cX4_init 4 = .ok (.aload_n 0, 1) := by decide +kernel
theorem dX4_init_5 : decode cX4_init 5 = .ok (.new 9, 3) := by decide +kernel
theorem dX4_init_8 : decode cX4_init 8 = .ok (.dup, 1) := by decide +kernel
theorem dX4_init_9 : decode cX4_init 9 = .ok (.iconst 4, 1) := by decide +kernel
theorem dX4_init_10 : decode cX4_init 10 = .ok (.invokespecial 11, 3) := by decide +kernel
theorem dX4_init_13 : decode cX4_init 13 = .ok (.putfield 14, 3) := by decide +kernel
theorem dX4_init_16 : decode cX4_init 16 = .ok (.aload_n 0, 1) := by decide +kernel
theorem dX4_init_17 : decode cX4_init 17 = .ok (.getfield 14, 3) := by decide +kernel
theorem dX4_init_20 : decode cX4_init 20 = .ok (.iconst 0, 1) := by decide +kernel
theorem dX4_init_21 : decode cX4_init 21 = .ok (.iconst 1, 1) := by decide +kernel
theorem dX4_init_22 : decode cX4_init 22 = .ok (.invokevirtual 18, 3) := by decide +kernel
theorem dX4_init_25 : decode cX4_init 25 = .ok (.aload_n 0, 1) := by decide +kernel
theorem dX4_init_26 : decode cX4_init 26 = .ok (.new 9, 3) := by decide +kernel
theorem dX4_init_29 : decode cX4_init 29 = .ok (.dup, 1) := by decide +kernel
theorem dX4_init_30 : decode cX4_init 30 = .ok (.iconst 4, 1) := by decide +kernel
theorem dX4_init_31 : decode cX4_init 31 = .ok (.invokespecial 11, 3) := by decide +kernel
theorem dX4_init_34 : decode cX4_init 34 = .ok (.putfield 22, 3) := by decide +kernel
theorem dX4_init_37 : decode cX4_init 37 = .ok (.aload_n 0, 1) := by decide +kernel
theorem dX4_init_38 : decode cX4_init 38 = .ok (.getfield 22, 3) := by decide +kernel
theorem dX4_init_41 : decode cX4_init 41 = .ok (.iconst 0, 1) := by decide +kernel
theorem dX4_init_42 : decode cX4_init 42 = .ok (.iconst 1, 1) := by decide +kernel
theorem dX4_init_43 : decode cX4_init 43 = .ok (.invokevirtual 18, 3) := by decide +kernel
theorem dX4_init_46 : decode cX4_init 46 = .ok (.aload_n 0, 1) := by decide +kernel
theorem dX4_init_47 : decode cX4_init 47 = .ok (.bipush 50, 2) := by decide +kernel
theorem dX4_init_49 : decode cX4_init 49 = .ok (.anewarray 25, 3) := by decide +kernel
theorem dX4_init_52 : decode cX4_init 52 = .ok (.putfield 27, 3) := by decide +kernel
theorem dX4_init_55 : decode cX4_init 55 = .ok (.aload_n 0, 1) := by decide +kernel
theorem dX4_init_56 : decode cX4_init 56 = .ok (.iconst 0, 1) := by decide +kernel
theorem dX4_init_57 : decode cX4_init 57 = .ok (.putfield 31, 3) := by decide +kernel
theorem dX4_init_60 : decode cX4_init 60 = .ok (.aload_n 0, 1) := by decide +kernel
theorem dX4_init_61 : decode cX4_init 61 = .ok (.new 9, 3) := by decide +kernel
theorem dX4_init_64 : decode cX4_init 64 = .ok (.dup, 1) := by decide +kernel
theorem dX4_init_65 : decode cX4_init 65 = .ok (.bipush 64, 2) := by decide +kernel
theorem dX4_init_67 : decode cX4_init 67 = .ok (.invokespecial 11, 3) := by decide +kernel
theorem dX4_init_70 : decode cX4_init 70 = .ok (.putfield 35, 3) := by decide +kernel
theorem dX4_init_73 : decode cX4_init 73 = .ok (.aload_n 0, 1) := by decide +kernel
theorem dX4_init_74 : decode cX4_init 74 = .ok (.new 9, 3) := by decide +kernel
theorem dX4_init_77 : decode cX4_init 77 = .ok (.dup, 1) := by decide +kernel
theorem dX4_init_78 : decode cX4_init 78 = .ok (.bipush 64, 2) := by decide +kernel
theorem dX4_init_80 : decode cX4_init 80 = .ok (.invokespecial 11, 3) := by decide +kernel
theorem dX4_init_83 : decode cX4_init 83 = .ok (.putfield 38, 3) := by decide +kernel
theorem dX4_init_86 : decode cX4_init 86 = .ok (.aload_n 0, 1) := by decide +kernel
theorem dX4_init_87 : decode cX4_init 87 = .ok (.new 9, 3) := by decide +kernel
theorem dX4_init_90 : decode cX4_init 90 = .ok (.dup, 1) := by decide +kernel
theorem dX4_init_91 : decode cX4_init 91 = .ok (.bipush 64, 2) := by decide +kernel
theorem dX4_init_93 : decode cX4_init 93 = .ok (.invokespecial 11, 3) := by decide +kernel
theorem dX4_init_96 : decode cX4_init 96 = .ok (.putfield 41, 3) := by decide +kernel
theorem dX4_init_99 : decode cX4_init 99 = .ok (.aload_n 0, 1) := by decide +kernel
theorem dX4_init_100 : decode cX4_init 100 = .ok (.new 9, 3) := by decide +kernel
theorem dX4_init_103 : decode cX4_init 103 = .ok (.dup, 1) := by decide +kernel
theorem dX4_init_104 : decode cX4_init 104 = .ok (.bipush 64, 2) := by decide +kernel
theorem dX4_init_106 : decode cX4_init 106 = .ok (.invokespecial 11, 3) := by decide +kernel
theorem dX4_init_109 : decode cX4_init 109 = .ok (.putfield 44, 3) := by decide +kernel
theorem dX4_init_112 : decode cX4_init 112 = .ok (.aload_n 0, 1) := by decide +kernel
theorem dX4_init_113 : decode cX4_init 113 = .ok (.new 9, 3) := by decide +kernel
theorem dX4_init_116 : decode cX4_init 116 = .ok (.dup, 1) := by decide +kernel
theorem dX4_init_117 : decode cX4_init 117 = .ok (.bipush 64, 2) := by decide +kernel
theorem dX4_init_119 : decode cX4_init 119 = .ok (.invokespecial 11, 3) := by decide +kernel
theorem dX4_init_122 : decode cX4_init 122 = .ok (.putfield 47, 3) := by decide +kernel
theorem dX4_init_125 : decode cX4_init 125 = .ok (.aload_n 0, 1) := by decide +kernel
theorem dX4_init_126 : decode cX4_init 126 = .ok (.new 50, 3) := by decide +kernel
theorem dX4_init_129 : decode cX4_init 129 = .ok (.dup, 1) := by decide +kernel
theorem dX4_init_130 : decode cX4_init 130 = .ok (.invokespecial 52, 3) := by decide +kernel
theorem dX4_init_133 : decode cX4_init 133 = .ok (.putfield 53, 3) := by decide +kernel
theorem dX4_init_136 : decode cX4_init 136 = .ok (.return_, 1) := by decide +kernel
set_option maxRecDepth 20000 in
theorem ggX4_ratio_X2_reduced : GoodIn wsX4_ratio wsX2_reduced := goodIn_r _ [8, 9] (by decide +kernel) (by decide +kernel)
set_option maxRecDepth 20000 in
theorem gX4_ratio_X2_reduced : GoodIn wsX4_ratio (va_wsS RX4 64 yX2_reduced wsX2_reduced) := goodIn_app (goodIn_of _ (by decide +kernel)) ggX4_ratio_X2_reduced
set_option maxRecDepth 20000 in
theorem ggX4_ratio_X3_coefficient : GoodIn wsX4_ratio wsX3_coefficient := goodIn_r _ [14, 15, 31, 32] (by decide +kernel) (by decide +kernel)
set_option maxRecDepth 20000 in
theorem gX4_ratio_X3_coefficient : GoodIn wsX4_ratio (wsV RX4 70 RX3 yX3_coefficient wsX3_coefficient) := goodIn_app (goodIn_of _ (by decide +kernel)) ggX4_ratio_X3_coefficient
set_option maxRecDepth 20000 in
theorem ggX4_ratio_X3_put : GoodIn wsX4_ratio wsX3_put := goodIn_r _ [19, 15, 20, 31, 32] (by decide +kernel) (by decide +kernel)
set_option maxRecDepth 20000 in
theorem gX4_ratio_X3_put : GoodIn wsX4_ratio (wsV RX4 18 RX3 yX3_put wsX3_put) := goodIn_app (goodIn_of _ (by decide +kernel)) ggX4_ratio_X3_put
theorem dX4_ratio_0 : decode cX4_ratio 0 = .ok (.iload_n 2, 1) := by decide +kernel
theorem dX4_ratio_1 : decode cX4_ratio 1 = .ok (.ifCond .lt 8, 3) := by decide +kernel
theorem dX4_ratio_4 : decode cX4_ratio 4 = .ok (.iload_n 2, 1) := by decide +kernel
theorem dX4_ratio_5 : decode cX4_ratio 5 = .ok (.iconst 3, 1) := by decide +kernel
theorem dX4_ratio_6 : decode cX4_ratio 6 = .ok (.if_icmp .le 13, 3) := by decide +kernel
theorem dX4_ratio_9 : decode cX4_ratio 9 = .ok (.new 57, 3) := by decide +kernel
theorem dX4_ratio_12 : decode cX4_ratio 12 = .ok (.dup, 1) := by decide +kernel
theorem dX4_ratio_13 : decode cX4_ratio 13 = .ok (.ldc 59, 2) := by decide +kernel
theorem dX4_ratio_15 : decode cX4_ratio 15 = .ok (.invokespecial 61, 3) := by decide +kernel
theorem dX4_ratio_18 : decode cX4_ratio 18 = .ok (.athrow, 1) := by decide +kernel
theorem dX4_ratio_19 : decode cX4_ratio 19 = .ok (.iload_n 1, 1) := by decide +kernel
theorem dX4_ratio_20 : decode cX4_ratio 20 = .ok (.ifCond .eq 10, 3) := by decide +kernel
theorem dX4_ratio_23 : decode cX4_ratio 23 = .ok (.aload_n 0, 1) := by decide +kernel
theorem dX4_ratio_24 : decode cX4_ratio 24 = .ok (.getfield 14, 3) := by decide +kernel
theorem dX4_ratio_27 : decode cX4_ratio 27 = .ok (.goto 7, 3) := by decide +kernel
theorem dX4_ratio_30 : decode cX4_ratio 30 = .ok (.aload_n 0, 1) := by decide +kernel
theorem dX4_ratio_31 : decode cX4_ratio 31 = .ok (.getfield 22, 3) := by decide +kernel
theorem dX4_ratio_34 : decode cX4_ratio 34 = .ok (.astore 5, 2) := by decide +kernel
theorem dX4_ratio_36 : decode cX4_ratio 36 = .ok (.lload_n 3, 1) := by decide +kernel
theorem dX4_ratio_37 : decode cX4_ratio 37 = .ok (.invokestatic 64, 3) := by decide +kernel
theorem dX4_ratio_40 : decode cX4_ratio 40 = .ok (.istore 6, 2) := by decide +kernel
theorem dX4_ratio_42 : decode cX4_ratio 42 = .ok (.aload 5, 2) := by decide +kernel
theorem dX4_ratio_44 : decode cX4_ratio 44 = .ok (.iload_n 2, 1) := by decide +kernel
theorem dX4_ratio_45 : decode cX4_ratio 45 = .ok (.invokevirtual 70, 3) := by decide +kernel
theorem dX4_ratio_48 : decode cX4_ratio 48 = .ok (.iload 6, 2) := by decide +kernel
theorem dX4_ratio_50 : decode cX4_ratio 50 = .ok (.if_icmp .eq 7, 3) := by decide +kernel
theorem dX4_ratio_53 : decode cX4_ratio 53 = .ok (.iconst 1, 1) := by decide +kernel
theorem dX4_ratio_54 : decode cX4_ratio 54 = .ok (.goto 4, 3) := by decide +kernel
theorem dX4_ratio_57 : decode cX4_ratio 57 = .ok (.iconst 0, 1) := by decide +kernel
theorem dX4_ratio_58 : decode cX4_ratio 58 = .ok (.istore 7, 2) := by decide +kernel
theorem dX4_ratio_60 : decode cX4_ratio 60 = .ok (.aload 5, 2) := by decide +kernel
theorem dX4_ratio_62 : decode cX4_ratio 62 = .ok (.iload_n 2, 1) := by decide +kernel
theorem dX4_ratio_63 : decode cX4_ratio 63 = .ok (.iload 6, 2) := by decide +kernel
theorem dX4_ratio_65 : decode cX4_ratio 65 = .ok (.invokevirtual 18, 3) := by decide +kernel
theorem dX4_ratio_68 : decode cX4_ratio 68 = .ok (.iload 7, 2) := by decide +kernel
theorem dX4_ratio_70 : decode cX4_ratio 70 = .ok (.ireturn, 1) := by decide +kernel
set_option maxRecDepth 20000 in
theorem ggX4_number_X3_clear : GoodIn wsX4_number wsX3_clear := goodIn_r _ [7, 8, 9, 10, 11, 6, 12, 13, 117, 118] (by decide +kernel) (by decide +kernel)
set_option maxRecDepth 20000 in
theorem gX4_number_X3_clear : GoodIn wsX4_number (wsV RX4 74 RX3 yX3_clear wsX3_clear) := goodIn_app (goodIn_of _ (by decide +kernel)) ggX4_number_X3_clear
set_option maxRecDepth 20000 in
theorem ggX4_number_X2_reduced : GoodIn wsX4_number wsX2_reduced := goodIn_r _ [17, 18] (by decide +kernel) (by decide +kernel)
set_option maxRecDepth 20000 in
theorem gX4_number_X2_reduced : GoodIn wsX4_number (va_wsS RX4 64 yX2_reduced wsX2_reduced) := goodIn_app (goodIn_of _ (by decide +kernel)) ggX4_number_X2_reduced
set_option maxRecDepth 20000 in
theorem ggX4_number_X3_put : GoodIn wsX4_number wsX3_put := goodIn_r _ [12, 13, 8, 117, 118] (by decide +kernel) (by decide +kernel)
set_option maxRecDepth 20000 in
theorem gX4_number_X3_put : GoodIn wsX4_number (wsV RX4 18 RX3 yX3_put wsX3_put) := goodIn_app (goodIn_of _ (by decide +kernel)) ggX4_number_X3_put
set_option maxRecDepth 20000 in
theorem ggX4_number_X4_keepResult : GoodIn wsX4_number wsX4_keepResult := goodIn_ca (goodIn_r _ [24, 25, 26, 1, 27, 2, 28, 29, 30, 31, 32, 33, 34, 35, 23, 36, 37, 38, 39, 40, 41, 42, 43, 44, 45, 46, 6, 47, 8, 48, 4, 5, 7, 9, 10, 11, 12, 13, 49, 50, 51, 52, 53, 54, 55, 56, 57, 58, 59, 60, 61, 62, 63, 64, 65, 66, 67, 68, 69, 70, 16, 71, 72, 15, 17, 18, 73, 74, 75, 76, 77, 78, 79, 80, 81, 82, 83, 84, 85, 86, 87, 88, 89, 90, 91, 92, 93, 94, 95, 96, 97, 98, 99, 100, 101, 102, 103, 104, 105, 106, 107, 108, 109, 110, 111, 112, 113, 114, 115, 116, 117, 118, 119, 120] (by decide +kernel) (by decide +kernel)) (goodIn_sub (fun _ h => List.mem_cons_of_mem _ (List.mem_append_right _ h)) (by decide +kernel))
set_option maxRecDepth 20000 in
theorem gX4_number_X4_keepResult : GoodIn wsX4_number (wsV RX4 77 RX4 yX4_keepResult wsX4_keepResult) := goodIn_app (goodIn_of _ (by decide +kernel)) ggX4_number_X4_keepResult
theorem dX4_number_0 : decode cX4_number 0 = .ok (.aload_n 0, 1) := by decide +kernel
theorem dX4_number_1 : decode cX4_number 1 = .ok (.getfield 35, 3) := by decide +kernel
theorem dX4_number_4 : decode cX4_number 4 = .ok (.invokevirtual 74, 3) := by decide +kernel
theorem dX4_number_7 : decode cX4_number 7 = .ok (.aload_n 0, 1) := by decide +kernel
theorem dX4_number_8 : decode cX4_number 8 = .ok (.getfield 35, 3) := by decide +kernel
theorem dX4_number_11 : decode cX4_number 11 = .ok (.iconst 0, 1) := by decide +kernel
theorem dX4_number_12 : decode cX4_number 12 = .ok (.lload_n 1, 1) := by decide +kernel
theorem dX4_number_13 : decode cX4_number 13 = .ok (.invokestatic 64, 3) := by decide +kernel
theorem dX4_number_16 : decode cX4_number 16 = .ok (.invokevirtual 18, 3) := by decide +kernel
theorem dX4_number_19 : decode cX4_number 19 = .ok (.aload_n 0, 1) := by decide +kernel
theorem dX4_number_20 : decode cX4_number 20 = .ok (.getfield 38, 3) := by decide +kernel
theorem dX4_number_23 : decode cX4_number 23 = .ok (.invokevirtual 74, 3) := by decide +kernel
theorem dX4_number_26 : decode cX4_number 26 = .ok (.aload_n 0, 1) := by decide +kernel
theorem dX4_number_27 : decode cX4_number 27 = .ok (.getfield 38, 3) := by decide +kernel
theorem dX4_number_30 : decode cX4_number 30 = .ok (.iconst 0, 1) := by decide +kernel
theorem dX4_number_31 : decode cX4_number 31 = .ok (.iconst 1, 1) := by decide +kernel
theorem dX4_number_32 : decode cX4_number 32 = .ok (.invokevirtual 18, 3) := by decide +kernel
theorem dX4_number_35 : decode cX4_number 35 = .ok (.aload_n 0, 1) := by decide +kernel
theorem dX4_number_36 : decode cX4_number 36 = .ok (.invokevirtual 77, 3) := by decide +kernel
theorem dX4_number_39 : decode cX4_number 39 = .ok (.ireturn, 1) := by decide +kernel
set_option maxRecDepth 20000 in
theorem ggX4_letter_X3_clear : GoodIn wsX4_letter wsX3_clear := goodIn_r _ [7, 8, 9, 10, 11, 6, 12, 13, 116, 117] (by decide +kernel) (by decide +kernel)
set_option maxRecDepth 20000 in
theorem gX4_letter_X3_clear : GoodIn wsX4_letter (wsV RX4 74 RX3 yX3_clear wsX3_clear) := goodIn_app (goodIn_of _ (by decide +kernel)) ggX4_letter_X3_clear
set_option maxRecDepth 20000 in
theorem ggX4_letter_X3_put : GoodIn wsX4_letter wsX3_put := goodIn_r _ [12, 13, 8, 116, 117] (by decide +kernel) (by decide +kernel)
set_option maxRecDepth 20000 in
theorem gX4_letter_X3_put : GoodIn wsX4_letter (wsV RX4 18 RX3 yX3_put wsX3_put) := goodIn_app (goodIn_of _ (by decide +kernel)) ggX4_letter_X3_put
set_option maxRecDepth 20000 in
theorem ggX4_letter_X4_keepResult : GoodIn wsX4_letter wsX4_keepResult := goodIn_ca (goodIn_r _ [19, 20, 21, 1, 22, 2, 23, 24, 25, 26, 27, 28, 29, 30, 18, 31, 32, 33, 34, 35, 36, 37, 38, 39, 40, 41, 6, 42, 8, 43, 4, 5, 7, 9, 10, 11, 12, 13, 44, 45, 46, 47, 48, 49, 50, 51, 52, 53, 54, 55, 56, 57, 58, 59, 60, 61, 62, 63, 64, 65, 66, 67, 68, 69, 70, 71, 72, 73, 74, 75, 76, 77, 78, 79, 80, 81, 82, 83, 84, 85, 86, 87, 88, 89, 90, 91, 92, 93, 94, 95, 96, 97, 98, 99, 100, 101, 102, 103, 104, 105, 106, 107, 108, 109, 110, 111, 112, 113, 114, 115, 116, 117, 118, 119] (by decide +kernel) (by decide +kernel)) (goodIn_sub (fun _ h => List.mem_cons_of_mem _ (List.mem_append_right _ h)) (by decide +kernel))
set_option maxRecDepth 20000 in
theorem gX4_letter_X4_keepResult : GoodIn wsX4_letter (wsV RX4 77 RX4 yX4_keepResult wsX4_keepResult) := goodIn_app (goodIn_of _ (by decide +kernel)) ggX4_letter_X4_keepResult
theorem dX4_letter_0 : decode cX4_letter 0 = .ok (.aload_n 0, 1) := by decide +kernel
theorem dX4_letter_1 : decode cX4_letter 1 = .ok (.getfield 35, 3) := by decide +kernel
theorem dX4_letter_4 : decode cX4_letter 4 = .ok (.invokevirtual 74, 3) := by decide +kernel
theorem dX4_letter_7 : decode cX4_letter 7 = .ok (.aload_n 0, 1) := by decide +kernel
theorem dX4_letter_8 : decode cX4_letter 8 = .ok (.getfield 35, 3) := by decide +kernel
theorem dX4_letter_11 : decode cX4_letter 11 = .ok (.iconst 1, 1) := by decide +kernel
theorem dX4_letter_12 : decode cX4_letter 12 = .ok (.iconst 1, 1) := by decide +kernel
theorem dX4_letter_13 : decode cX4_letter 13 = .ok (.invokevirtual 18, 3) := by decide +kernel
theorem dX4_letter_16 : decode cX4_letter 16 = .ok (.aload_n 0, 1) := by decide +kernel
theorem dX4_letter_17 : decode cX4_letter 17 = .ok (.getfield 38, 3) := by decide +kernel
theorem dX4_letter_20 : decode cX4_letter 20 = .ok (.invokevirtual 74, 3) := by decide +kernel
theorem dX4_letter_23 : decode cX4_letter 23 = .ok (.aload_n 0, 1) := by decide +kernel
theorem dX4_letter_24 : decode cX4_letter 24 = .ok (.getfield 38, 3) := by decide +kernel
theorem dX4_letter_27 : decode cX4_letter 27 = .ok (.iconst 0, 1) := by decide +kernel
theorem dX4_letter_28 : decode cX4_letter 28 = .ok (.iconst 1, 1) := by decide +kernel
theorem dX4_letter_29 : decode cX4_letter 29 = .ok (.invokevirtual 18, 3) := by decide +kernel
theorem dX4_letter_32 : decode cX4_letter 32 = .ok (.aload_n 0, 1) := by decide +kernel
theorem dX4_letter_33 : decode cX4_letter 33 = .ok (.invokevirtual 77, 3) := by decide +kernel
theorem dX4_letter_36 : decode cX4_letter 36 = .ok (.ireturn, 1) := by decide +kernel
set_option maxRecDepth 20000 in
theorem ggX4_add_X4_known : GoodIn wsX4_add wsX4_known := goodIn_ca (goodIn_r _ [10, 11, 12, 13, 120, 121, 122, 123, 124, 125, 126, 127, 128, 129] (by decide +kernel) (by decide +kernel)) (goodIn_sub (fun _ h => List.mem_cons_of_mem _ (List.mem_append_left _ (List.mem_append_right _ h))) (by decide +kernel))
set_option maxRecDepth 20000 in
theorem gX4_add_X4_known : GoodIn wsX4_add (wsV RX4 81 RX4 yX4_known wsX4_known) := goodIn_app (goodIn_of _ (by decide +kernel)) ggX4_add_X4_known
set_option maxRecDepth 20000 in
theorem ggX4_add_X3_setProduct : GoodIn wsX4_add wsX3_setProduct := goodIn_r _ [18, 19, 20, 21, 22, 23, 24, 25, 26, 27, 28, 29, 17, 30, 31, 32, 33, 34, 35, 36, 37, 38, 39, 40, 41, 42, 43, 44, 132, 133] (by decide +kernel) (by decide +kernel)
set_option maxRecDepth 20000 in
theorem gX4_add_X3_setProduct : GoodIn wsX4_add (wsV RX4 87 RX3 yX3_setProduct wsX3_setProduct) := goodIn_app (goodIn_of _ (by decide +kernel)) ggX4_add_X3_setProduct
set_option maxRecDepth 20000 in
theorem ggX4_add_X3_gather : GoodIn wsX4_add wsX3_gather := goodIn_r _ [48, 19, 36, 37, 38, 17, 39, 35, 40, 41, 42, 43, 44, 31, 32, 33, 34, 132, 133] (by decide +kernel) (by decide +kernel)
set_option maxRecDepth 20000 in
theorem gX4_add_X3_gather : GoodIn wsX4_add (wsV RX4 91 RX3 yX3_gather wsX3_gather) := goodIn_app (goodIn_of _ (by decide +kernel)) ggX4_add_X3_gather
set_option maxRecDepth 20000 in
theorem ggX4_add_X4_keepResult : GoodIn wsX4_add wsX4_keepResult := goodIn_ca (goodIn_r _ [52, 53, 54, 1, 55, 5, 56, 13, 57, 58, 59, 60, 61, 62, 9, 63, 64, 65, 66, 67, 4, 68, 69, 70, 71, 72, 17, 73, 19, 27, 28, 29, 30, 31, 32, 33, 34, 35, 36, 37, 38, 39, 74, 75, 76, 77, 78, 79, 80, 81, 82, 83, 84, 85, 86, 87, 88, 89, 90, 91, 42, 92, 93, 41, 43, 44, 94, 95, 96, 97, 46, 47, 48, 40, 98, 99, 100, 101, 102, 103, 104, 105, 106, 107, 108, 109, 110, 111, 112, 113, 114, 115, 116, 117, 24, 25, 22, 26, 118, 119, 120, 121, 122, 123, 124, 125, 126, 127, 128, 129, 132, 133, 130, 131] (by decide +kernel) (by decide +kernel)) (goodIn_sub (fun _ h => List.mem_cons_of_mem _ (List.mem_append_right _ h)) (by decide +kernel))
set_option maxRecDepth 20000 in
theorem gX4_add_X4_keepResult : GoodIn wsX4_add (wsV RX4 77 RX4 yX4_keepResult wsX4_keepResult) := goodIn_app (goodIn_of _ (by decide +kernel)) ggX4_add_X4_keepResult
theorem dX4_add_0 : decode cX4_add 0 = .ok (.aload_n 0, 1) := by decide +kernel
theorem dX4_add_1 : decode cX4_add 1 = .ok (.iload_n 1, 1) := by decide +kernel
theorem dX4_add_2 : decode cX4_add 2 = .ok (.invokevirtual 81, 3) := by decide +kernel
theorem dX4_add_5 : decode cX4_add 5 = .ok (.astore_n 3, 1) := by decide +kernel
theorem dX4_add_6 : decode cX4_add 6 = .ok (.aload_n 0, 1) := by decide +kernel
theorem dX4_add_7 : decode cX4_add 7 = .ok (.iload_n 2, 1) := by decide +kernel
theorem dX4_add_8 : decode cX4_add 8 = .ok (.invokevirtual 81, 3) := by decide +kernel
theorem dX4_add_11 : decode cX4_add 11 = .ok (.astore 4, 2) := by decide +kernel
theorem dX4_add_13 : decode cX4_add 13 = .ok (.aload_n 0, 1) := by decide +kernel
theorem dX4_add_14 : decode cX4_add 14 = .ok (.getfield 35, 3) := by decide +kernel
theorem dX4_add_17 : decode cX4_add 17 = .ok (.aload_n 3, 1) := by decide +kernel
theorem dX4_add_18 : decode cX4_add 18 = .ok (.getfield 85, 3) := by decide +kernel
theorem dX4_add_21 : decode cX4_add 21 = .ok (.aload 4, 2) := by decide +kernel
theorem dX4_add_23 : decode cX4_add 23 = .ok (.getfield 86, 3) := by decide +kernel
theorem dX4_add_26 : decode cX4_add 26 = .ok (.invokevirtual 87, 3) := by decide +kernel
theorem dX4_add_29 : decode cX4_add 29 = .ok (.aload_n 0, 1) := by decide +kernel
theorem dX4_add_30 : decode cX4_add 30 = .ok (.getfield 41, 3) := by decide +kernel
theorem dX4_add_33 : decode cX4_add 33 = .ok (.aload 4, 2) := by decide +kernel
theorem dX4_add_35 : decode cX4_add 35 = .ok (.getfield 85, 3) := by decide +kernel
theorem dX4_add_38 : decode cX4_add 38 = .ok (.aload_n 3, 1) := by decide +kernel
theorem dX4_add_39 : decode cX4_add 39 = .ok (.getfield 86, 3) := by decide +kernel
theorem dX4_add_42 : decode cX4_add 42 = .ok (.invokevirtual 87, 3) := by decide +kernel
theorem dX4_add_45 : decode cX4_add 45 = .ok (.aload_n 0, 1) := by decide +kernel
theorem dX4_add_46 : decode cX4_add 46 = .ok (.getfield 35, 3) := by decide +kernel
theorem dX4_add_49 : decode cX4_add 49 = .ok (.aload_n 0, 1) := by decide +kernel
theorem dX4_add_50 : decode cX4_add 50 = .ok (.getfield 41, 3) := by decide +kernel
theorem dX4_add_53 : decode cX4_add 53 = .ok (.iconst 1, 1) := by decide +kernel
theorem dX4_add_54 : decode cX4_add 54 = .ok (.iconst 0, 1) := by decide +kernel
theorem dX4_add_55 : decode cX4_add 55 = .ok (.invokevirtual 91, 3) := by decide +kernel
theorem dX4_add_58 : decode cX4_add 58 = .ok (.aload_n 0, 1) := by decide +kernel
theorem dX4_add_59 : decode cX4_add 59 = .ok (.getfield 38, 3) := by decide +kernel
theorem dX4_add_62 : decode cX4_add 62 = .ok (.aload_n 3, 1) := by decide +kernel
theorem dX4_add_63 : decode cX4_add 63 = .ok (.getfield 86, 3) := by decide +kernel
theorem dX4_add_66 : decode cX4_add 66 = .ok (.aload 4, 2) := by decide +kernel
theorem dX4_add_68 : decode cX4_add 68 = .ok (.getfield 86, 3) := by decide +kernel
theorem dX4_add_71 : decode cX4_add 71 = .ok (.invokevirtual 87, 3) := by decide +kernel
theorem dX4_add_74 : decode cX4_add 74 = .ok (.aload_n 0, 1) := by decide +kernel
theorem dX4_add_75 : decode cX4_add 75 = .ok (.invokevirtual 77, 3) := by decide +kernel
theorem dX4_add_78 : decode cX4_add 78 = .ok (.ireturn, 1) := by decide +kernel
set_option maxRecDepth 20000 in
theorem ggX4_times_X4_known : GoodIn wsX4_times wsX4_known := goodIn_ca (goodIn_r _ [9, 10, 11, 12, 119, 120, 121, 122, 123, 124, 125, 126, 127, 128] (by decide +kernel) (by decide +kernel)) (goodIn_sub (fun _ h => List.mem_cons_of_mem _ (List.mem_append_left _ (List.mem_append_right _ h))) (by decide +kernel))
set_option maxRecDepth 20000 in
theorem gX4_times_X4_known : GoodIn wsX4_times (wsV RX4 81 RX4 yX4_known wsX4_known) := goodIn_app (goodIn_of _ (by decide +kernel)) ggX4_times_X4_known
set_option maxRecDepth 20000 in
theorem ggX4_times_X3_setProduct : GoodIn wsX4_times wsX3_setProduct := goodIn_r _ [17, 18, 19, 20, 21, 22, 23, 24, 25, 26, 27, 28, 16, 29, 30, 31, 32, 33, 34, 35, 36, 37, 38, 39, 40, 41, 42, 43, 131, 132] (by decide +kernel) (by decide +kernel)
set_option maxRecDepth 20000 in
theorem gX4_times_X3_setProduct : GoodIn wsX4_times (wsV RX4 87 RX3 yX3_setProduct wsX3_setProduct) := goodIn_app (goodIn_of _ (by decide +kernel)) ggX4_times_X3_setProduct
set_option maxRecDepth 20000 in
theorem ggX4_times_X4_keepResult : GoodIn wsX4_times wsX4_keepResult := goodIn_ca (goodIn_r _ [47, 48, 49, 1, 50, 3, 51, 12, 52, 53, 54, 55, 56, 57, 8, 58, 59, 60, 61, 62, 63, 64, 65, 66, 67, 68, 16, 69, 18, 26, 27, 28, 29, 30, 31, 32, 33, 34, 35, 36, 37, 38, 70, 71, 72, 73, 74, 75, 76, 77, 78, 79, 80, 81, 82, 83, 84, 85, 86, 87, 41, 88, 89, 40, 42, 43, 90, 91, 92, 93, 94, 95, 96, 39, 97, 98, 99, 100, 101, 102, 103, 104, 105, 106, 107, 108, 109, 110, 111, 112, 113, 114, 115, 116, 23, 24, 21, 25, 117, 118, 119, 120, 121, 122, 123, 124, 125, 126, 127, 128, 131, 132, 129, 130] (by decide +kernel) (by decide +kernel)) (goodIn_sub (fun _ h => List.mem_cons_of_mem _ (List.mem_append_right _ h)) (by decide +kernel))
set_option maxRecDepth 20000 in
theorem gX4_times_X4_keepResult : GoodIn wsX4_times (wsV RX4 77 RX4 yX4_keepResult wsX4_keepResult) := goodIn_app (goodIn_of _ (by decide +kernel)) ggX4_times_X4_keepResult
theorem dX4_times_0 : decode cX4_times 0 = .ok (.aload_n 0, 1) := by decide +kernel
theorem dX4_times_1 : decode cX4_times 1 = .ok (.iload_n 1, 1) := by decide +kernel
theorem dX4_times_2 : decode cX4_times 2 = .ok (.invokevirtual 81, 3) := by decide +kernel
theorem dX4_times_5 : decode cX4_times 5 = .ok (.astore_n 3, 1) := by decide +kernel
theorem dX4_times_6 : decode cX4_times 6 = .ok (.aload_n 0, 1) := by decide +kernel
theorem dX4_times_7 : decode cX4_times 7 = .ok (.iload_n 2, 1) := by decide +kernel
theorem dX4_times_8 : decode cX4_times 8 = .ok (.invokevirtual 81, 3) := by decide +kernel
theorem dX4_times_11 : decode cX4_times 11 = .ok (.astore 4, 2) := by decide +kernel
theorem dX4_times_13 : decode cX4_times 13 = .ok (.aload_n 0, 1) := by decide +kernel
theorem dX4_times_14 : decode cX4_times 14 = .ok (.getfield 35, 3) := by decide +kernel
theorem dX4_times_17 : decode cX4_times 17 = .ok (.aload_n 3, 1) := by decide +kernel
theorem dX4_times_18 : decode cX4_times 18 = .ok (.getfield 85, 3) := by decide +kernel
theorem dX4_times_21 : decode cX4_times 21 = .ok (.aload 4, 2) := by decide +kernel
theorem dX4_times_23 : decode cX4_times 23 = .ok (.getfield 85, 3) := by decide +kernel
theorem dX4_times_26 : decode cX4_times 26 = .ok (.invokevirtual 87, 3) := by decide +kernel
theorem dX4_times_29 : decode cX4_times 29 = .ok (.aload_n 0, 1) := by decide +kernel
theorem dX4_times_30 : decode cX4_times 30 = .ok (.getfield 38, 3) := by decide +kernel
theorem dX4_times_33 : decode cX4_times 33 = .ok (.aload_n 3, 1) := by decide +kernel
theorem dX4_times_34 : decode cX4_times 34 = .ok (.getfield 86, 3) := by decide +kernel
theorem dX4_times_37 : decode cX4_times 37 = .ok (.aload 4, 2) := by decide +kernel
theorem dX4_times_39 : decode cX4_times 39 = .ok (.getfield 86, 3) := by decide +kernel
theorem dX4_times_42 : decode cX4_times 42 = .ok (.invokevirtual 87, 3) := by decide +kernel
theorem dX4_times_45 : decode cX4_times 45 = .ok (.aload_n 0, 1) := by decide +kernel
theorem dX4_times_46 : decode cX4_times 46 = .ok (.invokevirtual 77, 3) := by decide +kernel
theorem dX4_times_49 : decode cX4_times 49 = .ok (.ireturn, 1) := by decide +kernel
set_option maxRecDepth 20000 in
theorem ggX4_over_X4_known : GoodIn wsX4_over wsX4_known := goodIn_ca (goodIn_r _ [11, 12, 13, 14, 123, 124, 125, 126, 127, 128, 129, 130, 131, 132] (by decide +kernel) (by decide +kernel)) (goodIn_sub (fun _ h => List.mem_cons_of_mem _ (List.mem_append_left _ (List.mem_append_right _ h))) (by decide +kernel))
set_option maxRecDepth 20000 in
theorem gX4_over_X4_known : GoodIn wsX4_over (wsV RX4 81 RX4 yX4_known wsX4_known) := goodIn_app (goodIn_of _ (by decide +kernel)) ggX4_over_X4_known
set_option maxRecDepth 20000 in
theorem ggX4_over_X3_isZero : GoodIn wsX4_over wsX3_isZero := goodIn_r _ [19, 20, 133, 134] (by decide +kernel) (by decide +kernel)
set_option maxRecDepth 20000 in
theorem gX4_over_X3_isZero : GoodIn wsX4_over (wsV RX4 95 RX3 yX3_isZero wsX3_isZero) := goodIn_app (goodIn_of _ (by decide +kernel)) ggX4_over_X3_isZero
set_option maxRecDepth 20000 in
theorem ggX4_over_X3_setProduct : GoodIn wsX4_over wsX3_setProduct := goodIn_r _ [24, 20, 25, 26, 27, 28, 29, 30, 31, 32, 33, 34, 18, 35, 36, 37, 38, 39, 40, 41, 42, 43, 44, 45, 46, 47, 48, 49, 133, 134] (by decide +kernel) (by decide +kernel)
set_option maxRecDepth 20000 in
theorem gX4_over_X3_setProduct : GoodIn wsX4_over (wsV RX4 87 RX3 yX3_setProduct wsX3_setProduct) := goodIn_app (goodIn_of _ (by decide +kernel)) ggX4_over_X3_setProduct
set_option maxRecDepth 20000 in
theorem ggX4_over_X4_keepResult : GoodIn wsX4_over wsX4_keepResult := goodIn_ca (goodIn_r _ [53, 54, 55, 4, 56, 6, 57, 14, 58, 59, 60, 61, 62, 63, 10, 64, 65, 66, 67, 68, 69, 70, 71, 72, 73, 74, 18, 75, 20, 32, 33, 34, 35, 36, 37, 38, 39, 40, 41, 42, 43, 44, 76, 77, 78, 15, 16, 17, 19, 79, 80, 81, 82, 83, 84, 85, 86, 87, 88, 89, 47, 90, 91, 46, 48, 49, 92, 93, 94, 95, 96, 97, 98, 45, 99, 100, 101, 102, 103, 104, 105, 106, 107, 108, 109, 110, 111, 112, 113, 114, 115, 116, 117, 118, 29, 30, 27, 31, 119, 120, 123, 124, 125, 126, 127, 128, 129, 130, 131, 132, 133, 134, 121, 122] (by decide +kernel) (by decide +kernel)) (goodIn_sub (fun _ h => List.mem_cons_of_mem _ (List.mem_append_right _ h)) (by decide +kernel))
set_option maxRecDepth 20000 in
theorem gX4_over_X4_keepResult : GoodIn wsX4_over (wsV RX4 77 RX4 yX4_keepResult wsX4_keepResult) := goodIn_app (goodIn_of _ (by decide +kernel)) ggX4_over_X4_keepResult
theorem dX4_over_0 : decode cX4_over 0 = .ok (.aload_n 0, 1) := by decide +kernel
theorem dX4_over_1 : decode cX4_over 1 = .ok (.iload_n 1, 1) := by decide +kernel
theorem dX4_over_2 : decode cX4_over 2 = .ok (.invokevirtual 81, 3) := by decide +kernel
theorem dX4_over_5 : decode cX4_over 5 = .ok (.astore_n 3, 1) := by decide +kernel
theorem dX4_over_6 : decode cX4_over 6 = .ok (.aload_n 0, 1) := by decide +kernel
theorem dX4_over_7 : decode cX4_over 7 = .ok (.iload_n 2, 1) := by decide +kernel
theorem dX4_over_8 : decode cX4_over 8 = .ok (.invokevirtual 81, 3) := by decide +kernel
theorem dX4_over_11 : decode cX4_over 11 = .ok (.astore 4, 2) := by decide +kernel
theorem dX4_over_13 : decode cX4_over 13 = .ok (.aload 4, 2) := by decide +kernel
theorem dX4_over_15 : decode cX4_over 15 = .ok (.getfield 85, 3) := by decide +kernel
theorem dX4_over_18 : decode cX4_over 18 = .ok (.invokevirtual 95, 3) := by decide +kernel
theorem dX4_over_21 : decode cX4_over 21 = .ok (.ifCond .eq 13, 3) := by decide +kernel
theorem dX4_over_24 : decode cX4_over 24 = .ok (.new 99, 3) := by decide +kernel
theorem dX4_over_27 : decode cX4_over 27 = .ok (.dup, 1) := by decide +kernel
theorem dX4_over_28 : decode cX4_over 28 = .ok (.ldc 101, 2) := by decide +kernel
theorem dX4_over_30 : decode cX4_over 30 = .ok (.invokespecial 103, 3) := by decide +kernel
theorem dX4_over_33 : decode cX4_over 33 = .ok (.athrow, 1) := by decide +kernel
theorem dX4_over_34 : decode cX4_over 34 = .ok (.aload_n 0, 1) := by decide +kernel
theorem dX4_over_35 : decode cX4_over 35 = .ok (.getfield 35, 3) := by decide +kernel
theorem dX4_over_38 : decode cX4_over 38 = .ok (.aload_n 3, 1) := by decide +kernel
theorem dX4_over_39 : decode cX4_over 39 = .ok (.getfield 85, 3) := by decide +kernel
theorem dX4_over_42 : decode cX4_over 42 = .ok (.aload 4, 2) := by decide +kernel
theorem dX4_over_44 : decode cX4_over 44 = .ok (.getfield 86, 3) := by decide +kernel
theorem dX4_over_47 : decode cX4_over 47 = .ok (.invokevirtual 87, 3) := by decide +kernel
theorem dX4_over_50 : decode cX4_over 50 = .ok (.aload_n 0, 1) := by decide +kernel
theorem dX4_over_51 : decode cX4_over 51 = .ok (.getfield 38, 3) := by decide +kernel
theorem dX4_over_54 : decode cX4_over 54 = .ok (.aload_n 3, 1) := by decide +kernel
theorem dX4_over_55 : decode cX4_over 55 = .ok (.getfield 86, 3) := by decide +kernel
theorem dX4_over_58 : decode cX4_over 58 = .ok (.aload 4, 2) := by decide +kernel
theorem dX4_over_60 : decode cX4_over 60 = .ok (.getfield 85, 3) := by decide +kernel
theorem dX4_over_63 : decode cX4_over 63 = .ok (.invokevirtual 87, 3) := by decide +kernel
theorem dX4_over_66 : decode cX4_over 66 = .ok (.aload_n 0, 1) := by decide +kernel
theorem dX4_over_67 : decode cX4_over 67 = .ok (.invokevirtual 77, 3) := by decide +kernel
theorem dX4_over_70 : decode cX4_over 70 = .ok (.ireturn, 1) := by decide +kernel
set_option maxRecDepth 20000 in
theorem ggX4_moved_X4_known : GoodIn wsX4_moved wsX4_known := goodIn_ca (goodIn_r _ [9, 10, 11, 12, 116, 117, 118, 119, 120, 121, 122, 123, 124, 125] (by decide +kernel) (by decide +kernel)) (goodIn_sub (fun _ h => List.mem_cons_of_mem _ (List.mem_append_left _ (List.mem_append_right _ h))) (by decide +kernel))
set_option maxRecDepth 20000 in
theorem gX4_moved_X4_known : GoodIn wsX4_moved (wsV RX4 81 RX4 yX4_known wsX4_known) := goodIn_app (goodIn_of _ (by decide +kernel)) ggX4_moved_X4_known
set_option maxRecDepth 20000 in
theorem ggX4_moved_X3_copy : GoodIn wsX4_moved wsX3_copy := goodIn_r _ [17, 18, 19, 20, 21, 16, 22, 23, 24, 25, 26, 27, 28, 29, 30, 31, 128, 129] (by decide +kernel) (by decide +kernel)
set_option maxRecDepth 20000 in
theorem gX4_moved_X3_copy : GoodIn wsX4_moved (wsV RX4 104 RX3 yX3_copy wsX3_copy) := goodIn_app (goodIn_of _ (by decide +kernel)) ggX4_moved_X3_copy
set_option maxRecDepth 20000 in
theorem ggX4_moved_X3_moveByOne : GoodIn wsX4_moved wsX3_moveByOne := goodIn_r _ [35, 18, 28, 29, 30, 16, 31, 27, 36, 37, 38, 39, 40, 23, 24, 25, 26, 128, 129] (by decide +kernel) (by decide +kernel)
set_option maxRecDepth 20000 in
theorem gX4_moved_X3_moveByOne : GoodIn wsX4_moved (wsV RX4 108 RX3 yX3_moveByOne wsX3_moveByOne) := goodIn_app (goodIn_of _ (by decide +kernel)) ggX4_moved_X3_moveByOne
set_option maxRecDepth 20000 in
theorem ggX4_moved_X4_keepResult : GoodIn wsX4_moved wsX4_keepResult := goodIn_ca (goodIn_r _ [44, 45, 46, 1, 47, 3, 48, 12, 49, 50, 51, 52, 53, 54, 8, 55, 56, 57, 58, 59, 60, 61, 62, 13, 14, 15, 16, 17, 18, 19, 20, 21, 22, 23, 24, 25, 26, 27, 28, 29, 30, 31, 63, 64, 65, 66, 67, 68, 69, 70, 71, 72, 73, 74, 75, 76, 77, 78, 79, 80, 38, 81, 82, 37, 39, 40, 83, 84, 85, 86, 87, 88, 89, 36, 90, 91, 92, 93, 94, 95, 96, 97, 98, 99, 100, 101, 102, 103, 104, 105, 106, 107, 108, 109, 110, 111, 112, 113, 114, 115, 116, 117, 118, 119, 120, 121, 122, 123, 124, 125, 128, 129, 126, 127] (by decide +kernel) (by decide +kernel)) (goodIn_sub (fun _ h => List.mem_cons_of_mem _ (List.mem_append_right _ h)) (by decide +kernel))
set_option maxRecDepth 20000 in
theorem gX4_moved_X4_keepResult : GoodIn wsX4_moved (wsV RX4 77 RX4 yX4_keepResult wsX4_keepResult) := goodIn_app (goodIn_of _ (by decide +kernel)) ggX4_moved_X4_keepResult
theorem dX4_moved_0 : decode cX4_moved 0 = .ok (.aload_n 0, 1) := by decide +kernel
theorem dX4_moved_1 : decode cX4_moved 1 = .ok (.iload_n 1, 1) := by decide +kernel
theorem dX4_moved_2 : decode cX4_moved 2 = .ok (.invokevirtual 81, 3) := by decide +kernel
theorem dX4_moved_5 : decode cX4_moved 5 = .ok (.astore_n 2, 1) := by decide +kernel
theorem dX4_moved_6 : decode cX4_moved 6 = .ok (.aload_n 0, 1) := by decide +kernel
theorem dX4_moved_7 : decode cX4_moved 7 = .ok (.getfield 35, 3) := by decide +kernel
theorem dX4_moved_10 : decode cX4_moved 10 = .ok (.aload_n 2, 1) := by decide +kernel
theorem dX4_moved_11 : decode cX4_moved 11 = .ok (.getfield 85, 3) := by decide +kernel
theorem dX4_moved_14 : decode cX4_moved 14 = .ok (.invokevirtual 104, 3) := by decide +kernel
theorem dX4_moved_17 : decode cX4_moved 17 = .ok (.aload_n 0, 1) := by decide +kernel
theorem dX4_moved_18 : decode cX4_moved 18 = .ok (.getfield 35, 3) := by decide +kernel
theorem dX4_moved_21 : decode cX4_moved 21 = .ok (.invokevirtual 108, 3) := by decide +kernel
theorem dX4_moved_24 : decode cX4_moved 24 = .ok (.aload_n 0, 1) := by decide +kernel
theorem dX4_moved_25 : decode cX4_moved 25 = .ok (.getfield 38, 3) := by decide +kernel
theorem dX4_moved_28 : decode cX4_moved 28 = .ok (.aload_n 2, 1) := by decide +kernel
theorem dX4_moved_29 : decode cX4_moved 29 = .ok (.getfield 86, 3) := by decide +kernel
theorem dX4_moved_32 : decode cX4_moved 32 = .ok (.invokevirtual 104, 3) := by decide +kernel
theorem dX4_moved_35 : decode cX4_moved 35 = .ok (.aload_n 0, 1) := by decide +kernel
theorem dX4_moved_36 : decode cX4_moved 36 = .ok (.getfield 38, 3) := by decide +kernel
theorem dX4_moved_39 : decode cX4_moved 39 = .ok (.invokevirtual 108, 3) := by decide +kernel
theorem dX4_moved_42 : decode cX4_moved 42 = .ok (.aload_n 0, 1) := by decide +kernel
theorem dX4_moved_43 : decode cX4_moved 43 = .ok (.invokevirtual 77, 3) := by decide +kernel
theorem dX4_moved_46 : decode cX4_moved 46 = .ok (.ireturn, 1) := by decide +kernel
set_option maxRecDepth 20000 in
theorem ggX4_step_X4_known : GoodIn wsX4_step wsX4_known := goodIn_ca (goodIn_r _ [5, 6, 7, 8, 136, 137, 138, 139, 140, 141, 142, 143, 144, 145] (by decide +kernel) (by decide +kernel)) (goodIn_sub (fun _ h => List.mem_cons_of_mem _ (List.mem_append_left _ (List.mem_append_left _ (List.mem_append_right _ h)))) (by decide +kernel))
set_option maxRecDepth 20000 in
theorem gX4_step_X4_known : GoodIn wsX4_step (wsV RX4 81 RX4 yX4_known wsX4_known) := goodIn_app (goodIn_of _ (by decide +kernel)) ggX4_step_X4_known
set_option maxRecDepth 20000 in
theorem ggX4_step_X4_refuseZeroRatioBottom : GoodIn wsX4_step wsX4_refuseZeroRatioBottom := goodIn_ca (goodIn_r _ [12, 13, 14, 15, 16, 17, 18, 19, 20, 21, 136, 137, 138, 139, 140, 141, 142, 143, 144, 145, 146, 147] (by decide +kernel) (by decide +kernel)) (goodIn_sub (fun _ h => List.mem_cons_of_mem _ (List.mem_append_left _ (List.mem_append_right _ h))) (by decide +kernel))
set_option maxRecDepth 20000 in
theorem gX4_step_X4_refuseZeroRatioBottom : GoodIn wsX4_step (wsV RX4 111 RX4 yX4_refuseZeroRatioBottom wsX4_refuseZeroRatioBottom) := goodIn_app (goodIn_of _ (by decide +kernel)) ggX4_step_X4_refuseZeroRatioBottom
set_option maxRecDepth 20000 in
theorem ggX4_step_X4_setToStep : GoodIn wsX4_step wsX4_setToStep := goodIn_r _ [25, 26, 27, 28, 29, 30, 31, 15, 32, 33, 34, 35, 19, 36, 21, 37, 38, 39, 40, 41, 42, 43, 44, 45, 46, 47, 48, 49, 50, 51, 52, 53, 54, 55, 56, 57, 58, 59, 60, 61, 62, 63, 64, 65, 66, 67, 68, 69, 70, 71, 72, 73, 136, 137, 138, 139, 140, 141, 142, 143, 144, 145, 148, 149, 146, 147] (by decide +kernel) (by decide +kernel)
set_option maxRecDepth 20000 in
theorem gX4_step_X4_setToStep : GoodIn wsX4_step (wsV RX4 114 RX4 yX4_setToStep wsX4_setToStep) := goodIn_app (goodIn_of _ (by decide +kernel)) ggX4_step_X4_setToStep
set_option maxRecDepth 20000 in
theorem ggX4_step_X4_keepResult : GoodIn wsX4_step wsX4_keepResult := goodIn_ca (goodIn_r _ [77, 78, 79, 30, 80, 32, 81, 8, 82, 83, 84, 85, 86, 87, 4, 88, 89, 90, 91, 92, 26, 28, 93, 33, 34, 35, 19, 36, 21, 37, 38, 39, 40, 41, 42, 43, 44, 45, 46, 47, 48, 49, 94, 95, 96, 16, 17, 18, 20, 97, 98, 99, 100, 101, 102, 103, 104, 105, 106, 107, 56, 108, 109, 55, 57, 58, 110, 111, 112, 113, 71, 72, 73, 54, 114, 115, 116, 117, 118, 119, 120, 121, 122, 123, 124, 125, 126, 127, 128, 129, 130, 131, 132, 133, 67, 68, 65, 69, 134, 135, 136, 137, 138, 139, 140, 141, 142, 143, 144, 145, 146, 147, 148, 149] (by decide +kernel) (by decide +kernel)) (goodIn_sub (fun _ h => List.mem_cons_of_mem _ (List.mem_append_right _ h)) (by decide +kernel))
set_option maxRecDepth 20000 in
theorem gX4_step_X4_keepResult : GoodIn wsX4_step (wsV RX4 77 RX4 yX4_keepResult wsX4_keepResult) := goodIn_app (goodIn_of _ (by decide +kernel)) ggX4_step_X4_keepResult
theorem dX4_step_0 : decode cX4_step 0 = .ok (.aload_n 0, 1) := by decide +kernel
theorem dX4_step_1 : decode cX4_step 1 = .ok (.iload_n 1, 1) := by decide +kernel
theorem dX4_step_2 : decode cX4_step 2 = .ok (.invokevirtual 81, 3) := by decide +kernel
theorem dX4_step_5 : decode cX4_step 5 = .ok (.astore_n 2, 1) := by decide +kernel
theorem dX4_step_6 : decode cX4_step 6 = .ok (.aload_n 0, 1) := by decide +kernel
theorem dX4_step_7 : decode cX4_step 7 = .ok (.invokevirtual 111, 3) := by decide +kernel
theorem dX4_step_10 : decode cX4_step 10 = .ok (.aload_n 0, 1) := by decide +kernel
theorem dX4_step_11 : decode cX4_step 11 = .ok (.aload_n 2, 1) := by decide +kernel
theorem dX4_step_12 : decode cX4_step 12 = .ok (.invokevirtual 114, 3) := by decide +kernel
theorem dX4_step_15 : decode cX4_step 15 = .ok (.aload_n 0, 1) := by decide +kernel
theorem dX4_step_16 : decode cX4_step 16 = .ok (.invokevirtual 77, 3) := by decide +kernel
theorem dX4_step_19 : decode cX4_step 19 = .ok (.ireturn, 1) := by decide +kernel
set_option maxRecDepth 20000 in
theorem ggX4_proves_X4_known : GoodIn wsX4_proves wsX4_known := goodIn_ca (goodIn_r _ [11, 12, 13, 14, 78, 79, 80, 81, 82, 83, 84, 85, 86, 87] (by decide +kernel) (by decide +kernel)) (goodIn_sub (fun _ h => List.mem_cons_of_mem _ (List.mem_append_left _ (List.mem_append_right _ h))) (by decide +kernel))
set_option maxRecDepth 20000 in
theorem gX4_proves_X4_known : GoodIn wsX4_proves (wsV RX4 81 RX4 yX4_known wsX4_known) := goodIn_app (goodIn_of _ (by decide +kernel)) ggX4_proves_X4_known
set_option maxRecDepth 20000 in
theorem ggX4_proves_X4_refuseZeroRatioBottom : GoodIn wsX4_proves wsX4_refuseZeroRatioBottom := goodIn_ca (goodIn_r _ [18, 19, 20, 21, 22, 23, 24, 25, 26, 27, 78, 79, 80, 81, 82, 83, 84, 85, 86, 87, 90, 91] (by decide +kernel) (by decide +kernel)) (goodIn_sub (fun _ h => List.mem_cons_of_mem _ (List.mem_append_right _ h)) (by decide +kernel))
set_option maxRecDepth 20000 in
theorem gX4_proves_X4_refuseZeroRatioBottom : GoodIn wsX4_proves (wsV RX4 111 RX4 yX4_refuseZeroRatioBottom wsX4_refuseZeroRatioBottom) := goodIn_app (goodIn_of _ (by decide +kernel)) ggX4_proves_X4_refuseZeroRatioBottom
set_option maxRecDepth 20000 in
theorem ggX4_proves_X4_setToStep : GoodIn wsX4_proves wsX4_setToStep := goodIn_r _ [31, 1, 2, 4, 32, 6, 5, 21, 3, 33, 34, 35, 25, 36, 27, 37, 38, 39, 40, 41, 42, 43, 44, 45, 46, 47, 48, 49, 50, 51, 52, 53, 54, 55, 56, 57, 58, 59, 60, 61, 62, 63, 64, 65, 66, 67, 68, 69, 70, 71, 72, 73, 78, 79, 80, 81, 82, 83, 84, 85, 86, 87, 88, 89, 90, 91] (by decide +kernel) (by decide +kernel)
set_option maxRecDepth 20000 in
theorem gX4_proves_X4_setToStep : GoodIn wsX4_proves (wsV RX4 114 RX4 yX4_setToStep wsX4_setToStep) := goodIn_app (goodIn_of _ (by decide +kernel)) ggX4_proves_X4_setToStep
set_option maxRecDepth 20000 in
theorem ggX4_proves_X3_setProduct : GoodIn wsX4_proves wsX3_setProduct := goodIn_r _ [62, 27, 63, 64, 65, 66, 67, 68, 69, 37, 38, 39, 25, 40, 41, 42, 43, 44, 45, 46, 47, 48, 49, 54, 55, 56, 57, 58, 90, 91] (by decide +kernel) (by decide +kernel)
set_option maxRecDepth 20000 in
theorem gX4_proves_X3_setProduct : GoodIn wsX4_proves (wsV RX4 87 RX3 yX3_setProduct wsX3_setProduct) := goodIn_app (goodIn_of _ (by decide +kernel)) ggX4_proves_X3_setProduct
set_option maxRecDepth 20000 in
theorem ggX4_proves_X3_matches : GoodIn wsX4_proves wsX3_matches := goodIn_r _ [77, 27, 46, 47, 48, 25, 49, 45, 90, 91] (by decide +kernel) (by decide +kernel)
set_option maxRecDepth 20000 in
theorem gX4_proves_X3_matches : GoodIn wsX4_proves (wsV RX4 118 RX3 yX3_matches wsX3_matches) := goodIn_app (goodIn_of _ (by decide +kernel)) ggX4_proves_X3_matches
theorem dX4_proves_0 : decode cX4_proves 0 = .ok (.aload_n 0, 1) := by decide +kernel
theorem dX4_proves_1 : decode cX4_proves 1 = .ok (.iload_n 1, 1) := by decide +kernel
theorem dX4_proves_2 : decode cX4_proves 2 = .ok (.invokevirtual 81, 3) := by decide +kernel
theorem dX4_proves_5 : decode cX4_proves 5 = .ok (.astore_n 3, 1) := by decide +kernel
theorem dX4_proves_6 : decode cX4_proves 6 = .ok (.aload_n 0, 1) := by decide +kernel
theorem dX4_proves_7 : decode cX4_proves 7 = .ok (.iload_n 2, 1) := by decide +kernel
theorem dX4_proves_8 : decode cX4_proves 8 = .ok (.invokevirtual 81, 3) := by decide +kernel
theorem dX4_proves_11 : decode cX4_proves 11 = .ok (.astore 4, 2) := by decide +kernel
theorem dX4_proves_13 : decode cX4_proves 13 = .ok (.aload_n 0, 1) := by decide +kernel
theorem dX4_proves_14 : decode cX4_proves 14 = .ok (.invokevirtual 111, 3) := by decide +kernel
theorem dX4_proves_17 : decode cX4_proves 17 = .ok (.aload_n 0, 1) := by decide +kernel
theorem dX4_proves_18 : decode cX4_proves 18 = .ok (.aload 4, 2) := by decide +kernel
theorem dX4_proves_20 : decode cX4_proves 20 = .ok (.invokevirtual 114, 3) := by decide +kernel
theorem dX4_proves_23 : decode cX4_proves 23 = .ok (.aload_n 0, 1) := by decide +kernel
theorem dX4_proves_24 : decode cX4_proves 24 = .ok (.getfield 41, 3) := by decide +kernel
theorem dX4_proves_27 : decode cX4_proves 27 = .ok (.aload_n 3, 1) := by decide +kernel
theorem dX4_proves_28 : decode cX4_proves 28 = .ok (.getfield 85, 3) := by decide +kernel
theorem dX4_proves_31 : decode cX4_proves 31 = .ok (.aload_n 0, 1) := by decide +kernel
theorem dX4_proves_32 : decode cX4_proves 32 = .ok (.getfield 38, 3) := by decide +kernel
theorem dX4_proves_35 : decode cX4_proves 35 = .ok (.invokevirtual 87, 3) := by decide +kernel
theorem dX4_proves_38 : decode cX4_proves 38 = .ok (.aload_n 0, 1) := by decide +kernel
theorem dX4_proves_39 : decode cX4_proves 39 = .ok (.getfield 44, 3) := by decide +kernel
theorem dX4_proves_42 : decode cX4_proves 42 = .ok (.aload_n 3, 1) := by decide +kernel
theorem dX4_proves_43 : decode cX4_proves 43 = .ok (.getfield 86, 3) := by decide +kernel
theorem dX4_proves_46 : decode cX4_proves 46 = .ok (.aload_n 0, 1) := by decide +kernel
theorem dX4_proves_47 : decode cX4_proves 47 = .ok (.getfield 35, 3) := by decide +kernel
theorem dX4_proves_50 : decode cX4_proves 50 = .ok (.invokevirtual 87, 3) := by decide +kernel
theorem dX4_proves_53 : decode cX4_proves 53 = .ok (.aload_n 0, 1) := by decide +kernel
theorem dX4_proves_54 : decode cX4_proves 54 = .ok (.getfield 41, 3) := by decide +kernel
theorem dX4_proves_57 : decode cX4_proves 57 = .ok (.aload_n 0, 1) := by decide +kernel
theorem dX4_proves_58 : decode cX4_proves 58 = .ok (.getfield 44, 3) := by decide +kernel
theorem dX4_proves_61 : decode cX4_proves 61 = .ok (.invokevirtual 118, 3) := by decide +kernel
theorem dX4_proves_64 : decode cX4_proves 64 = .ok (.ireturn, 1) := by decide +kernel
set_option maxRecDepth 20000 in
theorem ggX4_find_X4_known : GoodIn wsX4_find wsX4_known := goodIn_ca (goodIn_r _ [9, 10, 11, 12, 193, 194, 195, 196, 197, 198, 199, 200, 201, 202] (by decide +kernel) (by decide +kernel)) (goodIn_sub (fun _ h => List.mem_cons_of_mem _ (List.mem_append_left _ (List.mem_append_left _ (List.mem_append_left _ (List.mem_append_right _ h))))) (by decide +kernel))
set_option maxRecDepth 20000 in
theorem gX4_find_X4_known : GoodIn wsX4_find (wsV RX4 81 RX4 yX4_known wsX4_known) := goodIn_app (goodIn_of _ (by decide +kernel)) ggX4_find_X4_known
set_option maxRecDepth 20000 in
theorem ggX4_find_X4_refuseZeroDivisors : GoodIn wsX4_find wsX4_refuseZeroDivisors := goodIn_ca (goodIn_r _ [16, 17, 18, 4, 19, 20, 21, 8, 22, 23, 24, 25, 26, 27, 28, 29, 205, 206, 193, 194, 195, 196, 197, 198, 199, 200, 201, 202, 203, 204] (by decide +kernel) (by decide +kernel)) (goodIn_sub (fun _ h => List.mem_cons_of_mem _ (List.mem_append_left _ (List.mem_append_left _ (List.mem_append_right _ h)))) (by decide +kernel))
set_option maxRecDepth 20000 in
theorem gX4_find_X4_refuseZeroDivisors : GoodIn wsX4_find (wsV RX4 122 RX4 yX4_refuseZeroDivisors wsX4_refuseZeroDivisors) := goodIn_app (goodIn_of _ (by decide +kernel)) ggX4_find_X4_refuseZeroDivisors
set_option maxRecDepth 20000 in
theorem ggX4_find_X4_refuseWrongBound : GoodIn wsX4_find wsX4_refuseWrongBound := goodIn_ca (goodIn_r _ [32, 33, 34] (by decide +kernel) (by decide +kernel)) (goodIn_sub (fun _ h => List.mem_cons_of_mem _ (List.mem_append_left _ (List.mem_append_right _ h))) (by decide +kernel))
set_option maxRecDepth 20000 in
theorem gX4_find_X4_refuseWrongBound : GoodIn wsX4_find (va_wsS RX4 125 yX4_refuseWrongBound wsX4_refuseWrongBound) := goodIn_app (goodIn_of _ (by decide +kernel)) ggX4_find_X4_refuseWrongBound
set_option maxRecDepth 20000 in
theorem ggX4_find_X4_refuseWhenFull : GoodIn wsX4_find wsX4_refuseWhenFull := goodIn_ca (goodIn_r _ [38, 39, 40, 41, 12, 193, 194, 195, 196, 197, 198, 199, 200, 201, 202] (by decide +kernel) (by decide +kernel)) (goodIn_sub (fun _ h => List.mem_cons_of_mem _ (List.mem_append_right _ h)) (by decide +kernel))
set_option maxRecDepth 20000 in
theorem gX4_find_X4_refuseWhenFull : GoodIn wsX4_find (wsV RX4 128 RX4 yX4_refuseWhenFull wsX4_refuseWhenFull) := goodIn_app (goodIn_of _ (by decide +kernel)) ggX4_find_X4_refuseWhenFull
set_option maxRecDepth 20000 in
theorem ggX4_find_X4_findPlain : GoodIn wsX4_find wsX4_findPlain := goodIn_r _ [45, 46, 4, 47, 23, 1, 48, 49, 50, 51, 52, 53, 54, 55, 56, 57, 58, 59, 60, 61, 62, 63, 27, 64, 29, 65, 66, 67, 68, 69, 70, 71, 72, 73, 74, 75, 76, 77, 78, 79, 80, 81, 82, 83, 84, 85, 86, 87, 88, 89, 90, 91, 92, 93, 94, 95, 96, 97, 98, 99, 100, 101, 102, 103, 104, 105, 106, 107, 108, 109, 110, 111, 112, 113, 114, 115, 116, 117, 118, 119, 120, 121, 122, 123, 124, 125, 126, 127, 128, 129, 130, 131, 132, 133, 134, 135, 136, 137, 138, 139, 140, 193, 194, 195, 196, 197, 198, 199, 200, 201, 202, 205, 206, 207, 208, 209, 210, 211, 212, 213, 214, 203, 204] (by decide +kernel) (by decide +kernel)
set_option maxRecDepth 20000 in
theorem gX4_find_X4_findPlain : GoodIn wsX4_find (wsV RX4 131 RX4 yX4_findPlain wsX4_findPlain) := goodIn_app (goodIn_of _ (by decide +kernel)) ggX4_find_X4_findPlain
set_option maxRecDepth 20000 in
theorem ggX4_find_X3_copy : GoodIn wsX4_find wsX3_copy := goodIn_r _ [64, 29, 65, 66, 67, 27, 68, 69, 70, 71, 72, 73, 74, 75, 76, 77, 203, 204] (by decide +kernel) (by decide +kernel)
set_option maxRecDepth 20000 in
theorem gX4_find_X3_copy : GoodIn wsX4_find (wsV RX4 104 RX3 yX3_copy wsX3_copy) := goodIn_app (goodIn_of _ (by decide +kernel)) ggX4_find_X3_copy
set_option maxRecDepth 20000 in
theorem ggX4_find_X4_keepResult : GoodIn wsX4_find wsX4_keepResult := goodIn_ca (goodIn_r _ [145, 39, 40, 1, 2, 3, 41, 12, 146, 147, 148, 35, 36, 37, 8, 38, 149, 150, 151, 152, 153, 154, 155, 141, 62, 63, 27, 64, 29, 65, 66, 67, 68, 69, 70, 71, 72, 73, 74, 75, 76, 77, 156, 157, 158, 24, 25, 26, 28, 159, 160, 161, 162, 163, 164, 165, 166, 167, 168, 122, 84, 123, 124, 83, 85, 86, 169, 129, 130, 170, 99, 100, 101, 82, 171, 172, 173, 174, 175, 176, 177, 178, 179, 180, 181, 182, 183, 184, 185, 186, 187, 188, 189, 190, 95, 96, 93, 97, 191, 192, 193, 194, 195, 196, 197, 198, 199, 200, 201, 202, 203, 204, 205, 206] (by decide +kernel) (by decide +kernel)) (goodIn_sub (fun _ h => List.mem_cons_of_mem _ (List.mem_append_right _ h)) (by decide +kernel))
set_option maxRecDepth 20000 in
theorem gX4_find_X4_keepResult : GoodIn wsX4_find (wsV RX4 77 RX4 yX4_keepResult wsX4_keepResult) := goodIn_app (goodIn_of _ (by decide +kernel)) ggX4_find_X4_keepResult
theorem dX4_find_0 : decode cX4_find 0 = .ok (.aload_n 0, 1) := by decide +kernel
theorem dX4_find_1 : decode cX4_find 1 = .ok (.iload_n 1, 1) := by decide +kernel
theorem dX4_find_2 : decode cX4_find 2 = .ok (.invokevirtual 81, 3) := by decide +kernel
theorem dX4_find_5 : decode cX4_find 5 = .ok (.astore 4, 2) := by decide +kernel
theorem dX4_find_7 : decode cX4_find 7 = .ok (.aload_n 0, 1) := by decide +kernel
theorem dX4_find_8 : decode cX4_find 8 = .ok (.iload_n 2, 1) := by decide +kernel
theorem dX4_find_9 : decode cX4_find 9 = .ok (.invokevirtual 81, 3) := by decide +kernel
theorem dX4_find_12 : decode cX4_find 12 = .ok (.astore 5, 2) := by decide +kernel
theorem dX4_find_14 : decode cX4_find 14 = .ok (.aload_n 0, 1) := by decide +kernel
theorem dX4_find_15 : decode cX4_find 15 = .ok (.aload 5, 2) := by decide +kernel
theorem dX4_find_17 : decode cX4_find 17 = .ok (.invokevirtual 122, 3) := by decide +kernel
theorem dX4_find_20 : decode cX4_find 20 = .ok (.iload_n 3, 1) := by decide +kernel
theorem dX4_find_21 : decode cX4_find 21 = .ok (.invokestatic 125, 3) := by decide +kernel
theorem dX4_find_24 : decode cX4_find 24 = .ok (.aload_n 0, 1) := by decide +kernel
theorem dX4_find_25 : decode cX4_find 25 = .ok (.invokevirtual 128, 3) := by decide +kernel
theorem dX4_find_28 : decode cX4_find 28 = .ok (.aload_n 0, 1) := by decide +kernel
theorem dX4_find_29 : decode cX4_find 29 = .ok (.aload 4, 2) := by decide +kernel
theorem dX4_find_31 : decode cX4_find 31 = .ok (.aload 5, 2) := by decide +kernel
theorem dX4_find_33 : decode cX4_find 33 = .ok (.invokevirtual 131, 3) := by decide +kernel
theorem dX4_find_36 : decode cX4_find 36 = .ok (.ifCond .eq 14, 3) := by decide +kernel
theorem dX4_find_39 : decode cX4_find 39 = .ok (.aload_n 0, 1) := by decide +kernel
theorem dX4_find_40 : decode cX4_find 40 = .ok (.getfield 35, 3) := by decide +kernel
theorem dX4_find_43 : decode cX4_find 43 = .ok (.getfield 135, 3) := by decide +kernel
theorem dX4_find_46 : decode cX4_find 46 = .ok (.iload_n 3, 1) := by decide +kernel
theorem dX4_find_47 : decode cX4_find 47 = .ok (.if_icmp .le 5, 3) := by decide +kernel
theorem dX4_find_50 : decode cX4_find 50 = .ok (.iconst (-1), 1) := by decide +kernel
theorem dX4_find_51 : decode cX4_find 51 = .ok (.ireturn, 1) := by decide +kernel
theorem dX4_find_52 : decode cX4_find 52 = .ok (.aload_n 0, 1) := by decide +kernel
theorem dX4_find_53 : decode cX4_find 53 = .ok (.getfield 38, 3) := by decide +kernel
theorem dX4_find_56 : decode cX4_find 56 = .ok (.aload 5, 2) := by decide +kernel
theorem dX4_find_58 : decode cX4_find 58 = .ok (.getfield 85, 3) := by decide +kernel
theorem dX4_find_61 : decode cX4_find 61 = .ok (.invokevirtual 104, 3) := by decide +kernel
theorem dX4_find_64 : decode cX4_find 64 = .ok (.aload_n 0, 1) := by decide +kernel
theorem dX4_find_65 : decode cX4_find 65 = .ok (.invokevirtual 77, 3) := by decide +kernel
theorem dX4_find_68 : decode cX4_find 68 = .ok (.ireturn, 1) := by decide +kernel
set_option maxRecDepth 20000 in
theorem ggX4_least_X4_known : GoodIn wsX4_least wsX4_known := goodIn_ca (goodIn_r _ [11, 12, 13, 14, 129, 130, 131, 132, 133, 134, 135, 136, 137, 138] (by decide +kernel) (by decide +kernel)) (goodIn_sub (fun _ h => List.mem_cons_of_mem _ (List.mem_append_left _ (List.mem_append_right _ h))) (by decide +kernel))
set_option maxRecDepth 20000 in
theorem gX4_least_X4_known : GoodIn wsX4_least (wsV RX4 81 RX4 yX4_known wsX4_known) := goodIn_app (goodIn_of _ (by decide +kernel)) ggX4_least_X4_known
set_option maxRecDepth 20000 in
theorem ggX4_least_X4_refuseZeroDivisors : GoodIn wsX4_least wsX4_refuseZeroDivisors := goodIn_ca (goodIn_r _ [18, 19, 20, 21, 22, 23, 24, 10, 25, 26, 27, 28, 29, 30, 31, 32, 141, 142, 129, 130, 131, 132, 133, 134, 135, 136, 137, 138, 139, 140] (by decide +kernel) (by decide +kernel)) (goodIn_sub (fun _ h => List.mem_cons_of_mem _ (List.mem_append_right _ h)) (by decide +kernel))
set_option maxRecDepth 20000 in
theorem gX4_least_X4_refuseZeroDivisors : GoodIn wsX4_least (wsV RX4 122 RX4 yX4_refuseZeroDivisors wsX4_refuseZeroDivisors) := goodIn_app (goodIn_of _ (by decide +kernel)) ggX4_least_X4_refuseZeroDivisors
set_option maxRecDepth 20000 in
theorem ggX4_least_X4_findPlain : GoodIn wsX4_least wsX4_findPlain := goodIn_r _ [36, 37, 21, 38, 26, 1, 39, 40, 41, 42, 43, 44, 45, 46, 47, 48, 49, 50, 51, 52, 53, 54, 30, 55, 32, 56, 57, 58, 59, 60, 61, 62, 63, 64, 65, 66, 67, 68, 69, 70, 71, 72, 73, 74, 75, 76, 77, 78, 79, 80, 81, 82, 83, 5, 84, 85, 4, 6, 86, 87, 88, 89, 90, 91, 92, 93, 94, 95, 96, 97, 98, 99, 100, 101, 102, 103, 104, 105, 106, 107, 108, 109, 110, 111, 112, 113, 114, 115, 116, 117, 118, 119, 120, 121, 122, 123, 124, 125, 126, 127, 128, 129, 130, 131, 132, 133, 134, 135, 136, 137, 138, 141, 142, 143, 144, 145, 146, 147, 148, 149, 150, 139, 140] (by decide +kernel) (by decide +kernel)
set_option maxRecDepth 20000 in
theorem gX4_least_X4_findPlain : GoodIn wsX4_least (wsV RX4 131 RX4 yX4_findPlain wsX4_findPlain) := goodIn_app (goodIn_of _ (by decide +kernel)) ggX4_least_X4_findPlain
theorem dX4_least_0 : decode cX4_least 0 = .ok (.aload_n 0, 1) := by decide +kernel
theorem dX4_least_1 : decode cX4_least 1 = .ok (.iload_n 1, 1) := by decide +kernel
theorem dX4_least_2 : decode cX4_least 2 = .ok (.invokevirtual 81, 3) := by decide +kernel
theorem dX4_least_5 : decode cX4_least 5 = .ok (.astore_n 3, 1) := by decide +kernel
theorem dX4_least_6 : decode cX4_least 6 = .ok (.aload_n 0, 1) := by decide +kernel
theorem dX4_least_7 : decode cX4_least 7 = .ok (.iload_n 2, 1) := by decide +kernel
theorem dX4_least_8 : decode cX4_least 8 = .ok (.invokevirtual 81, 3) := by decide +kernel
theorem dX4_least_11 : decode cX4_least 11 = .ok (.astore 4, 2) := by decide +kernel
theorem dX4_least_13 : decode cX4_least 13 = .ok (.aload_n 0, 1) := by decide +kernel
theorem dX4_least_14 : decode cX4_least 14 = .ok (.aload 4, 2) := by decide +kernel
theorem dX4_least_16 : decode cX4_least 16 = .ok (.invokevirtual 122, 3) := by decide +kernel
theorem dX4_least_19 : decode cX4_least 19 = .ok (.aload_n 0, 1) := by decide +kernel
theorem dX4_least_20 : decode cX4_least 20 = .ok (.aload_n 3, 1) := by decide +kernel
theorem dX4_least_21 : decode cX4_least 21 = .ok (.aload 4, 2) := by decide +kernel
theorem dX4_least_23 : decode cX4_least 23 = .ok (.invokevirtual 131, 3) := by decide +kernel
theorem dX4_least_26 : decode cX4_least 26 = .ok (.ifCond .ne 5, 3) := by decide +kernel
theorem dX4_least_29 : decode cX4_least 29 = .ok (.iconst (-1), 1) := by decide +kernel
theorem dX4_least_30 : decode cX4_least 30 = .ok (.ireturn, 1) := by decide +kernel
theorem dX4_least_31 : decode cX4_least 31 = .ok (.aload_n 0, 1) := by decide +kernel
theorem dX4_least_32 : decode cX4_least 32 = .ok (.getfield 35, 3) := by decide +kernel
theorem dX4_least_35 : decode cX4_least 35 = .ok (.getfield 135, 3) := by decide +kernel
theorem dX4_least_38 : decode cX4_least 38 = .ok (.iconst 0, 1) := by decide +kernel
theorem dX4_least_39 : decode cX4_least 39 = .ok (.invokestatic 138, 3) := by decide +kernel
theorem dX4_least_42 : decode cX4_least 42 = .ok (.ireturn, 1) := by decide +kernel
set_option maxRecDepth 20000 in
theorem ggX4_free_X4_known : GoodIn wsX4_free wsX4_known := goodIn_ca (goodIn_r _ [9, 10, 11, 12, 122, 123, 124, 125, 126, 127, 128, 129, 130, 131] (by decide +kernel) (by decide +kernel)) (goodIn_sub (fun _ h => List.mem_cons_of_mem _ (List.mem_append_left _ (List.mem_append_left _ (List.mem_append_right _ h)))) (by decide +kernel))
set_option maxRecDepth 20000 in
theorem gX4_free_X4_known : GoodIn wsX4_free (wsV RX4 81 RX4 yX4_known wsX4_known) := goodIn_app (goodIn_of _ (by decide +kernel)) ggX4_free_X4_known
set_option maxRecDepth 20000 in
theorem ggX4_free_X4_refuseZeroDivisors : GoodIn wsX4_free wsX4_refuseZeroDivisors := goodIn_ca (goodIn_r _ [16, 17, 18, 2, 19, 20, 21, 8, 22, 4, 23, 24, 25, 26, 27, 28, 132, 133, 122, 123, 124, 125, 126, 127, 128, 129, 130, 131, 134, 135] (by decide +kernel) (by decide +kernel)) (goodIn_sub (fun _ h => List.mem_cons_of_mem _ (List.mem_append_left _ (List.mem_append_right _ h))) (by decide +kernel))
set_option maxRecDepth 20000 in
theorem gX4_free_X4_refuseZeroDivisors : GoodIn wsX4_free (wsV RX4 122 RX4 yX4_refuseZeroDivisors wsX4_refuseZeroDivisors) := goodIn_app (goodIn_of _ (by decide +kernel)) ggX4_free_X4_refuseZeroDivisors
set_option maxRecDepth 20000 in
theorem ggX4_free_X4_refuseWrongBound : GoodIn wsX4_free wsX4_refuseWrongBound := goodIn_ca (goodIn_r _ [31, 32, 33] (by decide +kernel) (by decide +kernel)) (goodIn_sub (fun _ h => List.mem_cons_of_mem _ (List.mem_append_right _ h)) (by decide +kernel))
set_option maxRecDepth 20000 in
theorem gX4_free_X4_refuseWrongBound : GoodIn wsX4_free (va_wsS RX4 125 yX4_refuseWrongBound wsX4_refuseWrongBound) := goodIn_app (goodIn_of _ (by decide +kernel)) ggX4_free_X4_refuseWrongBound
set_option maxRecDepth 20000 in
theorem ggX4_free_X0_set : GoodIn wsX4_free wsX0_set := goodIn_r _ [38, 39, 40, 41, 42, 43, 44, 45, 46, 47, 48, 49, 26, 50, 28, 51, 52, 53, 54, 55, 56, 57, 58, 59, 60, 61, 62, 63, 64, 65, 66, 67, 68, 69, 70, 71, 72, 73, 74, 75, 76, 77, 78, 79, 80, 81, 82, 83, 84, 85, 86, 87, 88, 89, 90, 91, 136, 137, 138, 139, 140, 141, 142, 143, 132, 133, 134, 135] (by decide +kernel) (by decide +kernel)
set_option maxRecDepth 20000 in
theorem gX4_free_X0_set : GoodIn wsX4_free (wsV RX4 144 RX0 yX0_set wsX0_set) := goodIn_app (goodIn_of _ (by decide +kernel)) ggX4_free_X0_set
set_option maxRecDepth 20000 in
theorem ggX4_free_X0_eliminate : GoodIn wsX4_free wsX0_eliminate := goodIn_r _ [95, 96, 46, 97, 98, 99, 100, 37, 101, 102, 61, 62, 26, 63, 59, 103, 104, 105, 106, 43, 107, 108, 70, 109, 110, 69, 71, 72, 111, 112, 113, 114, 115, 116, 84, 85, 86, 87, 28, 60, 68, 55, 56, 57, 58, 117, 136, 137, 138, 139, 140, 141, 142, 143, 134, 135] (by decide +kernel) (by decide +kernel)
set_option maxRecDepth 20000 in
theorem gX4_free_X0_eliminate : GoodIn wsX4_free (wsV RX4 148 RX0 yX0_eliminate wsX0_eliminate) := goodIn_app (goodIn_of _ (by decide +kernel)) ggX4_free_X0_eliminate
set_option maxRecDepth 20000 in
theorem ggX4_free_X0_freeUpTo : GoodIn wsX4_free wsX0_freeUpTo := goodIn_r _ [121, 97, 136, 137, 138, 139, 140, 141, 142, 143] (by decide +kernel) (by decide +kernel)
set_option maxRecDepth 20000 in
theorem gX4_free_X0_freeUpTo : GoodIn wsX4_free (wsV RX4 151 RX0 yX0_freeUpTo wsX0_freeUpTo) := goodIn_app (goodIn_of _ (by decide +kernel)) ggX4_free_X0_freeUpTo
theorem dX4_free_0 : decode cX4_free 0 = .ok (.aload_n 0, 1) := by decide +kernel
theorem dX4_free_1 : decode cX4_free 1 = .ok (.iload_n 1, 1) := by decide +kernel
theorem dX4_free_2 : decode cX4_free 2 = .ok (.invokevirtual 81, 3) := by decide +kernel
theorem dX4_free_5 : decode cX4_free 5 = .ok (.astore_n 3, 1) := by decide +kernel
theorem dX4_free_6 : decode cX4_free 6 = .ok (.aload_n 0, 1) := by decide +kernel
theorem dX4_free_7 : decode cX4_free 7 = .ok (.aload_n 3, 1) := by decide +kernel
theorem dX4_free_8 : decode cX4_free 8 = .ok (.invokevirtual 122, 3) := by decide +kernel
theorem dX4_free_11 : decode cX4_free 11 = .ok (.iload_n 2, 1) := by decide +kernel
theorem dX4_free_12 : decode cX4_free 12 = .ok (.invokestatic 125, 3) := by decide +kernel
theorem dX4_free_15 : decode cX4_free 15 = .ok (.aload_n 0, 1) := by decide +kernel
theorem dX4_free_16 : decode cX4_free 16 = .ok (.getfield 53, 3) := by decide +kernel
theorem dX4_free_19 : decode cX4_free 19 = .ok (.aload_n 3, 1) := by decide +kernel
theorem dX4_free_20 : decode cX4_free 20 = .ok (.aload_n 3, 1) := by decide +kernel
theorem dX4_free_21 : decode cX4_free 21 = .ok (.getfield 85, 3) := by decide +kernel
theorem dX4_free_24 : decode cX4_free 24 = .ok (.aload_n 0, 1) := by decide +kernel
theorem dX4_free_25 : decode cX4_free 25 = .ok (.getfield 14, 3) := by decide +kernel
theorem dX4_free_28 : decode cX4_free 28 = .ok (.aload_n 0, 1) := by decide +kernel
theorem dX4_free_29 : decode cX4_free 29 = .ok (.getfield 22, 3) := by decide +kernel
theorem dX4_free_32 : decode cX4_free 32 = .ok (.invokevirtual 144, 3) := by decide +kernel
theorem dX4_free_35 : decode cX4_free 35 = .ok (.aload_n 0, 1) := by decide +kernel
theorem dX4_free_36 : decode cX4_free 36 = .ok (.getfield 53, 3) := by decide +kernel
theorem dX4_free_39 : decode cX4_free 39 = .ok (.invokevirtual 148, 3) := by decide +kernel
theorem dX4_free_42 : decode cX4_free 42 = .ok (.aload_n 0, 1) := by decide +kernel
theorem dX4_free_43 : decode cX4_free 43 = .ok (.getfield 53, 3) := by decide +kernel
theorem dX4_free_46 : decode cX4_free 46 = .ok (.iload_n 2, 1) := by decide +kernel
theorem dX4_free_47 : decode cX4_free 47 = .ok (.invokevirtual 151, 3) := by decide +kernel
theorem dX4_free_50 : decode cX4_free 50 = .ok (.ireturn, 1) := by decide +kernel
set_option maxRecDepth 20000 in
theorem ggX4_degree_X4_known : GoodIn wsX4_degree wsX4_known := goodIn_ca (goodIn_r _ [6, 7, 8, 9, 19, 20, 21, 22, 23, 24, 25, 26, 27, 28] (by decide +kernel) (by decide +kernel)) (goodIn_sub (fun _ h => List.mem_cons_of_mem _ (List.mem_append_right _ h)) (by decide +kernel))
set_option maxRecDepth 20000 in
theorem gX4_degree_X4_known : GoodIn wsX4_degree (wsV RX4 81 RX4 yX4_known wsX4_known) := goodIn_app (goodIn_of _ (by decide +kernel)) ggX4_degree_X4_known
set_option maxRecDepth 20000 in
theorem ggX4_degree_X1_part : GoodIn wsX4_degree wsX1_part := goodIn_r _ [14, 15, 16, 29, 30] (by decide +kernel) (by decide +kernel)
set_option maxRecDepth 20000 in
theorem gX4_degree_X1_part : GoodIn wsX4_degree (wsV RX4 154 RX1 yX1_part wsX1_part) := goodIn_app (goodIn_of _ (by decide +kernel)) ggX4_degree_X1_part
theorem dX4_degree_0 : decode cX4_degree 0 = .ok (.aload_n 0, 1) := by decide +kernel
theorem dX4_degree_1 : decode cX4_degree 1 = .ok (.iload_n 1, 1) := by decide +kernel
theorem dX4_degree_2 : decode cX4_degree 2 = .ok (.invokevirtual 81, 3) := by decide +kernel
theorem dX4_degree_5 : decode cX4_degree 5 = .ok (.iload_n 2, 1) := by decide +kernel
theorem dX4_degree_6 : decode cX4_degree 6 = .ok (.invokevirtual 154, 3) := by decide +kernel
theorem dX4_degree_9 : decode cX4_degree 9 = .ok (.getfield 135, 3) := by decide +kernel
theorem dX4_degree_12 : decode cX4_degree 12 = .ok (.ireturn, 1) := by decide +kernel
set_option maxRecDepth 20000 in
theorem ggX4_at_X4_known : GoodIn wsX4_at wsX4_known := goodIn_ca (goodIn_r _ [5, 6, 7, 8, 22, 23, 24, 25, 26, 27, 28, 29, 30, 31] (by decide +kernel) (by decide +kernel)) (goodIn_sub (fun _ h => List.mem_cons_of_mem _ (List.mem_append_right _ h)) (by decide +kernel))
set_option maxRecDepth 20000 in
theorem gX4_at_X4_known : GoodIn wsX4_at (wsV RX4 81 RX4 yX4_known wsX4_known) := goodIn_app (goodIn_of _ (by decide +kernel)) ggX4_at_X4_known
set_option maxRecDepth 20000 in
theorem ggX4_at_X1_part : GoodIn wsX4_at wsX1_part := goodIn_r _ [13, 14, 15, 32, 33] (by decide +kernel) (by decide +kernel)
set_option maxRecDepth 20000 in
theorem gX4_at_X1_part : GoodIn wsX4_at (wsV RX4 154 RX1 yX1_part wsX1_part) := goodIn_app (goodIn_of _ (by decide +kernel)) ggX4_at_X1_part
set_option maxRecDepth 20000 in
theorem ggX4_at_X3_coefficient : GoodIn wsX4_at wsX3_coefficient := goodIn_r _ [20, 21, 34, 35] (by decide +kernel) (by decide +kernel)
set_option maxRecDepth 20000 in
theorem gX4_at_X3_coefficient : GoodIn wsX4_at (wsV RX4 70 RX3 yX3_coefficient wsX3_coefficient) := goodIn_app (goodIn_of _ (by decide +kernel)) ggX4_at_X3_coefficient
theorem dX4_at_0 : decode cX4_at 0 = .ok (.aload_n 0, 1) := by decide +kernel
theorem dX4_at_1 : decode cX4_at 1 = .ok (.iload_n 1, 1) := by decide +kernel
theorem dX4_at_2 : decode cX4_at 2 = .ok (.invokevirtual 81, 3) := by decide +kernel
theorem dX4_at_5 : decode cX4_at 5 = .ok (.iload_n 2, 1) := by decide +kernel
theorem dX4_at_6 : decode cX4_at 6 = .ok (.invokevirtual 154, 3) := by decide +kernel
theorem dX4_at_9 : decode cX4_at 9 = .ok (.iload_n 3, 1) := by decide +kernel
theorem dX4_at_10 : decode cX4_at 10 = .ok (.invokevirtual 70, 3) := by decide +kernel
theorem dX4_at_13 : decode cX4_at 13 = .ok (.ireturn, 1) := by decide +kernel
set_option maxRecDepth 20000 in
theorem ggX4_value_X4_known : GoodIn wsX4_value wsX4_known := goodIn_ca (goodIn_r _ [7, 8, 9, 10, 37, 38, 39, 40, 41, 42, 43, 44, 45, 46] (by decide +kernel) (by decide +kernel)) (goodIn_sub (fun _ h => List.mem_cons_of_mem _ (List.mem_append_right _ h)) (by decide +kernel))
set_option maxRecDepth 20000 in
theorem gX4_value_X4_known : GoodIn wsX4_value (wsV RX4 81 RX4 yX4_known wsX4_known) := goodIn_app (goodIn_of _ (by decide +kernel)) ggX4_value_X4_known
set_option maxRecDepth 20000 in
theorem ggX4_value_X2_reduced : GoodIn wsX4_value wsX2_reduced := goodIn_r _ [14, 15] (by decide +kernel) (by decide +kernel)
set_option maxRecDepth 20000 in
theorem gX4_value_X2_reduced : GoodIn wsX4_value (va_wsS RX4 64 yX2_reduced wsX2_reduced) := goodIn_app (goodIn_of _ (by decide +kernel)) ggX4_value_X2_reduced
set_option maxRecDepth 20000 in
theorem ggX4_value_X3_evaluate : GoodIn wsX4_value wsX3_evaluate := goodIn_r _ [20, 21, 22, 23, 24, 19, 25, 26, 27, 12, 13, 14, 15, 47, 48] (by decide +kernel) (by decide +kernel)
set_option maxRecDepth 20000 in
theorem gX4_value_X3_evaluate : GoodIn wsX4_value (wsV RX4 158 RX3 yX3_evaluate wsX3_evaluate) := goodIn_app (goodIn_of _ (by decide +kernel)) ggX4_value_X3_evaluate
set_option maxRecDepth 20000 in
theorem ggX4_value_X2_inverse : GoodIn wsX4_value wsX2_inverse := goodIn_r _ [30, 31, 12, 13, 14, 15] (by decide +kernel) (by decide +kernel)
set_option maxRecDepth 20000 in
theorem gX4_value_X2_inverse : GoodIn wsX4_value (va_wsS RX4 161 yX2_inverse wsX2_inverse) := goodIn_app (goodIn_of _ (by decide +kernel)) ggX4_value_X2_inverse
set_option maxRecDepth 20000 in
theorem ggX4_value_X2_product : GoodIn wsX4_value wsX2_product := goodIn_r _ [34, 31, 12, 13, 14, 15] (by decide +kernel) (by decide +kernel)
set_option maxRecDepth 20000 in
theorem gX4_value_X2_product : GoodIn wsX4_value (va_wsS RX4 164 yX2_product wsX2_product) := goodIn_app (goodIn_of _ (by decide +kernel)) ggX4_value_X2_product
theorem dX4_value_0 : decode cX4_value 0 = .ok (.aload_n 0, 1) := by decide +kernel
theorem dX4_value_1 : decode cX4_value 1 = .ok (.iload_n 1, 1) := by decide +kernel
theorem dX4_value_2 : decode cX4_value 2 = .ok (.invokevirtual 81, 3) := by decide +kernel
theorem dX4_value_5 : decode cX4_value 5 = .ok (.astore 4, 2) := by decide +kernel
theorem dX4_value_7 : decode cX4_value 7 = .ok (.lload_n 2, 1) := by decide +kernel
theorem dX4_value_8 : decode cX4_value 8 = .ok (.invokestatic 64, 3) := by decide +kernel
theorem dX4_value_11 : decode cX4_value 11 = .ok (.istore 5, 2) := by decide +kernel
theorem dX4_value_13 : decode cX4_value 13 = .ok (.aload 4, 2) := by decide +kernel
theorem dX4_value_15 : decode cX4_value 15 = .ok (.getfield 86, 3) := by decide +kernel
theorem dX4_value_18 : decode cX4_value 18 = .ok (.iload 5, 2) := by decide +kernel
theorem dX4_value_20 : decode cX4_value 20 = .ok (.invokevirtual 158, 3) := by decide +kernel
theorem dX4_value_23 : decode cX4_value 23 = .ok (.istore 6, 2) := by decide +kernel
theorem dX4_value_25 : decode cX4_value 25 = .ok (.iload 6, 2) := by decide +kernel
theorem dX4_value_27 : decode cX4_value 27 = .ok (.ifCond .ne 5, 3) := by decide +kernel
theorem dX4_value_30 : decode cX4_value 30 = .ok (.iconst (-1), 1) := by decide +kernel
theorem dX4_value_31 : decode cX4_value 31 = .ok (.ireturn, 1) := by decide +kernel
theorem dX4_value_32 : decode cX4_value 32 = .ok (.aload 4, 2) := by decide +kernel
theorem dX4_value_34 : decode cX4_value 34 = .ok (.getfield 85, 3) := by decide +kernel
theorem dX4_value_37 : decode cX4_value 37 = .ok (.iload 5, 2) := by decide +kernel
theorem dX4_value_39 : decode cX4_value 39 = .ok (.invokevirtual 158, 3) := by decide +kernel
theorem dX4_value_42 : decode cX4_value 42 = .ok (.iload 6, 2) := by decide +kernel
theorem dX4_value_44 : decode cX4_value 44 = .ok (.invokestatic 161, 3) := by decide +kernel
theorem dX4_value_47 : decode cX4_value 47 = .ok (.invokestatic 164, 3) := by decide +kernel
theorem dX4_value_50 : decode cX4_value 50 = .ok (.ireturn, 1) := by decide +kernel
set_option maxRecDepth 20000 in
theorem ggX4_same_X4_known : GoodIn wsX4_same wsX4_known := goodIn_ca (goodIn_r _ [7, 8, 9, 10, 24, 25, 26, 27, 28, 29, 30, 31, 32, 33] (by decide +kernel) (by decide +kernel)) (goodIn_sub (fun _ h => List.mem_cons_of_mem _ (List.mem_append_right _ h)) (by decide +kernel))
set_option maxRecDepth 20000 in
theorem gX4_same_X4_known : GoodIn wsX4_same (wsV RX4 81 RX4 yX4_known wsX4_known) := goodIn_app (goodIn_of _ (by decide +kernel)) ggX4_same_X4_known
set_option maxRecDepth 20000 in
theorem ggX4_same_X3_matches : GoodIn wsX4_same wsX3_matches := goodIn_r _ [15, 16, 17, 18, 19, 14, 20, 21, 34, 35] (by decide +kernel) (by decide +kernel)
set_option maxRecDepth 20000 in
theorem gX4_same_X3_matches : GoodIn wsX4_same (wsV RX4 118 RX3 yX3_matches wsX3_matches) := goodIn_app (goodIn_of _ (by decide +kernel)) ggX4_same_X3_matches
theorem dX4_same_0 : decode cX4_same 0 = .ok (.aload_n 0, 1) := by decide +kernel
theorem dX4_same_1 : decode cX4_same 1 = .ok (.iload_n 1, 1) := by decide +kernel
theorem dX4_same_2 : decode cX4_same 2 = .ok (.invokevirtual 81, 3) := by decide +kernel
theorem dX4_same_5 : decode cX4_same 5 = .ok (.astore_n 3, 1) := by decide +kernel
theorem dX4_same_6 : decode cX4_same 6 = .ok (.aload_n 0, 1) := by decide +kernel
theorem dX4_same_7 : decode cX4_same 7 = .ok (.iload_n 2, 1) := by decide +kernel
theorem dX4_same_8 : decode cX4_same 8 = .ok (.invokevirtual 81, 3) := by decide +kernel
theorem dX4_same_11 : decode cX4_same 11 = .ok (.astore 4, 2) := by decide +kernel
theorem dX4_same_13 : decode cX4_same 13 = .ok (.aload_n 3, 1) := by decide +kernel
theorem dX4_same_14 : decode cX4_same 14 = .ok (.getfield 85, 3) := by decide +kernel
theorem dX4_same_17 : decode cX4_same 17 = .ok (.aload 4, 2) := by decide +kernel
theorem dX4_same_19 : decode cX4_same 19 = .ok (.getfield 85, 3) := by decide +kernel
theorem dX4_same_22 : decode cX4_same 22 = .ok (.invokevirtual 118, 3) := by decide +kernel
theorem dX4_same_25 : decode cX4_same 25 = .ok (.ifCond .eq 22, 3) := by decide +kernel
theorem dX4_same_28 : decode cX4_same 28 = .ok (.aload_n 3, 1) := by decide +kernel
theorem dX4_same_29 : decode cX4_same 29 = .ok (.getfield 86, 3) := by decide +kernel
theorem dX4_same_32 : decode cX4_same 32 = .ok (.aload 4, 2) := by decide +kernel
theorem dX4_same_34 : decode cX4_same 34 = .ok (.getfield 86, 3) := by decide +kernel
theorem dX4_same_37 : decode cX4_same 37 = .ok (.invokevirtual 118, 3) := by decide +kernel
theorem dX4_same_40 : decode cX4_same 40 = .ok (.ifCond .eq 7, 3) := by decide +kernel
theorem dX4_same_43 : decode cX4_same 43 = .ok (.iconst 1, 1) := by decide +kernel
theorem dX4_same_44 : decode cX4_same 44 = .ok (.goto 4, 3) := by decide +kernel
theorem dX4_same_47 : decode cX4_same 47 = .ok (.iconst 0, 1) := by decide +kernel
theorem dX4_same_48 : decode cX4_same 48 = .ok (.ireturn, 1) := by decide +kernel
theorem dX4_count_0 : decode cX4_count 0 = .ok (.aload_n 0, 1) := by decide +kernel
theorem dX4_count_1 : decode cX4_count 1 = .ok (.getfield 31, 3) := by decide +kernel
theorem dX4_count_4 : decode cX4_count 4 = .ok (.ireturn, 1) := by decide +kernel
theorem dX4_known_0 : decode cX4_known 0 = .ok (.iload_n 1, 1) := by decide +kernel
theorem dX4_known_1 : decode cX4_known 1 = .ok (.ifCond .lt 21, 3) := by decide +kernel
theorem dX4_known_4 : decode cX4_known 4 = .ok (.iload_n 1, 1) := by decide +kernel
theorem dX4_known_5 : decode cX4_known 5 = .ok (.aload_n 0, 1) := by decide +kernel
theorem dX4_known_6 : decode cX4_known 6 = .ok (.getfield 27, 3) := by decide +kernel
theorem dX4_known_9 : decode cX4_known 9 = .ok (.arraylength, 1) := by decide +kernel
theorem dX4_known_10 : decode cX4_known 10 = .ok (.if_icmp .ge 12, 3) := by decide +kernel
theorem dX4_known_13 : decode cX4_known 13 = .ok (.aload_n 0, 1) := by decide +kernel
theorem dX4_known_14 : decode cX4_known 14 = .ok (.getfield 27, 3) := by decide +kernel
theorem dX4_known_17 : decode cX4_known 17 = .ok (.iload_n 1, 1) := by decide +kernel
theorem dX4_known_18 : decode cX4_known 18 = .ok (.aaload, 1) := by decide +kernel
theorem dX4_known_19 : decode cX4_known 19 = .ok (.goto 4, 3) := by decide +kernel
theorem dX4_known_22 : decode cX4_known 22 = .ok (.aconst_null, 1) := by decide +kernel
theorem dX4_known_23 : decode cX4_known 23 = .ok (.astore_n 2, 1) := by decide +kernel
theorem dX4_known_24 : decode cX4_known 24 = .ok (.aload_n 2, 1) := by decide +kernel
theorem dX4_known_25 : decode cX4_known 25 = .ok (.ifnonnull 13, 3) := by decide +kernel
theorem dX4_known_28 : decode cX4_known 28 = .ok (.new 167, 3) := by decide +kernel
theorem dX4_known_31 : decode cX4_known 31 = .ok (.dup, 1) := by decide +kernel
theorem dX4_known_32 : decode cX4_known 32 = .ok (.ldc 169, 2) := by decide +kernel
theorem dX4_known_34 : decode cX4_known 34 = .ok (.invokespecial 171, 3) := by decide +kernel
theorem dX4_known_37 : decode cX4_known 37 = .ok (.athrow, 1) := by decide +kernel
theorem dX4_known_38 : decode cX4_known 38 = .ok (.aload_n 2, 1) := by decide +kernel
theorem dX4_known_39 : decode cX4_known 39 = .ok (.areturn, 1) := by decide +kernel
theorem dX4_refuseWhenFull_0 : decode cX4_refuseWhenFull 0 = .ok (.aload_n 0, 1) := by decide +kernel
theorem dX4_refuseWhenFull_1 : decode cX4_refuseWhenFull 1 = .ok (.getfield 31, 3) := by decide +kernel
theorem dX4_refuseWhenFull_4 : decode cX4_refuseWhenFull 4 = .ok (.ifCond .lt 15, 3) := by decide +kernel
theorem dX4_refuseWhenFull_7 : decode cX4_refuseWhenFull 7 = .ok (.aload_n 0, 1) := by decide +kernel
theorem dX4_refuseWhenFull_8 : decode cX4_refuseWhenFull 8 = .ok (.getfield 31, 3) := by decide +kernel
theorem dX4_refuseWhenFull_11 : decode cX4_refuseWhenFull 11 = .ok (.aload_n 0, 1) := by decide +kernel
theorem dX4_refuseWhenFull_12 : decode cX4_refuseWhenFull 12 = .ok (.getfield 27, 3) := by decide +kernel
theorem dX4_refuseWhenFull_15 : decode cX4_refuseWhenFull 15 = .ok (.arraylength, 1) := by decide +kernel
theorem dX4_refuseWhenFull_16 : decode cX4_refuseWhenFull 16 = .ok (.if_icmp .lt 13, 3) := by decide +kernel
theorem dX4_refuseWhenFull_19 : decode cX4_refuseWhenFull 19 = .ok (.new 172, 3) := by decide +kernel
theorem dX4_refuseWhenFull_22 : decode cX4_refuseWhenFull 22 = .ok (.dup, 1) := by decide +kernel
theorem dX4_refuseWhenFull_23 : decode cX4_refuseWhenFull 23 = .ok (.ldc 174, 2) := by decide +kernel
theorem dX4_refuseWhenFull_25 : decode cX4_refuseWhenFull 25 = .ok (.invokespecial 176, 3) := by decide +kernel
theorem dX4_refuseWhenFull_28 : decode cX4_refuseWhenFull 28 = .ok (.athrow, 1) := by decide +kernel
theorem dX4_refuseWhenFull_29 : decode cX4_refuseWhenFull 29 = .ok (.return_, 1) := by decide +kernel
set_option maxRecDepth 20000 in
theorem ggX4_refuseZeroRatioBottom_X3_isZero : GoodIn wsX4_refuseZeroRatioBottom wsX3_isZero := goodIn_r _ [8, 9, 20, 21] (by decide +kernel) (by decide +kernel)
set_option maxRecDepth 20000 in
theorem gX4_refuseZeroRatioBottom_X3_isZero : GoodIn wsX4_refuseZeroRatioBottom (wsV RX4 95 RX3 yX3_isZero wsX3_isZero) := goodIn_app (goodIn_of _ (by decide +kernel)) ggX4_refuseZeroRatioBottom_X3_isZero
theorem dX4_refuseZeroRatioBottom_0 : decode cX4_refuseZeroRatioBottom 0 = .ok (.aload_n 0, 1) := by decide +kernel
theorem dX4_refuseZeroRatioBottom_1 : decode cX4_refuseZeroRatioBottom 1 = .ok (.getfield 22, 3) := by decide +kernel
theorem dX4_refuseZeroRatioBottom_4 : decode cX4_refuseZeroRatioBottom 4 = .ok (.invokevirtual 95, 3) := by decide +kernel
theorem dX4_refuseZeroRatioBottom_7 : decode cX4_refuseZeroRatioBottom 7 = .ok (.ifCond .eq 13, 3) := by decide +kernel
theorem dX4_refuseZeroRatioBottom_10 : decode cX4_refuseZeroRatioBottom 10 = .ok (.new 99, 3) := by decide +kernel
theorem dX4_refuseZeroRatioBottom_13 : decode cX4_refuseZeroRatioBottom 13 = .ok (.dup, 1) := by decide +kernel
theorem dX4_refuseZeroRatioBottom_14 : decode cX4_refuseZeroRatioBottom 14 = .ok (.ldc 177, 2) := by decide +kernel
theorem dX4_refuseZeroRatioBottom_16 : decode cX4_refuseZeroRatioBottom 16 = .ok (.invokespecial 103, 3) := by decide +kernel
theorem dX4_refuseZeroRatioBottom_19 : decode cX4_refuseZeroRatioBottom 19 = .ok (.athrow, 1) := by decide +kernel
theorem dX4_refuseZeroRatioBottom_20 : decode cX4_refuseZeroRatioBottom 20 = .ok (.return_, 1) := by decide +kernel
set_option maxRecDepth 20000 in
theorem ggX4_refuseZeroDivisors_X4_refuseZeroRatioBottom : GoodIn wsX4_refuseZeroDivisors wsX4_refuseZeroRatioBottom := goodIn_ca (goodIn_r _ [8, 1, 2, 9, 10, 11, 12, 13, 14, 15, 18, 19, 20, 21, 22, 23, 24, 25, 26, 27, 28, 29] (by decide +kernel) (by decide +kernel)) (goodIn_sub (fun _ h => List.mem_cons_of_mem _ (List.mem_append_right _ h)) (by decide +kernel))
set_option maxRecDepth 20000 in
theorem gX4_refuseZeroDivisors_X4_refuseZeroRatioBottom : GoodIn wsX4_refuseZeroDivisors (wsV RX4 111 RX4 yX4_refuseZeroRatioBottom wsX4_refuseZeroRatioBottom) := goodIn_app (goodIn_of _ (by decide +kernel)) ggX4_refuseZeroDivisors_X4_refuseZeroRatioBottom
set_option maxRecDepth 20000 in
theorem ggX4_refuseZeroDivisors_X3_isZero : GoodIn wsX4_refuseZeroDivisors wsX3_isZero := goodIn_r _ [14, 15, 28, 29] (by decide +kernel) (by decide +kernel)
set_option maxRecDepth 20000 in
theorem gX4_refuseZeroDivisors_X3_isZero : GoodIn wsX4_refuseZeroDivisors (wsV RX4 95 RX3 yX3_isZero wsX3_isZero) := goodIn_app (goodIn_of _ (by decide +kernel)) ggX4_refuseZeroDivisors_X3_isZero
theorem dX4_refuseZeroDivisors_0 : decode cX4_refuseZeroDivisors 0 = .ok (.aload_n 0, 1) := by decide +kernel
theorem dX4_refuseZeroDivisors_1 : decode cX4_refuseZeroDivisors 1 = .ok (.invokevirtual 111, 3) := by decide +kernel
theorem dX4_refuseZeroDivisors_4 : decode cX4_refuseZeroDivisors 4 = .ok (.aload_n 1, 1) := by decide +kernel
theorem dX4_refuseZeroDivisors_5 : decode cX4_refuseZeroDivisors 5 = .ok (.getfield 85, 3) := by decide +kernel
theorem dX4_refuseZeroDivisors_8 : decode cX4_refuseZeroDivisors 8 = .ok (.invokevirtual 95, 3) := by decide +kernel
theorem dX4_refuseZeroDivisors_11 : decode cX4_refuseZeroDivisors 11 = .ok (.ifCond .eq 13, 3) := by decide +kernel
theorem dX4_refuseZeroDivisors_14 : decode cX4_refuseZeroDivisors 14 = .ok (.new 99, 3) := by decide +kernel
theorem dX4_refuseZeroDivisors_17 : decode cX4_refuseZeroDivisors 17 = .ok (.dup, 1) := by decide +kernel
theorem dX4_refuseZeroDivisors_18 : decode cX4_refuseZeroDivisors 18 = .ok (.ldc 179, 2) := by decide +kernel
theorem dX4_refuseZeroDivisors_20 : decode cX4_refuseZeroDivisors 20 = .ok (.invokespecial 103, 3) := by decide +kernel
theorem dX4_refuseZeroDivisors_23 : decode cX4_refuseZeroDivisors 23 = .ok (.athrow, 1) := by decide +kernel
theorem dX4_refuseZeroDivisors_24 : decode cX4_refuseZeroDivisors 24 = .ok (.return_, 1) := by decide +kernel
theorem dX4_refuseWrongBound_0 : decode cX4_refuseWrongBound 0 = .ok (.iload_n 0, 1) := by decide +kernel
theorem dX4_refuseWrongBound_1 : decode cX4_refuseWrongBound 1 = .ok (.ifCond .lt 9, 3) := by decide +kernel
theorem dX4_refuseWrongBound_4 : decode cX4_refuseWrongBound 4 = .ok (.iload_n 0, 1) := by decide +kernel
theorem dX4_refuseWrongBound_5 : decode cX4_refuseWrongBound 5 = .ok (.bipush 8, 2) := by decide +kernel
theorem dX4_refuseWrongBound_7 : decode cX4_refuseWrongBound 7 = .ok (.if_icmp .le 13, 3) := by decide +kernel
theorem dX4_refuseWrongBound_10 : decode cX4_refuseWrongBound 10 = .ok (.new 57, 3) := by decide +kernel
theorem dX4_refuseWrongBound_13 : decode cX4_refuseWrongBound 13 = .ok (.dup, 1) := by decide +kernel
theorem dX4_refuseWrongBound_14 : decode cX4_refuseWrongBound 14 = .ok (.ldc 181, 2) := by decide +kernel
theorem dX4_refuseWrongBound_16 : decode cX4_refuseWrongBound 16 = .ok (.invokespecial 61, 3) := by decide +kernel
theorem dX4_refuseWrongBound_19 : decode cX4_refuseWrongBound 19 = .ok (.athrow, 1) := by decide +kernel
theorem dX4_refuseWrongBound_20 : decode cX4_refuseWrongBound 20 = .ok (.return_, 1) := by decide +kernel
set_option maxRecDepth 20000 in
theorem ggX4_setToStep_X3_copy : GoodIn wsX4_setToStep wsX3_copy := goodIn_r _ [13, 14, 15, 16, 17, 12, 18, 19, 20, 21, 22, 23, 24, 25, 26, 27, 64, 65] (by decide +kernel) (by decide +kernel)
set_option maxRecDepth 20000 in
theorem gX4_setToStep_X3_copy : GoodIn wsX4_setToStep (wsV RX4 104 RX3 yX3_copy wsX3_copy) := goodIn_app (goodIn_of _ (by decide +kernel)) ggX4_setToStep_X3_copy
set_option maxRecDepth 20000 in
theorem ggX4_setToStep_X3_moveByOne : GoodIn wsX4_setToStep wsX3_moveByOne := goodIn_r _ [31, 14, 24, 25, 26, 12, 27, 23, 32, 33, 34, 35, 36, 19, 20, 21, 22, 64, 65] (by decide +kernel) (by decide +kernel)
set_option maxRecDepth 20000 in
theorem gX4_setToStep_X3_moveByOne : GoodIn wsX4_setToStep (wsV RX4 108 RX3 yX3_moveByOne wsX3_moveByOne) := goodIn_app (goodIn_of _ (by decide +kernel)) ggX4_setToStep_X3_moveByOne
set_option maxRecDepth 20000 in
theorem ggX4_setToStep_X3_setProduct : GoodIn wsX4_setToStep wsX3_setProduct := goodIn_r _ [40, 14, 41, 42, 43, 44, 45, 46, 47, 15, 16, 17, 12, 18, 19, 20, 21, 22, 23, 24, 25, 26, 27, 32, 33, 34, 35, 36, 64, 65] (by decide +kernel) (by decide +kernel)
set_option maxRecDepth 20000 in
theorem gX4_setToStep_X3_setProduct : GoodIn wsX4_setToStep (wsV RX4 87 RX3 yX3_setProduct wsX3_setProduct) := goodIn_app (goodIn_of _ (by decide +kernel)) ggX4_setToStep_X3_setProduct
set_option maxRecDepth 20000 in
theorem ggX4_setToStep_X3_gather : GoodIn wsX4_setToStep wsX3_gather := goodIn_r _ [51, 14, 24, 25, 26, 12, 27, 23, 32, 33, 34, 35, 36, 19, 20, 21, 22, 64, 65] (by decide +kernel) (by decide +kernel)
set_option maxRecDepth 20000 in
theorem gX4_setToStep_X3_gather : GoodIn wsX4_setToStep (wsV RX4 91 RX3 yX3_gather wsX3_gather) := goodIn_app (goodIn_of _ (by decide +kernel)) ggX4_setToStep_X3_gather
theorem dX4_setToStep_0 : decode cX4_setToStep 0 = .ok (.aload_n 0, 1) := by decide +kernel
theorem dX4_setToStep_1 : decode cX4_setToStep 1 = .ok (.getfield 41, 3) := by decide +kernel
theorem dX4_setToStep_4 : decode cX4_setToStep 4 = .ok (.aload_n 1, 1) := by decide +kernel
theorem dX4_setToStep_5 : decode cX4_setToStep 5 = .ok (.getfield 85, 3) := by decide +kernel
theorem dX4_setToStep_8 : decode cX4_setToStep 8 = .ok (.invokevirtual 104, 3) := by decide +kernel
theorem dX4_setToStep_11 : decode cX4_setToStep 11 = .ok (.aload_n 0, 1) := by decide +kernel
theorem dX4_setToStep_12 : decode cX4_setToStep 12 = .ok (.getfield 41, 3) := by decide +kernel
theorem dX4_setToStep_15 : decode cX4_setToStep 15 = .ok (.invokevirtual 108, 3) := by decide +kernel
theorem dX4_setToStep_18 : decode cX4_setToStep 18 = .ok (.aload_n 0, 1) := by decide +kernel
theorem dX4_setToStep_19 : decode cX4_setToStep 19 = .ok (.getfield 44, 3) := by decide +kernel
theorem dX4_setToStep_22 : decode cX4_setToStep 22 = .ok (.aload_n 0, 1) := by decide +kernel
theorem dX4_setToStep_23 : decode cX4_setToStep 23 = .ok (.getfield 41, 3) := by decide +kernel
theorem dX4_setToStep_26 : decode cX4_setToStep 26 = .ok (.aload_n 0, 1) := by decide +kernel
theorem dX4_setToStep_27 : decode cX4_setToStep 27 = .ok (.getfield 14, 3) := by decide +kernel
theorem dX4_setToStep_30 : decode cX4_setToStep 30 = .ok (.invokevirtual 87, 3) := by decide +kernel
theorem dX4_setToStep_33 : decode cX4_setToStep 33 = .ok (.aload_n 0, 1) := by decide +kernel
theorem dX4_setToStep_34 : decode cX4_setToStep 34 = .ok (.getfield 35, 3) := by decide +kernel
theorem dX4_setToStep_37 : decode cX4_setToStep 37 = .ok (.aload_n 0, 1) := by decide +kernel
theorem dX4_setToStep_38 : decode cX4_setToStep 38 = .ok (.getfield 44, 3) := by decide +kernel
theorem dX4_setToStep_41 : decode cX4_setToStep 41 = .ok (.aload_n 1, 1) := by decide +kernel
theorem dX4_setToStep_42 : decode cX4_setToStep 42 = .ok (.getfield 86, 3) := by decide +kernel
theorem dX4_setToStep_45 : decode cX4_setToStep 45 = .ok (.invokevirtual 87, 3) := by decide +kernel
theorem dX4_setToStep_48 : decode cX4_setToStep 48 = .ok (.aload_n 0, 1) := by decide +kernel
theorem dX4_setToStep_49 : decode cX4_setToStep 49 = .ok (.getfield 41, 3) := by decide +kernel
theorem dX4_setToStep_52 : decode cX4_setToStep 52 = .ok (.aload_n 1, 1) := by decide +kernel
theorem dX4_setToStep_53 : decode cX4_setToStep 53 = .ok (.getfield 86, 3) := by decide +kernel
theorem dX4_setToStep_56 : decode cX4_setToStep 56 = .ok (.invokevirtual 104, 3) := by decide +kernel
theorem dX4_setToStep_59 : decode cX4_setToStep 59 = .ok (.aload_n 0, 1) := by decide +kernel
theorem dX4_setToStep_60 : decode cX4_setToStep 60 = .ok (.getfield 41, 3) := by decide +kernel
theorem dX4_setToStep_63 : decode cX4_setToStep 63 = .ok (.invokevirtual 108, 3) := by decide +kernel
theorem dX4_setToStep_66 : decode cX4_setToStep 66 = .ok (.aload_n 0, 1) := by decide +kernel
theorem dX4_setToStep_67 : decode cX4_setToStep 67 = .ok (.getfield 44, 3) := by decide +kernel
theorem dX4_setToStep_70 : decode cX4_setToStep 70 = .ok (.aload_n 0, 1) := by decide +kernel
theorem dX4_setToStep_71 : decode cX4_setToStep 71 = .ok (.getfield 41, 3) := by decide +kernel
theorem dX4_setToStep_74 : decode cX4_setToStep 74 = .ok (.aload_n 0, 1) := by decide +kernel
theorem dX4_setToStep_75 : decode cX4_setToStep 75 = .ok (.getfield 22, 3) := by decide +kernel
theorem dX4_setToStep_78 : decode cX4_setToStep 78 = .ok (.invokevirtual 87, 3) := by decide +kernel
theorem dX4_setToStep_81 : decode cX4_setToStep 81 = .ok (.aload_n 0, 1) := by decide +kernel
theorem dX4_setToStep_82 : decode cX4_setToStep 82 = .ok (.getfield 38, 3) := by decide +kernel
theorem dX4_setToStep_85 : decode cX4_setToStep 85 = .ok (.aload_n 0, 1) := by decide +kernel
theorem dX4_setToStep_86 : decode cX4_setToStep 86 = .ok (.getfield 44, 3) := by decide +kernel
theorem dX4_setToStep_89 : decode cX4_setToStep 89 = .ok (.aload_n 1, 1) := by decide +kernel
theorem dX4_setToStep_90 : decode cX4_setToStep 90 = .ok (.getfield 86, 3) := by decide +kernel
theorem dX4_setToStep_93 : decode cX4_setToStep 93 = .ok (.invokevirtual 87, 3) := by decide +kernel
theorem dX4_setToStep_96 : decode cX4_setToStep 96 = .ok (.aload_n 0, 1) := by decide +kernel
theorem dX4_setToStep_97 : decode cX4_setToStep 97 = .ok (.getfield 41, 3) := by decide +kernel
theorem dX4_setToStep_100 : decode cX4_setToStep 100 = .ok (.aload_n 0, 1) := by decide +kernel
theorem dX4_setToStep_101 : decode cX4_setToStep 101 = .ok (.getfield 44, 3) := by decide +kernel
theorem dX4_setToStep_104 : decode cX4_setToStep 104 = .ok (.aload_n 1, 1) := by decide +kernel
theorem dX4_setToStep_105 : decode cX4_setToStep 105 = .ok (.getfield 85, 3) := by decide +kernel
theorem dX4_setToStep_108 : decode cX4_setToStep 108 = .ok (.invokevirtual 87, 3) := by decide +kernel
theorem dX4_setToStep_111 : decode cX4_setToStep 111 = .ok (.aload_n 0, 1) := by decide +kernel
theorem dX4_setToStep_112 : decode cX4_setToStep 112 = .ok (.getfield 35, 3) := by decide +kernel
theorem dX4_setToStep_115 : decode cX4_setToStep 115 = .ok (.aload_n 0, 1) := by decide +kernel
theorem dX4_setToStep_116 : decode cX4_setToStep 116 = .ok (.getfield 41, 3) := by decide +kernel
theorem dX4_setToStep_119 : decode cX4_setToStep 119 = .ok (.sipush 32002, 3) := by decide +kernel
theorem dX4_setToStep_122 : decode cX4_setToStep 122 = .ok (.iconst 0, 1) := by decide +kernel
theorem dX4_setToStep_123 : decode cX4_setToStep 123 = .ok (.invokevirtual 91, 3) := by decide +kernel
theorem dX4_setToStep_126 : decode cX4_setToStep 126 = .ok (.return_, 1) := by decide +kernel
set_option maxRecDepth 20000 in
theorem ggX4_findPlain_X0_set : GoodIn wsX4_findPlain wsX0_set := goodIn_r _ [10, 11, 12, 13, 14, 15, 16, 17, 18, 19, 20, 21, 22, 23, 24, 25, 26, 27, 28, 29, 30, 31, 32, 33, 34, 35, 36, 37, 38, 39, 40, 41, 42, 43, 44, 45, 46, 47, 48, 49, 50, 51, 52, 53, 54, 55, 56, 57, 58, 59, 60, 61, 62, 63, 64, 65, 113, 114, 115, 116, 117, 118, 119, 120, 111, 112, 121, 122] (by decide +kernel) (by decide +kernel)
set_option maxRecDepth 20000 in
theorem gX4_findPlain_X0_set : GoodIn wsX4_findPlain (wsV RX4 144 RX0 yX0_set wsX0_set) := goodIn_app (goodIn_of _ (by decide +kernel)) ggX4_findPlain_X0_set
set_option maxRecDepth 20000 in
theorem ggX4_findPlain_X0_eliminate : GoodIn wsX4_findPlain wsX0_eliminate := goodIn_r _ [69, 70, 18, 71, 72, 73, 74, 9, 75, 76, 35, 36, 22, 37, 33, 77, 78, 79, 80, 15, 81, 82, 44, 83, 84, 43, 45, 46, 85, 86, 87, 88, 89, 90, 58, 59, 60, 61, 24, 34, 42, 29, 30, 31, 32, 91, 113, 114, 115, 116, 117, 118, 119, 120, 121, 122] (by decide +kernel) (by decide +kernel)
set_option maxRecDepth 20000 in
theorem gX4_findPlain_X0_eliminate : GoodIn wsX4_findPlain (wsV RX4 148 RX0 yX0_eliminate wsX0_eliminate) := goodIn_app (goodIn_of _ (by decide +kernel)) ggX4_findPlain_X0_eliminate
set_option maxRecDepth 20000 in
theorem ggX4_findPlain_X0_areSolvable : GoodIn wsX4_findPlain wsX0_areSolvable := goodIn_r _ [95, 15, 72, 73, 74, 9, 75, 70, 76, 35, 36, 22, 37, 33, 113, 114, 115, 116, 117, 118, 119, 120, 121, 122] (by decide +kernel) (by decide +kernel)
set_option maxRecDepth 20000 in
theorem gX4_findPlain_X0_areSolvable : GoodIn wsX4_findPlain (wsV RX4 183 RX0 yX0_areSolvable wsX0_areSolvable) := goodIn_app (goodIn_of _ (by decide +kernel)) ggX4_findPlain_X0_areSolvable
set_option maxRecDepth 20000 in
theorem ggX4_findPlain_X0_writeSolution : GoodIn wsX4_findPlain wsX0_writeSolution := goodIn_r _ [99, 71, 15, 100, 26, 27, 22, 28, 24, 29, 30, 31, 32, 33, 76, 35, 36, 37, 91, 113, 114, 115, 116, 117, 118, 119, 120, 121, 122] (by decide +kernel) (by decide +kernel)
set_option maxRecDepth 20000 in
theorem gX4_findPlain_X0_writeSolution : GoodIn wsX4_findPlain (wsV RX4 186 RX0 yX0_writeSolution wsX0_writeSolution) := goodIn_app (goodIn_of _ (by decide +kernel)) ggX4_findPlain_X0_writeSolution
theorem dX4_findPlain_0 : decode cX4_findPlain 0 = .ok (.aload_n 0, 1) := by decide +kernel
theorem dX4_findPlain_1 : decode cX4_findPlain 1 = .ok (.getfield 53, 3) := by decide +kernel
theorem dX4_findPlain_4 : decode cX4_findPlain 4 = .ok (.aload_n 1, 1) := by decide +kernel
theorem dX4_findPlain_5 : decode cX4_findPlain 5 = .ok (.aload_n 2, 1) := by decide +kernel
theorem dX4_findPlain_6 : decode cX4_findPlain 6 = .ok (.getfield 85, 3) := by decide +kernel
theorem dX4_findPlain_9 : decode cX4_findPlain 9 = .ok (.aload_n 0, 1) := by decide +kernel
theorem dX4_findPlain_10 : decode cX4_findPlain 10 = .ok (.getfield 14, 3) := by decide +kernel
theorem dX4_findPlain_13 : decode cX4_findPlain 13 = .ok (.aload_n 0, 1) := by decide +kernel
theorem dX4_findPlain_14 : decode cX4_findPlain 14 = .ok (.getfield 22, 3) := by decide +kernel
theorem dX4_findPlain_17 : decode cX4_findPlain 17 = .ok (.invokevirtual 144, 3) := by decide +kernel
theorem dX4_findPlain_20 : decode cX4_findPlain 20 = .ok (.aload_n 0, 1) := by decide +kernel
theorem dX4_findPlain_21 : decode cX4_findPlain 21 = .ok (.getfield 53, 3) := by decide +kernel
theorem dX4_findPlain_24 : decode cX4_findPlain 24 = .ok (.invokevirtual 148, 3) := by decide +kernel
theorem dX4_findPlain_27 : decode cX4_findPlain 27 = .ok (.aload_n 0, 1) := by decide +kernel
theorem dX4_findPlain_28 : decode cX4_findPlain 28 = .ok (.getfield 53, 3) := by decide +kernel
theorem dX4_findPlain_31 : decode cX4_findPlain 31 = .ok (.invokevirtual 183, 3) := by decide +kernel
theorem dX4_findPlain_34 : decode cX4_findPlain 34 = .ok (.ifCond .ne 5, 3) := by decide +kernel
theorem dX4_findPlain_37 : decode cX4_findPlain 37 = .ok (.iconst 0, 1) := by decide +kernel
theorem dX4_findPlain_38 : decode cX4_findPlain 38 = .ok (.ireturn, 1) := by decide +kernel
theorem dX4_findPlain_39 : decode cX4_findPlain 39 = .ok (.aload_n 0, 1) := by decide +kernel
theorem dX4_findPlain_40 : decode cX4_findPlain 40 = .ok (.getfield 53, 3) := by decide +kernel
theorem dX4_findPlain_43 : decode cX4_findPlain 43 = .ok (.aload_n 0, 1) := by decide +kernel
theorem dX4_findPlain_44 : decode cX4_findPlain 44 = .ok (.getfield 35, 3) := by decide +kernel
theorem dX4_findPlain_47 : decode cX4_findPlain 47 = .ok (.invokevirtual 186, 3) := by decide +kernel
theorem dX4_findPlain_50 : decode cX4_findPlain 50 = .ok (.iconst 1, 1) := by decide +kernel
theorem dX4_findPlain_51 : decode cX4_findPlain 51 = .ok (.ireturn, 1) := by decide +kernel
set_option maxRecDepth 20000 in
theorem ggX4_keepResult_X4_refuseWhenFull : GoodIn wsX4_keepResult wsX4_refuseWhenFull := goodIn_ca (goodIn_r _ [15, 1, 2, 6, 7, 100, 101, 102, 103, 104, 105, 106, 107, 108, 109] (by decide +kernel) (by decide +kernel)) (goodIn_sub (fun _ h => List.mem_cons_of_mem _ (List.mem_append_right _ h)) (by decide +kernel))
set_option maxRecDepth 20000 in
theorem gX4_keepResult_X4_refuseWhenFull : GoodIn wsX4_keepResult (wsV RX4 128 RX4 yX4_refuseWhenFull wsX4_refuseWhenFull) := goodIn_app (goodIn_of _ (by decide +kernel)) ggX4_keepResult_X4_refuseWhenFull
set_option maxRecDepth 20000 in
theorem ggX4_keepResult_X4_toLowestTerms : GoodIn wsX4_keepResult wsX4_toLowestTerms := goodIn_r _ [19, 20, 3, 21, 5, 22, 23, 24, 25, 26, 27, 28, 29, 30, 31, 32, 33, 34, 35, 36, 37, 38, 39, 40, 41, 42, 43, 14, 44, 45, 46, 47, 48, 49, 50, 51, 52, 53, 54, 55, 56, 57, 58, 59, 60, 61, 62, 63, 64, 65, 66, 67, 68, 69, 70, 71, 72, 73, 74, 75, 76, 77, 78, 79, 100, 101, 102, 103, 104, 105, 106, 107, 108, 109, 110, 111] (by decide +kernel) (by decide +kernel)
set_option maxRecDepth 20000 in
theorem gX4_keepResult_X4_toLowestTerms : GoodIn wsX4_keepResult (wsV RX4 189 RX4 yX4_toLowestTerms wsX4_toLowestTerms) := goodIn_app (goodIn_of _ (by decide +kernel)) ggX4_keepResult_X4_toLowestTerms
set_option maxRecDepth 20000 in
theorem ggX4_keepResult_X1_init : GoodIn wsX4_keepResult wsX1_init := goodIn_r _ [82, 83, 84, 85, 86, 87, 26, 88, 89, 90, 91, 92, 93, 28, 94, 95, 96, 97, 98, 37, 99, 24, 25, 27, 29, 30, 31, 32, 33, 34, 35, 36, 38, 39, 40, 41, 110, 111, 112, 113] (by decide +kernel) (by decide +kernel)
set_option maxRecDepth 20000 in
theorem gX4_keepResult_X1_init : GoodIn wsX4_keepResult (wsX1_init) := ggX4_keepResult_X1_init
theorem dX4_keepResult_0 : decode cX4_keepResult 0 = .ok (.aload_n 0, 1) := by decide +kernel
theorem dX4_keepResult_1 : decode cX4_keepResult 1 = .ok (.invokevirtual 128, 3) := by decide +kernel
theorem dX4_keepResult_4 : decode cX4_keepResult 4 = .ok (.aload_n 0, 1) := by decide +kernel
theorem dX4_keepResult_5 : decode cX4_keepResult 5 = .ok (.invokevirtual 189, 3) := by decide +kernel
theorem dX4_keepResult_8 : decode cX4_keepResult 8 = .ok (.aload_n 0, 1) := by decide +kernel
theorem dX4_keepResult_9 : decode cX4_keepResult 9 = .ok (.getfield 35, 3) := by decide +kernel
theorem dX4_keepResult_12 : decode cX4_keepResult 12 = .ok (.getfield 135, 3) := by decide +kernel
theorem dX4_keepResult_15 : decode cX4_keepResult 15 = .ok (.bipush 20, 2) := by decide +kernel
theorem dX4_keepResult_17 : decode cX4_keepResult 17 = .ok (.if_icmp .gt 15, 3) := by decide +kernel
theorem dX4_keepResult_20 : decode cX4_keepResult 20 = .ok (.aload_n 0, 1) := by decide +kernel
theorem dX4_keepResult_21 : decode cX4_keepResult 21 = .ok (.getfield 38, 3) := by decide +kernel
theorem dX4_keepResult_24 : decode cX4_keepResult 24 = .ok (.getfield 135, 3) := by decide +kernel
theorem dX4_keepResult_27 : decode cX4_keepResult 27 = .ok (.bipush 20, 2) := by decide +kernel
theorem dX4_keepResult_29 : decode cX4_keepResult 29 = .ok (.if_icmp .le 13, 3) := by decide +kernel
theorem dX4_keepResult_32 : decode cX4_keepResult 32 = .ok (.new 172, 3) := by decide +kernel
theorem dX4_keepResult_35 : decode cX4_keepResult 35 = .ok (.dup, 1) := by decide +kernel
theorem dX4_keepResult_36 : decode cX4_keepResult 36 = .ok (.ldc 192, 2) := by decide +kernel
theorem dX4_keepResult_38 : decode cX4_keepResult 38 = .ok (.invokespecial 176, 3) := by decide +kernel
theorem dX4_keepResult_41 : decode cX4_keepResult 41 = .ok (.athrow, 1) := by decide +kernel
theorem dX4_keepResult_42 : decode cX4_keepResult 42 = .ok (.aload_n 0, 1) := by decide +kernel
theorem dX4_keepResult_43 : decode cX4_keepResult 43 = .ok (.getfield 31, 3) := by decide +kernel
theorem dX4_keepResult_46 : decode cX4_keepResult 46 = .ok (.istore_n 1, 1) := by decide +kernel
theorem dX4_keepResult_47 : decode cX4_keepResult 47 = .ok (.aload_n 0, 1) := by decide +kernel
theorem dX4_keepResult_48 : decode cX4_keepResult 48 = .ok (.getfield 27, 3) := by decide +kernel
theorem dX4_keepResult_51 : decode cX4_keepResult 51 = .ok (.iload_n 1, 1) := by decide +kernel
theorem dX4_keepResult_52 : decode cX4_keepResult 52 = .ok (.new 25, 3) := by decide +kernel
theorem dX4_keepResult_55 : decode cX4_keepResult 55 = .ok (.dup, 1) := by decide +kernel
theorem dX4_keepResult_56 : decode cX4_keepResult 56 = .ok (.aload_n 0, 1) := by decide +kernel
theorem dX4_keepResult_57 : decode cX4_keepResult 57 = .ok (.getfield 35, 3) := by decide +kernel
theorem dX4_keepResult_60 : decode cX4_keepResult 60 = .ok (.aload_n 0, 1) := by decide +kernel
theorem dX4_keepResult_61 : decode cX4_keepResult 61 = .ok (.getfield 38, 3) := by decide +kernel
theorem dX4_keepResult_64 : decode cX4_keepResult 64 = .ok (.invokespecial 194, 3) := by decide +kernel
theorem dX4_keepResult_67 : decode cX4_keepResult 67 = .ok (.aastore, 1) := by decide +kernel
theorem dX4_keepResult_68 : decode cX4_keepResult 68 = .ok (.aload_n 0, 1) := by decide +kernel
theorem dX4_keepResult_69 : decode cX4_keepResult 69 = .ok (.dup, 1) := by decide +kernel
theorem dX4_keepResult_70 : decode cX4_keepResult 70 = .ok (.getfield 31, 3) := by decide +kernel
theorem dX4_keepResult_73 : decode cX4_keepResult 73 = .ok (.iconst 1, 1) := by decide +kernel
theorem dX4_keepResult_74 : decode cX4_keepResult 74 = .ok (.iadd, 1) := by decide +kernel
theorem dX4_keepResult_75 : decode cX4_keepResult 75 = .ok (.putfield 31, 3) := by decide +kernel
theorem dX4_keepResult_78 : decode cX4_keepResult 78 = .ok (.iload_n 1, 1) := by decide +kernel
theorem dX4_keepResult_79 : decode cX4_keepResult 79 = .ok (.ireturn, 1) := by decide +kernel
set_option maxRecDepth 20000 in
theorem ggX4_toLowestTerms_X3_copy : GoodIn wsX4_toLowestTerms wsX3_copy := goodIn_r _ [10, 11, 12, 13, 14, 9, 15, 16, 17, 18, 19, 20, 21, 22, 23, 24, 74, 75] (by decide +kernel) (by decide +kernel)
set_option maxRecDepth 20000 in
theorem gX4_toLowestTerms_X3_copy : GoodIn wsX4_toLowestTerms (wsV RX4 104 RX3 yX3_copy wsX3_copy) := goodIn_app (goodIn_of _ (by decide +kernel)) ggX4_toLowestTerms_X3_copy
set_option maxRecDepth 20000 in
theorem ggX4_toLowestTerms_X4_greatestDivisor : GoodIn wsX4_toLowestTerms wsX4_greatestDivisor := goodIn_r _ [28, 29, 30, 31, 9, 32, 11, 33, 34, 35, 36, 12, 13, 14, 15, 16, 17, 18, 19, 20, 37, 38, 39, 40, 41, 21, 22, 23, 24, 42, 43, 44, 45, 46, 47, 48, 49, 50, 51, 52, 53, 54, 55, 56, 57, 74, 75] (by decide +kernel) (by decide +kernel)
set_option maxRecDepth 20000 in
theorem gX4_toLowestTerms_X4_greatestDivisor : GoodIn wsX4_toLowestTerms (va_wsS RX4 196 yX4_greatestDivisor wsX4_greatestDivisor) := goodIn_app (goodIn_of _ (by decide +kernel)) ggX4_toLowestTerms_X4_greatestDivisor
set_option maxRecDepth 20000 in
theorem ggX4_toLowestTerms_X3_divide : GoodIn wsX4_toLowestTerms wsX3_divide := goodIn_r _ [36, 11, 12, 13, 14, 9, 15, 16, 17, 18, 19, 20, 37, 30, 31, 32, 38, 39, 40, 41, 21, 22, 23, 24, 42, 43, 44, 45, 46, 47, 48, 49, 50, 51, 52, 53, 54, 55, 56, 57, 74, 75] (by decide +kernel) (by decide +kernel)
set_option maxRecDepth 20000 in
theorem gX4_toLowestTerms_X3_divide : GoodIn wsX4_toLowestTerms (wsV RX4 200 RX3 yX3_divide wsX3_divide) := goodIn_app (goodIn_of _ (by decide +kernel)) ggX4_toLowestTerms_X3_divide
set_option maxRecDepth 20000 in
theorem ggX4_toLowestTerms_X3_leading : GoodIn wsX4_toLowestTerms wsX3_leading := goodIn_r _ [41, 11, 21, 22, 23, 9, 24, 20, 74, 75] (by decide +kernel) (by decide +kernel)
set_option maxRecDepth 20000 in
theorem gX4_toLowestTerms_X3_leading : GoodIn wsX4_toLowestTerms (wsV RX4 203 RX3 yX3_leading wsX3_leading) := goodIn_app (goodIn_of _ (by decide +kernel)) ggX4_toLowestTerms_X3_leading
set_option maxRecDepth 20000 in
theorem ggX4_toLowestTerms_X2_inverse : GoodIn wsX4_toLowestTerms wsX2_inverse := goodIn_r _ [45, 46, 47, 44, 48, 49] (by decide +kernel) (by decide +kernel)
set_option maxRecDepth 20000 in
theorem gX4_toLowestTerms_X2_inverse : GoodIn wsX4_toLowestTerms (va_wsS RX4 161 yX2_inverse wsX2_inverse) := goodIn_app (goodIn_of _ (by decide +kernel)) ggX4_toLowestTerms_X2_inverse
set_option maxRecDepth 20000 in
theorem ggX4_toLowestTerms_X3_scale : GoodIn wsX4_toLowestTerms wsX3_scale := goodIn_r _ [63, 11, 21, 22, 23, 9, 24, 20, 50, 51, 44, 52, 46, 47, 48, 49, 16, 17, 18, 19, 74, 75] (by decide +kernel) (by decide +kernel)
set_option maxRecDepth 20000 in
theorem gX4_toLowestTerms_X3_scale : GoodIn wsX4_toLowestTerms (wsV RX4 206 RX3 yX3_scale wsX3_scale) := goodIn_app (goodIn_of _ (by decide +kernel)) ggX4_toLowestTerms_X3_scale
theorem dX4_toLowestTerms_0 : decode cX4_toLowestTerms 0 = .ok (.aload_n 0, 1) := by decide +kernel
theorem dX4_toLowestTerms_1 : decode cX4_toLowestTerms 1 = .ok (.getfield 41, 3) := by decide +kernel
theorem dX4_toLowestTerms_4 : decode cX4_toLowestTerms 4 = .ok (.aload_n 0, 1) := by decide +kernel
theorem dX4_toLowestTerms_5 : decode cX4_toLowestTerms 5 = .ok (.getfield 35, 3) := by decide +kernel
theorem dX4_toLowestTerms_8 : decode cX4_toLowestTerms 8 = .ok (.invokevirtual 104, 3) := by decide +kernel
theorem dX4_toLowestTerms_11 : decode cX4_toLowestTerms 11 = .ok (.aload_n 0, 1) := by decide +kernel
theorem dX4_toLowestTerms_12 : decode cX4_toLowestTerms 12 = .ok (.getfield 44, 3) := by decide +kernel
theorem dX4_toLowestTerms_15 : decode cX4_toLowestTerms 15 = .ok (.aload_n 0, 1) := by decide +kernel
theorem dX4_toLowestTerms_16 : decode cX4_toLowestTerms 16 = .ok (.getfield 38, 3) := by decide +kernel
theorem dX4_toLowestTerms_19 : decode cX4_toLowestTerms 19 = .ok (.invokevirtual 104, 3) := by decide +kernel
theorem dX4_toLowestTerms_22 : decode cX4_toLowestTerms 22 = .ok (.aload_n 0, 1) := by decide +kernel
theorem dX4_toLowestTerms_23 : decode cX4_toLowestTerms 23 = .ok (.getfield 41, 3) := by decide +kernel
theorem dX4_toLowestTerms_26 : decode cX4_toLowestTerms 26 = .ok (.aload_n 0, 1) := by decide +kernel
theorem dX4_toLowestTerms_27 : decode cX4_toLowestTerms 27 = .ok (.getfield 44, 3) := by decide +kernel
theorem dX4_toLowestTerms_30 : decode cX4_toLowestTerms 30 = .ok (.aload_n 0, 1) := by decide +kernel
theorem dX4_toLowestTerms_31 : decode cX4_toLowestTerms 31 = .ok (.getfield 47, 3) := by decide +kernel
theorem dX4_toLowestTerms_34 : decode cX4_toLowestTerms 34 = .ok (.invokestatic 196, 3) := by decide +kernel
theorem dX4_toLowestTerms_37 : decode cX4_toLowestTerms 37 = .ok (.astore_n 1, 1) := by decide +kernel
theorem dX4_toLowestTerms_38 : decode cX4_toLowestTerms 38 = .ok (.aload_n 0, 1) := by decide +kernel
theorem dX4_toLowestTerms_39 : decode cX4_toLowestTerms 39 = .ok (.getfield 35, 3) := by decide +kernel
theorem dX4_toLowestTerms_42 : decode cX4_toLowestTerms 42 = .ok (.aload_n 1, 1) := by decide +kernel
theorem dX4_toLowestTerms_43 : decode cX4_toLowestTerms 43 = .ok (.aload_n 0, 1) := by decide +kernel
theorem dX4_toLowestTerms_44 : decode cX4_toLowestTerms 44 = .ok (.getfield 47, 3) := by decide +kernel
theorem dX4_toLowestTerms_47 : decode cX4_toLowestTerms 47 = .ok (.invokevirtual 200, 3) := by decide +kernel
theorem dX4_toLowestTerms_50 : decode cX4_toLowestTerms 50 = .ok (.aload_n 0, 1) := by decide +kernel
theorem dX4_toLowestTerms_51 : decode cX4_toLowestTerms 51 = .ok (.getfield 35, 3) := by decide +kernel
theorem dX4_toLowestTerms_54 : decode cX4_toLowestTerms 54 = .ok (.aload_n 0, 1) := by decide +kernel
theorem dX4_toLowestTerms_55 : decode cX4_toLowestTerms 55 = .ok (.getfield 47, 3) := by decide +kernel
theorem dX4_toLowestTerms_58 : decode cX4_toLowestTerms 58 = .ok (.invokevirtual 104, 3) := by decide +kernel
theorem dX4_toLowestTerms_61 : decode cX4_toLowestTerms 61 = .ok (.aload_n 0, 1) := by decide +kernel
theorem dX4_toLowestTerms_62 : decode cX4_toLowestTerms 62 = .ok (.getfield 38, 3) := by decide +kernel
theorem dX4_toLowestTerms_65 : decode cX4_toLowestTerms 65 = .ok (.aload_n 1, 1) := by decide +kernel
theorem dX4_toLowestTerms_66 : decode cX4_toLowestTerms 66 = .ok (.aload_n 0, 1) := by decide +kernel
theorem dX4_toLowestTerms_67 : decode cX4_toLowestTerms 67 = .ok (.getfield 47, 3) := by decide +kernel
theorem dX4_toLowestTerms_70 : decode cX4_toLowestTerms 70 = .ok (.invokevirtual 200, 3) := by decide +kernel
theorem dX4_toLowestTerms_73 : decode cX4_toLowestTerms 73 = .ok (.aload_n 0, 1) := by decide +kernel
theorem dX4_toLowestTerms_74 : decode cX4_toLowestTerms 74 = .ok (.getfield 38, 3) := by decide +kernel
theorem dX4_toLowestTerms_77 : decode cX4_toLowestTerms 77 = .ok (.aload_n 0, 1) := by decide +kernel
theorem dX4_toLowestTerms_78 : decode cX4_toLowestTerms 78 = .ok (.getfield 47, 3) := by decide +kernel
theorem dX4_toLowestTerms_81 : decode cX4_toLowestTerms 81 = .ok (.invokevirtual 104, 3) := by decide +kernel
theorem dX4_toLowestTerms_84 : decode cX4_toLowestTerms 84 = .ok (.aload_n 0, 1) := by decide +kernel
theorem dX4_toLowestTerms_85 : decode cX4_toLowestTerms 85 = .ok (.getfield 38, 3) := by decide +kernel
theorem dX4_toLowestTerms_88 : decode cX4_toLowestTerms 88 = .ok (.invokevirtual 203, 3) := by decide +kernel
theorem dX4_toLowestTerms_91 : decode cX4_toLowestTerms 91 = .ok (.invokestatic 161, 3) := by decide +kernel
theorem dX4_toLowestTerms_94 : decode cX4_toLowestTerms 94 = .ok (.istore_n 2, 1) := by decide +kernel
theorem dX4_toLowestTerms_95 : decode cX4_toLowestTerms 95 = .ok (.aload_n 0, 1) := by decide +kernel
theorem dX4_toLowestTerms_96 : decode cX4_toLowestTerms 96 = .ok (.getfield 35, 3) := by decide +kernel
theorem dX4_toLowestTerms_99 : decode cX4_toLowestTerms 99 = .ok (.iload_n 2, 1) := by decide +kernel
theorem dX4_toLowestTerms_100 : decode cX4_toLowestTerms 100 = .ok (.invokevirtual 206, 3) := by decide +kernel
theorem dX4_toLowestTerms_103 : decode cX4_toLowestTerms 103 = .ok (.aload_n 0, 1) := by decide +kernel
theorem dX4_toLowestTerms_104 : decode cX4_toLowestTerms 104 = .ok (.getfield 38, 3) := by decide +kernel
theorem dX4_toLowestTerms_107 : decode cX4_toLowestTerms 107 = .ok (.iload_n 2, 1) := by decide +kernel
theorem dX4_toLowestTerms_108 : decode cX4_toLowestTerms 108 = .ok (.invokevirtual 206, 3) := by decide +kernel
theorem dX4_toLowestTerms_111 : decode cX4_toLowestTerms 111 = .ok (.return_, 1) := by decide +kernel
set_option maxRecDepth 20000 in
theorem ggX4_greatestDivisor_X3_isZero : GoodIn wsX4_greatestDivisor wsX3_isZero := goodIn_r _ [5, 6, 45, 46] (by decide +kernel) (by decide +kernel)
set_option maxRecDepth 20000 in
theorem gX4_greatestDivisor_X3_isZero : GoodIn wsX4_greatestDivisor (wsV RX4 95 RX3 yX3_isZero wsX3_isZero) := goodIn_app (goodIn_of _ (by decide +kernel)) ggX4_greatestDivisor_X3_isZero
set_option maxRecDepth 20000 in
theorem ggX4_greatestDivisor_X3_divide : GoodIn wsX4_greatestDivisor wsX3_divide := goodIn_r _ [10, 6, 11, 12, 13, 4, 14, 15, 16, 17, 18, 19, 20, 2, 3, 5, 21, 22, 23, 24, 25, 26, 27, 28, 29, 30, 31, 32, 33, 34, 35, 36, 37, 38, 39, 40, 41, 42, 43, 44, 45, 46] (by decide +kernel) (by decide +kernel)
set_option maxRecDepth 20000 in
theorem gX4_greatestDivisor_X3_divide : GoodIn wsX4_greatestDivisor (wsV RX4 200 RX3 yX3_divide wsX3_divide) := goodIn_app (goodIn_of _ (by decide +kernel)) ggX4_greatestDivisor_X3_divide
theorem dX4_greatestDivisor_0 : decode cX4_greatestDivisor 0 = .ok (.aload_n 0, 1) := by decide +kernel
theorem dX4_greatestDivisor_1 : decode cX4_greatestDivisor 1 = .ok (.astore_n 3, 1) := by decide +kernel
theorem dX4_greatestDivisor_2 : decode cX4_greatestDivisor 2 = .ok (.aload_n 1, 1) := by decide +kernel
theorem dX4_greatestDivisor_3 : decode cX4_greatestDivisor 3 = .ok (.astore 4, 2) := by decide +kernel
theorem dX4_greatestDivisor_5 : decode cX4_greatestDivisor 5 = .ok (.iconst 0, 1) := by decide +kernel
theorem dX4_greatestDivisor_6 : decode cX4_greatestDivisor 6 = .ok (.istore 5, 2) := by decide +kernel
theorem dX4_greatestDivisor_8 : decode cX4_greatestDivisor 8 = .ok (.iload 5, 2) := by decide +kernel
theorem dX4_greatestDivisor_10 : decode cX4_greatestDivisor 10 = .ok (.bipush 64, 2) := by decide +kernel
theorem dX4_greatestDivisor_12 : decode cX4_greatestDivisor 12 = .ok (.if_icmp .gt 34, 3) := by decide +kernel
theorem dX4_greatestDivisor_15 : decode cX4_greatestDivisor 15 = .ok (.aload 4, 2) := by decide +kernel
theorem dX4_greatestDivisor_17 : decode cX4_greatestDivisor 17 = .ok (.invokevirtual 95, 3) := by decide +kernel
theorem dX4_greatestDivisor_20 : decode cX4_greatestDivisor 20 = .ok (.ifCond .ne 26, 3) := by decide +kernel
theorem dX4_greatestDivisor_23 : decode cX4_greatestDivisor 23 = .ok (.aload_n 3, 1) := by decide +kernel
theorem dX4_greatestDivisor_24 : decode cX4_greatestDivisor 24 = .ok (.aload 4, 2) := by decide +kernel
theorem dX4_greatestDivisor_26 : decode cX4_greatestDivisor 26 = .ok (.aload_n 2, 1) := by decide +kernel
theorem dX4_greatestDivisor_27 : decode cX4_greatestDivisor 27 = .ok (.invokevirtual 200, 3) := by decide +kernel
theorem dX4_greatestDivisor_30 : decode cX4_greatestDivisor 30 = .ok (.aload_n 3, 1) := by decide +kernel
theorem dX4_greatestDivisor_31 : decode cX4_greatestDivisor 31 = .ok (.astore 6, 2) := by decide +kernel
theorem dX4_greatestDivisor_33 : decode cX4_greatestDivisor 33 = .ok (.aload 4, 2) := by decide +kernel
theorem dX4_greatestDivisor_35 : decode cX4_greatestDivisor 35 = .ok (.astore_n 3, 1) := by decide +kernel
theorem dX4_greatestDivisor_36 : decode cX4_greatestDivisor 36 = .ok (.aload 6, 2) := by decide +kernel
theorem dX4_greatestDivisor_38 : decode cX4_greatestDivisor 38 = .ok (.astore 4, 2) := by decide +kernel
theorem dX4_greatestDivisor_40 : decode cX4_greatestDivisor 40 = .ok (.iinc 5 1, 3) := by decide +kernel
theorem dX4_greatestDivisor_43 : decode cX4_greatestDivisor 43 = .ok (.goto (-35), 3) := by decide +kernel
theorem dX4_greatestDivisor_46 : decode cX4_greatestDivisor 46 = .ok (.aload_n 3, 1) := by decide +kernel
theorem dX4_greatestDivisor_47 : decode cX4_greatestDivisor 47 = .ok (.areturn, 1) := by decide +kernel
