set_option maxRecDepth 20000 in
theorem ggX0_init_X3_init : GoodIn wsX0_init wsX3_init := goodIn_r _ [19, 20, 2, 3, 21, 22, 23, 24, 13, 25, 26, 35, 36] (by decide +kernel) (by decide +kernel)
set_option maxRecDepth 20000 in
theorem gX0_init_X3_init : GoodIn wsX0_init (wsX3_init) := ggX0_init_X3_init
theorem dX0_init_0 : decode cX0_init 0 = .ok (.aload_n 0, 1) := by decide +kernel
theorem dX0_init_1 : decode cX0_init 1 = .ok (.invokespecial 3, 3) := by decide +kernel
theorem dX0_init_4 : decode cX0_init 4 = .ok (.aload_n 0, 1) := by decide +kernel
theorem dX0_init_5 : decode cX0_init 5 = .ok (.bipush 9, 2) := by decide +kernel
theorem dX0_init_7 : decode cX0_init 7 = .ok (.anewarray 9, 3) := by decide +kernel
theorem dX0_init_10 : decode cX0_init 10 = .ok (.putfield 11, 3) := by decide +kernel
theorem dX0_init_13 : decode cX0_init 13 = .ok (.iconst 0, 1) := by decide +kernel
theorem dX0_init_14 : decode cX0_init 14 = .ok (.istore_n 1, 1) := by decide +kernel
theorem dX0_init_15 : decode cX0_init 15 = .ok (.iload_n 1, 1) := by decide +kernel
theorem dX0_init_16 : decode cX0_init 16 = .ok (.aload_n 0, 1) := by decide +kernel
theorem dX0_init_17 : decode cX0_init 17 = .ok (.getfield 11, 3) := by decide +kernel
theorem dX0_init_20 : decode cX0_init 20 = .ok (.arraylength, 1) := by decide +kernel
theorem dX0_init_21 : decode cX0_init 21 = .ok (.if_icmp .ge 24, 3) := by decide +kernel
theorem dX0_init_24 : decode cX0_init 24 = .ok (.aload_n 0, 1) := by decide +kernel
theorem dX0_init_25 : decode cX0_init 25 = .ok (.getfield 11, 3) := by decide +kernel
theorem dX0_init_28 : decode cX0_init 28 = .ok (.iload_n 1, 1) := by decide +kernel
theorem dX0_init_29 : decode cX0_init 29 = .ok (.new 9, 3) := by decide +kernel
theorem dX0_init_32 : decode cX0_init 32 = .ok (.dup, 1) := by decide +kernel
theorem dX0_init_33 : decode cX0_init 33 = .ok (.bipush 64, 2) := by decide +kernel
theorem dX0_init_35 : decode cX0_init 35 = .ok (.invokespecial 17, 3) := by decide +kernel
theorem dX0_init_38 : decode cX0_init 38 = .ok (.aastore, 1) := by decide +kernel
theorem dX0_init_39 : decode cX0_init 39 = .ok (.iinc 1 1, 3) := by decide +kernel
theorem dX0_init_42 : decode cX0_init 42 = .ok (.goto (-27), 3) := by decide +kernel
theorem dX0_init_45 : decode cX0_init 45 = .ok (.aload_n 0, 1) := by decide +kernel
theorem dX0_init_46 : decode cX0_init 46 = .ok (.new 9, 3) := by decide +kernel
theorem dX0_init_49 : decode cX0_init 49 = .ok (.dup, 1) := by decide +kernel
theorem dX0_init_50 : decode cX0_init 50 = .ok (.bipush 64, 2) := by decide +kernel
theorem dX0_init_52 : decode cX0_init 52 = .ok (.invokespecial 17, 3) := by decide +kernel
theorem dX0_init_55 : decode cX0_init 55 = .ok (.putfield 20, 3) := by decide +kernel
theorem dX0_init_58 : decode cX0_init 58 = .ok (.aload_n 0, 1) := by decide +kernel
theorem dX0_init_59 : decode cX0_init 59 = .ok (.new 9, 3) := by decide +kernel
theorem dX0_init_62 : decode cX0_init 62 = .ok (.dup, 1) := by decide +kernel
theorem dX0_init_63 : decode cX0_init 63 = .ok (.bipush 64, 2) := by decide +kernel
theorem dX0_init_65 : decode cX0_init 65 = .ok (.invokespecial 17, 3) := by decide +kernel
theorem dX0_init_68 : decode cX0_init 68 = .ok (.putfield 24, 3) := by decide +kernel
theorem dX0_init_71 : decode cX0_init 71 = .ok (.aload_n 0, 1) := by decide +kernel
theorem dX0_init_72 : decode cX0_init 72 = .ok (.new 9, 3) := by decide +kernel
theorem dX0_init_75 : decode cX0_init 75 = .ok (.dup, 1) := by decide +kernel
theorem dX0_init_76 : decode cX0_init 76 = .ok (.bipush 64, 2) := by decide +kernel
theorem dX0_init_78 : decode cX0_init 78 = .ok (.invokespecial 17, 3) := by decide +kernel
theorem dX0_init_81 : decode cX0_init 81 = .ok (.putfield 27, 3) := by decide +kernel
theorem dX0_init_84 : decode cX0_init 84 = .ok (.aload_n 0, 1) := by decide +kernel
theorem dX0_init_85 : decode cX0_init 85 = .ok (.new 9, 3) := by decide +kernel
theorem dX0_init_88 : decode cX0_init 88 = .ok (.dup, 1) := by decide +kernel
theorem dX0_init_89 : decode cX0_init 89 = .ok (.bipush 64, 2) := by decide +kernel
theorem dX0_init_91 : decode cX0_init 91 = .ok (.invokespecial 17, 3) := by decide +kernel
theorem dX0_init_94 : decode cX0_init 94 = .ok (.putfield 30, 3) := by decide +kernel
theorem dX0_init_97 : decode cX0_init 97 = .ok (.aload_n 0, 1) := by decide +kernel
theorem dX0_init_98 : decode cX0_init 98 = .ok (.new 9, 3) := by decide +kernel
theorem dX0_init_101 : decode cX0_init 101 = .ok (.dup, 1) := by decide +kernel
theorem dX0_init_102 : decode cX0_init 102 = .ok (.bipush 64, 2) := by decide +kernel
theorem dX0_init_104 : decode cX0_init 104 = .ok (.invokespecial 17, 3) := by decide +kernel
theorem dX0_init_107 : decode cX0_init 107 = .ok (.putfield 33, 3) := by decide +kernel
theorem dX0_init_110 : decode cX0_init 110 = .ok (.aload_n 0, 1) := by decide +kernel
theorem dX0_init_111 : decode cX0_init 111 = .ok (.bipush 9, 2) := by decide +kernel
theorem dX0_init_113 : decode cX0_init 113 = .ok (.newarray .int, 2) := by decide +kernel
theorem dX0_init_115 : decode cX0_init 115 = .ok (.putfield 36, 3) := by decide +kernel
theorem dX0_init_118 : decode cX0_init 118 = .ok (.aload_n 0, 1) := by decide +kernel
theorem dX0_init_119 : decode cX0_init 119 = .ok (.bipush 64, 2) := by decide +kernel
theorem dX0_init_121 : decode cX0_init 121 = .ok (.newarray .boolean, 2) := by decide +kernel
theorem dX0_init_123 : decode cX0_init 123 = .ok (.putfield 40, 3) := by decide +kernel
theorem dX0_init_126 : decode cX0_init 126 = .ok (.return_, 1) := by decide +kernel
set_option maxRecDepth 20000 in
theorem ggX0_set_X3_copy : GoodIn wsX0_set wsX3_copy := goodIn_r _ [13, 14, 15, 16, 17, 12, 18, 19, 20, 21, 22, 23, 24, 25, 26, 27, 66, 67] (by decide +kernel) (by decide +kernel)
set_option maxRecDepth 20000 in
theorem gX0_set_X3_copy : GoodIn wsX0_set (wsV RX0 44 RX3 yX3_copy wsX3_copy) := goodIn_app (goodIn_of _ (by decide +kernel)) ggX0_set_X3_copy
set_option maxRecDepth 20000 in
theorem ggX0_set_X3_moveByOne : GoodIn wsX0_set wsX3_moveByOne := goodIn_r _ [31, 14, 24, 25, 26, 12, 27, 23, 32, 33, 34, 35, 36, 19, 20, 21, 22, 66, 67] (by decide +kernel) (by decide +kernel)
set_option maxRecDepth 20000 in
theorem gX0_set_X3_moveByOne : GoodIn wsX0_set (wsV RX0 48 RX3 yX3_moveByOne wsX3_moveByOne) := goodIn_app (goodIn_of _ (by decide +kernel)) ggX0_set_X3_moveByOne
set_option maxRecDepth 20000 in
theorem ggX0_set_X3_setProduct : GoodIn wsX0_set wsX3_setProduct := goodIn_r _ [40, 14, 41, 42, 43, 44, 45, 46, 47, 15, 16, 17, 12, 18, 19, 20, 21, 22, 23, 24, 25, 26, 27, 32, 33, 34, 35, 36, 66, 67] (by decide +kernel) (by decide +kernel)
set_option maxRecDepth 20000 in
theorem gX0_set_X3_setProduct : GoodIn wsX0_set (wsV RX0 56 RX3 yX3_setProduct wsX3_setProduct) := goodIn_app (goodIn_of _ (by decide +kernel)) ggX0_set_X3_setProduct
set_option maxRecDepth 20000 in
theorem ggX0_set_X3_gather : GoodIn wsX0_set wsX3_gather := goodIn_r _ [51, 14, 24, 25, 26, 12, 27, 23, 32, 33, 34, 35, 36, 19, 20, 21, 22, 66, 67] (by decide +kernel) (by decide +kernel)
set_option maxRecDepth 20000 in
theorem gX0_set_X3_gather : GoodIn wsX0_set (wsV RX0 63 RX3 yX3_gather wsX3_gather) := goodIn_app (goodIn_of _ (by decide +kernel)) ggX0_set_X3_gather
set_option maxRecDepth 20000 in
theorem ggX0_set_X3_multiplyByLinear : GoodIn wsX0_set wsX3_multiplyByLinear := goodIn_r _ [55, 14, 24, 25, 26, 12, 27, 23, 32, 33, 34, 35, 36, 19, 20, 21, 22, 66, 67] (by decide +kernel) (by decide +kernel)
set_option maxRecDepth 20000 in
theorem gX0_set_X3_multiplyByLinear : GoodIn wsX0_set (wsV RX0 67 RX3 yX3_multiplyByLinear wsX3_multiplyByLinear) := goodIn_app (goodIn_of _ (by decide +kernel)) ggX0_set_X3_multiplyByLinear
theorem dX0_set_0 : decode cX0_set 0 = .ok (.aload_n 0, 1) := by decide +kernel
theorem dX0_set_1 : decode cX0_set 1 = .ok (.getfield 30, 3) := by decide +kernel
theorem dX0_set_4 : decode cX0_set 4 = .ok (.aload_n 2, 1) := by decide +kernel
theorem dX0_set_5 : decode cX0_set 5 = .ok (.invokevirtual 44, 3) := by decide +kernel
theorem dX0_set_8 : decode cX0_set 8 = .ok (.aload_n 0, 1) := by decide +kernel
theorem dX0_set_9 : decode cX0_set 9 = .ok (.getfield 30, 3) := by decide +kernel
theorem dX0_set_12 : decode cX0_set 12 = .ok (.invokevirtual 48, 3) := by decide +kernel
theorem dX0_set_15 : decode cX0_set 15 = .ok (.aload_n 0, 1) := by decide +kernel
theorem dX0_set_16 : decode cX0_set 16 = .ok (.getfield 33, 3) := by decide +kernel
theorem dX0_set_19 : decode cX0_set 19 = .ok (.aload_n 1, 1) := by decide +kernel
theorem dX0_set_20 : decode cX0_set 20 = .ok (.getfield 51, 3) := by decide +kernel
theorem dX0_set_23 : decode cX0_set 23 = .ok (.aload 4, 2) := by decide +kernel
theorem dX0_set_25 : decode cX0_set 25 = .ok (.invokevirtual 56, 3) := by decide +kernel
theorem dX0_set_28 : decode cX0_set 28 = .ok (.aload_n 0, 1) := by decide +kernel
theorem dX0_set_29 : decode cX0_set 29 = .ok (.getfield 24, 3) := by decide +kernel
theorem dX0_set_32 : decode cX0_set 32 = .ok (.aload_n 0, 1) := by decide +kernel
theorem dX0_set_33 : decode cX0_set 33 = .ok (.getfield 33, 3) := by decide +kernel
theorem dX0_set_36 : decode cX0_set 36 = .ok (.aload_n 2, 1) := by decide +kernel
theorem dX0_set_37 : decode cX0_set 37 = .ok (.invokevirtual 56, 3) := by decide +kernel
theorem dX0_set_40 : decode cX0_set 40 = .ok (.aload_n 0, 1) := by decide +kernel
theorem dX0_set_41 : decode cX0_set 41 = .ok (.getfield 20, 3) := by decide +kernel
theorem dX0_set_44 : decode cX0_set 44 = .ok (.aload_n 0, 1) := by decide +kernel
theorem dX0_set_45 : decode cX0_set 45 = .ok (.getfield 24, 3) := by decide +kernel
theorem dX0_set_48 : decode cX0_set 48 = .ok (.aload_n 0, 1) := by decide +kernel
theorem dX0_set_49 : decode cX0_set 49 = .ok (.getfield 30, 3) := by decide +kernel
theorem dX0_set_52 : decode cX0_set 52 = .ok (.invokevirtual 56, 3) := by decide +kernel
theorem dX0_set_55 : decode cX0_set 55 = .ok (.aload_n 0, 1) := by decide +kernel
theorem dX0_set_56 : decode cX0_set 56 = .ok (.getfield 33, 3) := by decide +kernel
theorem dX0_set_59 : decode cX0_set 59 = .ok (.aload_n 1, 1) := by decide +kernel
theorem dX0_set_60 : decode cX0_set 60 = .ok (.getfield 60, 3) := by decide +kernel
theorem dX0_set_63 : decode cX0_set 63 = .ok (.aload_n 3, 1) := by decide +kernel
theorem dX0_set_64 : decode cX0_set 64 = .ok (.invokevirtual 56, 3) := by decide +kernel
theorem dX0_set_67 : decode cX0_set 67 = .ok (.aload_n 0, 1) := by decide +kernel
theorem dX0_set_68 : decode cX0_set 68 = .ok (.getfield 24, 3) := by decide +kernel
theorem dX0_set_71 : decode cX0_set 71 = .ok (.aload_n 0, 1) := by decide +kernel
theorem dX0_set_72 : decode cX0_set 72 = .ok (.getfield 33, 3) := by decide +kernel
theorem dX0_set_75 : decode cX0_set 75 = .ok (.aload_n 2, 1) := by decide +kernel
theorem dX0_set_76 : decode cX0_set 76 = .ok (.invokevirtual 56, 3) := by decide +kernel
theorem dX0_set_79 : decode cX0_set 79 = .ok (.aload_n 0, 1) := by decide +kernel
theorem dX0_set_80 : decode cX0_set 80 = .ok (.getfield 33, 3) := by decide +kernel
theorem dX0_set_83 : decode cX0_set 83 = .ok (.aload_n 1, 1) := by decide +kernel
theorem dX0_set_84 : decode cX0_set 84 = .ok (.getfield 60, 3) := by decide +kernel
theorem dX0_set_87 : decode cX0_set 87 = .ok (.aload 4, 2) := by decide +kernel
theorem dX0_set_89 : decode cX0_set 89 = .ok (.invokevirtual 56, 3) := by decide +kernel
theorem dX0_set_92 : decode cX0_set 92 = .ok (.aload_n 0, 1) := by decide +kernel
theorem dX0_set_93 : decode cX0_set 93 = .ok (.getfield 27, 3) := by decide +kernel
theorem dX0_set_96 : decode cX0_set 96 = .ok (.aload_n 0, 1) := by decide +kernel
theorem dX0_set_97 : decode cX0_set 97 = .ok (.getfield 33, 3) := by decide +kernel
theorem dX0_set_100 : decode cX0_set 100 = .ok (.aload_n 0, 1) := by decide +kernel
theorem dX0_set_101 : decode cX0_set 101 = .ok (.getfield 30, 3) := by decide +kernel
theorem dX0_set_104 : decode cX0_set 104 = .ok (.invokevirtual 56, 3) := by decide +kernel
theorem dX0_set_107 : decode cX0_set 107 = .ok (.iconst 0, 1) := by decide +kernel
theorem dX0_set_108 : decode cX0_set 108 = .ok (.istore 5, 2) := by decide +kernel
theorem dX0_set_110 : decode cX0_set 110 = .ok (.iload 5, 2) := by decide +kernel
theorem dX0_set_112 : decode cX0_set 112 = .ok (.aload_n 0, 1) := by decide +kernel
theorem dX0_set_113 : decode cX0_set 113 = .ok (.getfield 11, 3) := by decide +kernel
theorem dX0_set_116 : decode cX0_set 116 = .ok (.arraylength, 1) := by decide +kernel
theorem dX0_set_117 : decode cX0_set 117 = .ok (.if_icmp .ge 57, 3) := by decide +kernel
theorem dX0_set_120 : decode cX0_set 120 = .ok (.aload_n 0, 1) := by decide +kernel
theorem dX0_set_121 : decode cX0_set 121 = .ok (.getfield 11, 3) := by decide +kernel
theorem dX0_set_124 : decode cX0_set 124 = .ok (.iload 5, 2) := by decide +kernel
theorem dX0_set_126 : decode cX0_set 126 = .ok (.aaload, 1) := by decide +kernel
theorem dX0_set_127 : decode cX0_set 127 = .ok (.aload_n 0, 1) := by decide +kernel
theorem dX0_set_128 : decode cX0_set 128 = .ok (.getfield 24, 3) := by decide +kernel
theorem dX0_set_131 : decode cX0_set 131 = .ok (.invokevirtual 44, 3) := by decide +kernel
theorem dX0_set_134 : decode cX0_set 134 = .ok (.aload_n 0, 1) := by decide +kernel
theorem dX0_set_135 : decode cX0_set 135 = .ok (.getfield 11, 3) := by decide +kernel
theorem dX0_set_138 : decode cX0_set 138 = .ok (.iload 5, 2) := by decide +kernel
theorem dX0_set_140 : decode cX0_set 140 = .ok (.aaload, 1) := by decide +kernel
theorem dX0_set_141 : decode cX0_set 141 = .ok (.aload_n 0, 1) := by decide +kernel
theorem dX0_set_142 : decode cX0_set 142 = .ok (.getfield 27, 3) := by decide +kernel
theorem dX0_set_145 : decode cX0_set 145 = .ok (.sipush 32002, 3) := by decide +kernel
theorem dX0_set_148 : decode cX0_set 148 = .ok (.iconst 0, 1) := by decide +kernel
theorem dX0_set_149 : decode cX0_set 149 = .ok (.invokevirtual 63, 3) := by decide +kernel
theorem dX0_set_152 : decode cX0_set 152 = .ok (.aload_n 0, 1) := by decide +kernel
theorem dX0_set_153 : decode cX0_set 153 = .ok (.getfield 24, 3) := by decide +kernel
theorem dX0_set_156 : decode cX0_set 156 = .ok (.iconst 1, 1) := by decide +kernel
theorem dX0_set_157 : decode cX0_set 157 = .ok (.invokevirtual 67, 3) := by decide +kernel
theorem dX0_set_160 : decode cX0_set 160 = .ok (.aload_n 0, 1) := by decide +kernel
theorem dX0_set_161 : decode cX0_set 161 = .ok (.getfield 27, 3) := by decide +kernel
theorem dX0_set_164 : decode cX0_set 164 = .ok (.iconst 0, 1) := by decide +kernel
theorem dX0_set_165 : decode cX0_set 165 = .ok (.invokevirtual 67, 3) := by decide +kernel
theorem dX0_set_168 : decode cX0_set 168 = .ok (.iinc 5 1, 3) := by decide +kernel
theorem dX0_set_171 : decode cX0_set 171 = .ok (.goto (-61), 3) := by decide +kernel
theorem dX0_set_174 : decode cX0_set 174 = .ok (.return_, 1) := by decide +kernel
set_option maxRecDepth 20000 in
theorem ggX0_eliminate_X0_firstUntaken : GoodIn wsX0_eliminate wsX0_firstUntaken := goodIn_r _ [8, 1, 9, 10, 11, 12, 13, 14, 46, 47, 48, 49, 50, 51, 52, 53, 54, 55] (by decide +kernel) (by decide +kernel)
set_option maxRecDepth 20000 in
theorem gX0_eliminate_X0_firstUntaken : GoodIn wsX0_eliminate (wsV RX0 70 RX0 yX0_firstUntaken wsX0_firstUntaken) := goodIn_app (goodIn_of _ (by decide +kernel)) ggX0_eliminate_X0_firstUntaken
set_option maxRecDepth 20000 in
theorem ggX0_eliminate_X0_solveFor : GoodIn wsX0_eliminate wsX0_solveFor := goodIn_r _ [18, 2, 19, 9, 10, 11, 12, 13, 14, 20, 21, 22, 23, 24, 25, 26, 27, 28, 29, 7, 30, 31, 32, 33, 34, 35, 36, 37, 38, 39, 40, 41, 42, 43, 44, 45, 46, 47, 48, 49, 50, 51, 52, 53, 54, 55] (by decide +kernel) (by decide +kernel)
set_option maxRecDepth 20000 in
theorem gX0_eliminate_X0_solveFor : GoodIn wsX0_eliminate (wsV RX0 74 RX0 yX0_solveFor wsX0_solveFor) := goodIn_app (goodIn_of _ (by decide +kernel)) ggX0_eliminate_X0_solveFor
theorem dX0_eliminate_0 : decode cX0_eliminate 0 = .ok (.iconst 0, 1) := by decide +kernel
theorem dX0_eliminate_1 : decode cX0_eliminate 1 = .ok (.istore_n 1, 1) := by decide +kernel
theorem dX0_eliminate_2 : decode cX0_eliminate 2 = .ok (.iload_n 1, 1) := by decide +kernel
theorem dX0_eliminate_3 : decode cX0_eliminate 3 = .ok (.aload_n 0, 1) := by decide +kernel
theorem dX0_eliminate_4 : decode cX0_eliminate 4 = .ok (.getfield 40, 3) := by decide +kernel
theorem dX0_eliminate_7 : decode cX0_eliminate 7 = .ok (.arraylength, 1) := by decide +kernel
theorem dX0_eliminate_8 : decode cX0_eliminate 8 = .ok (.if_icmp .ge 16, 3) := by decide +kernel
theorem dX0_eliminate_11 : decode cX0_eliminate 11 = .ok (.aload_n 0, 1) := by decide +kernel
theorem dX0_eliminate_12 : decode cX0_eliminate 12 = .ok (.getfield 40, 3) := by decide +kernel
theorem dX0_eliminate_15 : decode cX0_eliminate 15 = .ok (.iload_n 1, 1) := by decide +kernel
theorem dX0_eliminate_16 : decode cX0_eliminate 16 = .ok (.iconst 0, 1) := by decide +kernel
theorem dX0_eliminate_17 : decode cX0_eliminate 17 = .ok (.bastore, 1) := by decide +kernel
theorem dX0_eliminate_18 : decode cX0_eliminate 18 = .ok (.iinc 1 1, 3) := by decide +kernel
theorem dX0_eliminate_21 : decode cX0_eliminate 21 = .ok (.goto (-19), 3) := by decide +kernel
theorem dX0_eliminate_24 : decode cX0_eliminate 24 = .ok (.iconst 0, 1) := by decide +kernel
theorem dX0_eliminate_25 : decode cX0_eliminate 25 = .ok (.istore_n 1, 1) := by decide +kernel
theorem dX0_eliminate_26 : decode cX0_eliminate 26 = .ok (.iload_n 1, 1) := by decide +kernel
theorem dX0_eliminate_27 : decode cX0_eliminate 27 = .ok (.aload_n 0, 1) := by decide +kernel
theorem dX0_eliminate_28 : decode cX0_eliminate 28 = .ok (.getfield 11, 3) := by decide +kernel
theorem dX0_eliminate_31 : decode cX0_eliminate 31 = .ok (.arraylength, 1) := by decide +kernel
theorem dX0_eliminate_32 : decode cX0_eliminate 32 = .ok (.if_icmp .ge 44, 3) := by decide +kernel
theorem dX0_eliminate_35 : decode cX0_eliminate 35 = .ok (.aload_n 0, 1) := by decide +kernel
theorem dX0_eliminate_36 : decode cX0_eliminate 36 = .ok (.aload_n 0, 1) := by decide +kernel
theorem dX0_eliminate_37 : decode cX0_eliminate 37 = .ok (.getfield 11, 3) := by decide +kernel
theorem dX0_eliminate_40 : decode cX0_eliminate 40 = .ok (.iload_n 1, 1) := by decide +kernel
theorem dX0_eliminate_41 : decode cX0_eliminate 41 = .ok (.aaload, 1) := by decide +kernel
theorem dX0_eliminate_42 : decode cX0_eliminate 42 = .ok (.invokevirtual 70, 3) := by decide +kernel
theorem dX0_eliminate_45 : decode cX0_eliminate 45 = .ok (.istore_n 2, 1) := by decide +kernel
theorem dX0_eliminate_46 : decode cX0_eliminate 46 = .ok (.aload_n 0, 1) := by decide +kernel
theorem dX0_eliminate_47 : decode cX0_eliminate 47 = .ok (.getfield 36, 3) := by decide +kernel
theorem dX0_eliminate_50 : decode cX0_eliminate 50 = .ok (.iload_n 1, 1) := by decide +kernel
theorem dX0_eliminate_51 : decode cX0_eliminate 51 = .ok (.iload_n 2, 1) := by decide +kernel
theorem dX0_eliminate_52 : decode cX0_eliminate 52 = .ok (.iastore, 1) := by decide +kernel
theorem dX0_eliminate_53 : decode cX0_eliminate 53 = .ok (.iload_n 2, 1) := by decide +kernel
theorem dX0_eliminate_54 : decode cX0_eliminate 54 = .ok (.ifCond .lt 16, 3) := by decide +kernel
theorem dX0_eliminate_57 : decode cX0_eliminate 57 = .ok (.aload_n 0, 1) := by decide +kernel
theorem dX0_eliminate_58 : decode cX0_eliminate 58 = .ok (.getfield 40, 3) := by decide +kernel
theorem dX0_eliminate_61 : decode cX0_eliminate 61 = .ok (.iload_n 2, 1) := by decide +kernel
theorem dX0_eliminate_62 : decode cX0_eliminate 62 = .ok (.iconst 1, 1) := by decide +kernel
theorem dX0_eliminate_63 : decode cX0_eliminate 63 = .ok (.bastore, 1) := by decide +kernel
theorem dX0_eliminate_64 : decode cX0_eliminate 64 = .ok (.aload_n 0, 1) := by decide +kernel
theorem dX0_eliminate_65 : decode cX0_eliminate 65 = .ok (.iload_n 1, 1) := by decide +kernel
theorem dX0_eliminate_66 : decode cX0_eliminate 66 = .ok (.iload_n 2, 1) := by decide +kernel
theorem dX0_eliminate_67 : decode cX0_eliminate 67 = .ok (.invokevirtual 74, 3) := by decide +kernel
theorem dX0_eliminate_70 : decode cX0_eliminate 70 = .ok (.iinc 1 1, 3) := by decide +kernel
theorem dX0_eliminate_73 : decode cX0_eliminate 73 = .ok (.goto (-47), 3) := by decide +kernel
theorem dX0_eliminate_76 : decode cX0_eliminate 76 = .ok (.return_, 1) := by decide +kernel
set_option maxRecDepth 20000 in
theorem ggX0_firstUntaken_X3_coefficient : GoodIn wsX0_firstUntaken wsX3_coefficient := goodIn_r _ [6, 7, 16, 17] (by decide +kernel) (by decide +kernel)
set_option maxRecDepth 20000 in
theorem gX0_firstUntaken_X3_coefficient : GoodIn wsX0_firstUntaken (wsV RX0 78 RX3 yX3_coefficient wsX3_coefficient) := goodIn_app (goodIn_of _ (by decide +kernel)) ggX0_firstUntaken_X3_coefficient
theorem dX0_firstUntaken_0 : decode cX0_firstUntaken 0 = .ok (.iconst 0, 1) := by decide +kernel
theorem dX0_firstUntaken_1 : decode cX0_firstUntaken 1 = .ok (.istore_n 2, 1) := by decide +kernel
theorem dX0_firstUntaken_2 : decode cX0_firstUntaken 2 = .ok (.iload_n 2, 1) := by decide +kernel
theorem dX0_firstUntaken_3 : decode cX0_firstUntaken 3 = .ok (.aload_n 0, 1) := by decide +kernel
theorem dX0_firstUntaken_4 : decode cX0_firstUntaken 4 = .ok (.getfield 40, 3) := by decide +kernel
theorem dX0_firstUntaken_7 : decode cX0_firstUntaken 7 = .ok (.arraylength, 1) := by decide +kernel
theorem dX0_firstUntaken_8 : decode cX0_firstUntaken 8 = .ok (.if_icmp .ge 28, 3) := by decide +kernel
theorem dX0_firstUntaken_11 : decode cX0_firstUntaken 11 = .ok (.aload_n 0, 1) := by decide +kernel
theorem dX0_firstUntaken_12 : decode cX0_firstUntaken 12 = .ok (.getfield 40, 3) := by decide +kernel
theorem dX0_firstUntaken_15 : decode cX0_firstUntaken 15 = .ok (.iload_n 2, 1) := by decide +kernel
theorem dX0_firstUntaken_16 : decode cX0_firstUntaken 16 = .ok (.baload, 1) := by decide +kernel
theorem dX0_firstUntaken_17 : decode cX0_firstUntaken 17 = .ok (.ifCond .ne 13, 3) := by decide +kernel
theorem dX0_firstUntaken_20 : decode cX0_firstUntaken 20 = .ok (.aload_n 1, 1) := by decide +kernel
theorem dX0_firstUntaken_21 : decode cX0_firstUntaken 21 = .ok (.iload_n 2, 1) := by decide +kernel
theorem dX0_firstUntaken_22 : decode cX0_firstUntaken 22 = .ok (.invokevirtual 78, 3) := by decide +kernel
theorem dX0_firstUntaken_25 : decode cX0_firstUntaken 25 = .ok (.ifCond .eq 5, 3) := by decide +kernel
theorem dX0_firstUntaken_28 : decode cX0_firstUntaken 28 = .ok (.iload_n 2, 1) := by decide +kernel
theorem dX0_firstUntaken_29 : decode cX0_firstUntaken 29 = .ok (.ireturn, 1) := by decide +kernel
theorem dX0_firstUntaken_30 : decode cX0_firstUntaken 30 = .ok (.iinc 2 1, 3) := by decide +kernel
theorem dX0_firstUntaken_33 : decode cX0_firstUntaken 33 = .ok (.goto (-31), 3) := by decide +kernel
theorem dX0_firstUntaken_36 : decode cX0_firstUntaken 36 = .ok (.iconst (-1), 1) := by decide +kernel
theorem dX0_firstUntaken_37 : decode cX0_firstUntaken 37 = .ok (.ireturn, 1) := by decide +kernel
set_option maxRecDepth 20000 in
theorem ggX0_solveFor_X3_coefficient : GoodIn wsX0_solveFor wsX3_coefficient := goodIn_r _ [7, 8, 44, 45] (by decide +kernel) (by decide +kernel)
set_option maxRecDepth 20000 in
theorem gX0_solveFor_X3_coefficient : GoodIn wsX0_solveFor (wsV RX0 78 RX3 yX3_coefficient wsX3_coefficient) := goodIn_app (goodIn_of _ (by decide +kernel)) ggX0_solveFor_X3_coefficient
set_option maxRecDepth 20000 in
theorem ggX0_solveFor_X2_inverse : GoodIn wsX0_solveFor wsX2_inverse := goodIn_r _ [12, 13, 14, 11, 15, 16] (by decide +kernel) (by decide +kernel)
set_option maxRecDepth 20000 in
theorem gX0_solveFor_X2_inverse : GoodIn wsX0_solveFor (va_wsS RX0 82 yX2_inverse wsX2_inverse) := goodIn_app (goodIn_of _ (by decide +kernel)) ggX0_solveFor_X2_inverse
set_option maxRecDepth 20000 in
theorem ggX0_solveFor_X0_putInto : GoodIn wsX0_solveFor wsX0_putInto := goodIn_r _ [20, 3, 4, 5, 6, 7, 8, 21, 22, 11, 23, 13, 14, 15, 16, 24, 25, 26, 27, 28, 29, 30, 31, 32, 33, 34, 35, 44, 45] (by decide +kernel) (by decide +kernel)
set_option maxRecDepth 20000 in
theorem gX0_solveFor_X0_putInto : GoodIn wsX0_solveFor (va_wsS RX0 87 yX0_putInto wsX0_putInto) := goodIn_app (goodIn_of _ (by decide +kernel)) ggX0_solveFor_X0_putInto
theorem dX0_solveFor_0 : decode cX0_solveFor 0 = .ok (.aload_n 0, 1) := by decide +kernel
theorem dX0_solveFor_1 : decode cX0_solveFor 1 = .ok (.getfield 11, 3) := by decide +kernel
theorem dX0_solveFor_4 : decode cX0_solveFor 4 = .ok (.iload_n 1, 1) := by decide +kernel
theorem dX0_solveFor_5 : decode cX0_solveFor 5 = .ok (.aaload, 1) := by decide +kernel
theorem dX0_solveFor_6 : decode cX0_solveFor 6 = .ok (.iload_n 2, 1) := by decide +kernel
theorem dX0_solveFor_7 : decode cX0_solveFor 7 = .ok (.invokevirtual 78, 3) := by decide +kernel
theorem dX0_solveFor_10 : decode cX0_solveFor 10 = .ok (.invokestatic 82, 3) := by decide +kernel
theorem dX0_solveFor_13 : decode cX0_solveFor 13 = .ok (.istore_n 3, 1) := by decide +kernel
theorem dX0_solveFor_14 : decode cX0_solveFor 14 = .ok (.iload_n 1, 1) := by decide +kernel
theorem dX0_solveFor_15 : decode cX0_solveFor 15 = .ok (.iconst 1, 1) := by decide +kernel
theorem dX0_solveFor_16 : decode cX0_solveFor 16 = .ok (.iadd, 1) := by decide +kernel
theorem dX0_solveFor_17 : decode cX0_solveFor 17 = .ok (.istore 4, 2) := by decide +kernel
theorem dX0_solveFor_19 : decode cX0_solveFor 19 = .ok (.iload 4, 2) := by decide +kernel
theorem dX0_solveFor_21 : decode cX0_solveFor 21 = .ok (.aload_n 0, 1) := by decide +kernel
theorem dX0_solveFor_22 : decode cX0_solveFor 22 = .ok (.getfield 11, 3) := by decide +kernel
theorem dX0_solveFor_25 : decode cX0_solveFor 25 = .ok (.arraylength, 1) := by decide +kernel
theorem dX0_solveFor_26 : decode cX0_solveFor 26 = .ok (.if_icmp .ge 27, 3) := by decide +kernel
theorem dX0_solveFor_29 : decode cX0_solveFor 29 = .ok (.aload_n 0, 1) := by decide +kernel
theorem dX0_solveFor_30 : decode cX0_solveFor 30 = .ok (.getfield 11, 3) := by decide +kernel
theorem dX0_solveFor_33 : decode cX0_solveFor 33 = .ok (.iload 4, 2) := by decide +kernel
theorem dX0_solveFor_35 : decode cX0_solveFor 35 = .ok (.aaload, 1) := by decide +kernel
theorem dX0_solveFor_36 : decode cX0_solveFor 36 = .ok (.aload_n 0, 1) := by decide +kernel
theorem dX0_solveFor_37 : decode cX0_solveFor 37 = .ok (.getfield 11, 3) := by decide +kernel
theorem dX0_solveFor_40 : decode cX0_solveFor 40 = .ok (.iload_n 1, 1) := by decide +kernel
theorem dX0_solveFor_41 : decode cX0_solveFor 41 = .ok (.aaload, 1) := by decide +kernel
theorem dX0_solveFor_42 : decode cX0_solveFor 42 = .ok (.iload_n 2, 1) := by decide +kernel
theorem dX0_solveFor_43 : decode cX0_solveFor 43 = .ok (.iload_n 3, 1) := by decide +kernel
theorem dX0_solveFor_44 : decode cX0_solveFor 44 = .ok (.invokestatic 87, 3) := by decide +kernel
theorem dX0_solveFor_47 : decode cX0_solveFor 47 = .ok (.iinc 4 1, 3) := by decide +kernel
theorem dX0_solveFor_50 : decode cX0_solveFor 50 = .ok (.goto (-31), 3) := by decide +kernel
theorem dX0_solveFor_53 : decode cX0_solveFor 53 = .ok (.aload_n 0, 1) := by decide +kernel
theorem dX0_solveFor_54 : decode cX0_solveFor 54 = .ok (.getfield 20, 3) := by decide +kernel
theorem dX0_solveFor_57 : decode cX0_solveFor 57 = .ok (.aload_n 0, 1) := by decide +kernel
theorem dX0_solveFor_58 : decode cX0_solveFor 58 = .ok (.getfield 11, 3) := by decide +kernel
theorem dX0_solveFor_61 : decode cX0_solveFor 61 = .ok (.iload_n 1, 1) := by decide +kernel
theorem dX0_solveFor_62 : decode cX0_solveFor 62 = .ok (.aaload, 1) := by decide +kernel
theorem dX0_solveFor_63 : decode cX0_solveFor 63 = .ok (.iload_n 2, 1) := by decide +kernel
theorem dX0_solveFor_64 : decode cX0_solveFor 64 = .ok (.iload_n 3, 1) := by decide +kernel
theorem dX0_solveFor_65 : decode cX0_solveFor 65 = .ok (.invokestatic 87, 3) := by decide +kernel
theorem dX0_solveFor_68 : decode cX0_solveFor 68 = .ok (.return_, 1) := by decide +kernel
set_option maxRecDepth 20000 in
theorem ggX0_putInto_X3_coefficient : GoodIn wsX0_putInto wsX3_coefficient := goodIn_r _ [5, 6, 27, 28] (by decide +kernel) (by decide +kernel)
set_option maxRecDepth 20000 in
theorem gX0_putInto_X3_coefficient : GoodIn wsX0_putInto (wsV RX0 78 RX3 yX3_coefficient wsX3_coefficient) := goodIn_app (goodIn_of _ (by decide +kernel)) ggX0_putInto_X3_coefficient
set_option maxRecDepth 20000 in
theorem ggX0_putInto_X2_product : GoodIn wsX0_putInto wsX2_product := goodIn_r _ [10, 11, 12, 9, 13, 14] (by decide +kernel) (by decide +kernel)
set_option maxRecDepth 20000 in
theorem gX0_putInto_X2_product : GoodIn wsX0_putInto (va_wsS RX0 91 yX2_product wsX2_product) := goodIn_app (goodIn_of _ (by decide +kernel)) ggX0_putInto_X2_product
set_option maxRecDepth 20000 in
theorem ggX0_putInto_X3_gather : GoodIn wsX0_putInto wsX3_gather := goodIn_r _ [18, 19, 20, 2, 3, 4, 5, 6, 21, 12, 9, 13, 14, 22, 23, 24, 25, 27, 28] (by decide +kernel) (by decide +kernel)
set_option maxRecDepth 20000 in
theorem gX0_putInto_X3_gather : GoodIn wsX0_putInto (wsV RX0 63 RX3 yX3_gather wsX3_gather) := goodIn_app (goodIn_of _ (by decide +kernel)) ggX0_putInto_X3_gather
set_option maxRecDepth 20000 in
theorem ggX0_putInto_X3_put : GoodIn wsX0_putInto wsX3_put := goodIn_r _ [25, 6, 19, 27, 28] (by decide +kernel) (by decide +kernel)
set_option maxRecDepth 20000 in
theorem gX0_putInto_X3_put : GoodIn wsX0_putInto (wsV RX0 95 RX3 yX3_put wsX3_put) := goodIn_app (goodIn_of _ (by decide +kernel)) ggX0_putInto_X3_put
theorem dX0_putInto_0 : decode cX0_putInto 0 = .ok (.aload_n 0, 1) := by decide +kernel
theorem dX0_putInto_1 : decode cX0_putInto 1 = .ok (.iload_n 2, 1) := by decide +kernel
theorem dX0_putInto_2 : decode cX0_putInto 2 = .ok (.invokevirtual 78, 3) := by decide +kernel
theorem dX0_putInto_5 : decode cX0_putInto 5 = .ok (.iload_n 3, 1) := by decide +kernel
theorem dX0_putInto_6 : decode cX0_putInto 6 = .ok (.invokestatic 91, 3) := by decide +kernel
theorem dX0_putInto_9 : decode cX0_putInto 9 = .ok (.istore 4, 2) := by decide +kernel
theorem dX0_putInto_11 : decode cX0_putInto 11 = .ok (.aload_n 0, 1) := by decide +kernel
theorem dX0_putInto_12 : decode cX0_putInto 12 = .ok (.aload_n 1, 1) := by decide +kernel
theorem dX0_putInto_13 : decode cX0_putInto 13 = .ok (.sipush 32003, 3) := by decide +kernel
theorem dX0_putInto_16 : decode cX0_putInto 16 = .ok (.iload 4, 2) := by decide +kernel
theorem dX0_putInto_18 : decode cX0_putInto 18 = .ok (.isub, 1) := by decide +kernel
theorem dX0_putInto_19 : decode cX0_putInto 19 = .ok (.iconst 0, 1) := by decide +kernel
theorem dX0_putInto_20 : decode cX0_putInto 20 = .ok (.invokevirtual 63, 3) := by decide +kernel
theorem dX0_putInto_23 : decode cX0_putInto 23 = .ok (.aload_n 0, 1) := by decide +kernel
theorem dX0_putInto_24 : decode cX0_putInto 24 = .ok (.iload_n 2, 1) := by decide +kernel
theorem dX0_putInto_25 : decode cX0_putInto 25 = .ok (.iload 4, 2) := by decide +kernel
theorem dX0_putInto_27 : decode cX0_putInto 27 = .ok (.invokevirtual 95, 3) := by decide +kernel
theorem dX0_putInto_30 : decode cX0_putInto 30 = .ok (.return_, 1) := by decide +kernel
set_option maxRecDepth 20000 in
theorem ggX0_areSolvable_X0_firstUntaken : GoodIn wsX0_areSolvable wsX0_firstUntaken := goodIn_r _ [6, 7, 8, 9, 10, 11, 12, 13, 14, 15, 16, 17, 18, 19, 20, 21, 22, 23] (by decide +kernel) (by decide +kernel)
set_option maxRecDepth 20000 in
theorem gX0_areSolvable_X0_firstUntaken : GoodIn wsX0_areSolvable (wsV RX0 70 RX0 yX0_firstUntaken wsX0_firstUntaken) := goodIn_app (goodIn_of _ (by decide +kernel)) ggX0_areSolvable_X0_firstUntaken
theorem dX0_areSolvable_0 : decode cX0_areSolvable 0 = .ok (.aload_n 0, 1) := by decide +kernel
theorem dX0_areSolvable_1 : decode cX0_areSolvable 1 = .ok (.aload_n 0, 1) := by decide +kernel
theorem dX0_areSolvable_2 : decode cX0_areSolvable 2 = .ok (.getfield 20, 3) := by decide +kernel
theorem dX0_areSolvable_5 : decode cX0_areSolvable 5 = .ok (.invokevirtual 70, 3) := by decide +kernel
theorem dX0_areSolvable_8 : decode cX0_areSolvable 8 = .ok (.ifCond .ge 7, 3) := by decide +kernel
theorem dX0_areSolvable_11 : decode cX0_areSolvable 11 = .ok (.iconst 1, 1) := by decide +kernel
theorem dX0_areSolvable_12 : decode cX0_areSolvable 12 = .ok (.goto 4, 3) := by decide +kernel
theorem dX0_areSolvable_15 : decode cX0_areSolvable 15 = .ok (.iconst 0, 1) := by decide +kernel
theorem dX0_areSolvable_16 : decode cX0_areSolvable 16 = .ok (.ireturn, 1) := by decide +kernel
set_option maxRecDepth 20000 in
theorem ggX0_writeSolution_X3_clear : GoodIn wsX0_writeSolution wsX3_clear := goodIn_r _ [7, 8, 9, 10, 11, 6, 12, 13, 27, 28] (by decide +kernel) (by decide +kernel)
set_option maxRecDepth 20000 in
theorem gX0_writeSolution_X3_clear : GoodIn wsX0_writeSolution (wsV RX0 98 RX3 yX3_clear wsX3_clear) := goodIn_app (goodIn_of _ (by decide +kernel)) ggX0_writeSolution_X3_clear
set_option maxRecDepth 20000 in
theorem ggX0_writeSolution_X3_coefficient : GoodIn wsX0_writeSolution wsX3_coefficient := goodIn_r _ [17, 13, 27, 28] (by decide +kernel) (by decide +kernel)
set_option maxRecDepth 20000 in
theorem gX0_writeSolution_X3_coefficient : GoodIn wsX0_writeSolution (wsV RX0 78 RX3 yX3_coefficient wsX3_coefficient) := goodIn_app (goodIn_of _ (by decide +kernel)) ggX0_writeSolution_X3_coefficient
set_option maxRecDepth 20000 in
theorem ggX0_writeSolution_X3_put : GoodIn wsX0_writeSolution wsX3_put := goodIn_r _ [12, 13, 8, 27, 28] (by decide +kernel) (by decide +kernel)
set_option maxRecDepth 20000 in
theorem gX0_writeSolution_X3_put : GoodIn wsX0_writeSolution (wsV RX0 95 RX3 yX3_put wsX3_put) := goodIn_app (goodIn_of _ (by decide +kernel)) ggX0_writeSolution_X3_put
theorem dX0_writeSolution_0 : decode cX0_writeSolution 0 = .ok (.aload_n 1, 1) := by decide +kernel
theorem dX0_writeSolution_1 : decode cX0_writeSolution 1 = .ok (.invokevirtual 98, 3) := by decide +kernel
theorem dX0_writeSolution_4 : decode cX0_writeSolution 4 = .ok (.iconst 0, 1) := by decide +kernel
theorem dX0_writeSolution_5 : decode cX0_writeSolution 5 = .ok (.istore_n 2, 1) := by decide +kernel
theorem dX0_writeSolution_6 : decode cX0_writeSolution 6 = .ok (.iload_n 2, 1) := by decide +kernel
theorem dX0_writeSolution_7 : decode cX0_writeSolution 7 = .ok (.aload_n 0, 1) := by decide +kernel
theorem dX0_writeSolution_8 : decode cX0_writeSolution 8 = .ok (.getfield 36, 3) := by decide +kernel
theorem dX0_writeSolution_11 : decode cX0_writeSolution 11 = .ok (.arraylength, 1) := by decide +kernel
theorem dX0_writeSolution_12 : decode cX0_writeSolution 12 = .ok (.if_icmp .ge 27, 3) := by decide +kernel
theorem dX0_writeSolution_15 : decode cX0_writeSolution 15 = .ok (.aload_n 1, 1) := by decide +kernel
theorem dX0_writeSolution_16 : decode cX0_writeSolution 16 = .ok (.iload_n 2, 1) := by decide +kernel
theorem dX0_writeSolution_17 : decode cX0_writeSolution 17 = .ok (.aload_n 0, 1) := by decide +kernel
theorem dX0_writeSolution_18 : decode cX0_writeSolution 18 = .ok (.getfield 20, 3) := by decide +kernel
theorem dX0_writeSolution_21 : decode cX0_writeSolution 21 = .ok (.aload_n 0, 1) := by decide +kernel
theorem dX0_writeSolution_22 : decode cX0_writeSolution 22 = .ok (.getfield 36, 3) := by decide +kernel
theorem dX0_writeSolution_25 : decode cX0_writeSolution 25 = .ok (.iload_n 2, 1) := by decide +kernel
theorem dX0_writeSolution_26 : decode cX0_writeSolution 26 = .ok (.iaload, 1) := by decide +kernel
theorem dX0_writeSolution_27 : decode cX0_writeSolution 27 = .ok (.invokevirtual 78, 3) := by decide +kernel
theorem dX0_writeSolution_30 : decode cX0_writeSolution 30 = .ok (.invokevirtual 95, 3) := by decide +kernel
theorem dX0_writeSolution_33 : decode cX0_writeSolution 33 = .ok (.iinc 2 1, 3) := by decide +kernel
theorem dX0_writeSolution_36 : decode cX0_writeSolution 36 = .ok (.goto (-30), 3) := by decide +kernel
theorem dX0_writeSolution_39 : decode cX0_writeSolution 39 = .ok (.return_, 1) := by decide +kernel
theorem dX0_freeUpTo_0 : decode cX0_freeUpTo 0 = .ok (.iconst 0, 1) := by decide +kernel
theorem dX0_freeUpTo_1 : decode cX0_freeUpTo 1 = .ok (.istore_n 2, 1) := by decide +kernel
theorem dX0_freeUpTo_2 : decode cX0_freeUpTo 2 = .ok (.iconst 0, 1) := by decide +kernel
theorem dX0_freeUpTo_3 : decode cX0_freeUpTo 3 = .ok (.istore_n 3, 1) := by decide +kernel
theorem dX0_freeUpTo_4 : decode cX0_freeUpTo 4 = .ok (.iload_n 3, 1) := by decide +kernel
theorem dX0_freeUpTo_5 : decode cX0_freeUpTo 5 = .ok (.iload_n 1, 1) := by decide +kernel
theorem dX0_freeUpTo_6 : decode cX0_freeUpTo 6 = .ok (.if_icmp .gt 30, 3) := by decide +kernel
theorem dX0_freeUpTo_9 : decode cX0_freeUpTo 9 = .ok (.iload_n 3, 1) := by decide +kernel
theorem dX0_freeUpTo_10 : decode cX0_freeUpTo 10 = .ok (.aload_n 0, 1) := by decide +kernel
theorem dX0_freeUpTo_11 : decode cX0_freeUpTo 11 = .ok (.getfield 36, 3) := by decide +kernel
theorem dX0_freeUpTo_14 : decode cX0_freeUpTo 14 = .ok (.arraylength, 1) := by decide +kernel
theorem dX0_freeUpTo_15 : decode cX0_freeUpTo 15 = .ok (.if_icmp .ge 21, 3) := by decide +kernel
theorem dX0_freeUpTo_18 : decode cX0_freeUpTo 18 = .ok (.aload_n 0, 1) := by decide +kernel
theorem dX0_freeUpTo_19 : decode cX0_freeUpTo 19 = .ok (.getfield 36, 3) := by decide +kernel
theorem dX0_freeUpTo_22 : decode cX0_freeUpTo 22 = .ok (.iload_n 3, 1) := by decide +kernel
theorem dX0_freeUpTo_23 : decode cX0_freeUpTo 23 = .ok (.iaload, 1) := by decide +kernel
theorem dX0_freeUpTo_24 : decode cX0_freeUpTo 24 = .ok (.ifCond .ge 6, 3) := by decide +kernel
theorem dX0_freeUpTo_27 : decode cX0_freeUpTo 27 = .ok (.iinc 2 1, 3) := by decide +kernel
theorem dX0_freeUpTo_30 : decode cX0_freeUpTo 30 = .ok (.iinc 3 1, 3) := by decide +kernel
theorem dX0_freeUpTo_33 : decode cX0_freeUpTo 33 = .ok (.goto (-29), 3) := by decide +kernel
theorem dX0_freeUpTo_36 : decode cX0_freeUpTo 36 = .ok (.iload_n 2, 1) := by decide +kernel
theorem dX0_freeUpTo_37 : decode cX0_freeUpTo 37 = .ok (.ireturn, 1) := by decide +kernel
set_option maxRecDepth 20000 in
theorem ggX1_init_X3_init_ : GoodIn wsX1_init wsX3_init_ := goodIn_r _ [11, 12, 2, 3, 13, 14, 15, 16, 17, 18, 19, 20, 21, 22, 6, 23, 24, 25, 26, 27, 28, 29, 30, 31, 32, 33, 34, 35, 36, 37] (by decide +kernel) (by decide +kernel)
set_option maxRecDepth 20000 in
theorem gX1_init_X3_init_ : GoodIn wsX1_init (wsX3_init_) := ggX1_init_X3_init_
theorem dX1_init_0 : decode cX1_init 0 = .ok (.aload_n 0, 1) := by decide +kernel
theorem dX1_init_1 : decode cX1_init 1 = .ok (.invokespecial 1, 3) := by decide +kernel
theorem dX1_init_4 : decode cX1_init 4 = .ok (.aload_n 0, 1) := by decide +kernel
theorem dX1_init_5 : decode cX1_init 5 = .ok (.new 7, 3) := by decide +kernel
theorem dX1_init_8 : decode cX1_init 8 = .ok (.dup, 1) := by decide +kernel
theorem dX1_init_9 : decode cX1_init 9 = .ok (.aload_n 1, 1) := by decide +kernel
theorem dX1_init_10 : decode cX1_init 10 = .ok (.invokespecial 9, 3) := by decide +kernel
theorem dX1_init_13 : decode cX1_init 13 = .ok (.putfield 12, 3) := by decide +kernel
theorem dX1_init_16 : decode cX1_init 16 = .ok (.aload_n 0, 1) := by decide +kernel
theorem dX1_init_17 : decode cX1_init 17 = .ok (.new 7, 3) := by decide +kernel
theorem dX1_init_20 : decode cX1_init 20 = .ok (.dup, 1) := by decide +kernel
theorem dX1_init_21 : decode cX1_init 21 = .ok (.aload_n 2, 1) := by decide +kernel
theorem dX1_init_22 : decode cX1_init 22 = .ok (.invokespecial 9, 3) := by decide +kernel
theorem dX1_init_25 : decode cX1_init 25 = .ok (.putfield 18, 3) := by decide +kernel
theorem dX1_init_28 : decode cX1_init 28 = .ok (.return_, 1) := by decide +kernel
theorem dX1_part_0 : decode cX1_part 0 = .ok (.iload_n 1, 1) := by decide +kernel
theorem dX1_part_1 : decode cX1_part 1 = .ok (.ifCond .eq 10, 3) := by decide +kernel
theorem dX1_part_4 : decode cX1_part 4 = .ok (.aload_n 0, 1) := by decide +kernel
theorem dX1_part_5 : decode cX1_part 5 = .ok (.getfield 12, 3) := by decide +kernel
theorem dX1_part_8 : decode cX1_part 8 = .ok (.goto 7, 3) := by decide +kernel
theorem dX1_part_11 : decode cX1_part 11 = .ok (.aload_n 0, 1) := by decide +kernel
theorem dX1_part_12 : decode cX1_part 12 = .ok (.getfield 18, 3) := by decide +kernel
theorem dX1_part_15 : decode cX1_part 15 = .ok (.areturn, 1) := by decide +kernel
theorem dX2_reduced_0 : decode cX2_reduced 0 = .ok (.lload_n 0, 1) := by decide +kernel
theorem dX2_reduced_1 : decode cX2_reduced 1 = .ok (.ldc2_w 9, 3) := by decide +kernel
theorem dX2_reduced_4 : decode cX2_reduced 4 = .ok (.lrem, 1) := by decide +kernel
theorem dX2_reduced_5 : decode cX2_reduced 5 = .ok (.l2i, 1) := by decide +kernel
theorem dX2_reduced_6 : decode cX2_reduced 6 = .ok (.istore_n 2, 1) := by decide +kernel
theorem dX2_reduced_7 : decode cX2_reduced 7 = .ok (.iload_n 2, 1) := by decide +kernel
theorem dX2_reduced_8 : decode cX2_reduced 8 = .ok (.ifCond .ge 11, 3) := by decide +kernel
theorem dX2_reduced_11 : decode cX2_reduced 11 = .ok (.iload_n 2, 1) := by decide +kernel
theorem dX2_reduced_12 : decode cX2_reduced 12 = .ok (.sipush 32003, 3) := by decide +kernel
theorem dX2_reduced_15 : decode cX2_reduced 15 = .ok (.iadd, 1) := by decide +kernel
theorem dX2_reduced_16 : decode cX2_reduced 16 = .ok (.goto 4, 3) := by decide +kernel
theorem dX2_reduced_19 : decode cX2_reduced 19 = .ok (.iload_n 2, 1) := by decide +kernel
theorem dX2_reduced_20 : decode cX2_reduced 20 = .ok (.ireturn, 1) := by decide +kernel
set_option maxRecDepth 20000 in
theorem ggX2_product_X2_reduced : GoodIn wsX2_product wsX2_reduced := goodIn_r _ [4, 5] (by decide +kernel) (by decide +kernel)
set_option maxRecDepth 20000 in
theorem gX2_product_X2_reduced : GoodIn wsX2_product (va_wsS RX2 11 yX2_reduced wsX2_reduced) := goodIn_app (goodIn_of _ (by decide +kernel)) ggX2_product_X2_reduced
theorem dX2_product_0 : decode cX2_product 0 = .ok (.iload_n 0, 1) := by decide +kernel
theorem dX2_product_1 : decode cX2_product 1 = .ok (.i2l, 1) := by decide +kernel
theorem dX2_product_2 : decode cX2_product 2 = .ok (.iload_n 1, 1) := by decide +kernel
theorem dX2_product_3 : decode cX2_product 3 = .ok (.i2l, 1) := by decide +kernel
theorem dX2_product_4 : decode cX2_product 4 = .ok (.lmul, 1) := by decide +kernel
theorem dX2_product_5 : decode cX2_product 5 = .ok (.invokestatic 11, 3) := by decide +kernel
theorem dX2_product_8 : decode cX2_product 8 = .ok (.ireturn, 1) := by decide +kernel
set_option maxRecDepth 20000 in
theorem ggX2_inverse_X2_reduced : GoodIn wsX2_inverse wsX2_reduced := goodIn_r _ [4, 5] (by decide +kernel) (by decide +kernel)
set_option maxRecDepth 20000 in
theorem gX2_inverse_X2_reduced : GoodIn wsX2_inverse (va_wsS RX2 11 yX2_reduced wsX2_reduced) := goodIn_app (goodIn_of _ (by decide +kernel)) ggX2_inverse_X2_reduced
theorem dX2_inverse_0 : decode cX2_inverse 0 = .ok (.iconst 1, 1) := by decide +kernel
theorem dX2_inverse_1 : decode cX2_inverse 1 = .ok (.istore_n 1, 1) := by decide +kernel
theorem dX2_inverse_2 : decode cX2_inverse 2 = .ok (.iload_n 0, 1) := by decide +kernel
theorem dX2_inverse_3 : decode cX2_inverse 3 = .ok (.istore_n 2, 1) := by decide +kernel
theorem dX2_inverse_4 : decode cX2_inverse 4 = .ok (.sipush 32001, 3) := by decide +kernel
theorem dX2_inverse_7 : decode cX2_inverse 7 = .ok (.istore_n 3, 1) := by decide +kernel
theorem dX2_inverse_8 : decode cX2_inverse 8 = .ok (.iload_n 3, 1) := by decide +kernel
theorem dX2_inverse_9 : decode cX2_inverse 9 = .ok (.ifCond .le 35, 3) := by decide +kernel
theorem dX2_inverse_12 : decode cX2_inverse 12 = .ok (.iload_n 3, 1) := by decide +kernel
theorem dX2_inverse_13 : decode cX2_inverse 13 = .ok (.iconst 1, 1) := by decide +kernel
theorem dX2_inverse_14 : decode cX2_inverse 14 = .ok (.iand, 1) := by decide +kernel
theorem dX2_inverse_15 : decode cX2_inverse 15 = .ok (.iconst 1, 1) := by decide +kernel
theorem dX2_inverse_16 : decode cX2_inverse 16 = .ok (.if_icmp .ne 12, 3) := by decide +kernel
theorem dX2_inverse_19 : decode cX2_inverse 19 = .ok (.iload_n 1, 1) := by decide +kernel
theorem dX2_inverse_20 : decode cX2_inverse 20 = .ok (.i2l, 1) := by decide +kernel
theorem dX2_inverse_21 : decode cX2_inverse 21 = .ok (.iload_n 2, 1) := by decide +kernel
theorem dX2_inverse_22 : decode cX2_inverse 22 = .ok (.i2l, 1) := by decide +kernel
theorem dX2_inverse_23 : decode cX2_inverse 23 = .ok (.lmul, 1) := by decide +kernel
theorem dX2_inverse_24 : decode cX2_inverse 24 = .ok (.invokestatic 11, 3) := by decide +kernel
theorem dX2_inverse_27 : decode cX2_inverse 27 = .ok (.istore_n 1, 1) := by decide +kernel
theorem dX2_inverse_28 : decode cX2_inverse 28 = .ok (.iload_n 2, 1) := by decide +kernel
theorem dX2_inverse_29 : decode cX2_inverse 29 = .ok (.i2l, 1) := by decide +kernel
theorem dX2_inverse_30 : decode cX2_inverse 30 = .ok (.iload_n 2, 1) := by decide +kernel
theorem dX2_inverse_31 : decode cX2_inverse 31 = .ok (.i2l, 1) := by decide +kernel
theorem dX2_inverse_32 : decode cX2_inverse 32 = .ok (.lmul, 1) := by decide +kernel
theorem dX2_inverse_33 : decode cX2_inverse 33 = .ok (.invokestatic 11, 3) := by decide +kernel
theorem dX2_inverse_36 : decode cX2_inverse 36 = .ok (.istore_n 2, 1) := by decide +kernel
theorem dX2_inverse_37 : decode cX2_inverse 37 = .ok (.iload_n 3, 1) := by decide +kernel
theorem dX2_inverse_38 : decode cX2_inverse 38 = .ok (.iconst 1, 1) := by decide +kernel
theorem dX2_inverse_39 : decode cX2_inverse 39 = .ok (.ishr, 1) := by decide +kernel
theorem dX2_inverse_40 : decode cX2_inverse 40 = .ok (.istore_n 3, 1) := by decide +kernel
theorem dX2_inverse_41 : decode cX2_inverse 41 = .ok (.goto (-33), 3) := by decide +kernel
theorem dX2_inverse_44 : decode cX2_inverse 44 = .ok (.iload_n 1, 1) := by decide +kernel
theorem dX2_inverse_45 : decode cX2_inverse 45 = .ok (.ireturn, 1) := by decide +kernel
theorem dX3_init_0 : decode cX3_init 0 = .ok (.aload_n 0, 1) := by decide +kernel
theorem dX3_init_1 : decode cX3_init 1 = .ok (.invokespecial 3, 3) := by decide +kernel
theorem dX3_init_4 : decode cX3_init 4 = .ok (.aload_n 0, 1) := by decide +kernel
theorem dX3_init_5 : decode cX3_init 5 = .ok (.iload_n 1, 1) := by decide +kernel
theorem dX3_init_6 : decode cX3_init 6 = .ok (.iconst 0, 1) := by decide +kernel
theorem dX3_init_7 : decode cX3_init 7 = .ok (.invokestatic 9, 3) := by decide +kernel
theorem dX3_init_10 : decode cX3_init 10 = .ok (.newarray .int, 2) := by decide +kernel
theorem dX3_init_12 : decode cX3_init 12 = .ok (.putfield 15, 3) := by decide +kernel
theorem dX3_init_15 : decode cX3_init 15 = .ok (.aload_n 0, 1) := by decide +kernel
theorem dX3_init_16 : decode cX3_init 16 = .ok (.iconst (-1), 1) := by decide +kernel
theorem dX3_init_17 : decode cX3_init 17 = .ok (.putfield 21, 3) := by decide +kernel
theorem dX3_init_20 : decode cX3_init 20 = .ok (.return_, 1) := by decide +kernel
set_option maxRecDepth 20000 in
theorem ggX3_init__X3_copy : GoodIn wsX3_init_ wsX3_copy := goodIn_r _ [15, 4, 16, 17, 18, 14, 19, 20, 21, 22, 23, 10, 24, 25, 26, 27, 28, 29] (by decide +kernel) (by decide +kernel)
set_option maxRecDepth 20000 in
theorem gX3_init__X3_copy : GoodIn wsX3_init_ (wsV RX3 25 RX3 yX3_copy wsX3_copy) := goodIn_app (goodIn_of _ (by decide +kernel)) ggX3_init__X3_copy
theorem dX3_init__0 : decode cX3_init_ 0 = .ok (.aload_n 0, 1) := by decide +kernel
theorem dX3_init__1 : decode cX3_init_ 1 = .ok (.invokespecial 3, 3) := by decide +kernel
theorem dX3_init__4 : decode cX3_init_ 4 = .ok (.aload_n 0, 1) := by decide +kernel
theorem dX3_init__5 : decode cX3_init_ 5 = .ok (.aload_n 1, 1) := by decide +kernel
theorem dX3_init__6 : decode cX3_init_ 6 = .ok (.getfield 21, 3) := by decide +kernel
theorem dX3_init__9 : decode cX3_init_ 9 = .ok (.iconst 1, 1) := by decide +kernel
theorem dX3_init__10 : decode cX3_init_ 10 = .ok (.iadd, 1) := by decide +kernel
theorem dX3_init__11 : decode cX3_init_ 11 = .ok (.iconst 0, 1) := by decide +kernel
theorem dX3_init__12 : decode cX3_init_ 12 = .ok (.invokestatic 9, 3) := by decide +kernel
theorem dX3_init__15 : decode cX3_init_ 15 = .ok (.newarray .int, 2) := by decide +kernel
theorem dX3_init__17 : decode cX3_init_ 17 = .ok (.putfield 15, 3) := by decide +kernel
theorem dX3_init__20 : decode cX3_init_ 20 = .ok (.aload_n 0, 1) := by decide +kernel
theorem dX3_init__21 : decode cX3_init_ 21 = .ok (.iconst (-1), 1) := by decide +kernel
theorem dX3_init__22 : decode cX3_init_ 22 = .ok (.putfield 21, 3) := by decide +kernel
theorem dX3_init__25 : decode cX3_init_ 25 = .ok (.aload_n 0, 1) := by decide +kernel
theorem dX3_init__26 : decode cX3_init_ 26 = .ok (.aload_n 1, 1) := by decide +kernel
theorem dX3_init__27 : decode cX3_init_ 27 = .ok (.invokevirtual 25, 3) := by decide +kernel
theorem dX3_init__30 : decode cX3_init_ 30 = .ok (.return_, 1) := by decide +kernel
theorem dX3_isZero_0 : decode cX3_isZero 0 = .ok (.aload_n 0, 1) := by decide +kernel
theorem dX3_isZero_1 : decode cX3_isZero 1 = .ok (.getfield 21, 3) := by decide +kernel
theorem dX3_isZero_4 : decode cX3_isZero 4 = .ok (.ifCond .ge 7, 3) := by decide +kernel
theorem dX3_isZero_7 : decode cX3_isZero 7 = .ok (.iconst 1, 1) := by decide +kernel
theorem dX3_isZero_8 : decode cX3_isZero 8 = .ok (.goto 4, 3) := by decide +kernel
theorem dX3_isZero_11 : decode cX3_isZero 11 = .ok (.iconst 0, 1) := by decide +kernel
theorem dX3_isZero_12 : decode cX3_isZero 12 = .ok (.ireturn, 1) := by decide +kernel
theorem dX3_coefficient_0 : decode cX3_coefficient 0 = .ok (.iload_n 1, 1) := by decide +kernel
theorem dX3_coefficient_1 : decode cX3_coefficient 1 = .ok (.ifCond .lt 21, 3) := by decide +kernel
theorem dX3_coefficient_4 : decode cX3_coefficient 4 = .ok (.iload_n 1, 1) := by decide +kernel
theorem dX3_coefficient_5 : decode cX3_coefficient 5 = .ok (.aload_n 0, 1) := by decide +kernel
theorem dX3_coefficient_6 : decode cX3_coefficient 6 = .ok (.getfield 15, 3) := by decide +kernel
theorem dX3_coefficient_9 : decode cX3_coefficient 9 = .ok (.arraylength, 1) := by decide +kernel
theorem dX3_coefficient_10 : decode cX3_coefficient 10 = .ok (.if_icmp .ge 12, 3) := by decide +kernel
theorem dX3_coefficient_13 : decode cX3_coefficient 13 = .ok (.aload_n 0, 1) := by decide +kernel
theorem dX3_coefficient_14 : decode cX3_coefficient 14 = .ok (.getfield 15, 3) := by decide +kernel
theorem dX3_coefficient_17 : decode cX3_coefficient 17 = .ok (.iload_n 1, 1) := by decide +kernel
theorem dX3_coefficient_18 : decode cX3_coefficient 18 = .ok (.iaload, 1) := by decide +kernel
theorem dX3_coefficient_19 : decode cX3_coefficient 19 = .ok (.goto 4, 3) := by decide +kernel
theorem dX3_coefficient_22 : decode cX3_coefficient 22 = .ok (.iconst 0, 1) := by decide +kernel
theorem dX3_coefficient_23 : decode cX3_coefficient 23 = .ok (.ireturn, 1) := by decide +kernel
set_option maxRecDepth 20000 in
theorem ggX3_leading_X3_coefficient : GoodIn wsX3_leading wsX3_coefficient := goodIn_r _ [6, 7, 8, 9] (by decide +kernel) (by decide +kernel)
set_option maxRecDepth 20000 in
theorem gX3_leading_X3_coefficient : GoodIn wsX3_leading (wsV RX3 29 RX3 yX3_coefficient wsX3_coefficient) := goodIn_app (goodIn_of _ (by decide +kernel)) ggX3_leading_X3_coefficient
theorem dX3_leading_0 : decode cX3_leading 0 = .ok (.aload_n 0, 1) := by decide +kernel
theorem dX3_leading_1 : decode cX3_leading 1 = .ok (.aload_n 0, 1) := by decide +kernel
theorem dX3_leading_2 : decode cX3_leading 2 = .ok (.getfield 21, 3) := by decide +kernel
theorem dX3_leading_5 : decode cX3_leading 5 = .ok (.invokevirtual 29, 3) := by decide +kernel
theorem dX3_leading_8 : decode cX3_leading 8 = .ok (.ireturn, 1) := by decide +kernel
theorem dX3_put_0 : decode cX3_put 0 = .ok (.iload_n 1, 1) := by decide +kernel
theorem dX3_put_1 : decode cX3_put 1 = .ok (.ifCond .lt 12, 3) := by decide +kernel
theorem dX3_put_4 : decode cX3_put 4 = .ok (.iload_n 1, 1) := by decide +kernel
theorem dX3_put_5 : decode cX3_put 5 = .ok (.aload_n 0, 1) := by decide +kernel
theorem dX3_put_6 : decode cX3_put 6 = .ok (.getfield 15, 3) := by decide +kernel
theorem dX3_put_9 : decode cX3_put 9 = .ok (.arraylength, 1) := by decide +kernel
theorem dX3_put_10 : decode cX3_put 10 = .ok (.if_icmp .lt 4, 3) := by decide +kernel
theorem dX3_put_13 : decode cX3_put 13 = .ok (.return_, 1) := by decide +kernel
theorem dX3_put_14 : decode cX3_put 14 = .ok (.aload_n 0, 1) := by decide +kernel
theorem dX3_put_15 : decode cX3_put 15 = .ok (.getfield 15, 3) := by decide +kernel
theorem dX3_put_18 : decode cX3_put 18 = .ok (.iload_n 1, 1) := by decide +kernel
theorem dX3_put_19 : decode cX3_put 19 = .ok (.iload_n 2, 1) := by decide +kernel
theorem dX3_put_20 : decode cX3_put 20 = .ok (.iastore, 1) := by decide +kernel
theorem dX3_put_21 : decode cX3_put 21 = .ok (.iload_n 1, 1) := by decide +kernel
theorem dX3_put_22 : decode cX3_put 22 = .ok (.aload_n 0, 1) := by decide +kernel
theorem dX3_put_23 : decode cX3_put 23 = .ok (.getfield 21, 3) := by decide +kernel
theorem dX3_put_26 : decode cX3_put 26 = .ok (.if_icmp .lt 29, 3) := by decide +kernel
theorem dX3_put_29 : decode cX3_put 29 = .ok (.iload_n 1, 1) := by decide +kernel
theorem dX3_put_30 : decode cX3_put 30 = .ok (.istore_n 3, 1) := by decide +kernel
theorem dX3_put_31 : decode cX3_put 31 = .ok (.iload_n 3, 1) := by decide +kernel
theorem dX3_put_32 : decode cX3_put 32 = .ok (.ifCond .lt 18, 3) := by decide +kernel
theorem dX3_put_35 : decode cX3_put 35 = .ok (.aload_n 0, 1) := by decide +kernel
theorem dX3_put_36 : decode cX3_put 36 = .ok (.getfield 15, 3) := by decide +kernel
theorem dX3_put_39 : decode cX3_put 39 = .ok (.iload_n 3, 1) := by decide +kernel
theorem dX3_put_40 : decode cX3_put 40 = .ok (.iaload, 1) := by decide +kernel
theorem dX3_put_41 : decode cX3_put 41 = .ok (.ifCond .ne 9, 3) := by decide +kernel
theorem dX3_put_44 : decode cX3_put 44 = .ok (.iinc 3 (-1), 3) := by decide +kernel
theorem dX3_put_47 : decode cX3_put 47 = .ok (.goto (-16), 3) := by decide +kernel
theorem dX3_put_50 : decode cX3_put 50 = .ok (.aload_n 0, 1) := by decide +kernel
theorem dX3_put_51 : decode cX3_put 51 = .ok (.iload_n 3, 1) := by decide +kernel
theorem dX3_put_52 : decode cX3_put 52 = .ok (.putfield 21, 3) := by decide +kernel
theorem dX3_put_55 : decode cX3_put 55 = .ok (.return_, 1) := by decide +kernel
set_option maxRecDepth 20000 in
theorem ggX3_clear_X3_put : GoodIn wsX3_clear wsX3_put := goodIn_r _ [6, 7, 1, 8, 9] (by decide +kernel) (by decide +kernel)
set_option maxRecDepth 20000 in
theorem gX3_clear_X3_put : GoodIn wsX3_clear (wsV RX3 33 RX3 yX3_put wsX3_put) := goodIn_app (goodIn_of _ (by decide +kernel)) ggX3_clear_X3_put
theorem dX3_clear_0 : decode cX3_clear 0 = .ok (.aload_n 0, 1) := by decide +kernel
theorem dX3_clear_1 : decode cX3_clear 1 = .ok (.getfield 21, 3) := by decide +kernel
theorem dX3_clear_4 : decode cX3_clear 4 = .ok (.istore_n 1, 1) := by decide +kernel
theorem dX3_clear_5 : decode cX3_clear 5 = .ok (.iload_n 1, 1) := by decide +kernel
theorem dX3_clear_6 : decode cX3_clear 6 = .ok (.ifCond .lt 15, 3) := by decide +kernel
theorem dX3_clear_9 : decode cX3_clear 9 = .ok (.aload_n 0, 1) := by decide +kernel
theorem dX3_clear_10 : decode cX3_clear 10 = .ok (.iload_n 1, 1) := by decide +kernel
theorem dX3_clear_11 : decode cX3_clear 11 = .ok (.iconst 0, 1) := by decide +kernel
theorem dX3_clear_12 : decode cX3_clear 12 = .ok (.invokevirtual 33, 3) := by decide +kernel
theorem dX3_clear_15 : decode cX3_clear 15 = .ok (.iinc 1 (-1), 3) := by decide +kernel
theorem dX3_clear_18 : decode cX3_clear 18 = .ok (.goto (-13), 3) := by decide +kernel
theorem dX3_clear_21 : decode cX3_clear 21 = .ok (.return_, 1) := by decide +kernel
set_option maxRecDepth 20000 in
theorem ggX3_copy_X3_clear : GoodIn wsX3_copy wsX3_clear := goodIn_r _ [6, 1, 7, 8, 9, 5, 10, 11, 16, 17] (by decide +kernel) (by decide +kernel)
set_option maxRecDepth 20000 in
theorem gX3_copy_X3_clear : GoodIn wsX3_copy (wsV RX3 37 RX3 yX3_clear wsX3_clear) := goodIn_app (goodIn_of _ (by decide +kernel)) ggX3_copy_X3_clear
set_option maxRecDepth 20000 in
theorem ggX3_copy_X3_coefficient : GoodIn wsX3_copy wsX3_coefficient := goodIn_r _ [15, 11, 16, 17] (by decide +kernel) (by decide +kernel)
set_option maxRecDepth 20000 in
theorem gX3_copy_X3_coefficient : GoodIn wsX3_copy (wsV RX3 29 RX3 yX3_coefficient wsX3_coefficient) := goodIn_app (goodIn_of _ (by decide +kernel)) ggX3_copy_X3_coefficient
set_option maxRecDepth 20000 in
theorem ggX3_copy_X3_put : GoodIn wsX3_copy wsX3_put := goodIn_r _ [10, 11, 1, 16, 17] (by decide +kernel) (by decide +kernel)
set_option maxRecDepth 20000 in
theorem gX3_copy_X3_put : GoodIn wsX3_copy (wsV RX3 33 RX3 yX3_put wsX3_put) := goodIn_app (goodIn_of _ (by decide +kernel)) ggX3_copy_X3_put
theorem dX3_copy_0 : decode cX3_copy 0 = .ok (.aload_n 0, 1) := by decide +kernel
theorem dX3_copy_1 : decode cX3_copy 1 = .ok (.invokevirtual 37, 3) := by decide +kernel
theorem dX3_copy_4 : decode cX3_copy 4 = .ok (.iconst 0, 1) := by decide +kernel
theorem dX3_copy_5 : decode cX3_copy 5 = .ok (.istore_n 2, 1) := by decide +kernel
theorem dX3_copy_6 : decode cX3_copy 6 = .ok (.iload_n 2, 1) := by decide +kernel
theorem dX3_copy_7 : decode cX3_copy 7 = .ok (.aload_n 1, 1) := by decide +kernel
theorem dX3_copy_8 : decode cX3_copy 8 = .ok (.getfield 21, 3) := by decide +kernel
theorem dX3_copy_11 : decode cX3_copy 11 = .ok (.if_icmp .gt 19, 3) := by decide +kernel
theorem dX3_copy_14 : decode cX3_copy 14 = .ok (.aload_n 0, 1) := by decide +kernel
theorem dX3_copy_15 : decode cX3_copy 15 = .ok (.iload_n 2, 1) := by decide +kernel
theorem dX3_copy_16 : decode cX3_copy 16 = .ok (.aload_n 1, 1) := by decide +kernel
theorem dX3_copy_17 : decode cX3_copy 17 = .ok (.iload_n 2, 1) := by decide +kernel
theorem dX3_copy_18 : decode cX3_copy 18 = .ok (.invokevirtual 29, 3) := by decide +kernel
theorem dX3_copy_21 : decode cX3_copy 21 = .ok (.invokevirtual 33, 3) := by decide +kernel
theorem dX3_copy_24 : decode cX3_copy 24 = .ok (.iinc 2 1, 3) := by decide +kernel
theorem dX3_copy_27 : decode cX3_copy 27 = .ok (.goto (-21), 3) := by decide +kernel
theorem dX3_copy_30 : decode cX3_copy 30 = .ok (.return_, 1) := by decide +kernel
set_option maxRecDepth 20000 in
theorem ggX3_setProduct_X3_clear : GoodIn wsX3_setProduct wsX3_clear := goodIn_r _ [13, 1, 14, 15, 16, 12, 17, 18, 28, 29] (by decide +kernel) (by decide +kernel)
set_option maxRecDepth 20000 in
theorem gX3_setProduct_X3_clear : GoodIn wsX3_setProduct (wsV RX3 37 RX3 yX3_clear wsX3_clear) := goodIn_app (goodIn_of _ (by decide +kernel)) ggX3_setProduct_X3_clear
set_option maxRecDepth 20000 in
theorem ggX3_setProduct_X3_coefficient : GoodIn wsX3_setProduct wsX3_coefficient := goodIn_r _ [22, 18, 28, 29] (by decide +kernel) (by decide +kernel)
set_option maxRecDepth 20000 in
theorem gX3_setProduct_X3_coefficient : GoodIn wsX3_setProduct (wsV RX3 29 RX3 yX3_coefficient wsX3_coefficient) := goodIn_app (goodIn_of _ (by decide +kernel)) ggX3_setProduct_X3_coefficient
set_option maxRecDepth 20000 in
theorem ggX3_setProduct_X2_reduced : GoodIn wsX3_setProduct wsX2_reduced := goodIn_r _ [26, 27] (by decide +kernel) (by decide +kernel)
set_option maxRecDepth 20000 in
theorem gX3_setProduct_X2_reduced : GoodIn wsX3_setProduct (va_wsS RX3 43 yX2_reduced wsX2_reduced) := goodIn_app (goodIn_of _ (by decide +kernel)) ggX3_setProduct_X2_reduced
set_option maxRecDepth 20000 in
theorem ggX3_setProduct_X3_put : GoodIn wsX3_setProduct wsX3_put := goodIn_r _ [17, 18, 1, 28, 29] (by decide +kernel) (by decide +kernel)
set_option maxRecDepth 20000 in
theorem gX3_setProduct_X3_put : GoodIn wsX3_setProduct (wsV RX3 33 RX3 yX3_put wsX3_put) := goodIn_app (goodIn_of _ (by decide +kernel)) ggX3_setProduct_X3_put
theorem dX3_setProduct_0 : decode cX3_setProduct 0 = .ok (.aload_n 0, 1) := by decide +kernel
theorem dX3_setProduct_1 : decode cX3_setProduct 1 = .ok (.invokevirtual 37, 3) := by decide +kernel
theorem dX3_setProduct_4 : decode cX3_setProduct 4 = .ok (.iconst 0, 1) := by decide +kernel
theorem dX3_setProduct_5 : decode cX3_setProduct 5 = .ok (.istore_n 3, 1) := by decide +kernel
theorem dX3_setProduct_6 : decode cX3_setProduct 6 = .ok (.iload_n 3, 1) := by decide +kernel
theorem dX3_setProduct_7 : decode cX3_setProduct 7 = .ok (.aload_n 1, 1) := by decide +kernel
theorem dX3_setProduct_8 : decode cX3_setProduct 8 = .ok (.getfield 21, 3) := by decide +kernel
theorem dX3_setProduct_11 : decode cX3_setProduct 11 = .ok (.aload_n 2, 1) := by decide +kernel
theorem dX3_setProduct_12 : decode cX3_setProduct 12 = .ok (.getfield 21, 3) := by decide +kernel
theorem dX3_setProduct_15 : decode cX3_setProduct 15 = .ok (.iadd, 1) := by decide +kernel
theorem dX3_setProduct_16 : decode cX3_setProduct 16 = .ok (.if_icmp .gt 79, 3) := by decide +kernel
theorem dX3_setProduct_19 : decode cX3_setProduct 19 = .ok (.lconst 0, 1) := by decide +kernel
theorem dX3_setProduct_20 : decode cX3_setProduct 20 = .ok (.lstore 4, 2) := by decide +kernel
theorem dX3_setProduct_22 : decode cX3_setProduct 22 = .ok (.iload_n 3, 1) := by decide +kernel
theorem dX3_setProduct_23 : decode cX3_setProduct 23 = .ok (.aload_n 1, 1) := by decide +kernel
theorem dX3_setProduct_24 : decode cX3_setProduct 24 = .ok (.getfield 21, 3) := by decide +kernel
theorem dX3_setProduct_27 : decode cX3_setProduct 27 = .ok (.invokestatic 40, 3) := by decide +kernel
theorem dX3_setProduct_30 : decode cX3_setProduct 30 = .ok (.istore 6, 2) := by decide +kernel
theorem dX3_setProduct_32 : decode cX3_setProduct 32 = .ok (.iload_n 3, 1) := by decide +kernel
theorem dX3_setProduct_33 : decode cX3_setProduct 33 = .ok (.aload_n 2, 1) := by decide +kernel
theorem dX3_setProduct_34 : decode cX3_setProduct 34 = .ok (.getfield 21, 3) := by decide +kernel
theorem dX3_setProduct_37 : decode cX3_setProduct 37 = .ok (.isub, 1) := by decide +kernel
theorem dX3_setProduct_38 : decode cX3_setProduct 38 = .ok (.iconst 0, 1) := by decide +kernel
theorem dX3_setProduct_39 : decode cX3_setProduct 39 = .ok (.invokestatic 9, 3) := by decide +kernel
theorem dX3_setProduct_42 : decode cX3_setProduct 42 = .ok (.istore 7, 2) := by decide +kernel
theorem dX3_setProduct_44 : decode cX3_setProduct 44 = .ok (.iload 7, 2) := by decide +kernel
theorem dX3_setProduct_46 : decode cX3_setProduct 46 = .ok (.iload 6, 2) := by decide +kernel
theorem dX3_setProduct_48 : decode cX3_setProduct 48 = .ok (.if_icmp .gt 31, 3) := by decide +kernel
theorem dX3_setProduct_51 : decode cX3_setProduct 51 = .ok (.lload 4, 2) := by decide +kernel
theorem dX3_setProduct_53 : decode cX3_setProduct 53 = .ok (.aload_n 1, 1) := by decide +kernel
theorem dX3_setProduct_54 : decode cX3_setProduct 54 = .ok (.iload 7, 2) := by decide +kernel
theorem dX3_setProduct_56 : decode cX3_setProduct 56 = .ok (.invokevirtual 29, 3) := by decide +kernel
theorem dX3_setProduct_59 : decode cX3_setProduct 59 = .ok (.i2l, 1) := by decide +kernel
theorem dX3_setProduct_60 : decode cX3_setProduct 60 = .ok (.aload_n 2, 1) := by decide +kernel
theorem dX3_setProduct_61 : decode cX3_setProduct 61 = .ok (.iload_n 3, 1) := by decide +kernel
theorem dX3_setProduct_62 : decode cX3_setProduct 62 = .ok (.iload 7, 2) := by decide +kernel
theorem dX3_setProduct_64 : decode cX3_setProduct 64 = .ok (.isub, 1) := by decide +kernel
theorem dX3_setProduct_65 : decode cX3_setProduct 65 = .ok (.invokevirtual 29, 3) := by decide +kernel
theorem dX3_setProduct_68 : decode cX3_setProduct 68 = .ok (.i2l, 1) := by decide +kernel
theorem dX3_setProduct_69 : decode cX3_setProduct 69 = .ok (.lmul, 1) := by decide +kernel
theorem dX3_setProduct_70 : decode cX3_setProduct 70 = .ok (.ladd, 1) := by decide +kernel
theorem dX3_setProduct_71 : decode cX3_setProduct 71 = .ok (.lstore 4, 2) := by decide +kernel
theorem dX3_setProduct_73 : decode cX3_setProduct 73 = .ok (.iinc 7 1, 3) := by decide +kernel
theorem dX3_setProduct_76 : decode cX3_setProduct 76 = .ok (.goto (-32), 3) := by decide +kernel
theorem dX3_setProduct_79 : decode cX3_setProduct 79 = .ok (.aload_n 0, 1) := by decide +kernel
theorem dX3_setProduct_80 : decode cX3_setProduct 80 = .ok (.iload_n 3, 1) := by decide +kernel
theorem dX3_setProduct_81 : decode cX3_setProduct 81 = .ok (.lload 4, 2) := by decide +kernel
theorem dX3_setProduct_83 : decode cX3_setProduct 83 = .ok (.invokestatic 43, 3) := by decide +kernel
theorem dX3_setProduct_86 : decode cX3_setProduct 86 = .ok (.invokevirtual 33, 3) := by decide +kernel
theorem dX3_setProduct_89 : decode cX3_setProduct 89 = .ok (.iinc 3 1, 3) := by decide +kernel
theorem dX3_setProduct_92 : decode cX3_setProduct 92 = .ok (.goto (-86), 3) := by decide +kernel
theorem dX3_setProduct_95 : decode cX3_setProduct 95 = .ok (.return_, 1) := by decide +kernel
set_option maxRecDepth 20000 in
theorem ggX3_gather_X3_coefficient : GoodIn wsX3_gather wsX3_coefficient := goodIn_r _ [6, 7, 17, 18] (by decide +kernel) (by decide +kernel)
set_option maxRecDepth 20000 in
theorem gX3_gather_X3_coefficient : GoodIn wsX3_gather (wsV RX3 29 RX3 yX3_coefficient wsX3_coefficient) := goodIn_app (goodIn_of _ (by decide +kernel)) ggX3_gather_X3_coefficient
set_option maxRecDepth 20000 in
theorem ggX3_gather_X2_reduced : GoodIn wsX3_gather wsX2_reduced := goodIn_r _ [11, 12] (by decide +kernel) (by decide +kernel)
set_option maxRecDepth 20000 in
theorem gX3_gather_X2_reduced : GoodIn wsX3_gather (va_wsS RX3 43 yX2_reduced wsX2_reduced) := goodIn_app (goodIn_of _ (by decide +kernel)) ggX3_gather_X2_reduced
set_option maxRecDepth 20000 in
theorem ggX3_gather_X3_put : GoodIn wsX3_gather wsX3_put := goodIn_r _ [16, 7, 1, 17, 18] (by decide +kernel) (by decide +kernel)
set_option maxRecDepth 20000 in
theorem gX3_gather_X3_put : GoodIn wsX3_gather (wsV RX3 33 RX3 yX3_put wsX3_put) := goodIn_app (goodIn_of _ (by decide +kernel)) ggX3_gather_X3_put
theorem dX3_gather_0 : decode cX3_gather 0 = .ok (.iconst 0, 1) := by decide +kernel
theorem dX3_gather_1 : decode cX3_gather 1 = .ok (.istore 4, 2) := by decide +kernel
theorem dX3_gather_3 : decode cX3_gather 3 = .ok (.iload 4, 2) := by decide +kernel
theorem dX3_gather_5 : decode cX3_gather 5 = .ok (.aload_n 1, 1) := by decide +kernel
theorem dX3_gather_6 : decode cX3_gather 6 = .ok (.getfield 21, 3) := by decide +kernel
theorem dX3_gather_9 : decode cX3_gather 9 = .ok (.if_icmp .gt 44, 3) := by decide +kernel
theorem dX3_gather_12 : decode cX3_gather 12 = .ok (.aload_n 0, 1) := by decide +kernel
theorem dX3_gather_13 : decode cX3_gather 13 = .ok (.iload 4, 2) := by decide +kernel
theorem dX3_gather_15 : decode cX3_gather 15 = .ok (.iload_n 3, 1) := by decide +kernel
theorem dX3_gather_16 : decode cX3_gather 16 = .ok (.iadd, 1) := by decide +kernel
theorem dX3_gather_17 : decode cX3_gather 17 = .ok (.invokevirtual 29, 3) := by decide +kernel
theorem dX3_gather_20 : decode cX3_gather 20 = .ok (.i2l, 1) := by decide +kernel
theorem dX3_gather_21 : decode cX3_gather 21 = .ok (.iload_n 2, 1) := by decide +kernel
theorem dX3_gather_22 : decode cX3_gather 22 = .ok (.i2l, 1) := by decide +kernel
theorem dX3_gather_23 : decode cX3_gather 23 = .ok (.aload_n 1, 1) := by decide +kernel
theorem dX3_gather_24 : decode cX3_gather 24 = .ok (.iload 4, 2) := by decide +kernel
theorem dX3_gather_26 : decode cX3_gather 26 = .ok (.invokevirtual 29, 3) := by decide +kernel
theorem dX3_gather_29 : decode cX3_gather 29 = .ok (.i2l, 1) := by decide +kernel
theorem dX3_gather_30 : decode cX3_gather 30 = .ok (.lmul, 1) := by decide +kernel
theorem dX3_gather_31 : decode cX3_gather 31 = .ok (.ladd, 1) := by decide +kernel
theorem dX3_gather_32 : decode cX3_gather 32 = .ok (.lstore 5, 2) := by decide +kernel
theorem dX3_gather_34 : decode cX3_gather 34 = .ok (.aload_n 0, 1) := by decide +kernel
theorem dX3_gather_35 : decode cX3_gather 35 = .ok (.iload 4, 2) := by decide +kernel
theorem dX3_gather_37 : decode cX3_gather 37 = .ok (.iload_n 3, 1) := by decide +kernel
theorem dX3_gather_38 : decode cX3_gather 38 = .ok (.iadd, 1) := by decide +kernel
theorem dX3_gather_39 : decode cX3_gather 39 = .ok (.lload 5, 2) := by decide +kernel
theorem dX3_gather_41 : decode cX3_gather 41 = .ok (.invokestatic 43, 3) := by decide +kernel
theorem dX3_gather_44 : decode cX3_gather 44 = .ok (.invokevirtual 33, 3) := by decide +kernel
theorem dX3_gather_47 : decode cX3_gather 47 = .ok (.iinc 4 1, 3) := by decide +kernel
theorem dX3_gather_50 : decode cX3_gather 50 = .ok (.goto (-47), 3) := by decide +kernel
theorem dX3_gather_53 : decode cX3_gather 53 = .ok (.return_, 1) := by decide +kernel
set_option maxRecDepth 20000 in
theorem ggX3_scale_X3_coefficient : GoodIn wsX3_scale wsX3_coefficient := goodIn_r _ [6, 7, 20, 21] (by decide +kernel) (by decide +kernel)
set_option maxRecDepth 20000 in
theorem gX3_scale_X3_coefficient : GoodIn wsX3_scale (wsV RX3 29 RX3 yX3_coefficient wsX3_coefficient) := goodIn_app (goodIn_of _ (by decide +kernel)) ggX3_scale_X3_coefficient
set_option maxRecDepth 20000 in
theorem ggX3_scale_X2_product : GoodIn wsX3_scale wsX2_product := goodIn_r _ [11, 12, 13, 10, 14, 15] (by decide +kernel) (by decide +kernel)
set_option maxRecDepth 20000 in
theorem gX3_scale_X2_product : GoodIn wsX3_scale (va_wsS RX3 49 yX2_product wsX2_product) := goodIn_app (goodIn_of _ (by decide +kernel)) ggX3_scale_X2_product
set_option maxRecDepth 20000 in
theorem ggX3_scale_X3_put : GoodIn wsX3_scale wsX3_put := goodIn_r _ [19, 7, 1, 20, 21] (by decide +kernel) (by decide +kernel)
set_option maxRecDepth 20000 in
theorem gX3_scale_X3_put : GoodIn wsX3_scale (wsV RX3 33 RX3 yX3_put wsX3_put) := goodIn_app (goodIn_of _ (by decide +kernel)) ggX3_scale_X3_put
theorem dX3_scale_0 : decode cX3_scale 0 = .ok (.aload_n 0, 1) := by decide +kernel
theorem dX3_scale_1 : decode cX3_scale 1 = .ok (.getfield 21, 3) := by decide +kernel
theorem dX3_scale_4 : decode cX3_scale 4 = .ok (.istore_n 2, 1) := by decide +kernel
theorem dX3_scale_5 : decode cX3_scale 5 = .ok (.iload_n 2, 1) := by decide +kernel
theorem dX3_scale_6 : decode cX3_scale 6 = .ok (.ifCond .lt 23, 3) := by decide +kernel
theorem dX3_scale_9 : decode cX3_scale 9 = .ok (.aload_n 0, 1) := by decide +kernel
theorem dX3_scale_10 : decode cX3_scale 10 = .ok (.iload_n 2, 1) := by decide +kernel
theorem dX3_scale_11 : decode cX3_scale 11 = .ok (.aload_n 0, 1) := by decide +kernel
theorem dX3_scale_12 : decode cX3_scale 12 = .ok (.iload_n 2, 1) := by decide +kernel
theorem dX3_scale_13 : decode cX3_scale 13 = .ok (.invokevirtual 29, 3) := by decide +kernel
theorem dX3_scale_16 : decode cX3_scale 16 = .ok (.iload_n 1, 1) := by decide +kernel
theorem dX3_scale_17 : decode cX3_scale 17 = .ok (.invokestatic 49, 3) := by decide +kernel
theorem dX3_scale_20 : decode cX3_scale 20 = .ok (.invokevirtual 33, 3) := by decide +kernel
theorem dX3_scale_23 : decode cX3_scale 23 = .ok (.iinc 2 (-1), 3) := by decide +kernel
theorem dX3_scale_26 : decode cX3_scale 26 = .ok (.goto (-21), 3) := by decide +kernel
theorem dX3_scale_29 : decode cX3_scale 29 = .ok (.return_, 1) := by decide +kernel
set_option maxRecDepth 20000 in
theorem ggX3_multiplyByLinear_X3_coefficient : GoodIn wsX3_multiplyByLinear wsX3_coefficient := goodIn_r _ [6, 7, 17, 18] (by decide +kernel) (by decide +kernel)
set_option maxRecDepth 20000 in
theorem gX3_multiplyByLinear_X3_coefficient : GoodIn wsX3_multiplyByLinear (wsV RX3 29 RX3 yX3_coefficient wsX3_coefficient) := goodIn_app (goodIn_of _ (by decide +kernel)) ggX3_multiplyByLinear_X3_coefficient
set_option maxRecDepth 20000 in
theorem ggX3_multiplyByLinear_X2_reduced : GoodIn wsX3_multiplyByLinear wsX2_reduced := goodIn_r _ [11, 12] (by decide +kernel) (by decide +kernel)
set_option maxRecDepth 20000 in
theorem gX3_multiplyByLinear_X2_reduced : GoodIn wsX3_multiplyByLinear (va_wsS RX3 43 yX2_reduced wsX2_reduced) := goodIn_app (goodIn_of _ (by decide +kernel)) ggX3_multiplyByLinear_X2_reduced
set_option maxRecDepth 20000 in
theorem ggX3_multiplyByLinear_X3_put : GoodIn wsX3_multiplyByLinear wsX3_put := goodIn_r _ [16, 7, 1, 17, 18] (by decide +kernel) (by decide +kernel)
set_option maxRecDepth 20000 in
theorem gX3_multiplyByLinear_X3_put : GoodIn wsX3_multiplyByLinear (wsV RX3 33 RX3 yX3_put wsX3_put) := goodIn_app (goodIn_of _ (by decide +kernel)) ggX3_multiplyByLinear_X3_put
theorem dX3_multiplyByLinear_0 : decode cX3_multiplyByLinear 0 = .ok (.aload_n 0, 1) := by decide +kernel
theorem dX3_multiplyByLinear_1 : decode cX3_multiplyByLinear 1 = .ok (.getfield 21, 3) := by decide +kernel
theorem dX3_multiplyByLinear_4 : decode cX3_multiplyByLinear 4 = .ok (.iconst 1, 1) := by decide +kernel
theorem dX3_multiplyByLinear_5 : decode cX3_multiplyByLinear 5 = .ok (.iadd, 1) := by decide +kernel
theorem dX3_multiplyByLinear_6 : decode cX3_multiplyByLinear 6 = .ok (.istore_n 2, 1) := by decide +kernel
theorem dX3_multiplyByLinear_7 : decode cX3_multiplyByLinear 7 = .ok (.iload_n 2, 1) := by decide +kernel
theorem dX3_multiplyByLinear_8 : decode cX3_multiplyByLinear 8 = .ok (.ifCond .lt 37, 3) := by decide +kernel
theorem dX3_multiplyByLinear_11 : decode cX3_multiplyByLinear 11 = .ok (.aload_n 0, 1) := by decide +kernel
theorem dX3_multiplyByLinear_12 : decode cX3_multiplyByLinear 12 = .ok (.iload_n 2, 1) := by decide +kernel
theorem dX3_multiplyByLinear_13 : decode cX3_multiplyByLinear 13 = .ok (.iconst 1, 1) := by decide +kernel
theorem dX3_multiplyByLinear_14 : decode cX3_multiplyByLinear 14 = .ok (.isub, 1) := by decide +kernel
theorem dX3_multiplyByLinear_15 : decode cX3_multiplyByLinear 15 = .ok (.invokevirtual 29, 3) := by decide +kernel
theorem dX3_multiplyByLinear_18 : decode cX3_multiplyByLinear 18 = .ok (.i2l, 1) := by decide +kernel
theorem dX3_multiplyByLinear_19 : decode cX3_multiplyByLinear 19 = .ok (.iload_n 1, 1) := by decide +kernel
theorem dX3_multiplyByLinear_20 : decode cX3_multiplyByLinear 20 = .ok (.i2l, 1) := by decide +kernel
theorem dX3_multiplyByLinear_21 : decode cX3_multiplyByLinear 21 = .ok (.aload_n 0, 1) := by decide +kernel
theorem dX3_multiplyByLinear_22 : decode cX3_multiplyByLinear 22 = .ok (.iload_n 2, 1) := by decide +kernel
theorem dX3_multiplyByLinear_23 : decode cX3_multiplyByLinear 23 = .ok (.invokevirtual 29, 3) := by decide +kernel
theorem dX3_multiplyByLinear_26 : decode cX3_multiplyByLinear 26 = .ok (.i2l, 1) := by decide +kernel
theorem dX3_multiplyByLinear_27 : decode cX3_multiplyByLinear 27 = .ok (.lmul, 1) := by decide +kernel
theorem dX3_multiplyByLinear_28 : decode cX3_multiplyByLinear 28 = .ok (.ladd, 1) := by decide +kernel
theorem dX3_multiplyByLinear_29 : decode cX3_multiplyByLinear 29 = .ok (.lstore_n 3, 1) := by decide +kernel
theorem dX3_multiplyByLinear_30 : decode cX3_multiplyByLinear 30 = .ok (.aload_n 0, 1) := by decide +kernel
theorem dX3_multiplyByLinear_31 : decode cX3_multiplyByLinear 31 = .ok (.iload_n 2, 1) := by decide +kernel
theorem dX3_multiplyByLinear_32 : decode cX3_multiplyByLinear 32 = .ok (.lload_n 3, 1) := by decide +kernel
theorem dX3_multiplyByLinear_33 : decode cX3_multiplyByLinear 33 = .ok (.invokestatic 43, 3) := by decide +kernel
theorem dX3_multiplyByLinear_36 : decode cX3_multiplyByLinear 36 = .ok (.invokevirtual 33, 3) := by decide +kernel
theorem dX3_multiplyByLinear_39 : decode cX3_multiplyByLinear 39 = .ok (.iinc 2 (-1), 3) := by decide +kernel
theorem dX3_multiplyByLinear_42 : decode cX3_multiplyByLinear 42 = .ok (.goto (-35), 3) := by decide +kernel
theorem dX3_multiplyByLinear_45 : decode cX3_multiplyByLinear 45 = .ok (.return_, 1) := by decide +kernel
set_option maxRecDepth 20000 in
theorem ggX3_moveByOne_X3_coefficient : GoodIn wsX3_moveByOne wsX3_coefficient := goodIn_r _ [6, 7, 17, 18] (by decide +kernel) (by decide +kernel)
set_option maxRecDepth 20000 in
theorem gX3_moveByOne_X3_coefficient : GoodIn wsX3_moveByOne (wsV RX3 29 RX3 yX3_coefficient wsX3_coefficient) := goodIn_app (goodIn_of _ (by decide +kernel)) ggX3_moveByOne_X3_coefficient
set_option maxRecDepth 20000 in
theorem ggX3_moveByOne_X2_reduced : GoodIn wsX3_moveByOne wsX2_reduced := goodIn_r _ [11, 12] (by decide +kernel) (by decide +kernel)
set_option maxRecDepth 20000 in
theorem gX3_moveByOne_X2_reduced : GoodIn wsX3_moveByOne (va_wsS RX3 43 yX2_reduced wsX2_reduced) := goodIn_app (goodIn_of _ (by decide +kernel)) ggX3_moveByOne_X2_reduced
set_option maxRecDepth 20000 in
theorem ggX3_moveByOne_X3_put : GoodIn wsX3_moveByOne wsX3_put := goodIn_r _ [16, 7, 1, 17, 18] (by decide +kernel) (by decide +kernel)
set_option maxRecDepth 20000 in
theorem gX3_moveByOne_X3_put : GoodIn wsX3_moveByOne (wsV RX3 33 RX3 yX3_put wsX3_put) := goodIn_app (goodIn_of _ (by decide +kernel)) ggX3_moveByOne_X3_put
theorem dX3_moveByOne_0 : decode cX3_moveByOne 0 = .ok (.iconst 0, 1) := by decide +kernel
theorem dX3_moveByOne_1 : decode cX3_moveByOne 1 = .ok (.istore_n 1, 1) := by decide +kernel
theorem dX3_moveByOne_2 : decode cX3_moveByOne 2 = .ok (.iload_n 1, 1) := by decide +kernel
theorem dX3_moveByOne_3 : decode cX3_moveByOne 3 = .ok (.aload_n 0, 1) := by decide +kernel
theorem dX3_moveByOne_4 : decode cX3_moveByOne 4 = .ok (.getfield 21, 3) := by decide +kernel
theorem dX3_moveByOne_7 : decode cX3_moveByOne 7 = .ok (.if_icmp .ge 50, 3) := by decide +kernel
theorem dX3_moveByOne_10 : decode cX3_moveByOne 10 = .ok (.aload_n 0, 1) := by decide +kernel
theorem dX3_moveByOne_11 : decode cX3_moveByOne 11 = .ok (.getfield 21, 3) := by decide +kernel
theorem dX3_moveByOne_14 : decode cX3_moveByOne 14 = .ok (.iconst 1, 1) := by decide +kernel
theorem dX3_moveByOne_15 : decode cX3_moveByOne 15 = .ok (.isub, 1) := by decide +kernel
theorem dX3_moveByOne_16 : decode cX3_moveByOne 16 = .ok (.istore_n 2, 1) := by decide +kernel
theorem dX3_moveByOne_17 : decode cX3_moveByOne 17 = .ok (.iload_n 2, 1) := by decide +kernel
theorem dX3_moveByOne_18 : decode cX3_moveByOne 18 = .ok (.iload_n 1, 1) := by decide +kernel
theorem dX3_moveByOne_19 : decode cX3_moveByOne 19 = .ok (.if_icmp .lt 32, 3) := by decide +kernel
theorem dX3_moveByOne_22 : decode cX3_moveByOne 22 = .ok (.aload_n 0, 1) := by decide +kernel
theorem dX3_moveByOne_23 : decode cX3_moveByOne 23 = .ok (.iload_n 2, 1) := by decide +kernel
theorem dX3_moveByOne_24 : decode cX3_moveByOne 24 = .ok (.aload_n 0, 1) := by decide +kernel
theorem dX3_moveByOne_25 : decode cX3_moveByOne 25 = .ok (.iload_n 2, 1) := by decide +kernel
theorem dX3_moveByOne_26 : decode cX3_moveByOne 26 = .ok (.invokevirtual 29, 3) := by decide +kernel
theorem dX3_moveByOne_29 : decode cX3_moveByOne 29 = .ok (.i2l, 1) := by decide +kernel
theorem dX3_moveByOne_30 : decode cX3_moveByOne 30 = .ok (.aload_n 0, 1) := by decide +kernel
theorem dX3_moveByOne_31 : decode cX3_moveByOne 31 = .ok (.iload_n 2, 1) := by decide +kernel
theorem dX3_moveByOne_32 : decode cX3_moveByOne 32 = .ok (.iconst 1, 1) := by decide +kernel
theorem dX3_moveByOne_33 : decode cX3_moveByOne 33 = .ok (.iadd, 1) := by decide +kernel
theorem dX3_moveByOne_34 : decode cX3_moveByOne 34 = .ok (.invokevirtual 29, 3) := by decide +kernel
theorem dX3_moveByOne_37 : decode cX3_moveByOne 37 = .ok (.i2l, 1) := by decide +kernel
theorem dX3_moveByOne_38 : decode cX3_moveByOne 38 = .ok (.ladd, 1) := by decide +kernel
theorem dX3_moveByOne_39 : decode cX3_moveByOne 39 = .ok (.invokestatic 43, 3) := by decide +kernel
theorem dX3_moveByOne_42 : decode cX3_moveByOne 42 = .ok (.invokevirtual 33, 3) := by decide +kernel
theorem dX3_moveByOne_45 : decode cX3_moveByOne 45 = .ok (.iinc 2 (-1), 3) := by decide +kernel
theorem dX3_moveByOne_48 : decode cX3_moveByOne 48 = .ok (.goto (-31), 3) := by decide +kernel
theorem dX3_moveByOne_51 : decode cX3_moveByOne 51 = .ok (.iinc 1 1, 3) := by decide +kernel
theorem dX3_moveByOne_54 : decode cX3_moveByOne 54 = .ok (.goto (-52), 3) := by decide +kernel
theorem dX3_moveByOne_57 : decode cX3_moveByOne 57 = .ok (.return_, 1) := by decide +kernel
set_option maxRecDepth 20000 in
theorem ggX3_divide_X3_clear : GoodIn wsX3_divide wsX3_clear := goodIn_r _ [6, 1, 7, 8, 9, 5, 10, 11, 40, 41] (by decide +kernel) (by decide +kernel)
set_option maxRecDepth 20000 in
theorem gX3_divide_X3_clear : GoodIn wsX3_divide (wsV RX3 37 RX3 yX3_clear wsX3_clear) := goodIn_app (goodIn_of _ (by decide +kernel)) ggX3_divide_X3_clear
set_option maxRecDepth 20000 in
theorem ggX3_divide_X3_isZero : GoodIn wsX3_divide wsX3_isZero := goodIn_r _ [15, 1, 40, 41] (by decide +kernel) (by decide +kernel)
set_option maxRecDepth 20000 in
theorem gX3_divide_X3_isZero : GoodIn wsX3_divide (wsV RX3 52 RX3 yX3_isZero wsX3_isZero) := goodIn_app (goodIn_of _ (by decide +kernel)) ggX3_divide_X3_isZero
set_option maxRecDepth 20000 in
theorem ggX3_divide_X3_leading : GoodIn wsX3_divide wsX3_leading := goodIn_r _ [19, 1, 20, 21, 22, 5, 23, 11, 40, 41] (by decide +kernel) (by decide +kernel)
set_option maxRecDepth 20000 in
theorem gX3_divide_X3_leading : GoodIn wsX3_divide (wsV RX3 56 RX3 yX3_leading wsX3_leading) := goodIn_app (goodIn_of _ (by decide +kernel)) ggX3_divide_X3_leading
set_option maxRecDepth 20000 in
theorem ggX3_divide_X2_inverse : GoodIn wsX3_divide wsX2_inverse := goodIn_r _ [27, 28, 29, 26, 30, 31] (by decide +kernel) (by decide +kernel)
set_option maxRecDepth 20000 in
theorem gX3_divide_X2_inverse : GoodIn wsX3_divide (va_wsS RX3 60 yX2_inverse wsX2_inverse) := goodIn_app (goodIn_of _ (by decide +kernel)) ggX3_divide_X2_inverse
set_option maxRecDepth 20000 in
theorem ggX3_divide_X3_coefficient : GoodIn wsX3_divide wsX3_coefficient := goodIn_r _ [23, 11, 40, 41] (by decide +kernel) (by decide +kernel)
set_option maxRecDepth 20000 in
theorem gX3_divide_X3_coefficient : GoodIn wsX3_divide (wsV RX3 29 RX3 yX3_coefficient wsX3_coefficient) := goodIn_app (goodIn_of _ (by decide +kernel)) ggX3_divide_X3_coefficient
set_option maxRecDepth 20000 in
theorem ggX3_divide_X2_product : GoodIn wsX3_divide wsX2_product := goodIn_r _ [34, 28, 29, 26, 30, 31] (by decide +kernel) (by decide +kernel)
set_option maxRecDepth 20000 in
theorem gX3_divide_X2_product : GoodIn wsX3_divide (va_wsS RX3 49 yX2_product wsX2_product) := goodIn_app (goodIn_of _ (by decide +kernel)) ggX3_divide_X2_product
set_option maxRecDepth 20000 in
theorem ggX3_divide_X3_put : GoodIn wsX3_divide wsX3_put := goodIn_r _ [10, 11, 1, 40, 41] (by decide +kernel) (by decide +kernel)
set_option maxRecDepth 20000 in
theorem gX3_divide_X3_put : GoodIn wsX3_divide (wsV RX3 33 RX3 yX3_put wsX3_put) := goodIn_app (goodIn_of _ (by decide +kernel)) ggX3_divide_X3_put
set_option maxRecDepth 20000 in
theorem ggX3_divide_X3_gather : GoodIn wsX3_divide wsX3_gather := goodIn_r _ [38, 1, 20, 21, 22, 5, 23, 11, 39, 29, 26, 30, 31, 7, 8, 9, 10, 40, 41] (by decide +kernel) (by decide +kernel)
set_option maxRecDepth 20000 in
theorem gX3_divide_X3_gather : GoodIn wsX3_divide (wsV RX3 63 RX3 yX3_gather wsX3_gather) := goodIn_app (goodIn_of _ (by decide +kernel)) ggX3_divide_X3_gather
theorem dX3_divide_0 : decode cX3_divide 0 = .ok (.aload_n 2, 1) := by decide +kernel
theorem dX3_divide_1 : decode cX3_divide 1 = .ok (.invokevirtual 37, 3) := by decide +kernel
theorem dX3_divide_4 : decode cX3_divide 4 = .ok (.aload_n 1, 1) := by decide +kernel
theorem dX3_divide_5 : decode cX3_divide 5 = .ok (.invokevirtual 52, 3) := by decide +kernel
theorem dX3_divide_8 : decode cX3_divide 8 = .ok (.ifCond .eq 4, 3) := by decide +kernel
theorem dX3_divide_11 : decode cX3_divide 11 = .ok (.return_, 1) := by decide +kernel
theorem dX3_divide_12 : decode cX3_divide 12 = .ok (.aload_n 1, 1) := by decide +kernel
theorem dX3_divide_13 : decode cX3_divide 13 = .ok (.invokevirtual 56, 3) := by decide +kernel
theorem dX3_divide_16 : decode cX3_divide 16 = .ok (.invokestatic 60, 3) := by decide +kernel
theorem dX3_divide_19 : decode cX3_divide 19 = .ok (.istore_n 3, 1) := by decide +kernel
theorem dX3_divide_20 : decode cX3_divide 20 = .ok (.aload_n 0, 1) := by decide +kernel
theorem dX3_divide_21 : decode cX3_divide 21 = .ok (.getfield 21, 3) := by decide +kernel
theorem dX3_divide_24 : decode cX3_divide 24 = .ok (.aload_n 1, 1) := by decide +kernel
theorem dX3_divide_25 : decode cX3_divide 25 = .ok (.getfield 21, 3) := by decide +kernel
theorem dX3_divide_28 : decode cX3_divide 28 = .ok (.isub, 1) := by decide +kernel
theorem dX3_divide_29 : decode cX3_divide 29 = .ok (.istore 4, 2) := by decide +kernel
theorem dX3_divide_31 : decode cX3_divide 31 = .ok (.iload 4, 2) := by decide +kernel
theorem dX3_divide_33 : decode cX3_divide 33 = .ok (.ifCond .lt 47, 3) := by decide +kernel
theorem dX3_divide_36 : decode cX3_divide 36 = .ok (.aload_n 0, 1) := by decide +kernel
theorem dX3_divide_37 : decode cX3_divide 37 = .ok (.iload 4, 2) := by decide +kernel
theorem dX3_divide_39 : decode cX3_divide 39 = .ok (.aload_n 1, 1) := by decide +kernel
theorem dX3_divide_40 : decode cX3_divide 40 = .ok (.getfield 21, 3) := by decide +kernel
theorem dX3_divide_43 : decode cX3_divide 43 = .ok (.iadd, 1) := by decide +kernel
theorem dX3_divide_44 : decode cX3_divide 44 = .ok (.invokevirtual 29, 3) := by decide +kernel
theorem dX3_divide_47 : decode cX3_divide 47 = .ok (.iload_n 3, 1) := by decide +kernel
theorem dX3_divide_48 : decode cX3_divide 48 = .ok (.invokestatic 49, 3) := by decide +kernel
theorem dX3_divide_51 : decode cX3_divide 51 = .ok (.istore 5, 2) := by decide +kernel
theorem dX3_divide_53 : decode cX3_divide 53 = .ok (.aload_n 2, 1) := by decide +kernel
theorem dX3_divide_54 : decode cX3_divide 54 = .ok (.iload 4, 2) := by decide +kernel
theorem dX3_divide_56 : decode cX3_divide 56 = .ok (.iload 5, 2) := by decide +kernel
theorem dX3_divide_58 : decode cX3_divide 58 = .ok (.invokevirtual 33, 3) := by decide +kernel
theorem dX3_divide_61 : decode cX3_divide 61 = .ok (.aload_n 0, 1) := by decide +kernel
theorem dX3_divide_62 : decode cX3_divide 62 = .ok (.aload_n 1, 1) := by decide +kernel
theorem dX3_divide_63 : decode cX3_divide 63 = .ok (.sipush 32003, 3) := by decide +kernel
theorem dX3_divide_66 : decode cX3_divide 66 = .ok (.iload 5, 2) := by decide +kernel
theorem dX3_divide_68 : decode cX3_divide 68 = .ok (.isub, 1) := by decide +kernel
theorem dX3_divide_69 : decode cX3_divide 69 = .ok (.iload 4, 2) := by decide +kernel
theorem dX3_divide_71 : decode cX3_divide 71 = .ok (.invokevirtual 63, 3) := by decide +kernel
theorem dX3_divide_74 : decode cX3_divide 74 = .ok (.iinc 4 (-1), 3) := by decide +kernel
theorem dX3_divide_77 : decode cX3_divide 77 = .ok (.goto (-46), 3) := by decide +kernel
theorem dX3_divide_80 : decode cX3_divide 80 = .ok (.return_, 1) := by decide +kernel
set_option maxRecDepth 20000 in
theorem ggX3_evaluate_X3_coefficient : GoodIn wsX3_evaluate wsX3_coefficient := goodIn_r _ [6, 7, 13, 14] (by decide +kernel) (by decide +kernel)
set_option maxRecDepth 20000 in
theorem gX3_evaluate_X3_coefficient : GoodIn wsX3_evaluate (wsV RX3 29 RX3 yX3_coefficient wsX3_coefficient) := goodIn_app (goodIn_of _ (by decide +kernel)) ggX3_evaluate_X3_coefficient
set_option maxRecDepth 20000 in
theorem ggX3_evaluate_X2_reduced : GoodIn wsX3_evaluate wsX2_reduced := goodIn_r _ [11, 12] (by decide +kernel) (by decide +kernel)
set_option maxRecDepth 20000 in
theorem gX3_evaluate_X2_reduced : GoodIn wsX3_evaluate (va_wsS RX3 43 yX2_reduced wsX2_reduced) := goodIn_app (goodIn_of _ (by decide +kernel)) ggX3_evaluate_X2_reduced
theorem dX3_evaluate_0 : decode cX3_evaluate 0 = .ok (.iconst 0, 1) := by decide +kernel
theorem dX3_evaluate_1 : decode cX3_evaluate 1 = .ok (.istore_n 2, 1) := by decide +kernel
theorem dX3_evaluate_2 : decode cX3_evaluate 2 = .ok (.aload_n 0, 1) := by decide +kernel
theorem dX3_evaluate_3 : decode cX3_evaluate 3 = .ok (.getfield 21, 3) := by decide +kernel
theorem dX3_evaluate_6 : decode cX3_evaluate 6 = .ok (.istore_n 3, 1) := by decide +kernel
theorem dX3_evaluate_7 : decode cX3_evaluate 7 = .ok (.iload_n 3, 1) := by decide +kernel
theorem dX3_evaluate_8 : decode cX3_evaluate 8 = .ok (.ifCond .lt 25, 3) := by decide +kernel
theorem dX3_evaluate_11 : decode cX3_evaluate 11 = .ok (.iload_n 2, 1) := by decide +kernel
theorem dX3_evaluate_12 : decode cX3_evaluate 12 = .ok (.i2l, 1) := by decide +kernel
theorem dX3_evaluate_13 : decode cX3_evaluate 13 = .ok (.iload_n 1, 1) := by decide +kernel
theorem dX3_evaluate_14 : decode cX3_evaluate 14 = .ok (.i2l, 1) := by decide +kernel
theorem dX3_evaluate_15 : decode cX3_evaluate 15 = .ok (.lmul, 1) := by decide +kernel
theorem dX3_evaluate_16 : decode cX3_evaluate 16 = .ok (.aload_n 0, 1) := by decide +kernel
theorem dX3_evaluate_17 : decode cX3_evaluate 17 = .ok (.iload_n 3, 1) := by decide +kernel
theorem dX3_evaluate_18 : decode cX3_evaluate 18 = .ok (.invokevirtual 29, 3) := by decide +kernel
theorem dX3_evaluate_21 : decode cX3_evaluate 21 = .ok (.i2l, 1) := by decide +kernel
theorem dX3_evaluate_22 : decode cX3_evaluate 22 = .ok (.ladd, 1) := by decide +kernel
theorem dX3_evaluate_23 : decode cX3_evaluate 23 = .ok (.invokestatic 43, 3) := by decide +kernel
theorem dX3_evaluate_26 : decode cX3_evaluate 26 = .ok (.istore_n 2, 1) := by decide +kernel
theorem dX3_evaluate_27 : decode cX3_evaluate 27 = .ok (.iinc 3 (-1), 3) := by decide +kernel
theorem dX3_evaluate_30 : decode cX3_evaluate 30 = .ok (.goto (-23), 3) := by decide +kernel
theorem dX3_evaluate_33 : decode cX3_evaluate 33 = .ok (.iload_n 2, 1) := by decide +kernel
theorem dX3_evaluate_34 : decode cX3_evaluate 34 = .ok (.ireturn, 1) := by decide +kernel
set_option maxRecDepth 20000 in
theorem ggX3_matches_X3_coefficient : GoodIn wsX3_matches wsX3_coefficient := goodIn_r _ [6, 7, 8, 9] (by decide +kernel) (by decide +kernel)
set_option maxRecDepth 20000 in
theorem gX3_matches_X3_coefficient : GoodIn wsX3_matches (wsV RX3 29 RX3 yX3_coefficient wsX3_coefficient) := goodIn_app (goodIn_of _ (by decide +kernel)) ggX3_matches_X3_coefficient
theorem dX3_matches_0 : decode cX3_matches 0 = .ok (.aload_n 0, 1) := by decide +kernel
theorem dX3_matches_1 : decode cX3_matches 1 = .ok (.getfield 21, 3) := by decide +kernel
theorem dX3_matches_4 : decode cX3_matches 4 = .ok (.aload_n 1, 1) := by decide +kernel
theorem dX3_matches_5 : decode cX3_matches 5 = .ok (.getfield 21, 3) := by decide +kernel
theorem dX3_matches_8 : decode cX3_matches 8 = .ok (.if_icmp .eq 5, 3) := by decide +kernel
theorem dX3_matches_11 : decode cX3_matches 11 = .ok (.iconst 0, 1) := by decide +kernel
theorem dX3_matches_12 : decode cX3_matches 12 = .ok (.ireturn, 1) := by decide +kernel
theorem dX3_matches_13 : decode cX3_matches 13 = .ok (.iconst 0, 1) := by decide +kernel
theorem dX3_matches_14 : decode cX3_matches 14 = .ok (.istore_n 2, 1) := by decide +kernel
theorem dX3_matches_15 : decode cX3_matches 15 = .ok (.iload_n 2, 1) := by decide +kernel
theorem dX3_matches_16 : decode cX3_matches 16 = .ok (.aload_n 0, 1) := by decide +kernel
theorem dX3_matches_17 : decode cX3_matches 17 = .ok (.getfield 21, 3) := by decide +kernel
theorem dX3_matches_20 : decode cX3_matches 20 = .ok (.if_icmp .gt 24, 3) := by decide +kernel
theorem dX3_matches_23 : decode cX3_matches 23 = .ok (.aload_n 0, 1) := by decide +kernel
theorem dX3_matches_24 : decode cX3_matches 24 = .ok (.iload_n 2, 1) := by decide +kernel
theorem dX3_matches_25 : decode cX3_matches 25 = .ok (.invokevirtual 29, 3) := by decide +kernel
theorem dX3_matches_28 : decode cX3_matches 28 = .ok (.aload_n 1, 1) := by decide +kernel
theorem dX3_matches_29 : decode cX3_matches 29 = .ok (.iload_n 2, 1) := by decide +kernel
theorem dX3_matches_30 : decode cX3_matches 30 = .ok (.invokevirtual 29, 3) := by decide +kernel
theorem dX3_matches_33 : decode cX3_matches 33 = .ok (.if_icmp .eq 5, 3) := by decide +kernel
theorem dX3_matches_36 : decode cX3_matches 36 = .ok (.iconst 0, 1) := by decide +kernel
theorem dX3_matches_37 : decode cX3_matches 37 = .ok (.ireturn, 1) := by decide +kernel
theorem dX3_matches_38 : decode cX3_matches 38 = .ok (.iinc 2 1, 3) := by decide +kernel
theorem dX3_matches_41 : decode cX3_matches 41 = .ok (.goto (-26), 3) := by decide +kernel
theorem dX3_matches_44 : decode cX3_matches 44 = .ok (.iconst 1, 1) := by decide +kernel
theorem dX3_matches_45 : decode cX3_matches 45 = .ok (.ireturn, 1) := by decide +kernel
