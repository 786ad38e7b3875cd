theorem dX0_init_0 : decode cX0_init 0 = .ok (.aload_n 0, 1) := by decide +kernel
theorem dX0_init_1 : decode cX0_init 1 = .ok (.invokespecial 3, 3) := by decide +kernel
theorem dX0_init_4 : decode cX0_init 4 = .ok (.aload_n 0, 1) := by decide +kernel
theorem dX0_init_5 : decode cX0_init 5 = .ok (.iconst 0, 1) := by decide +kernel
theorem dX0_init_6 : decode cX0_init 6 = .ok (.putfield 9, 3) := by decide +kernel
theorem dX0_init_9 : decode cX0_init 9 = .ok (.aload_n 0, 1) := by decide +kernel
theorem dX0_init_10 : decode cX0_init 10 = .ok (.iconst 0, 1) := by decide +kernel
theorem dX0_init_11 : decode cX0_init 11 = .ok (.putfield 15, 3) := by decide +kernel
theorem dX0_init_14 : decode cX0_init 14 = .ok (.aload_n 0, 1) := by decide +kernel
theorem dX0_init_15 : decode cX0_init 15 = .ok (.iconst 0, 1) := by decide +kernel
theorem dX0_init_16 : decode cX0_init 16 = .ok (.putfield 18, 3) := by decide +kernel
theorem dX0_init_19 : decode cX0_init 19 = .ok (.aload_n 0, 1) := by decide +kernel
theorem dX0_init_20 : decode cX0_init 20 = .ok (.sipush 200, 3) := by decide +kernel
theorem dX0_init_23 : decode cX0_init 23 = .ok (.newarray .int, 2) := by decide +kernel
theorem dX0_init_25 : decode cX0_init 25 = .ok (.putfield 21, 3) := by decide +kernel
theorem dX0_init_28 : decode cX0_init 28 = .ok (.aload_n 0, 1) := by decide +kernel
theorem dX0_init_29 : decode cX0_init 29 = .ok (.sipush 200, 3) := by decide +kernel
theorem dX0_init_32 : decode cX0_init 32 = .ok (.newarray .int, 2) := by decide +kernel
theorem dX0_init_34 : decode cX0_init 34 = .ok (.putfield 25, 3) := by decide +kernel
theorem dX0_init_37 : decode cX0_init 37 = .ok (.aload_n 0, 1) := by decide +kernel
theorem dX0_init_38 : decode cX0_init 38 = .ok (.bipush 10, 2) := by decide +kernel
theorem dX0_init_40 : decode cX0_init 40 = .ok (.newarray .int, 2) := by decide +kernel
theorem dX0_init_42 : decode cX0_init 42 = .ok (.putfield 28, 3) := by decide +kernel
theorem dX0_init_45 : decode cX0_init 45 = .ok (.aload_n 0, 1) := by decide +kernel
theorem dX0_init_46 : decode cX0_init 46 = .ok (.bipush 10, 2) := by decide +kernel
theorem dX0_init_48 : decode cX0_init 48 = .ok (.bipush 10, 2) := by decide +kernel
theorem dX0_init_50 : decode cX0_init 50 = .ok (.multianewarray 31 2, 4) := by decide +kernel
theorem dX0_init_54 : decode cX0_init 54 = .ok (.putfield 33, 3) := by decide +kernel
theorem dX0_init_57 : decode cX0_init 57 = .ok (.aload_n 0, 1) := by decide +kernel
theorem dX0_init_58 : decode cX0_init 58 = .ok (.sipush 200, 3) := by decide +kernel
theorem dX0_init_61 : decode cX0_init 61 = .ok (.newarray .long, 2) := by decide +kernel
theorem dX0_init_63 : decode cX0_init 63 = .ok (.putfield 36, 3) := by decide +kernel
theorem dX0_init_66 : decode cX0_init 66 = .ok (.return_, 1) := by decide +kernel
set_option maxRecDepth 20000 in
theorem ggX0_make_J7_fill_53178 : GoodIn wsX0_make wsJ7_fill_53178 := goodIn_r _ [12] (by decide +kernel) (by decide +kernel)
set_option maxRecDepth 20000 in
theorem gX0_make_J7_fill_53178 : GoodIn wsX0_make (va_wsS RX0 40 yJ7_fill_53178 wsJ7_fill_53178) := goodIn_app (goodIn_of _ (by decide +kernel)) ggX0_make_J7_fill_53178
set_option maxRecDepth 20000 in
theorem ggX0_make_X2_hash : GoodIn wsX0_make wsX2_hash := goodIn_r _ [16, 17, 18, 19] (by decide +kernel) (by decide +kernel)
set_option maxRecDepth 20000 in
theorem gX0_make_X2_hash : GoodIn wsX0_make (va_wsS RX0 46 yX2_hash wsX2_hash) := goodIn_app (goodIn_of _ (by decide +kernel)) ggX0_make_X2_hash
set_option maxRecDepth 20000 in
theorem ggX0_make_X0_sortIn : GoodIn wsX0_make wsX0_sortIn := goodIn_r _ [24, 6, 25, 26, 27, 28, 34, 35, 36, 37, 38, 39, 40, 41] (by decide +kernel) (by decide +kernel)
set_option maxRecDepth 20000 in
theorem gX0_make_X0_sortIn : GoodIn wsX0_make (wsV RX0 52 RX0 yX0_sortIn wsX0_sortIn) := goodIn_app (goodIn_of _ (by decide +kernel)) ggX0_make_X0_sortIn
set_option maxRecDepth 20000 in
theorem ggX0_make_X5_rest : GoodIn wsX0_make wsX5_rest := goodIn_r _ [31] (by decide +kernel) (by decide +kernel)
set_option maxRecDepth 20000 in
theorem gX0_make_X5_rest_n56 : GoodIn wsX0_make (wsX5_rest) := ggX0_make_X5_rest
set_option maxRecDepth 20000 in
theorem ggX0_make_X5_cut : GoodIn wsX0_make wsX5_cut := goodIn_r _ [33] (by decide +kernel) (by decide +kernel)
set_option maxRecDepth 20000 in
theorem gX0_make_X5_cut_n60 : GoodIn wsX0_make (wsX5_cut) := ggX0_make_X5_cut
theorem dX0_make_0 : decode cX0_make 0 = .ok (.aload_n 0, 1) := by decide +kernel
theorem dX0_make_1 : decode cX0_make 1 = .ok (.iload_n 1, 1) := by decide +kernel
theorem dX0_make_2 : decode cX0_make 2 = .ok (.putfield 9, 3) := by decide +kernel
theorem dX0_make_5 : decode cX0_make 5 = .ok (.aload_n 0, 1) := by decide +kernel
theorem dX0_make_6 : decode cX0_make 6 = .ok (.iload_n 2, 1) := by decide +kernel
theorem dX0_make_7 : decode cX0_make 7 = .ok (.putfield 15, 3) := by decide +kernel
theorem dX0_make_10 : decode cX0_make 10 = .ok (.aload_n 0, 1) := by decide +kernel
theorem dX0_make_11 : decode cX0_make 11 = .ok (.iload_n 3, 1) := by decide +kernel
theorem dX0_make_12 : decode cX0_make 12 = .ok (.putfield 18, 3) := by decide +kernel
theorem dX0_make_15 : decode cX0_make 15 = .ok (.aload_n 0, 1) := by decide +kernel
theorem dX0_make_16 : decode cX0_make 16 = .ok (.getfield 28, 3) := by decide +kernel
theorem dX0_make_19 : decode cX0_make 19 = .ok (.iconst 0, 1) := by decide +kernel
theorem dX0_make_20 : decode cX0_make 20 = .ok (.invokestatic 40, 3) := by decide +kernel
theorem dX0_make_23 : decode cX0_make 23 = .ok (.iconst 0, 1) := by decide +kernel
theorem dX0_make_24 : decode cX0_make 24 = .ok (.istore 5, 2) := by decide +kernel
theorem dX0_make_26 : decode cX0_make 26 = .ok (.iload 5, 2) := by decide +kernel
theorem dX0_make_28 : decode cX0_make 28 = .ok (.bipush 10, 2) := by decide +kernel
theorem dX0_make_30 : decode cX0_make 30 = .ok (.if_icmp .ge 20, 3) := by decide +kernel
theorem dX0_make_33 : decode cX0_make 33 = .ok (.aload_n 0, 1) := by decide +kernel
theorem dX0_make_34 : decode cX0_make 34 = .ok (.getfield 33, 3) := by decide +kernel
theorem dX0_make_37 : decode cX0_make 37 = .ok (.iload 5, 2) := by decide +kernel
theorem dX0_make_39 : decode cX0_make 39 = .ok (.aaload, 1) := by decide +kernel
theorem dX0_make_40 : decode cX0_make 40 = .ok (.iconst 0, 1) := by decide +kernel
theorem dX0_make_41 : decode cX0_make 41 = .ok (.invokestatic 40, 3) := by decide +kernel
theorem dX0_make_44 : decode cX0_make 44 = .ok (.iinc 5 1, 3) := by decide +kernel
theorem dX0_make_47 : decode cX0_make 47 = .ok (.goto (-21), 3) := by decide +kernel
theorem dX0_make_50 : decode cX0_make 50 = .ok (.iconst 0, 1) := by decide +kernel
theorem dX0_make_51 : decode cX0_make 51 = .ok (.istore 5, 2) := by decide +kernel
theorem dX0_make_53 : decode cX0_make 53 = .ok (.iload 5, 2) := by decide +kernel
theorem dX0_make_55 : decode cX0_make 55 = .ok (.aload_n 0, 1) := by decide +kernel
theorem dX0_make_56 : decode cX0_make 56 = .ok (.getfield 9, 3) := by decide +kernel
theorem dX0_make_59 : decode cX0_make 59 = .ok (.if_icmp .ge 30, 3) := by decide +kernel
theorem dX0_make_62 : decode cX0_make 62 = .ok (.aload_n 0, 1) := by decide +kernel
theorem dX0_make_63 : decode cX0_make 63 = .ok (.iload 4, 2) := by decide +kernel
theorem dX0_make_65 : decode cX0_make 65 = .ok (.iload 5, 2) := by decide +kernel
theorem dX0_make_67 : decode cX0_make 67 = .ok (.invokestatic 46, 3) := by decide +kernel
theorem dX0_make_70 : decode cX0_make 70 = .ok (.i2l, 1) := by decide +kernel
theorem dX0_make_71 : decode cX0_make 71 = .ok (.bipush 8, 2) := by decide +kernel
theorem dX0_make_73 : decode cX0_make 73 = .ok (.lshl, 1) := by decide +kernel
theorem dX0_make_74 : decode cX0_make 74 = .ok (.iload 5, 2) := by decide +kernel
theorem dX0_make_76 : decode cX0_make 76 = .ok (.i2l, 1) := by decide +kernel
theorem dX0_make_77 : decode cX0_make 77 = .ok (.lor, 1) := by decide +kernel
theorem dX0_make_78 : decode cX0_make 78 = .ok (.iload 5, 2) := by decide +kernel
theorem dX0_make_80 : decode cX0_make 80 = .ok (.invokevirtual 52, 3) := by decide +kernel
theorem dX0_make_83 : decode cX0_make 83 = .ok (.iinc 5 1, 3) := by decide +kernel
theorem dX0_make_86 : decode cX0_make 86 = .ok (.goto (-33), 3) := by decide +kernel
theorem dX0_make_89 : decode cX0_make 89 = .ok (.iconst 0, 1) := by decide +kernel
theorem dX0_make_90 : decode cX0_make 90 = .ok (.istore 5, 2) := by decide +kernel
theorem dX0_make_92 : decode cX0_make 92 = .ok (.iload 5, 2) := by decide +kernel
theorem dX0_make_94 : decode cX0_make 94 = .ok (.aload_n 0, 1) := by decide +kernel
theorem dX0_make_95 : decode cX0_make 95 = .ok (.getfield 9, 3) := by decide +kernel
theorem dX0_make_98 : decode cX0_make 98 = .ok (.if_icmp .ge 69, 3) := by decide +kernel
theorem dX0_make_101 : decode cX0_make 101 = .ok (.aload_n 0, 1) := by decide +kernel
theorem dX0_make_102 : decode cX0_make 102 = .ok (.getfield 36, 3) := by decide +kernel
theorem dX0_make_105 : decode cX0_make 105 = .ok (.iload 5, 2) := by decide +kernel
theorem dX0_make_107 : decode cX0_make 107 = .ok (.laload, 1) := by decide +kernel
theorem dX0_make_108 : decode cX0_make 108 = .ok (.l2i, 1) := by decide +kernel
theorem dX0_make_109 : decode cX0_make 109 = .ok (.sipush 255, 3) := by decide +kernel
theorem dX0_make_112 : decode cX0_make 112 = .ok (.iand, 1) := by decide +kernel
theorem dX0_make_113 : decode cX0_make 113 = .ok (.istore 6, 2) := by decide +kernel
theorem dX0_make_115 : decode cX0_make 115 = .ok (.aload_n 0, 1) := by decide +kernel
theorem dX0_make_116 : decode cX0_make 116 = .ok (.getfield 21, 3) := by decide +kernel
theorem dX0_make_119 : decode cX0_make 119 = .ok (.iload 6, 2) := by decide +kernel
theorem dX0_make_121 : decode cX0_make 121 = .ok (.iload 5, 2) := by decide +kernel
theorem dX0_make_123 : decode cX0_make 123 = .ok (.i2l, 1) := by decide +kernel
theorem dX0_make_124 : decode cX0_make 124 = .ok (.aload_n 0, 1) := by decide +kernel
theorem dX0_make_125 : decode cX0_make 125 = .ok (.getfield 15, 3) := by decide +kernel
theorem dX0_make_128 : decode cX0_make 128 = .ok (.i2l, 1) := by decide +kernel
theorem dX0_make_129 : decode cX0_make 129 = .ok (.invokestatic 56, 3) := by decide +kernel
theorem dX0_make_132 : decode cX0_make 132 = .ok (.l2i, 1) := by decide +kernel
theorem dX0_make_133 : decode cX0_make 133 = .ok (.iastore, 1) := by decide +kernel
theorem dX0_make_134 : decode cX0_make 134 = .ok (.aload_n 0, 1) := by decide +kernel
theorem dX0_make_135 : decode cX0_make 135 = .ok (.getfield 25, 3) := by decide +kernel
theorem dX0_make_138 : decode cX0_make 138 = .ok (.iload 6, 2) := by decide +kernel
theorem dX0_make_140 : decode cX0_make 140 = .ok (.iload 5, 2) := by decide +kernel
theorem dX0_make_142 : decode cX0_make 142 = .ok (.i2l, 1) := by decide +kernel
theorem dX0_make_143 : decode cX0_make 143 = .ok (.aload_n 0, 1) := by decide +kernel
theorem dX0_make_144 : decode cX0_make 144 = .ok (.getfield 15, 3) := by decide +kernel
theorem dX0_make_147 : decode cX0_make 147 = .ok (.i2l, 1) := by decide +kernel
theorem dX0_make_148 : decode cX0_make 148 = .ok (.invokestatic 60, 3) := by decide +kernel
theorem dX0_make_151 : decode cX0_make 151 = .ok (.aload_n 0, 1) := by decide +kernel
theorem dX0_make_152 : decode cX0_make 152 = .ok (.getfield 18, 3) := by decide +kernel
theorem dX0_make_155 : decode cX0_make 155 = .ok (.i2l, 1) := by decide +kernel
theorem dX0_make_156 : decode cX0_make 156 = .ok (.invokestatic 56, 3) := by decide +kernel
theorem dX0_make_159 : decode cX0_make 159 = .ok (.l2i, 1) := by decide +kernel
theorem dX0_make_160 : decode cX0_make 160 = .ok (.iastore, 1) := by decide +kernel
theorem dX0_make_161 : decode cX0_make 161 = .ok (.iinc 5 1, 3) := by decide +kernel
theorem dX0_make_164 : decode cX0_make 164 = .ok (.goto (-72), 3) := by decide +kernel
theorem dX0_make_167 : decode cX0_make 167 = .ok (.return_, 1) := by decide +kernel
theorem dX0_sortIn_0 : decode cX0_sortIn 0 = .ok (.iconst 0, 1) := by decide +kernel
theorem dX0_sortIn_1 : decode cX0_sortIn 1 = .ok (.istore 4, 2) := by decide +kernel
theorem dX0_sortIn_3 : decode cX0_sortIn 3 = .ok (.iload_n 3, 1) := by decide +kernel
theorem dX0_sortIn_4 : decode cX0_sortIn 4 = .ok (.istore 5, 2) := by decide +kernel
theorem dX0_sortIn_6 : decode cX0_sortIn 6 = .ok (.iconst 0, 1) := by decide +kernel
theorem dX0_sortIn_7 : decode cX0_sortIn 7 = .ok (.istore 6, 2) := by decide +kernel
theorem dX0_sortIn_9 : decode cX0_sortIn 9 = .ok (.iload 6, 2) := by decide +kernel
theorem dX0_sortIn_11 : decode cX0_sortIn 11 = .ok (.bipush 8, 2) := by decide +kernel
theorem dX0_sortIn_13 : decode cX0_sortIn 13 = .ok (.if_icmp .ge 50, 3) := by decide +kernel
theorem dX0_sortIn_16 : decode cX0_sortIn 16 = .ok (.iload 4, 2) := by decide +kernel
theorem dX0_sortIn_18 : decode cX0_sortIn 18 = .ok (.iload 5, 2) := by decide +kernel
theorem dX0_sortIn_20 : decode cX0_sortIn 20 = .ok (.if_icmp .ge 43, 3) := by decide +kernel
theorem dX0_sortIn_23 : decode cX0_sortIn 23 = .ok (.iload 4, 2) := by decide +kernel
theorem dX0_sortIn_25 : decode cX0_sortIn 25 = .ok (.iload 5, 2) := by decide +kernel
theorem dX0_sortIn_27 : decode cX0_sortIn 27 = .ok (.iadd, 1) := by decide +kernel
theorem dX0_sortIn_28 : decode cX0_sortIn 28 = .ok (.iconst 2, 1) := by decide +kernel
theorem dX0_sortIn_29 : decode cX0_sortIn 29 = .ok (.idiv, 1) := by decide +kernel
theorem dX0_sortIn_30 : decode cX0_sortIn 30 = .ok (.istore 7, 2) := by decide +kernel
theorem dX0_sortIn_32 : decode cX0_sortIn 32 = .ok (.aload_n 0, 1) := by decide +kernel
theorem dX0_sortIn_33 : decode cX0_sortIn 33 = .ok (.getfield 36, 3) := by decide +kernel
theorem dX0_sortIn_36 : decode cX0_sortIn 36 = .ok (.iload 7, 2) := by decide +kernel
theorem dX0_sortIn_38 : decode cX0_sortIn 38 = .ok (.laload, 1) := by decide +kernel
theorem dX0_sortIn_39 : decode cX0_sortIn 39 = .ok (.lload_n 1, 1) := by decide +kernel
theorem dX0_sortIn_40 : decode cX0_sortIn 40 = .ok (.lcmp, 1) := by decide +kernel
theorem dX0_sortIn_41 : decode cX0_sortIn 41 = .ok (.ifCond .ge 12, 3) := by decide +kernel
theorem dX0_sortIn_44 : decode cX0_sortIn 44 = .ok (.iload 7, 2) := by decide +kernel
theorem dX0_sortIn_46 : decode cX0_sortIn 46 = .ok (.iconst 1, 1) := by decide +kernel
theorem dX0_sortIn_47 : decode cX0_sortIn 47 = .ok (.iadd, 1) := by decide +kernel
theorem dX0_sortIn_48 : decode cX0_sortIn 48 = .ok (.istore 4, 2) := by decide +kernel
theorem dX0_sortIn_50 : decode cX0_sortIn 50 = .ok (.goto 7, 3) := by decide +kernel
theorem dX0_sortIn_53 : decode cX0_sortIn 53 = .ok (.iload 7, 2) := by decide +kernel
theorem dX0_sortIn_55 : decode cX0_sortIn 55 = .ok (.istore 5, 2) := by decide +kernel
theorem dX0_sortIn_57 : decode cX0_sortIn 57 = .ok (.iinc 6 1, 3) := by decide +kernel
theorem dX0_sortIn_60 : decode cX0_sortIn 60 = .ok (.goto (-51), 3) := by decide +kernel
theorem dX0_sortIn_63 : decode cX0_sortIn 63 = .ok (.aload_n 0, 1) := by decide +kernel
theorem dX0_sortIn_64 : decode cX0_sortIn 64 = .ok (.getfield 36, 3) := by decide +kernel
theorem dX0_sortIn_67 : decode cX0_sortIn 67 = .ok (.iload 4, 2) := by decide +kernel
theorem dX0_sortIn_69 : decode cX0_sortIn 69 = .ok (.aload_n 0, 1) := by decide +kernel
theorem dX0_sortIn_70 : decode cX0_sortIn 70 = .ok (.getfield 36, 3) := by decide +kernel
theorem dX0_sortIn_73 : decode cX0_sortIn 73 = .ok (.iload 4, 2) := by decide +kernel
theorem dX0_sortIn_75 : decode cX0_sortIn 75 = .ok (.iconst 1, 1) := by decide +kernel
theorem dX0_sortIn_76 : decode cX0_sortIn 76 = .ok (.iadd, 1) := by decide +kernel
theorem dX0_sortIn_77 : decode cX0_sortIn 77 = .ok (.iload_n 3, 1) := by decide +kernel
theorem dX0_sortIn_78 : decode cX0_sortIn 78 = .ok (.iload 4, 2) := by decide +kernel
theorem dX0_sortIn_80 : decode cX0_sortIn 80 = .ok (.isub, 1) := by decide +kernel
theorem dX0_sortIn_81 : decode cX0_sortIn 81 = .ok (.invokestatic 63, 3) := by decide +kernel
theorem dX0_sortIn_84 : decode cX0_sortIn 84 = .ok (.aload_n 0, 1) := by decide +kernel
theorem dX0_sortIn_85 : decode cX0_sortIn 85 = .ok (.getfield 36, 3) := by decide +kernel
theorem dX0_sortIn_88 : decode cX0_sortIn 88 = .ok (.iload 4, 2) := by decide +kernel
theorem dX0_sortIn_90 : decode cX0_sortIn 90 = .ok (.lload_n 1, 1) := by decide +kernel
theorem dX0_sortIn_91 : decode cX0_sortIn 91 = .ok (.lastore, 1) := by decide +kernel
theorem dX0_sortIn_92 : decode cX0_sortIn 92 = .ok (.return_, 1) := by decide +kernel
theorem dX0_test_0 : decode cX0_test 0 = .ok (.aload_n 0, 1) := by decide +kernel
theorem dX0_test_1 : decode cX0_test 1 = .ok (.getfield 28, 3) := by decide +kernel
theorem dX0_test_4 : decode cX0_test 4 = .ok (.iload_n 1, 1) := by decide +kernel
theorem dX0_test_5 : decode cX0_test 5 = .ok (.dup2, 1) := by decide +kernel
theorem dX0_test_6 : decode cX0_test 6 = .ok (.iaload, 1) := by decide +kernel
theorem dX0_test_7 : decode cX0_test 7 = .ok (.iconst 1, 1) := by decide +kernel
theorem dX0_test_8 : decode cX0_test 8 = .ok (.iadd, 1) := by decide +kernel
theorem dX0_test_9 : decode cX0_test 9 = .ok (.iastore, 1) := by decide +kernel
theorem dX0_test_10 : decode cX0_test 10 = .ok (.iconst 0, 1) := by decide +kernel
theorem dX0_test_11 : decode cX0_test 11 = .ok (.istore_n 2, 1) := by decide +kernel
theorem dX0_test_12 : decode cX0_test 12 = .ok (.iconst 0, 1) := by decide +kernel
theorem dX0_test_13 : decode cX0_test 13 = .ok (.istore_n 3, 1) := by decide +kernel
theorem dX0_test_14 : decode cX0_test 14 = .ok (.iload_n 3, 1) := by decide +kernel
theorem dX0_test_15 : decode cX0_test 15 = .ok (.aload_n 0, 1) := by decide +kernel
theorem dX0_test_16 : decode cX0_test 16 = .ok (.getfield 9, 3) := by decide +kernel
theorem dX0_test_19 : decode cX0_test 19 = .ok (.if_icmp .ge 22, 3) := by decide +kernel
theorem dX0_test_22 : decode cX0_test 22 = .ok (.aload_n 0, 1) := by decide +kernel
theorem dX0_test_23 : decode cX0_test 23 = .ok (.getfield 21, 3) := by decide +kernel
theorem dX0_test_26 : decode cX0_test 26 = .ok (.iload_n 3, 1) := by decide +kernel
theorem dX0_test_27 : decode cX0_test 27 = .ok (.iaload, 1) := by decide +kernel
theorem dX0_test_28 : decode cX0_test 28 = .ok (.iload_n 1, 1) := by decide +kernel
theorem dX0_test_29 : decode cX0_test 29 = .ok (.if_icmp .ne 6, 3) := by decide +kernel
theorem dX0_test_32 : decode cX0_test 32 = .ok (.iinc 2 1, 3) := by decide +kernel
theorem dX0_test_35 : decode cX0_test 35 = .ok (.iinc 3 1, 3) := by decide +kernel
theorem dX0_test_38 : decode cX0_test 38 = .ok (.goto (-24), 3) := by decide +kernel
theorem dX0_test_41 : decode cX0_test 41 = .ok (.iload_n 2, 1) := by decide +kernel
theorem dX0_test_42 : decode cX0_test 42 = .ok (.ireturn, 1) := by decide +kernel
theorem dX0_choose_0 : decode cX0_choose 0 = .ok (.aload_n 0, 1) := by decide +kernel
theorem dX0_choose_1 : decode cX0_choose 1 = .ok (.getfield 33, 3) := by decide +kernel
theorem dX0_choose_4 : decode cX0_choose 4 = .ok (.iload_n 1, 1) := by decide +kernel
theorem dX0_choose_5 : decode cX0_choose 5 = .ok (.aaload, 1) := by decide +kernel
theorem dX0_choose_6 : decode cX0_choose 6 = .ok (.iload_n 2, 1) := by decide +kernel
theorem dX0_choose_7 : decode cX0_choose 7 = .ok (.dup2, 1) := by decide +kernel
theorem dX0_choose_8 : decode cX0_choose 8 = .ok (.iaload, 1) := by decide +kernel
theorem dX0_choose_9 : decode cX0_choose 9 = .ok (.iconst 1, 1) := by decide +kernel
theorem dX0_choose_10 : decode cX0_choose 10 = .ok (.iadd, 1) := by decide +kernel
theorem dX0_choose_11 : decode cX0_choose 11 = .ok (.iastore, 1) := by decide +kernel
theorem dX0_choose_12 : decode cX0_choose 12 = .ok (.iconst 0, 1) := by decide +kernel
theorem dX0_choose_13 : decode cX0_choose 13 = .ok (.istore_n 3, 1) := by decide +kernel
theorem dX0_choose_14 : decode cX0_choose 14 = .ok (.iconst 0, 1) := by decide +kernel
theorem dX0_choose_15 : decode cX0_choose 15 = .ok (.istore 4, 2) := by decide +kernel
theorem dX0_choose_17 : decode cX0_choose 17 = .ok (.iload 4, 2) := by decide +kernel
theorem dX0_choose_19 : decode cX0_choose 19 = .ok (.aload_n 0, 1) := by decide +kernel
theorem dX0_choose_20 : decode cX0_choose 20 = .ok (.getfield 9, 3) := by decide +kernel
theorem dX0_choose_23 : decode cX0_choose 23 = .ok (.if_icmp .ge 34, 3) := by decide +kernel
theorem dX0_choose_26 : decode cX0_choose 26 = .ok (.aload_n 0, 1) := by decide +kernel
theorem dX0_choose_27 : decode cX0_choose 27 = .ok (.getfield 21, 3) := by decide +kernel
theorem dX0_choose_30 : decode cX0_choose 30 = .ok (.iload 4, 2) := by decide +kernel
theorem dX0_choose_32 : decode cX0_choose 32 = .ok (.iaload, 1) := by decide +kernel
theorem dX0_choose_33 : decode cX0_choose 33 = .ok (.iload_n 1, 1) := by decide +kernel
theorem dX0_choose_34 : decode cX0_choose 34 = .ok (.if_icmp .eq 17, 3) := by decide +kernel
theorem dX0_choose_37 : decode cX0_choose 37 = .ok (.aload_n 0, 1) := by decide +kernel
theorem dX0_choose_38 : decode cX0_choose 38 = .ok (.getfield 25, 3) := by decide +kernel
theorem dX0_choose_41 : decode cX0_choose 41 = .ok (.iload 4, 2) := by decide +kernel
theorem dX0_choose_43 : decode cX0_choose 43 = .ok (.iaload, 1) := by decide +kernel
theorem dX0_choose_44 : decode cX0_choose 44 = .ok (.iload_n 2, 1) := by decide +kernel
theorem dX0_choose_45 : decode cX0_choose 45 = .ok (.if_icmp .ne 6, 3) := by decide +kernel
theorem dX0_choose_48 : decode cX0_choose 48 = .ok (.iinc 3 1, 3) := by decide +kernel
theorem dX0_choose_51 : decode cX0_choose 51 = .ok (.iinc 4 1, 3) := by decide +kernel
theorem dX0_choose_54 : decode cX0_choose 54 = .ok (.goto (-37), 3) := by decide +kernel
theorem dX0_choose_57 : decode cX0_choose 57 = .ok (.iload_n 3, 1) := by decide +kernel
theorem dX0_choose_58 : decode cX0_choose 58 = .ok (.ireturn, 1) := by decide +kernel
theorem dX0_trained_0 : decode cX0_trained 0 = .ok (.aload_n 0, 1) := by decide +kernel
theorem dX0_trained_1 : decode cX0_trained 1 = .ok (.getfield 21, 3) := by decide +kernel
theorem dX0_trained_4 : decode cX0_trained 4 = .ok (.iload_n 1, 1) := by decide +kernel
theorem dX0_trained_5 : decode cX0_trained 5 = .ok (.iaload, 1) := by decide +kernel
theorem dX0_trained_6 : decode cX0_trained 6 = .ok (.iload_n 2, 1) := by decide +kernel
theorem dX0_trained_7 : decode cX0_trained 7 = .ok (.if_icmp .ne 5, 3) := by decide +kernel
theorem dX0_trained_10 : decode cX0_trained 10 = .ok (.iconst 0, 1) := by decide +kernel
theorem dX0_trained_11 : decode cX0_trained 11 = .ok (.ireturn, 1) := by decide +kernel
theorem dX0_trained_12 : decode cX0_trained 12 = .ok (.aload_n 0, 1) := by decide +kernel
theorem dX0_trained_13 : decode cX0_trained 13 = .ok (.getfield 28, 3) := by decide +kernel
theorem dX0_trained_16 : decode cX0_trained 16 = .ok (.iload_n 2, 1) := by decide +kernel
theorem dX0_trained_17 : decode cX0_trained 17 = .ok (.iaload, 1) := by decide +kernel
theorem dX0_trained_18 : decode cX0_trained 18 = .ok (.istore_n 3, 1) := by decide +kernel
theorem dX0_trained_19 : decode cX0_trained 19 = .ok (.iconst 0, 1) := by decide +kernel
theorem dX0_trained_20 : decode cX0_trained 20 = .ok (.istore 4, 2) := by decide +kernel
theorem dX0_trained_22 : decode cX0_trained 22 = .ok (.iload 4, 2) := by decide +kernel
theorem dX0_trained_24 : decode cX0_trained 24 = .ok (.aload_n 0, 1) := by decide +kernel
theorem dX0_trained_25 : decode cX0_trained 25 = .ok (.getfield 18, 3) := by decide +kernel
theorem dX0_trained_28 : decode cX0_trained 28 = .ok (.if_icmp .ge 32, 3) := by decide +kernel
theorem dX0_trained_31 : decode cX0_trained 31 = .ok (.iload 4, 2) := by decide +kernel
theorem dX0_trained_33 : decode cX0_trained 33 = .ok (.aload_n 0, 1) := by decide +kernel
theorem dX0_trained_34 : decode cX0_trained 34 = .ok (.getfield 25, 3) := by decide +kernel
theorem dX0_trained_37 : decode cX0_trained 37 = .ok (.iload_n 1, 1) := by decide +kernel
theorem dX0_trained_38 : decode cX0_trained 38 = .ok (.iaload, 1) := by decide +kernel
theorem dX0_trained_39 : decode cX0_trained 39 = .ok (.if_icmp .eq 15, 3) := by decide +kernel
theorem dX0_trained_42 : decode cX0_trained 42 = .ok (.iload_n 3, 1) := by decide +kernel
theorem dX0_trained_43 : decode cX0_trained 43 = .ok (.aload_n 0, 1) := by decide +kernel
theorem dX0_trained_44 : decode cX0_trained 44 = .ok (.getfield 33, 3) := by decide +kernel
theorem dX0_trained_47 : decode cX0_trained 47 = .ok (.iload_n 2, 1) := by decide +kernel
theorem dX0_trained_48 : decode cX0_trained 48 = .ok (.aaload, 1) := by decide +kernel
theorem dX0_trained_49 : decode cX0_trained 49 = .ok (.iload 4, 2) := by decide +kernel
theorem dX0_trained_51 : decode cX0_trained 51 = .ok (.iaload, 1) := by decide +kernel
theorem dX0_trained_52 : decode cX0_trained 52 = .ok (.iadd, 1) := by decide +kernel
theorem dX0_trained_53 : decode cX0_trained 53 = .ok (.istore_n 3, 1) := by decide +kernel
theorem dX0_trained_54 : decode cX0_trained 54 = .ok (.iinc 4 1, 3) := by decide +kernel
theorem dX0_trained_57 : decode cX0_trained 57 = .ok (.goto (-35), 3) := by decide +kernel
theorem dX0_trained_60 : decode cX0_trained 60 = .ok (.iload_n 3, 1) := by decide +kernel
theorem dX0_trained_61 : decode cX0_trained 61 = .ok (.ireturn, 1) := by decide +kernel
theorem dX0_validated_0 : decode cX0_validated 0 = .ok (.aload_n 0, 1) := by decide +kernel
theorem dX0_validated_1 : decode cX0_validated 1 = .ok (.getfield 21, 3) := by decide +kernel
theorem dX0_validated_4 : decode cX0_validated 4 = .ok (.iload_n 1, 1) := by decide +kernel
theorem dX0_validated_5 : decode cX0_validated 5 = .ok (.iaload, 1) := by decide +kernel
theorem dX0_validated_6 : decode cX0_validated 6 = .ok (.iload_n 2, 1) := by decide +kernel
theorem dX0_validated_7 : decode cX0_validated 7 = .ok (.if_icmp .ne 7, 3) := by decide +kernel
theorem dX0_validated_10 : decode cX0_validated 10 = .ok (.iconst 0, 1) := by decide +kernel
theorem dX0_validated_11 : decode cX0_validated 11 = .ok (.goto 16, 3) := by decide +kernel
theorem dX0_validated_14 : decode cX0_validated 14 = .ok (.aload_n 0, 1) := by decide +kernel
theorem dX0_validated_15 : decode cX0_validated 15 = .ok (.getfield 33, 3) := by decide +kernel
theorem dX0_validated_18 : decode cX0_validated 18 = .ok (.iload_n 2, 1) := by decide +kernel
theorem dX0_validated_19 : decode cX0_validated 19 = .ok (.aaload, 1) := by decide +kernel
theorem dX0_validated_20 : decode cX0_validated 20 = .ok (.aload_n 0, 1) := by decide +kernel
theorem dX0_validated_21 : decode cX0_validated 21 = .ok (.getfield 25, 3) := by decide +kernel
theorem dX0_validated_24 : decode cX0_validated 24 = .ok (.iload_n 1, 1) := by decide +kernel
theorem dX0_validated_25 : decode cX0_validated 25 = .ok (.iaload, 1) := by decide +kernel
theorem dX0_validated_26 : decode cX0_validated 26 = .ok (.iaload, 1) := by decide +kernel
theorem dX0_validated_27 : decode cX0_validated 27 = .ok (.ireturn, 1) := by decide +kernel
theorem dX0_testing_0 : decode cX0_testing 0 = .ok (.aload_n 0, 1) := by decide +kernel
theorem dX0_testing_1 : decode cX0_testing 1 = .ok (.getfield 21, 3) := by decide +kernel
theorem dX0_testing_4 : decode cX0_testing 4 = .ok (.iload_n 1, 1) := by decide +kernel
theorem dX0_testing_5 : decode cX0_testing 5 = .ok (.iaload, 1) := by decide +kernel
theorem dX0_testing_6 : decode cX0_testing 6 = .ok (.iload_n 2, 1) := by decide +kernel
theorem dX0_testing_7 : decode cX0_testing 7 = .ok (.if_icmp .ne 12, 3) := by decide +kernel
theorem dX0_testing_10 : decode cX0_testing 10 = .ok (.aload_n 0, 1) := by decide +kernel
theorem dX0_testing_11 : decode cX0_testing 11 = .ok (.getfield 28, 3) := by decide +kernel
theorem dX0_testing_14 : decode cX0_testing 14 = .ok (.iload_n 2, 1) := by decide +kernel
theorem dX0_testing_15 : decode cX0_testing 15 = .ok (.iaload, 1) := by decide +kernel
theorem dX0_testing_16 : decode cX0_testing 16 = .ok (.goto 4, 3) := by decide +kernel
theorem dX0_testing_19 : decode cX0_testing 19 = .ok (.iconst 0, 1) := by decide +kernel
theorem dX0_testing_20 : decode cX0_testing 20 = .ok (.ireturn, 1) := by decide +kernel
theorem dX1_init_0 : decode cX1_init 0 = .ok (.aload_n 0, 1) := by decide +kernel
theorem dX1_init_1 : decode cX1_init 1 = .ok (.invokespecial 3, 3) := by decide +kernel
theorem dX1_init_4 : decode cX1_init 4 = .ok (.aload_n 0, 1) := by decide +kernel
theorem dX1_init_5 : decode cX1_init 5 = .ok (.iconst 0, 1) := by decide +kernel
theorem dX1_init_6 : decode cX1_init 6 = .ok (.putfield 9, 3) := by decide +kernel
theorem dX1_init_9 : decode cX1_init 9 = .ok (.aload_n 0, 1) := by decide +kernel
theorem dX1_init_10 : decode cX1_init 10 = .ok (.lconst 0, 1) := by decide +kernel
theorem dX1_init_11 : decode cX1_init 11 = .ok (.putfield 15, 3) := by decide +kernel
theorem dX1_init_14 : decode cX1_init 14 = .ok (.aload_n 0, 1) := by decide +kernel
theorem dX1_init_15 : decode cX1_init 15 = .ok (.bipush 60, 2) := by decide +kernel
theorem dX1_init_17 : decode cX1_init 17 = .ok (.newarray .int, 2) := by decide +kernel
theorem dX1_init_19 : decode cX1_init 19 = .ok (.putfield 19, 3) := by decide +kernel
theorem dX1_init_22 : decode cX1_init 22 = .ok (.aload_n 0, 1) := by decide +kernel
theorem dX1_init_23 : decode cX1_init 23 = .ok (.bipush 60, 2) := by decide +kernel
theorem dX1_init_25 : decode cX1_init 25 = .ok (.newarray .int, 2) := by decide +kernel
theorem dX1_init_27 : decode cX1_init 27 = .ok (.putfield 23, 3) := by decide +kernel
theorem dX1_init_30 : decode cX1_init 30 = .ok (.return_, 1) := by decide +kernel
theorem dX1_start_0 : decode cX1_start 0 = .ok (.aload_n 0, 1) := by decide +kernel
theorem dX1_start_1 : decode cX1_start 1 = .ok (.iconst 1, 1) := by decide +kernel
theorem dX1_start_2 : decode cX1_start 2 = .ok (.putfield 9, 3) := by decide +kernel
theorem dX1_start_5 : decode cX1_start 5 = .ok (.aload_n 0, 1) := by decide +kernel
theorem dX1_start_6 : decode cX1_start 6 = .ok (.iconst 0, 1) := by decide +kernel
theorem dX1_start_7 : decode cX1_start 7 = .ok (.putfield 26, 3) := by decide +kernel
theorem dX1_start_10 : decode cX1_start 10 = .ok (.aload_n 0, 1) := by decide +kernel
theorem dX1_start_11 : decode cX1_start 11 = .ok (.lconst 0, 1) := by decide +kernel
theorem dX1_start_12 : decode cX1_start 12 = .ok (.putfield 15, 3) := by decide +kernel
theorem dX1_start_15 : decode cX1_start 15 = .ok (.aload_n 0, 1) := by decide +kernel
theorem dX1_start_16 : decode cX1_start 16 = .ok (.iconst 0, 1) := by decide +kernel
theorem dX1_start_17 : decode cX1_start 17 = .ok (.putfield 29, 3) := by decide +kernel
theorem dX1_start_20 : decode cX1_start 20 = .ok (.aload_n 0, 1) := by decide +kernel
theorem dX1_start_21 : decode cX1_start 21 = .ok (.iload_n 3, 1) := by decide +kernel
theorem dX1_start_22 : decode cX1_start 22 = .ok (.putfield 33, 3) := by decide +kernel
theorem dX1_start_25 : decode cX1_start 25 = .ok (.aload_n 0, 1) := by decide +kernel
theorem dX1_start_26 : decode cX1_start 26 = .ok (.iload 4, 2) := by decide +kernel
theorem dX1_start_28 : decode cX1_start 28 = .ok (.putfield 36, 3) := by decide +kernel
theorem dX1_start_31 : decode cX1_start 31 = .ok (.iconst 0, 1) := by decide +kernel
theorem dX1_start_32 : decode cX1_start 32 = .ok (.istore 5, 2) := by decide +kernel
theorem dX1_start_34 : decode cX1_start 34 = .ok (.iload 5, 2) := by decide +kernel
theorem dX1_start_36 : decode cX1_start 36 = .ok (.bipush 60, 2) := by decide +kernel
theorem dX1_start_38 : decode cX1_start 38 = .ok (.if_icmp .ge 43, 3) := by decide +kernel
theorem dX1_start_41 : decode cX1_start 41 = .ok (.aload_n 0, 1) := by decide +kernel
theorem dX1_start_42 : decode cX1_start 42 = .ok (.getfield 19, 3) := by decide +kernel
theorem dX1_start_45 : decode cX1_start 45 = .ok (.iload 5, 2) := by decide +kernel
theorem dX1_start_47 : decode cX1_start 47 = .ok (.iconst 0, 1) := by decide +kernel
theorem dX1_start_48 : decode cX1_start 48 = .ok (.iastore, 1) := by decide +kernel
theorem dX1_start_49 : decode cX1_start 49 = .ok (.aload_n 0, 1) := by decide +kernel
theorem dX1_start_50 : decode cX1_start 50 = .ok (.getfield 23, 3) := by decide +kernel
theorem dX1_start_53 : decode cX1_start 53 = .ok (.iload 5, 2) := by decide +kernel
theorem dX1_start_55 : decode cX1_start 55 = .ok (.iload_n 1, 1) := by decide +kernel
theorem dX1_start_56 : decode cX1_start 56 = .ok (.iload 5, 2) := by decide +kernel
theorem dX1_start_58 : decode cX1_start 58 = .ok (.if_icmp .gt 15, 3) := by decide +kernel
theorem dX1_start_61 : decode cX1_start 61 = .ok (.iload 5, 2) := by decide +kernel
theorem dX1_start_63 : decode cX1_start 63 = .ok (.iload_n 1, 1) := by decide +kernel
theorem dX1_start_64 : decode cX1_start 64 = .ok (.isub, 1) := by decide +kernel
theorem dX1_start_65 : decode cX1_start 65 = .ok (.iload_n 2, 1) := by decide +kernel
theorem dX1_start_66 : decode cX1_start 66 = .ok (.if_icmp .ge 7, 3) := by decide +kernel
theorem dX1_start_69 : decode cX1_start 69 = .ok (.iconst 1, 1) := by decide +kernel
theorem dX1_start_70 : decode cX1_start 70 = .ok (.goto 4, 3) := by decide +kernel
theorem dX1_start_73 : decode cX1_start 73 = .ok (.iconst 0, 1) := by decide +kernel
theorem dX1_start_74 : decode cX1_start 74 = .ok (.iastore, 1) := by decide +kernel
theorem dX1_start_75 : decode cX1_start 75 = .ok (.iinc 5 1, 3) := by decide +kernel
theorem dX1_start_78 : decode cX1_start 78 = .ok (.goto (-44), 3) := by decide +kernel
theorem dX1_start_81 : decode cX1_start 81 = .ok (.aload_n 0, 1) := by decide +kernel
theorem dX1_start_82 : decode cX1_start 82 = .ok (.iload_n 2, 1) := by decide +kernel
theorem dX1_start_83 : decode cX1_start 83 = .ok (.putfield 39, 3) := by decide +kernel
theorem dX1_start_86 : decode cX1_start 86 = .ok (.aload_n 0, 1) := by decide +kernel
theorem dX1_start_87 : decode cX1_start 87 = .ok (.iload_n 2, 1) := by decide +kernel
theorem dX1_start_88 : decode cX1_start 88 = .ok (.putfield 42, 3) := by decide +kernel
theorem dX1_start_91 : decode cX1_start 91 = .ok (.return_, 1) := by decide +kernel
theorem dX1_isIn_0 : decode cX1_isIn 0 = .ok (.aload_n 0, 1) := by decide +kernel
theorem dX1_isIn_1 : decode cX1_isIn 1 = .ok (.getfield 23, 3) := by decide +kernel
theorem dX1_isIn_4 : decode cX1_isIn 4 = .ok (.iload_n 1, 1) := by decide +kernel
theorem dX1_isIn_5 : decode cX1_isIn 5 = .ok (.iaload, 1) := by decide +kernel
theorem dX1_isIn_6 : decode cX1_isIn 6 = .ok (.ifCond .eq 7, 3) := by decide +kernel
theorem dX1_isIn_9 : decode cX1_isIn 9 = .ok (.iconst 1, 1) := by decide +kernel
theorem dX1_isIn_10 : decode cX1_isIn 10 = .ok (.goto 4, 3) := by decide +kernel
theorem dX1_isIn_13 : decode cX1_isIn 13 = .ok (.iconst 0, 1) := by decide +kernel
theorem dX1_isIn_14 : decode cX1_isIn 14 = .ok (.ireturn, 1) := by decide +kernel
theorem dX1_isWaiting_0 : decode cX1_isWaiting 0 = .ok (.aload_n 0, 1) := by decide +kernel
theorem dX1_isWaiting_1 : decode cX1_isWaiting 1 = .ok (.getfield 23, 3) := by decide +kernel
theorem dX1_isWaiting_4 : decode cX1_isWaiting 4 = .ok (.iload_n 1, 1) := by decide +kernel
theorem dX1_isWaiting_5 : decode cX1_isWaiting 5 = .ok (.iaload, 1) := by decide +kernel
theorem dX1_isWaiting_6 : decode cX1_isWaiting 6 = .ok (.iconst 1, 1) := by decide +kernel
theorem dX1_isWaiting_7 : decode cX1_isWaiting 7 = .ok (.if_icmp .ne 7, 3) := by decide +kernel
theorem dX1_isWaiting_10 : decode cX1_isWaiting 10 = .ok (.iconst 1, 1) := by decide +kernel
theorem dX1_isWaiting_11 : decode cX1_isWaiting 11 = .ok (.goto 4, 3) := by decide +kernel
theorem dX1_isWaiting_14 : decode cX1_isWaiting 14 = .ok (.iconst 0, 1) := by decide +kernel
theorem dX1_isWaiting_15 : decode cX1_isWaiting 15 = .ok (.ireturn, 1) := by decide +kernel
theorem dX1_mark_0 : decode cX1_mark 0 = .ok (.aload_n 0, 1) := by decide +kernel
theorem dX1_mark_1 : decode cX1_mark 1 = .ok (.getfield 23, 3) := by decide +kernel
theorem dX1_mark_4 : decode cX1_mark 4 = .ok (.iload_n 1, 1) := by decide +kernel
theorem dX1_mark_5 : decode cX1_mark 5 = .ok (.iload_n 3, 1) := by decide +kernel
theorem dX1_mark_6 : decode cX1_mark 6 = .ok (.ifCond .eq 7, 3) := by decide +kernel
theorem dX1_mark_9 : decode cX1_mark 9 = .ok (.iconst 2, 1) := by decide +kernel
theorem dX1_mark_10 : decode cX1_mark 10 = .ok (.goto 4, 3) := by decide +kernel
theorem dX1_mark_13 : decode cX1_mark 13 = .ok (.iconst 3, 1) := by decide +kernel
theorem dX1_mark_14 : decode cX1_mark 14 = .ok (.iastore, 1) := by decide +kernel
theorem dX1_mark_15 : decode cX1_mark 15 = .ok (.aload_n 0, 1) := by decide +kernel
theorem dX1_mark_16 : decode cX1_mark 16 = .ok (.getfield 19, 3) := by decide +kernel
theorem dX1_mark_19 : decode cX1_mark 19 = .ok (.iload_n 1, 1) := by decide +kernel
theorem dX1_mark_20 : decode cX1_mark 20 = .ok (.iload_n 3, 1) := by decide +kernel
theorem dX1_mark_21 : decode cX1_mark 21 = .ok (.ifCond .eq 7, 3) := by decide +kernel
theorem dX1_mark_24 : decode cX1_mark 24 = .ok (.iload_n 2, 1) := by decide +kernel
theorem dX1_mark_25 : decode cX1_mark 25 = .ok (.goto 4, 3) := by decide +kernel
theorem dX1_mark_28 : decode cX1_mark 28 = .ok (.iconst 0, 1) := by decide +kernel
theorem dX1_mark_29 : decode cX1_mark 29 = .ok (.iastore, 1) := by decide +kernel
theorem dX1_mark_30 : decode cX1_mark 30 = .ok (.aload_n 0, 1) := by decide +kernel
theorem dX1_mark_31 : decode cX1_mark 31 = .ok (.dup, 1) := by decide +kernel
theorem dX1_mark_32 : decode cX1_mark 32 = .ok (.getfield 15, 3) := by decide +kernel
theorem dX1_mark_35 : decode cX1_mark 35 = .ok (.aload_n 0, 1) := by decide +kernel
theorem dX1_mark_36 : decode cX1_mark 36 = .ok (.getfield 33, 3) := by decide +kernel
theorem dX1_mark_39 : decode cX1_mark 39 = .ok (.i2l, 1) := by decide +kernel
theorem dX1_mark_40 : decode cX1_mark 40 = .ok (.ladd, 1) := by decide +kernel
theorem dX1_mark_41 : decode cX1_mark 41 = .ok (.putfield 15, 3) := by decide +kernel
theorem dX1_mark_44 : decode cX1_mark 44 = .ok (.aload_n 0, 1) := by decide +kernel
theorem dX1_mark_45 : decode cX1_mark 45 = .ok (.dup, 1) := by decide +kernel
theorem dX1_mark_46 : decode cX1_mark 46 = .ok (.getfield 42, 3) := by decide +kernel
theorem dX1_mark_49 : decode cX1_mark 49 = .ok (.iconst 1, 1) := by decide +kernel
theorem dX1_mark_50 : decode cX1_mark 50 = .ok (.isub, 1) := by decide +kernel
theorem dX1_mark_51 : decode cX1_mark 51 = .ok (.putfield 42, 3) := by decide +kernel
theorem dX1_mark_54 : decode cX1_mark 54 = .ok (.aload_n 0, 1) := by decide +kernel
theorem dX1_mark_55 : decode cX1_mark 55 = .ok (.getfield 42, 3) := by decide +kernel
theorem dX1_mark_58 : decode cX1_mark 58 = .ok (.ireturn, 1) := by decide +kernel
theorem dX1_canEnd_0 : decode cX1_canEnd 0 = .ok (.aload_n 0, 1) := by decide +kernel
theorem dX1_canEnd_1 : decode cX1_canEnd 1 = .ok (.getfield 9, 3) := by decide +kernel
theorem dX1_canEnd_4 : decode cX1_canEnd 4 = .ok (.ifCond .eq 21, 3) := by decide +kernel
theorem dX1_canEnd_7 : decode cX1_canEnd 7 = .ok (.aload_n 0, 1) := by decide +kernel
theorem dX1_canEnd_8 : decode cX1_canEnd 8 = .ok (.getfield 26, 3) := by decide +kernel
theorem dX1_canEnd_11 : decode cX1_canEnd 11 = .ok (.ifCond .ne 14, 3) := by decide +kernel
theorem dX1_canEnd_14 : decode cX1_canEnd 14 = .ok (.aload_n 0, 1) := by decide +kernel
theorem dX1_canEnd_15 : decode cX1_canEnd 15 = .ok (.getfield 42, 3) := by decide +kernel
theorem dX1_canEnd_18 : decode cX1_canEnd 18 = .ok (.ifCond .ne 7, 3) := by decide +kernel
theorem dX1_canEnd_21 : decode cX1_canEnd 21 = .ok (.iconst 1, 1) := by decide +kernel
theorem dX1_canEnd_22 : decode cX1_canEnd 22 = .ok (.goto 4, 3) := by decide +kernel
theorem dX1_canEnd_25 : decode cX1_canEnd 25 = .ok (.iconst 0, 1) := by decide +kernel
theorem dX1_canEnd_26 : decode cX1_canEnd 26 = .ok (.ireturn, 1) := by decide +kernel
set_option maxRecDepth 20000 in
theorem ggX1_end_X5_cut : GoodIn wsX1_end wsX5_cut := goodIn_r _ [17] (by decide +kernel) (by decide +kernel)
set_option maxRecDepth 20000 in
theorem gX1_end_X5_cut_n45 : GoodIn wsX1_end (wsX5_cut) := ggX1_end_X5_cut
set_option maxRecDepth 20000 in
theorem ggX1_end_X1_keepGreatest : GoodIn wsX1_end wsX1_keepGreatest := goodIn_r _ [22, 23, 24, 29, 30, 31, 32, 33, 34, 35, 36, 37, 38] (by decide +kernel) (by decide +kernel)
set_option maxRecDepth 20000 in
theorem gX1_end_X1_keepGreatest : GoodIn wsX1_end (wsV RX1 54 RX1 yX1_keepGreatest wsX1_keepGreatest) := goodIn_app (goodIn_of _ (by decide +kernel)) ggX1_end_X1_keepGreatest
set_option maxRecDepth 20000 in
theorem ggX1_end_X1_openRound : GoodIn wsX1_end wsX1_openRound := goodIn_r _ [28, 23, 24, 29, 30, 31, 32, 33, 34, 35, 36, 37, 38] (by decide +kernel) (by decide +kernel)
set_option maxRecDepth 20000 in
theorem gX1_end_X1_openRound : GoodIn wsX1_end (wsV RX1 58 RX1 yX1_openRound wsX1_openRound) := goodIn_app (goodIn_of _ (by decide +kernel)) ggX1_end_X1_openRound
theorem dX1_end_0 : decode cX1_end 0 = .ok (.lconst 1, 1) := by decide +kernel
theorem dX1_end_1 : decode cX1_end 1 = .ok (.aload_n 0, 1) := by decide +kernel
theorem dX1_end_2 : decode cX1_end 2 = .ok (.getfield 39, 3) := by decide +kernel
theorem dX1_end_5 : decode cX1_end 5 = .ok (.i2l, 1) := by decide +kernel
theorem dX1_end_6 : decode cX1_end 6 = .ok (.aload_n 0, 1) := by decide +kernel
theorem dX1_end_7 : decode cX1_end 7 = .ok (.getfield 36, 3) := by decide +kernel
theorem dX1_end_10 : decode cX1_end 10 = .ok (.i2l, 1) := by decide +kernel
theorem dX1_end_11 : decode cX1_end 11 = .ok (.invokestatic 45, 3) := by decide +kernel
theorem dX1_end_14 : decode cX1_end 14 = .ok (.invokestatic 49, 3) := by decide +kernel
theorem dX1_end_17 : decode cX1_end 17 = .ok (.lstore_n 1, 1) := by decide +kernel
theorem dX1_end_18 : decode cX1_end 18 = .ok (.iconst 0, 1) := by decide +kernel
theorem dX1_end_19 : decode cX1_end 19 = .ok (.istore_n 3, 1) := by decide +kernel
theorem dX1_end_20 : decode cX1_end 20 = .ok (.iload_n 3, 1) := by decide +kernel
theorem dX1_end_21 : decode cX1_end 21 = .ok (.i2l, 1) := by decide +kernel
theorem dX1_end_22 : decode cX1_end 22 = .ok (.lload_n 1, 1) := by decide +kernel
theorem dX1_end_23 : decode cX1_end 23 = .ok (.lcmp, 1) := by decide +kernel
theorem dX1_end_24 : decode cX1_end 24 = .ok (.ifCond .ge 16, 3) := by decide +kernel
theorem dX1_end_27 : decode cX1_end 27 = .ok (.aload_n 0, 1) := by decide +kernel
theorem dX1_end_28 : decode cX1_end 28 = .ok (.invokevirtual 54, 3) := by decide +kernel
theorem dX1_end_31 : decode cX1_end 31 = .ok (.ifCond .eq 9, 3) := by decide +kernel
theorem dX1_end_34 : decode cX1_end 34 = .ok (.iinc 3 1, 3) := by decide +kernel
theorem dX1_end_37 : decode cX1_end 37 = .ok (.goto (-17), 3) := by decide +kernel
theorem dX1_end_40 : decode cX1_end 40 = .ok (.aload_n 0, 1) := by decide +kernel
theorem dX1_end_41 : decode cX1_end 41 = .ok (.invokevirtual 58, 3) := by decide +kernel
theorem dX1_end_44 : decode cX1_end 44 = .ok (.aload_n 0, 1) := by decide +kernel
theorem dX1_end_45 : decode cX1_end 45 = .ok (.iload_n 3, 1) := by decide +kernel
theorem dX1_end_46 : decode cX1_end 46 = .ok (.putfield 39, 3) := by decide +kernel
theorem dX1_end_49 : decode cX1_end 49 = .ok (.aload_n 0, 1) := by decide +kernel
theorem dX1_end_50 : decode cX1_end 50 = .ok (.iload_n 3, 1) := by decide +kernel
theorem dX1_end_51 : decode cX1_end 51 = .ok (.putfield 42, 3) := by decide +kernel
theorem dX1_end_54 : decode cX1_end 54 = .ok (.aload_n 0, 1) := by decide +kernel
theorem dX1_end_55 : decode cX1_end 55 = .ok (.dup, 1) := by decide +kernel
theorem dX1_end_56 : decode cX1_end 56 = .ok (.getfield 29, 3) := by decide +kernel
theorem dX1_end_59 : decode cX1_end 59 = .ok (.iconst 1, 1) := by decide +kernel
theorem dX1_end_60 : decode cX1_end 60 = .ok (.iadd, 1) := by decide +kernel
theorem dX1_end_61 : decode cX1_end 61 = .ok (.putfield 29, 3) := by decide +kernel
theorem dX1_end_64 : decode cX1_end 64 = .ok (.aload_n 0, 1) := by decide +kernel
theorem dX1_end_65 : decode cX1_end 65 = .ok (.aload_n 0, 1) := by decide +kernel
theorem dX1_end_66 : decode cX1_end 66 = .ok (.getfield 33, 3) := by decide +kernel
theorem dX1_end_69 : decode cX1_end 69 = .ok (.i2l, 1) := by decide +kernel
theorem dX1_end_70 : decode cX1_end 70 = .ok (.aload_n 0, 1) := by decide +kernel
theorem dX1_end_71 : decode cX1_end 71 = .ok (.getfield 36, 3) := by decide +kernel
theorem dX1_end_74 : decode cX1_end 74 = .ok (.i2l, 1) := by decide +kernel
theorem dX1_end_75 : decode cX1_end 75 = .ok (.lmul, 1) := by decide +kernel
theorem dX1_end_76 : decode cX1_end 76 = .ok (.ldc2_w 61, 3) := by decide +kernel
theorem dX1_end_79 : decode cX1_end 79 = .ok (.invokestatic 63, 3) := by decide +kernel
theorem dX1_end_82 : decode cX1_end 82 = .ok (.l2i, 1) := by decide +kernel
theorem dX1_end_83 : decode cX1_end 83 = .ok (.putfield 33, 3) := by decide +kernel
theorem dX1_end_86 : decode cX1_end 86 = .ok (.aload_n 0, 1) := by decide +kernel
theorem dX1_end_87 : decode cX1_end 87 = .ok (.aload_n 0, 1) := by decide +kernel
theorem dX1_end_88 : decode cX1_end 88 = .ok (.getfield 39, 3) := by decide +kernel
theorem dX1_end_91 : decode cX1_end 91 = .ok (.iconst 1, 1) := by decide +kernel
theorem dX1_end_92 : decode cX1_end 92 = .ok (.if_icmp .gt 7, 3) := by decide +kernel
theorem dX1_end_95 : decode cX1_end 95 = .ok (.iconst 1, 1) := by decide +kernel
theorem dX1_end_96 : decode cX1_end 96 = .ok (.goto 4, 3) := by decide +kernel
theorem dX1_end_99 : decode cX1_end 99 = .ok (.iconst 0, 1) := by decide +kernel
theorem dX1_end_100 : decode cX1_end 100 = .ok (.putfield 26, 3) := by decide +kernel
theorem dX1_end_103 : decode cX1_end 103 = .ok (.aload_n 0, 1) := by decide +kernel
theorem dX1_end_104 : decode cX1_end 104 = .ok (.getfield 39, 3) := by decide +kernel
theorem dX1_end_107 : decode cX1_end 107 = .ok (.ireturn, 1) := by decide +kernel
theorem dX1_keepGreatest_0 : decode cX1_keepGreatest 0 = .ok (.bipush (-2), 2) := by decide +kernel
theorem dX1_keepGreatest_2 : decode cX1_keepGreatest 2 = .ok (.istore_n 1, 1) := by decide +kernel
theorem dX1_keepGreatest_3 : decode cX1_keepGreatest 3 = .ok (.iconst 0, 1) := by decide +kernel
theorem dX1_keepGreatest_4 : decode cX1_keepGreatest 4 = .ok (.istore_n 2, 1) := by decide +kernel
theorem dX1_keepGreatest_5 : decode cX1_keepGreatest 5 = .ok (.iload_n 2, 1) := by decide +kernel
theorem dX1_keepGreatest_6 : decode cX1_keepGreatest 6 = .ok (.bipush 60, 2) := by decide +kernel
theorem dX1_keepGreatest_8 : decode cX1_keepGreatest 8 = .ok (.if_icmp .ge 40, 3) := by decide +kernel
theorem dX1_keepGreatest_11 : decode cX1_keepGreatest 11 = .ok (.aload_n 0, 1) := by decide +kernel
theorem dX1_keepGreatest_12 : decode cX1_keepGreatest 12 = .ok (.getfield 23, 3) := by decide +kernel
theorem dX1_keepGreatest_15 : decode cX1_keepGreatest 15 = .ok (.iload_n 2, 1) := by decide +kernel
theorem dX1_keepGreatest_16 : decode cX1_keepGreatest 16 = .ok (.iaload, 1) := by decide +kernel
theorem dX1_keepGreatest_17 : decode cX1_keepGreatest 17 = .ok (.iconst 2, 1) := by decide +kernel
theorem dX1_keepGreatest_18 : decode cX1_keepGreatest 18 = .ok (.if_icmp .ne 24, 3) := by decide +kernel
theorem dX1_keepGreatest_21 : decode cX1_keepGreatest 21 = .ok (.iload_n 1, 1) := by decide +kernel
theorem dX1_keepGreatest_22 : decode cX1_keepGreatest 22 = .ok (.ifCond .lt 18, 3) := by decide +kernel
theorem dX1_keepGreatest_25 : decode cX1_keepGreatest 25 = .ok (.aload_n 0, 1) := by decide +kernel
theorem dX1_keepGreatest_26 : decode cX1_keepGreatest 26 = .ok (.getfield 19, 3) := by decide +kernel
theorem dX1_keepGreatest_29 : decode cX1_keepGreatest 29 = .ok (.iload_n 2, 1) := by decide +kernel
theorem dX1_keepGreatest_30 : decode cX1_keepGreatest 30 = .ok (.iaload, 1) := by decide +kernel
theorem dX1_keepGreatest_31 : decode cX1_keepGreatest 31 = .ok (.aload_n 0, 1) := by decide +kernel
theorem dX1_keepGreatest_32 : decode cX1_keepGreatest 32 = .ok (.getfield 19, 3) := by decide +kernel
theorem dX1_keepGreatest_35 : decode cX1_keepGreatest 35 = .ok (.iload_n 1, 1) := by decide +kernel
theorem dX1_keepGreatest_36 : decode cX1_keepGreatest 36 = .ok (.iaload, 1) := by decide +kernel
theorem dX1_keepGreatest_37 : decode cX1_keepGreatest 37 = .ok (.if_icmp .le 5, 3) := by decide +kernel
theorem dX1_keepGreatest_40 : decode cX1_keepGreatest 40 = .ok (.iload_n 2, 1) := by decide +kernel
theorem dX1_keepGreatest_41 : decode cX1_keepGreatest 41 = .ok (.istore_n 1, 1) := by decide +kernel
theorem dX1_keepGreatest_42 : decode cX1_keepGreatest 42 = .ok (.iinc 2 1, 3) := by decide +kernel
theorem dX1_keepGreatest_45 : decode cX1_keepGreatest 45 = .ok (.goto (-40), 3) := by decide +kernel
theorem dX1_keepGreatest_48 : decode cX1_keepGreatest 48 = .ok (.iload_n 1, 1) := by decide +kernel
theorem dX1_keepGreatest_49 : decode cX1_keepGreatest 49 = .ok (.ifCond .ge 5, 3) := by decide +kernel
theorem dX1_keepGreatest_52 : decode cX1_keepGreatest 52 = .ok (.iconst 0, 1) := by decide +kernel
theorem dX1_keepGreatest_53 : decode cX1_keepGreatest 53 = .ok (.ireturn, 1) := by decide +kernel
theorem dX1_keepGreatest_54 : decode cX1_keepGreatest 54 = .ok (.aload_n 0, 1) := by decide +kernel
theorem dX1_keepGreatest_55 : decode cX1_keepGreatest 55 = .ok (.getfield 23, 3) := by decide +kernel
theorem dX1_keepGreatest_58 : decode cX1_keepGreatest 58 = .ok (.iload_n 1, 1) := by decide +kernel
theorem dX1_keepGreatest_59 : decode cX1_keepGreatest 59 = .ok (.iconst 4, 1) := by decide +kernel
theorem dX1_keepGreatest_60 : decode cX1_keepGreatest 60 = .ok (.iastore, 1) := by decide +kernel
theorem dX1_keepGreatest_61 : decode cX1_keepGreatest 61 = .ok (.iconst 1, 1) := by decide +kernel
theorem dX1_keepGreatest_62 : decode cX1_keepGreatest 62 = .ok (.ireturn, 1) := by decide +kernel
theorem dX1_openRound_0 : decode cX1_openRound 0 = .ok (.iconst 0, 1) := by decide +kernel
theorem dX1_openRound_1 : decode cX1_openRound 1 = .ok (.istore_n 1, 1) := by decide +kernel
theorem dX1_openRound_2 : decode cX1_openRound 2 = .ok (.iload_n 1, 1) := by decide +kernel
theorem dX1_openRound_3 : decode cX1_openRound 3 = .ok (.bipush 60, 2) := by decide +kernel
theorem dX1_openRound_5 : decode cX1_openRound 5 = .ok (.if_icmp .ge 37, 3) := by decide +kernel
theorem dX1_openRound_8 : decode cX1_openRound 8 = .ok (.aload_n 0, 1) := by decide +kernel
theorem dX1_openRound_9 : decode cX1_openRound 9 = .ok (.getfield 23, 3) := by decide +kernel
theorem dX1_openRound_12 : decode cX1_openRound 12 = .ok (.iload_n 1, 1) := by decide +kernel
theorem dX1_openRound_13 : decode cX1_openRound 13 = .ok (.aload_n 0, 1) := by decide +kernel
theorem dX1_openRound_14 : decode cX1_openRound 14 = .ok (.getfield 23, 3) := by decide +kernel
theorem dX1_openRound_17 : decode cX1_openRound 17 = .ok (.iload_n 1, 1) := by decide +kernel
theorem dX1_openRound_18 : decode cX1_openRound 18 = .ok (.iaload, 1) := by decide +kernel
theorem dX1_openRound_19 : decode cX1_openRound 19 = .ok (.iconst 4, 1) := by decide +kernel
theorem dX1_openRound_20 : decode cX1_openRound 20 = .ok (.if_icmp .ne 7, 3) := by decide +kernel
theorem dX1_openRound_23 : decode cX1_openRound 23 = .ok (.iconst 1, 1) := by decide +kernel
theorem dX1_openRound_24 : decode cX1_openRound 24 = .ok (.goto 4, 3) := by decide +kernel
theorem dX1_openRound_27 : decode cX1_openRound 27 = .ok (.iconst 0, 1) := by decide +kernel
theorem dX1_openRound_28 : decode cX1_openRound 28 = .ok (.iastore, 1) := by decide +kernel
theorem dX1_openRound_29 : decode cX1_openRound 29 = .ok (.aload_n 0, 1) := by decide +kernel
theorem dX1_openRound_30 : decode cX1_openRound 30 = .ok (.getfield 19, 3) := by decide +kernel
theorem dX1_openRound_33 : decode cX1_openRound 33 = .ok (.iload_n 1, 1) := by decide +kernel
theorem dX1_openRound_34 : decode cX1_openRound 34 = .ok (.iconst 0, 1) := by decide +kernel
theorem dX1_openRound_35 : decode cX1_openRound 35 = .ok (.iastore, 1) := by decide +kernel
theorem dX1_openRound_36 : decode cX1_openRound 36 = .ok (.iinc 1 1, 3) := by decide +kernel
theorem dX1_openRound_39 : decode cX1_openRound 39 = .ok (.goto (-37), 3) := by decide +kernel
theorem dX1_openRound_42 : decode cX1_openRound 42 = .ok (.return_, 1) := by decide +kernel
theorem dX1_tell_0 : decode cX1_tell 0 = .ok (.iload_n 1, 1) := by decide +kernel
theorem dX1_tell_1 : decode cX1_tell 1 = .ok (.tableswitch 42 0 2 #[27, 32, 37], 27) := by decide +kernel
theorem dX1_tell_28 : decode cX1_tell 28 = .ok (.aload_n 0, 1) := by decide +kernel
theorem dX1_tell_29 : decode cX1_tell 29 = .ok (.getfield 39, 3) := by decide +kernel
theorem dX1_tell_32 : decode cX1_tell 32 = .ok (.ireturn, 1) := by decide +kernel
theorem dX1_tell_33 : decode cX1_tell 33 = .ok (.aload_n 0, 1) := by decide +kernel
theorem dX1_tell_34 : decode cX1_tell 34 = .ok (.getfield 29, 3) := by decide +kernel
theorem dX1_tell_37 : decode cX1_tell 37 = .ok (.ireturn, 1) := by decide +kernel
theorem dX1_tell_38 : decode cX1_tell 38 = .ok (.aload_n 0, 1) := by decide +kernel
theorem dX1_tell_39 : decode cX1_tell 39 = .ok (.getfield 33, 3) := by decide +kernel
theorem dX1_tell_42 : decode cX1_tell 42 = .ok (.ireturn, 1) := by decide +kernel
theorem dX1_tell_43 : decode cX1_tell 43 = .ok (.aload_n 0, 1) := by decide +kernel
theorem dX1_tell_44 : decode cX1_tell 44 = .ok (.getfield 26, 3) := by decide +kernel
theorem dX1_tell_47 : decode cX1_tell 47 = .ok (.ifCond .eq 7, 3) := by decide +kernel
theorem dX1_tell_50 : decode cX1_tell 50 = .ok (.iconst 1, 1) := by decide +kernel
theorem dX1_tell_51 : decode cX1_tell 51 = .ok (.goto 4, 3) := by decide +kernel
theorem dX1_tell_54 : decode cX1_tell 54 = .ok (.iconst 0, 1) := by decide +kernel
theorem dX1_tell_55 : decode cX1_tell 55 = .ok (.ireturn, 1) := by decide +kernel
theorem dX2_hash_0 : decode cX2_hash 0 = .ok (.iload_n 0, 1) := by decide +kernel
theorem dX2_hash_1 : decode cX2_hash 1 = .ok (.iload_n 1, 1) := by decide +kernel
theorem dX2_hash_2 : decode cX2_hash 2 = .ok (.ldc 7, 2) := by decide +kernel
theorem dX2_hash_4 : decode cX2_hash 4 = .ok (.imul, 1) := by decide +kernel
theorem dX2_hash_5 : decode cX2_hash 5 = .ok (.iadd, 1) := by decide +kernel
theorem dX2_hash_6 : decode cX2_hash 6 = .ok (.istore_n 2, 1) := by decide +kernel
theorem dX2_hash_7 : decode cX2_hash 7 = .ok (.iload_n 2, 1) := by decide +kernel
theorem dX2_hash_8 : decode cX2_hash 8 = .ok (.iload_n 2, 1) := by decide +kernel
theorem dX2_hash_9 : decode cX2_hash 9 = .ok (.bipush 16, 2) := by decide +kernel
theorem dX2_hash_11 : decode cX2_hash 11 = .ok (.iushr, 1) := by decide +kernel
theorem dX2_hash_12 : decode cX2_hash 12 = .ok (.ixor, 1) := by decide +kernel
theorem dX2_hash_13 : decode cX2_hash 13 = .ok (.ldc 8, 2) := by decide +kernel
theorem dX2_hash_15 : decode cX2_hash 15 = .ok (.imul, 1) := by decide +kernel
theorem dX2_hash_16 : decode cX2_hash 16 = .ok (.istore_n 2, 1) := by decide +kernel
theorem dX2_hash_17 : decode cX2_hash 17 = .ok (.iload_n 2, 1) := by decide +kernel
theorem dX2_hash_18 : decode cX2_hash 18 = .ok (.iload_n 2, 1) := by decide +kernel
theorem dX2_hash_19 : decode cX2_hash 19 = .ok (.bipush 13, 2) := by decide +kernel
theorem dX2_hash_21 : decode cX2_hash 21 = .ok (.iushr, 1) := by decide +kernel
theorem dX2_hash_22 : decode cX2_hash 22 = .ok (.ixor, 1) := by decide +kernel
theorem dX2_hash_23 : decode cX2_hash 23 = .ok (.ldc 9, 2) := by decide +kernel
theorem dX2_hash_25 : decode cX2_hash 25 = .ok (.imul, 1) := by decide +kernel
theorem dX2_hash_26 : decode cX2_hash 26 = .ok (.istore_n 2, 1) := by decide +kernel
theorem dX2_hash_27 : decode cX2_hash 27 = .ok (.iload_n 2, 1) := by decide +kernel
theorem dX2_hash_28 : decode cX2_hash 28 = .ok (.iload_n 2, 1) := by decide +kernel
theorem dX2_hash_29 : decode cX2_hash 29 = .ok (.bipush 16, 2) := by decide +kernel
theorem dX2_hash_31 : decode cX2_hash 31 = .ok (.iushr, 1) := by decide +kernel
theorem dX2_hash_32 : decode cX2_hash 32 = .ok (.ixor, 1) := by decide +kernel
theorem dX2_hash_33 : decode cX2_hash 33 = .ok (.ireturn, 1) := by decide +kernel
set_option maxRecDepth 20000 in
theorem ggX2_pick_X2_bitsFor : GoodIn wsX2_pick wsX2_bitsFor := goodIn_r _ [5] (by decide +kernel) (by decide +kernel)
set_option maxRecDepth 20000 in
theorem gX2_pick_X2_bitsFor : GoodIn wsX2_pick (va_wsS RX2 10 yX2_bitsFor wsX2_bitsFor) := goodIn_app (goodIn_of _ (by decide +kernel)) ggX2_pick_X2_bitsFor
set_option maxRecDepth 20000 in
theorem ggX2_pick_X2_twoHashes : GoodIn wsX2_pick wsX2_twoHashes := goodIn_r _ [8, 9, 10, 11, 4, 12, 13, 14, 15] (by decide +kernel) (by decide +kernel)
set_option maxRecDepth 20000 in
theorem gX2_pick_X2_twoHashes : GoodIn wsX2_pick (va_wsS RX2 17 yX2_twoHashes wsX2_twoHashes) := goodIn_app (goodIn_of _ (by decide +kernel)) ggX2_pick_X2_twoHashes
theorem dX2_pick_0 : decode cX2_pick 0 = .ok (.lload_n 0, 1) := by decide +kernel
theorem dX2_pick_1 : decode cX2_pick 1 = .ok (.invokestatic 10, 3) := by decide +kernel
theorem dX2_pick_4 : decode cX2_pick 4 = .ok (.istore_n 3, 1) := by decide +kernel
theorem dX2_pick_5 : decode cX2_pick 5 = .ok (.iload_n 3, 1) := by decide +kernel
theorem dX2_pick_6 : decode cX2_pick 6 = .ok (.ifCond .ne 5, 3) := by decide +kernel
theorem dX2_pick_9 : decode cX2_pick 9 = .ok (.lconst 0, 1) := by decide +kernel
theorem dX2_pick_10 : decode cX2_pick 10 = .ok (.lreturn, 1) := by decide +kernel
theorem dX2_pick_11 : decode cX2_pick 11 = .ok (.iconst 0, 1) := by decide +kernel
theorem dX2_pick_12 : decode cX2_pick 12 = .ok (.istore 4, 2) := by decide +kernel
theorem dX2_pick_14 : decode cX2_pick 14 = .ok (.iload 4, 2) := by decide +kernel
theorem dX2_pick_16 : decode cX2_pick 16 = .ok (.ldc 16, 2) := by decide +kernel
theorem dX2_pick_18 : decode cX2_pick 18 = .ok (.if_icmp .ge 32, 3) := by decide +kernel
theorem dX2_pick_21 : decode cX2_pick 21 = .ok (.iload_n 2, 1) := by decide +kernel
theorem dX2_pick_22 : decode cX2_pick 22 = .ok (.iload 4, 2) := by decide +kernel
theorem dX2_pick_24 : decode cX2_pick 24 = .ok (.invokestatic 17, 3) := by decide +kernel
theorem dX2_pick_27 : decode cX2_pick 27 = .ok (.bipush 64, 2) := by decide +kernel
theorem dX2_pick_29 : decode cX2_pick 29 = .ok (.iload_n 3, 1) := by decide +kernel
theorem dX2_pick_30 : decode cX2_pick 30 = .ok (.isub, 1) := by decide +kernel
theorem dX2_pick_31 : decode cX2_pick 31 = .ok (.lushr, 1) := by decide +kernel
theorem dX2_pick_32 : decode cX2_pick 32 = .ok (.lstore 5, 2) := by decide +kernel
theorem dX2_pick_34 : decode cX2_pick 34 = .ok (.lload 5, 2) := by decide +kernel
theorem dX2_pick_36 : decode cX2_pick 36 = .ok (.lload_n 0, 1) := by decide +kernel
theorem dX2_pick_37 : decode cX2_pick 37 = .ok (.lcmp, 1) := by decide +kernel
theorem dX2_pick_38 : decode cX2_pick 38 = .ok (.ifCond .ge 6, 3) := by decide +kernel
theorem dX2_pick_41 : decode cX2_pick 41 = .ok (.lload 5, 2) := by decide +kernel
theorem dX2_pick_43 : decode cX2_pick 43 = .ok (.lreturn, 1) := by decide +kernel
theorem dX2_pick_44 : decode cX2_pick 44 = .ok (.iinc 4 1, 3) := by decide +kernel
theorem dX2_pick_47 : decode cX2_pick 47 = .ok (.goto (-33), 3) := by decide +kernel
theorem dX2_pick_50 : decode cX2_pick 50 = .ok (.lconst 0, 1) := by decide +kernel
theorem dX2_pick_51 : decode cX2_pick 51 = .ok (.lreturn, 1) := by decide +kernel
set_option maxRecDepth 20000 in
theorem ggX2_twoHashes_X2_hash : GoodIn wsX2_twoHashes wsX2_hash := goodIn_r _ [5, 6, 7, 8] (by decide +kernel) (by decide +kernel)
set_option maxRecDepth 20000 in
theorem gX2_twoHashes_X2_hash : GoodIn wsX2_twoHashes (va_wsS RX2 21 yX2_hash wsX2_hash) := goodIn_app (goodIn_of _ (by decide +kernel)) ggX2_twoHashes_X2_hash
theorem dX2_twoHashes_0 : decode cX2_twoHashes 0 = .ok (.iload_n 0, 1) := by decide +kernel
theorem dX2_twoHashes_1 : decode cX2_twoHashes 1 = .ok (.iconst 2, 1) := by decide +kernel
theorem dX2_twoHashes_2 : decode cX2_twoHashes 2 = .ok (.iload_n 1, 1) := by decide +kernel
theorem dX2_twoHashes_3 : decode cX2_twoHashes 3 = .ok (.imul, 1) := by decide +kernel
theorem dX2_twoHashes_4 : decode cX2_twoHashes 4 = .ok (.iconst 1, 1) := by decide +kernel
theorem dX2_twoHashes_5 : decode cX2_twoHashes 5 = .ok (.iadd, 1) := by decide +kernel
theorem dX2_twoHashes_6 : decode cX2_twoHashes 6 = .ok (.invokestatic 21, 3) := by decide +kernel
theorem dX2_twoHashes_9 : decode cX2_twoHashes 9 = .ok (.i2l, 1) := by decide +kernel
theorem dX2_twoHashes_10 : decode cX2_twoHashes 10 = .ok (.lstore_n 2, 1) := by decide +kernel
theorem dX2_twoHashes_11 : decode cX2_twoHashes 11 = .ok (.iload_n 0, 1) := by decide +kernel
theorem dX2_twoHashes_12 : decode cX2_twoHashes 12 = .ok (.iconst 2, 1) := by decide +kernel
theorem dX2_twoHashes_13 : decode cX2_twoHashes 13 = .ok (.iload_n 1, 1) := by decide +kernel
theorem dX2_twoHashes_14 : decode cX2_twoHashes 14 = .ok (.imul, 1) := by decide +kernel
theorem dX2_twoHashes_15 : decode cX2_twoHashes 15 = .ok (.iconst 2, 1) := by decide +kernel
theorem dX2_twoHashes_16 : decode cX2_twoHashes 16 = .ok (.iadd, 1) := by decide +kernel
theorem dX2_twoHashes_17 : decode cX2_twoHashes 17 = .ok (.invokestatic 21, 3) := by decide +kernel
theorem dX2_twoHashes_20 : decode cX2_twoHashes 20 = .ok (.i2l, 1) := by decide +kernel
theorem dX2_twoHashes_21 : decode cX2_twoHashes 21 = .ok (.lstore 4, 2) := by decide +kernel
theorem dX2_twoHashes_23 : decode cX2_twoHashes 23 = .ok (.lload_n 2, 1) := by decide +kernel
theorem dX2_twoHashes_24 : decode cX2_twoHashes 24 = .ok (.bipush 32, 2) := by decide +kernel
theorem dX2_twoHashes_26 : decode cX2_twoHashes 26 = .ok (.lshl, 1) := by decide +kernel
theorem dX2_twoHashes_27 : decode cX2_twoHashes 27 = .ok (.lload 4, 2) := by decide +kernel
theorem dX2_twoHashes_29 : decode cX2_twoHashes 29 = .ok (.ldc2_w 25, 3) := by decide +kernel
theorem dX2_twoHashes_32 : decode cX2_twoHashes 32 = .ok (.land, 1) := by decide +kernel
theorem dX2_twoHashes_33 : decode cX2_twoHashes 33 = .ok (.lor, 1) := by decide +kernel
theorem dX2_twoHashes_34 : decode cX2_twoHashes 34 = .ok (.lreturn, 1) := by decide +kernel
theorem dX2_bitsFor_0 : decode cX2_bitsFor 0 = .ok (.iconst 0, 1) := by decide +kernel
theorem dX2_bitsFor_1 : decode cX2_bitsFor 1 = .ok (.istore_n 2, 1) := by decide +kernel
theorem dX2_bitsFor_2 : decode cX2_bitsFor 2 = .ok (.iload_n 2, 1) := by decide +kernel
theorem dX2_bitsFor_3 : decode cX2_bitsFor 3 = .ok (.bipush 62, 2) := by decide +kernel
theorem dX2_bitsFor_5 : decode cX2_bitsFor 5 = .ok (.if_icmp .ge 17, 3) := by decide +kernel
theorem dX2_bitsFor_8 : decode cX2_bitsFor 8 = .ok (.lconst 1, 1) := by decide +kernel
theorem dX2_bitsFor_9 : decode cX2_bitsFor 9 = .ok (.iload_n 2, 1) := by decide +kernel
theorem dX2_bitsFor_10 : decode cX2_bitsFor 10 = .ok (.lshl, 1) := by decide +kernel
theorem dX2_bitsFor_11 : decode cX2_bitsFor 11 = .ok (.lload_n 0, 1) := by decide +kernel
theorem dX2_bitsFor_12 : decode cX2_bitsFor 12 = .ok (.lcmp, 1) := by decide +kernel
theorem dX2_bitsFor_13 : decode cX2_bitsFor 13 = .ok (.ifCond .ge 9, 3) := by decide +kernel
theorem dX2_bitsFor_16 : decode cX2_bitsFor 16 = .ok (.iinc 2 1, 3) := by decide +kernel
theorem dX2_bitsFor_19 : decode cX2_bitsFor 19 = .ok (.goto (-17), 3) := by decide +kernel
theorem dX2_bitsFor_22 : decode cX2_bitsFor 22 = .ok (.iload_n 2, 1) := by decide +kernel
theorem dX2_bitsFor_23 : decode cX2_bitsFor 23 = .ok (.ireturn, 1) := by decide +kernel
theorem dX3_init_0 : decode cX3_init 0 = .ok (.aload_n 0, 1) := by decide +kernel
theorem dX3_init_1 : decode cX3_init 1 = .ok (.invokespecial 3, 3) := by decide +kernel
theorem dX3_init_4 : decode cX3_init 4 = .ok (.aload_n 0, 1) := by decide +kernel
theorem dX3_init_5 : decode cX3_init 5 = .ok (.iconst 0, 1) := by decide +kernel
theorem dX3_init_6 : decode cX3_init 6 = .ok (.putfield 9, 3) := by decide +kernel
theorem dX3_init_9 : decode cX3_init 9 = .ok (.aload_n 0, 1) := by decide +kernel
theorem dX3_init_10 : decode cX3_init 10 = .ok (.lconst 1, 1) := by decide +kernel
theorem dX3_init_11 : decode cX3_init 11 = .ok (.putfield 15, 3) := by decide +kernel
theorem dX3_init_14 : decode cX3_init 14 = .ok (.aload_n 0, 1) := by decide +kernel
theorem dX3_init_15 : decode cX3_init 15 = .ok (.bipush 8, 2) := by decide +kernel
theorem dX3_init_17 : decode cX3_init 17 = .ok (.newarray .int, 2) := by decide +kernel
theorem dX3_init_19 : decode cX3_init 19 = .ok (.putfield 19, 3) := by decide +kernel
theorem dX3_init_22 : decode cX3_init 22 = .ok (.aload_n 0, 1) := by decide +kernel
theorem dX3_init_23 : decode cX3_init 23 = .ok (.bipush 8, 2) := by decide +kernel
theorem dX3_init_25 : decode cX3_init 25 = .ok (.newarray .int, 2) := by decide +kernel
theorem dX3_init_27 : decode cX3_init 27 = .ok (.putfield 23, 3) := by decide +kernel
theorem dX3_init_30 : decode cX3_init 30 = .ok (.aload_n 0, 1) := by decide +kernel
theorem dX3_init_31 : decode cX3_init 31 = .ok (.bipush 8, 2) := by decide +kernel
theorem dX3_init_33 : decode cX3_init 33 = .ok (.newarray .int, 2) := by decide +kernel
theorem dX3_init_35 : decode cX3_init 35 = .ok (.putfield 26, 3) := by decide +kernel
theorem dX3_init_38 : decode cX3_init 38 = .ok (.aload_n 0, 1) := by decide +kernel
theorem dX3_init_39 : decode cX3_init 39 = .ok (.bipush 8, 2) := by decide +kernel
theorem dX3_init_41 : decode cX3_init 41 = .ok (.newarray .int, 2) := by decide +kernel
theorem dX3_init_43 : decode cX3_init 43 = .ok (.putfield 29, 3) := by decide +kernel
theorem dX3_init_46 : decode cX3_init 46 = .ok (.aload_n 0, 1) := by decide +kernel
theorem dX3_init_47 : decode cX3_init 47 = .ok (.bipush 8, 2) := by decide +kernel
theorem dX3_init_49 : decode cX3_init 49 = .ok (.newarray .int, 2) := by decide +kernel
theorem dX3_init_51 : decode cX3_init 51 = .ok (.putfield 32, 3) := by decide +kernel
theorem dX3_init_54 : decode cX3_init 54 = .ok (.aload_n 0, 1) := by decide +kernel
theorem dX3_init_55 : decode cX3_init 55 = .ok (.bipush 8, 2) := by decide +kernel
theorem dX3_init_57 : decode cX3_init 57 = .ok (.newarray .long, 2) := by decide +kernel
theorem dX3_init_59 : decode cX3_init 59 = .ok (.putfield 35, 3) := by decide +kernel
theorem dX3_init_62 : decode cX3_init 62 = .ok (.aload_n 0, 1) := by decide +kernel
theorem dX3_init_63 : decode cX3_init 63 = .ok (.bipush 8, 2) := by decide +kernel
theorem dX3_init_65 : decode cX3_init 65 = .ok (.bipush 30, 2) := by decide +kernel
theorem dX3_init_67 : decode cX3_init 67 = .ok (.multianewarray 39 2, 4) := by decide +kernel
theorem dX3_init_71 : decode cX3_init 71 = .ok (.putfield 41, 3) := by decide +kernel
theorem dX3_init_74 : decode cX3_init 74 = .ok (.return_, 1) := by decide +kernel
set_option maxRecDepth 20000 in
theorem ggX3_add_X3_countWays : GoodIn wsX3_add wsX3_countWays := goodIn_r _ [9, 10, 1, 11, 12, 3, 13, 14, 15, 16, 17, 18, 19, 8, 20, 2, 21, 22, 23, 24, 4, 25, 26, 27, 28, 29, 30, 31, 32, 33, 34, 35, 36] (by decide +kernel) (by decide +kernel)
set_option maxRecDepth 20000 in
theorem gX3_add_X3_countWays : GoodIn wsX3_add (wsV RX3 44 RX3 yX3_countWays wsX3_countWays) := goodIn_app (goodIn_of _ (by decide +kernel)) ggX3_add_X3_countWays
theorem dX3_add_0 : decode cX3_add 0 = .ok (.aload_n 0, 1) := by decide +kernel
theorem dX3_add_1 : decode cX3_add 1 = .ok (.getfield 9, 3) := by decide +kernel
theorem dX3_add_4 : decode cX3_add 4 = .ok (.istore 4, 2) := by decide +kernel
theorem dX3_add_6 : decode cX3_add 6 = .ok (.aload_n 0, 1) := by decide +kernel
theorem dX3_add_7 : decode cX3_add 7 = .ok (.getfield 26, 3) := by decide +kernel
theorem dX3_add_10 : decode cX3_add 10 = .ok (.iload 4, 2) := by decide +kernel
theorem dX3_add_12 : decode cX3_add 12 = .ok (.iload_n 1, 1) := by decide +kernel
theorem dX3_add_13 : decode cX3_add 13 = .ok (.iastore, 1) := by decide +kernel
theorem dX3_add_14 : decode cX3_add 14 = .ok (.aload_n 0, 1) := by decide +kernel
theorem dX3_add_15 : decode cX3_add 15 = .ok (.getfield 29, 3) := by decide +kernel
theorem dX3_add_18 : decode cX3_add 18 = .ok (.iload 4, 2) := by decide +kernel
theorem dX3_add_20 : decode cX3_add 20 = .ok (.iload_n 2, 1) := by decide +kernel
theorem dX3_add_21 : decode cX3_add 21 = .ok (.iastore, 1) := by decide +kernel
theorem dX3_add_22 : decode cX3_add 22 = .ok (.aload_n 0, 1) := by decide +kernel
theorem dX3_add_23 : decode cX3_add 23 = .ok (.getfield 32, 3) := by decide +kernel
theorem dX3_add_26 : decode cX3_add 26 = .ok (.iload 4, 2) := by decide +kernel
theorem dX3_add_28 : decode cX3_add 28 = .ok (.iload_n 3, 1) := by decide +kernel
theorem dX3_add_29 : decode cX3_add 29 = .ok (.iastore, 1) := by decide +kernel
theorem dX3_add_30 : decode cX3_add 30 = .ok (.aload_n 0, 1) := by decide +kernel
theorem dX3_add_31 : decode cX3_add 31 = .ok (.dup, 1) := by decide +kernel
theorem dX3_add_32 : decode cX3_add 32 = .ok (.getfield 9, 3) := by decide +kernel
theorem dX3_add_35 : decode cX3_add 35 = .ok (.iconst 1, 1) := by decide +kernel
theorem dX3_add_36 : decode cX3_add 36 = .ok (.iadd, 1) := by decide +kernel
theorem dX3_add_37 : decode cX3_add 37 = .ok (.putfield 9, 3) := by decide +kernel
theorem dX3_add_40 : decode cX3_add 40 = .ok (.aload_n 0, 1) := by decide +kernel
theorem dX3_add_41 : decode cX3_add 41 = .ok (.invokevirtual 44, 3) := by decide +kernel
theorem dX3_add_44 : decode cX3_add 44 = .ok (.iload 4, 2) := by decide +kernel
theorem dX3_add_46 : decode cX3_add 46 = .ok (.ireturn, 1) := by decide +kernel
set_option maxRecDepth 20000 in
theorem ggX3_countWays_J7_fill_d0a16 : GoodIn wsX3_countWays wsJ7_fill_d0a16 := goodIn_r _ [9] (by decide +kernel) (by decide +kernel)
set_option maxRecDepth 20000 in
theorem gX3_countWays_J7_fill_d0a16 : GoodIn wsX3_countWays (va_wsS RX3 47 yJ7_fill_d0a16 wsJ7_fill_d0a16) := goodIn_app (goodIn_of _ (by decide +kernel)) ggX3_countWays_J7_fill_d0a16
set_option maxRecDepth 20000 in
theorem ggX3_countWays_X3_sumOfWays : GoodIn wsX3_countWays wsX3_sumOfWays := goodIn_r _ [14, 15, 3, 24, 25, 26, 27, 28, 29, 30, 31, 32] (by decide +kernel) (by decide +kernel)
set_option maxRecDepth 20000 in
theorem gX3_countWays_X3_sumOfWays : GoodIn wsX3_countWays (wsV RX3 53 RX3 yX3_sumOfWays wsX3_sumOfWays) := goodIn_app (goodIn_of _ (by decide +kernel)) ggX3_countWays_X3_sumOfWays
set_option maxRecDepth 20000 in
theorem ggX3_countWays_X3_hang : GoodIn wsX3_countWays wsX3_hang := goodIn_r _ [19, 15, 20, 3, 4, 21, 22, 13, 23, 24, 25, 26, 27, 28, 29, 30, 31, 32] (by decide +kernel) (by decide +kernel)
set_option maxRecDepth 20000 in
theorem gX3_countWays_X3_hang : GoodIn wsX3_countWays (wsV RX3 57 RX3 yX3_hang wsX3_hang) := goodIn_app (goodIn_of _ (by decide +kernel)) ggX3_countWays_X3_hang
theorem dX3_countWays_0 : decode cX3_countWays 0 = .ok (.aload_n 0, 1) := by decide +kernel
theorem dX3_countWays_1 : decode cX3_countWays 1 = .ok (.lconst 1, 1) := by decide +kernel
theorem dX3_countWays_2 : decode cX3_countWays 2 = .ok (.putfield 15, 3) := by decide +kernel
theorem dX3_countWays_5 : decode cX3_countWays 5 = .ok (.iconst 0, 1) := by decide +kernel
theorem dX3_countWays_6 : decode cX3_countWays 6 = .ok (.istore_n 1, 1) := by decide +kernel
theorem dX3_countWays_7 : decode cX3_countWays 7 = .ok (.iload_n 1, 1) := by decide +kernel
theorem dX3_countWays_8 : decode cX3_countWays 8 = .ok (.aload_n 0, 1) := by decide +kernel
theorem dX3_countWays_9 : decode cX3_countWays 9 = .ok (.getfield 9, 3) := by decide +kernel
theorem dX3_countWays_12 : decode cX3_countWays 12 = .ok (.if_icmp .ge 19, 3) := by decide +kernel
theorem dX3_countWays_15 : decode cX3_countWays 15 = .ok (.aload_n 0, 1) := by decide +kernel
theorem dX3_countWays_16 : decode cX3_countWays 16 = .ok (.getfield 41, 3) := by decide +kernel
theorem dX3_countWays_19 : decode cX3_countWays 19 = .ok (.iload_n 1, 1) := by decide +kernel
theorem dX3_countWays_20 : decode cX3_countWays 20 = .ok (.aaload, 1) := by decide +kernel
theorem dX3_countWays_21 : decode cX3_countWays 21 = .ok (.lconst 1, 1) := by decide +kernel
theorem dX3_countWays_22 : decode cX3_countWays 22 = .ok (.invokestatic 47, 3) := by decide +kernel
theorem dX3_countWays_25 : decode cX3_countWays 25 = .ok (.iinc 1 1, 3) := by decide +kernel
theorem dX3_countWays_28 : decode cX3_countWays 28 = .ok (.goto (-21), 3) := by decide +kernel
theorem dX3_countWays_31 : decode cX3_countWays 31 = .ok (.aload_n 0, 1) := by decide +kernel
theorem dX3_countWays_32 : decode cX3_countWays 32 = .ok (.getfield 9, 3) := by decide +kernel
theorem dX3_countWays_35 : decode cX3_countWays 35 = .ok (.iconst 1, 1) := by decide +kernel
theorem dX3_countWays_36 : decode cX3_countWays 36 = .ok (.isub, 1) := by decide +kernel
theorem dX3_countWays_37 : decode cX3_countWays 37 = .ok (.istore_n 1, 1) := by decide +kernel
theorem dX3_countWays_38 : decode cX3_countWays 38 = .ok (.iload_n 1, 1) := by decide +kernel
theorem dX3_countWays_39 : decode cX3_countWays 39 = .ok (.ifCond .lt 58, 3) := by decide +kernel
theorem dX3_countWays_42 : decode cX3_countWays 42 = .ok (.aload_n 0, 1) := by decide +kernel
theorem dX3_countWays_43 : decode cX3_countWays 43 = .ok (.getfield 35, 3) := by decide +kernel
theorem dX3_countWays_46 : decode cX3_countWays 46 = .ok (.iload_n 1, 1) := by decide +kernel
theorem dX3_countWays_47 : decode cX3_countWays 47 = .ok (.aload_n 0, 1) := by decide +kernel
theorem dX3_countWays_48 : decode cX3_countWays 48 = .ok (.iload_n 1, 1) := by decide +kernel
theorem dX3_countWays_49 : decode cX3_countWays 49 = .ok (.invokevirtual 53, 3) := by decide +kernel
theorem dX3_countWays_52 : decode cX3_countWays 52 = .ok (.lastore, 1) := by decide +kernel
theorem dX3_countWays_53 : decode cX3_countWays 53 = .ok (.aload_n 0, 1) := by decide +kernel
theorem dX3_countWays_54 : decode cX3_countWays 54 = .ok (.getfield 29, 3) := by decide +kernel
theorem dX3_countWays_57 : decode cX3_countWays 57 = .ok (.iload_n 1, 1) := by decide +kernel
theorem dX3_countWays_58 : decode cX3_countWays 58 = .ok (.iaload, 1) := by decide +kernel
theorem dX3_countWays_59 : decode cX3_countWays 59 = .ok (.ifCond .ge 21, 3) := by decide +kernel
theorem dX3_countWays_62 : decode cX3_countWays 62 = .ok (.aload_n 0, 1) := by decide +kernel
theorem dX3_countWays_63 : decode cX3_countWays 63 = .ok (.dup, 1) := by decide +kernel
theorem dX3_countWays_64 : decode cX3_countWays 64 = .ok (.getfield 15, 3) := by decide +kernel
theorem dX3_countWays_67 : decode cX3_countWays 67 = .ok (.aload_n 0, 1) := by decide +kernel
theorem dX3_countWays_68 : decode cX3_countWays 68 = .ok (.getfield 35, 3) := by decide +kernel
theorem dX3_countWays_71 : decode cX3_countWays 71 = .ok (.iload_n 1, 1) := by decide +kernel
theorem dX3_countWays_72 : decode cX3_countWays 72 = .ok (.laload, 1) := by decide +kernel
theorem dX3_countWays_73 : decode cX3_countWays 73 = .ok (.lmul, 1) := by decide +kernel
theorem dX3_countWays_74 : decode cX3_countWays 74 = .ok (.putfield 15, 3) := by decide +kernel
theorem dX3_countWays_77 : decode cX3_countWays 77 = .ok (.goto 14, 3) := by decide +kernel
theorem dX3_countWays_80 : decode cX3_countWays 80 = .ok (.aload_n 0, 1) := by decide +kernel
theorem dX3_countWays_81 : decode cX3_countWays 81 = .ok (.iload_n 1, 1) := by decide +kernel
theorem dX3_countWays_82 : decode cX3_countWays 82 = .ok (.aload_n 0, 1) := by decide +kernel
theorem dX3_countWays_83 : decode cX3_countWays 83 = .ok (.getfield 29, 3) := by decide +kernel
theorem dX3_countWays_86 : decode cX3_countWays 86 = .ok (.iload_n 1, 1) := by decide +kernel
theorem dX3_countWays_87 : decode cX3_countWays 87 = .ok (.iaload, 1) := by decide +kernel
theorem dX3_countWays_88 : decode cX3_countWays 88 = .ok (.invokevirtual 57, 3) := by decide +kernel
theorem dX3_countWays_91 : decode cX3_countWays 91 = .ok (.iinc 1 (-1), 3) := by decide +kernel
theorem dX3_countWays_94 : decode cX3_countWays 94 = .ok (.goto (-56), 3) := by decide +kernel
theorem dX3_countWays_97 : decode cX3_countWays 97 = .ok (.return_, 1) := by decide +kernel
theorem dX3_sumOfWays_0 : decode cX3_sumOfWays 0 = .ok (.lconst 0, 1) := by decide +kernel
theorem dX3_sumOfWays_1 : decode cX3_sumOfWays 1 = .ok (.lstore_n 2, 1) := by decide +kernel
theorem dX3_sumOfWays_2 : decode cX3_sumOfWays 2 = .ok (.iconst 0, 1) := by decide +kernel
theorem dX3_sumOfWays_3 : decode cX3_sumOfWays 3 = .ok (.istore 4, 2) := by decide +kernel
theorem dX3_sumOfWays_5 : decode cX3_sumOfWays 5 = .ok (.iload 4, 2) := by decide +kernel
theorem dX3_sumOfWays_7 : decode cX3_sumOfWays 7 = .ok (.aload_n 0, 1) := by decide +kernel
theorem dX3_sumOfWays_8 : decode cX3_sumOfWays 8 = .ok (.getfield 26, 3) := by decide +kernel
theorem dX3_sumOfWays_11 : decode cX3_sumOfWays 11 = .ok (.iload_n 1, 1) := by decide +kernel
theorem dX3_sumOfWays_12 : decode cX3_sumOfWays 12 = .ok (.iaload, 1) := by decide +kernel
theorem dX3_sumOfWays_13 : decode cX3_sumOfWays 13 = .ok (.if_icmp .ge 21, 3) := by decide +kernel
theorem dX3_sumOfWays_16 : decode cX3_sumOfWays 16 = .ok (.lload_n 2, 1) := by decide +kernel
theorem dX3_sumOfWays_17 : decode cX3_sumOfWays 17 = .ok (.aload_n 0, 1) := by decide +kernel
theorem dX3_sumOfWays_18 : decode cX3_sumOfWays 18 = .ok (.getfield 41, 3) := by decide +kernel
theorem dX3_sumOfWays_21 : decode cX3_sumOfWays 21 = .ok (.iload_n 1, 1) := by decide +kernel
theorem dX3_sumOfWays_22 : decode cX3_sumOfWays 22 = .ok (.aaload, 1) := by decide +kernel
theorem dX3_sumOfWays_23 : decode cX3_sumOfWays 23 = .ok (.iload 4, 2) := by decide +kernel
theorem dX3_sumOfWays_25 : decode cX3_sumOfWays 25 = .ok (.laload, 1) := by decide +kernel
theorem dX3_sumOfWays_26 : decode cX3_sumOfWays 26 = .ok (.ladd, 1) := by decide +kernel
theorem dX3_sumOfWays_27 : decode cX3_sumOfWays 27 = .ok (.lstore_n 2, 1) := by decide +kernel
theorem dX3_sumOfWays_28 : decode cX3_sumOfWays 28 = .ok (.iinc 4 1, 3) := by decide +kernel
theorem dX3_sumOfWays_31 : decode cX3_sumOfWays 31 = .ok (.goto (-26), 3) := by decide +kernel
theorem dX3_sumOfWays_34 : decode cX3_sumOfWays 34 = .ok (.lload_n 2, 1) := by decide +kernel
theorem dX3_sumOfWays_35 : decode cX3_sumOfWays 35 = .ok (.lreturn, 1) := by decide +kernel
set_option maxRecDepth 20000 in
theorem ggX3_hang_X3_hasBit : GoodIn wsX3_hang wsX3_hasBit := goodIn_r _ [8] (by decide +kernel) (by decide +kernel)
set_option maxRecDepth 20000 in
theorem gX3_hang_X3_hasBit : GoodIn wsX3_hang (va_wsS RX3 61 yX3_hasBit wsX3_hasBit) := goodIn_app (goodIn_of _ (by decide +kernel)) ggX3_hang_X3_hasBit
theorem dX3_hang_0 : decode cX3_hang 0 = .ok (.iconst 0, 1) := by decide +kernel
theorem dX3_hang_1 : decode cX3_hang 1 = .ok (.istore_n 3, 1) := by decide +kernel
theorem dX3_hang_2 : decode cX3_hang 2 = .ok (.iload_n 3, 1) := by decide +kernel
theorem dX3_hang_3 : decode cX3_hang 3 = .ok (.aload_n 0, 1) := by decide +kernel
theorem dX3_hang_4 : decode cX3_hang 4 = .ok (.getfield 26, 3) := by decide +kernel
theorem dX3_hang_7 : decode cX3_hang 7 = .ok (.iload_n 2, 1) := by decide +kernel
theorem dX3_hang_8 : decode cX3_hang 8 = .ok (.iaload, 1) := by decide +kernel
theorem dX3_hang_9 : decode cX3_hang 9 = .ok (.if_icmp .ge 39, 3) := by decide +kernel
theorem dX3_hang_12 : decode cX3_hang 12 = .ok (.aload_n 0, 1) := by decide +kernel
theorem dX3_hang_13 : decode cX3_hang 13 = .ok (.getfield 32, 3) := by decide +kernel
theorem dX3_hang_16 : decode cX3_hang 16 = .ok (.iload_n 1, 1) := by decide +kernel
theorem dX3_hang_17 : decode cX3_hang 17 = .ok (.iaload, 1) := by decide +kernel
theorem dX3_hang_18 : decode cX3_hang 18 = .ok (.iload_n 3, 1) := by decide +kernel
theorem dX3_hang_19 : decode cX3_hang 19 = .ok (.invokestatic 61, 3) := by decide +kernel
theorem dX3_hang_22 : decode cX3_hang 22 = .ok (.ifCond .eq 20, 3) := by decide +kernel
theorem dX3_hang_25 : decode cX3_hang 25 = .ok (.aload_n 0, 1) := by decide +kernel
theorem dX3_hang_26 : decode cX3_hang 26 = .ok (.getfield 41, 3) := by decide +kernel
theorem dX3_hang_29 : decode cX3_hang 29 = .ok (.iload_n 2, 1) := by decide +kernel
theorem dX3_hang_30 : decode cX3_hang 30 = .ok (.aaload, 1) := by decide +kernel
theorem dX3_hang_31 : decode cX3_hang 31 = .ok (.iload_n 3, 1) := by decide +kernel
theorem dX3_hang_32 : decode cX3_hang 32 = .ok (.dup2, 1) := by decide +kernel
theorem dX3_hang_33 : decode cX3_hang 33 = .ok (.laload, 1) := by decide +kernel
theorem dX3_hang_34 : decode cX3_hang 34 = .ok (.aload_n 0, 1) := by decide +kernel
theorem dX3_hang_35 : decode cX3_hang 35 = .ok (.getfield 35, 3) := by decide +kernel
theorem dX3_hang_38 : decode cX3_hang 38 = .ok (.iload_n 1, 1) := by decide +kernel
theorem dX3_hang_39 : decode cX3_hang 39 = .ok (.laload, 1) := by decide +kernel
theorem dX3_hang_40 : decode cX3_hang 40 = .ok (.lmul, 1) := by decide +kernel
theorem dX3_hang_41 : decode cX3_hang 41 = .ok (.lastore, 1) := by decide +kernel
theorem dX3_hang_42 : decode cX3_hang 42 = .ok (.iinc 3 1, 3) := by decide +kernel
theorem dX3_hang_45 : decode cX3_hang 45 = .ok (.goto (-43), 3) := by decide +kernel
theorem dX3_hang_48 : decode cX3_hang 48 = .ok (.return_, 1) := by decide +kernel
theorem dX3_hasBit_0 : decode cX3_hasBit 0 = .ok (.iload_n 0, 1) := by decide +kernel
theorem dX3_hasBit_1 : decode cX3_hasBit 1 = .ok (.iload_n 1, 1) := by decide +kernel
theorem dX3_hasBit_2 : decode cX3_hasBit 2 = .ok (.iushr, 1) := by decide +kernel
theorem dX3_hasBit_3 : decode cX3_hasBit 3 = .ok (.iconst 1, 1) := by decide +kernel
theorem dX3_hasBit_4 : decode cX3_hasBit 4 = .ok (.iand, 1) := by decide +kernel
theorem dX3_hasBit_5 : decode cX3_hasBit 5 = .ok (.iconst 1, 1) := by decide +kernel
theorem dX3_hasBit_6 : decode cX3_hasBit 6 = .ok (.if_icmp .ne 7, 3) := by decide +kernel
theorem dX3_hasBit_9 : decode cX3_hasBit 9 = .ok (.iconst 1, 1) := by decide +kernel
theorem dX3_hasBit_10 : decode cX3_hasBit 10 = .ok (.goto 4, 3) := by decide +kernel
theorem dX3_hasBit_13 : decode cX3_hasBit 13 = .ok (.iconst 0, 1) := by decide +kernel
theorem dX3_hasBit_14 : decode cX3_hasBit 14 = .ok (.ireturn, 1) := by decide +kernel
set_option maxRecDepth 20000 in
theorem ggX3_isThere_X3_hasBit : GoodIn wsX3_isThere wsX3_hasBit := goodIn_r _ [6] (by decide +kernel) (by decide +kernel)
set_option maxRecDepth 20000 in
theorem gX3_isThere_X3_hasBit : GoodIn wsX3_isThere (va_wsS RX3 61 yX3_hasBit wsX3_hasBit) := goodIn_app (goodIn_of _ (by decide +kernel)) ggX3_isThere_X3_hasBit
theorem dX3_isThere_0 : decode cX3_isThere 0 = .ok (.aload_n 0, 1) := by decide +kernel
theorem dX3_isThere_1 : decode cX3_isThere 1 = .ok (.getfield 29, 3) := by decide +kernel
theorem dX3_isThere_4 : decode cX3_isThere 4 = .ok (.iload_n 1, 1) := by decide +kernel
theorem dX3_isThere_5 : decode cX3_isThere 5 = .ok (.iaload, 1) := by decide +kernel
theorem dX3_isThere_6 : decode cX3_isThere 6 = .ok (.istore_n 3, 1) := by decide +kernel
theorem dX3_isThere_7 : decode cX3_isThere 7 = .ok (.iload_n 3, 1) := by decide +kernel
theorem dX3_isThere_8 : decode cX3_isThere 8 = .ok (.ifCond .lt 24, 3) := by decide +kernel
theorem dX3_isThere_11 : decode cX3_isThere 11 = .ok (.aload_n 2, 1) := by decide +kernel
theorem dX3_isThere_12 : decode cX3_isThere 12 = .ok (.iload_n 3, 1) := by decide +kernel
theorem dX3_isThere_13 : decode cX3_isThere 13 = .ok (.iaload, 1) := by decide +kernel
theorem dX3_isThere_14 : decode cX3_isThere 14 = .ok (.ifCond .lt 22, 3) := by decide +kernel
theorem dX3_isThere_17 : decode cX3_isThere 17 = .ok (.aload_n 0, 1) := by decide +kernel
theorem dX3_isThere_18 : decode cX3_isThere 18 = .ok (.getfield 32, 3) := by decide +kernel
theorem dX3_isThere_21 : decode cX3_isThere 21 = .ok (.iload_n 1, 1) := by decide +kernel
theorem dX3_isThere_22 : decode cX3_isThere 22 = .ok (.iaload, 1) := by decide +kernel
theorem dX3_isThere_23 : decode cX3_isThere 23 = .ok (.aload_n 2, 1) := by decide +kernel
theorem dX3_isThere_24 : decode cX3_isThere 24 = .ok (.iload_n 3, 1) := by decide +kernel
theorem dX3_isThere_25 : decode cX3_isThere 25 = .ok (.iaload, 1) := by decide +kernel
theorem dX3_isThere_26 : decode cX3_isThere 26 = .ok (.invokestatic 61, 3) := by decide +kernel
theorem dX3_isThere_29 : decode cX3_isThere 29 = .ok (.ifCond .eq 7, 3) := by decide +kernel
theorem dX3_isThere_32 : decode cX3_isThere 32 = .ok (.iconst 1, 1) := by decide +kernel
theorem dX3_isThere_33 : decode cX3_isThere 33 = .ok (.goto 4, 3) := by decide +kernel
theorem dX3_isThere_36 : decode cX3_isThere 36 = .ok (.iconst 0, 1) := by decide +kernel
theorem dX3_isThere_37 : decode cX3_isThere 37 = .ok (.ireturn, 1) := by decide +kernel
set_option maxRecDepth 20000 in
theorem ggX3_read_X3_isThere : GoodIn wsX3_read wsX3_isThere := goodIn_r _ [10, 11, 12, 13, 14, 9, 15, 19, 20, 21, 22, 23, 24, 25, 26, 27] (by decide +kernel) (by decide +kernel)
set_option maxRecDepth 20000 in
theorem gX3_read_X3_isThere : GoodIn wsX3_read (wsV RX3 65 RX3 yX3_isThere wsX3_isThere) := goodIn_app (goodIn_of _ (by decide +kernel)) ggX3_read_X3_isThere
set_option maxRecDepth 20000 in
theorem ggX3_read_X5_cut : GoodIn wsX3_read wsX5_cut := goodIn_r _ [18] (by decide +kernel) (by decide +kernel)
set_option maxRecDepth 20000 in
theorem gX3_read_X5_cut_n69 : GoodIn wsX3_read (wsX5_cut) := ggX3_read_X5_cut
theorem dX3_read_0 : decode cX3_read 0 = .ok (.lload_n 1, 1) := by decide +kernel
theorem dX3_read_1 : decode cX3_read 1 = .ok (.lstore 4, 2) := by decide +kernel
theorem dX3_read_3 : decode cX3_read 3 = .ok (.aload_n 0, 1) := by decide +kernel
theorem dX3_read_4 : decode cX3_read 4 = .ok (.getfield 15, 3) := by decide +kernel
theorem dX3_read_7 : decode cX3_read 7 = .ok (.lstore 6, 2) := by decide +kernel
theorem dX3_read_9 : decode cX3_read 9 = .ok (.iconst 0, 1) := by decide +kernel
theorem dX3_read_10 : decode cX3_read 10 = .ok (.istore 8, 2) := by decide +kernel
theorem dX3_read_12 : decode cX3_read 12 = .ok (.iload 8, 2) := by decide +kernel
theorem dX3_read_14 : decode cX3_read 14 = .ok (.aload_n 0, 1) := by decide +kernel
theorem dX3_read_15 : decode cX3_read 15 = .ok (.getfield 9, 3) := by decide +kernel
theorem dX3_read_18 : decode cX3_read 18 = .ok (.if_icmp .ge 120, 3) := by decide +kernel
theorem dX3_read_21 : decode cX3_read 21 = .ok (.aload_n 3, 1) := by decide +kernel
theorem dX3_read_22 : decode cX3_read 22 = .ok (.iload 8, 2) := by decide +kernel
theorem dX3_read_24 : decode cX3_read 24 = .ok (.bipush (-2), 2) := by decide +kernel
theorem dX3_read_26 : decode cX3_read 26 = .ok (.iastore, 1) := by decide +kernel
theorem dX3_read_27 : decode cX3_read 27 = .ok (.aload_n 0, 1) := by decide +kernel
theorem dX3_read_28 : decode cX3_read 28 = .ok (.iload 8, 2) := by decide +kernel
theorem dX3_read_30 : decode cX3_read 30 = .ok (.aload_n 3, 1) := by decide +kernel
theorem dX3_read_31 : decode cX3_read 31 = .ok (.invokevirtual 65, 3) := by decide +kernel
theorem dX3_read_34 : decode cX3_read 34 = .ok (.ifCond .eq 98, 3) := by decide +kernel
theorem dX3_read_37 : decode cX3_read 37 = .ok (.lload 6, 2) := by decide +kernel
theorem dX3_read_39 : decode cX3_read 39 = .ok (.aload_n 0, 1) := by decide +kernel
theorem dX3_read_40 : decode cX3_read 40 = .ok (.getfield 35, 3) := by decide +kernel
theorem dX3_read_43 : decode cX3_read 43 = .ok (.iload 8, 2) := by decide +kernel
theorem dX3_read_45 : decode cX3_read 45 = .ok (.laload, 1) := by decide +kernel
theorem dX3_read_46 : decode cX3_read 46 = .ok (.invokestatic 69, 3) := by decide +kernel
theorem dX3_read_49 : decode cX3_read 49 = .ok (.lstore 6, 2) := by decide +kernel
theorem dX3_read_51 : decode cX3_read 51 = .ok (.iconst 0, 1) := by decide +kernel
theorem dX3_read_52 : decode cX3_read 52 = .ok (.istore 9, 2) := by decide +kernel
theorem dX3_read_54 : decode cX3_read 54 = .ok (.iload 9, 2) := by decide +kernel
theorem dX3_read_56 : decode cX3_read 56 = .ok (.aload_n 0, 1) := by decide +kernel
theorem dX3_read_57 : decode cX3_read 57 = .ok (.getfield 26, 3) := by decide +kernel
theorem dX3_read_60 : decode cX3_read 60 = .ok (.iload 8, 2) := by decide +kernel
theorem dX3_read_62 : decode cX3_read 62 = .ok (.iaload, 1) := by decide +kernel
theorem dX3_read_63 : decode cX3_read 63 = .ok (.iconst 1, 1) := by decide +kernel
theorem dX3_read_64 : decode cX3_read 64 = .ok (.isub, 1) := by decide +kernel
theorem dX3_read_65 : decode cX3_read 65 = .ok (.if_icmp .ge 46, 3) := by decide +kernel
theorem dX3_read_68 : decode cX3_read 68 = .ok (.lload 4, 2) := by decide +kernel
theorem dX3_read_70 : decode cX3_read 70 = .ok (.lload 6, 2) := by decide +kernel
theorem dX3_read_72 : decode cX3_read 72 = .ok (.aload_n 0, 1) := by decide +kernel
theorem dX3_read_73 : decode cX3_read 73 = .ok (.getfield 41, 3) := by decide +kernel
theorem dX3_read_76 : decode cX3_read 76 = .ok (.iload 8, 2) := by decide +kernel
theorem dX3_read_78 : decode cX3_read 78 = .ok (.aaload, 1) := by decide +kernel
theorem dX3_read_79 : decode cX3_read 79 = .ok (.iload 9, 2) := by decide +kernel
theorem dX3_read_81 : decode cX3_read 81 = .ok (.laload, 1) := by decide +kernel
theorem dX3_read_82 : decode cX3_read 82 = .ok (.lmul, 1) := by decide +kernel
theorem dX3_read_83 : decode cX3_read 83 = .ok (.lcmp, 1) := by decide +kernel
theorem dX3_read_84 : decode cX3_read 84 = .ok (.ifCond .lt 27, 3) := by decide +kernel
theorem dX3_read_87 : decode cX3_read 87 = .ok (.lload 4, 2) := by decide +kernel
theorem dX3_read_89 : decode cX3_read 89 = .ok (.lload 6, 2) := by decide +kernel
theorem dX3_read_91 : decode cX3_read 91 = .ok (.aload_n 0, 1) := by decide +kernel
theorem dX3_read_92 : decode cX3_read 92 = .ok (.getfield 41, 3) := by decide +kernel
theorem dX3_read_95 : decode cX3_read 95 = .ok (.iload 8, 2) := by decide +kernel
theorem dX3_read_97 : decode cX3_read 97 = .ok (.aaload, 1) := by decide +kernel
theorem dX3_read_98 : decode cX3_read 98 = .ok (.iload 9, 2) := by decide +kernel
theorem dX3_read_100 : decode cX3_read 100 = .ok (.laload, 1) := by decide +kernel
theorem dX3_read_101 : decode cX3_read 101 = .ok (.lmul, 1) := by decide +kernel
theorem dX3_read_102 : decode cX3_read 102 = .ok (.lsub, 1) := by decide +kernel
theorem dX3_read_103 : decode cX3_read 103 = .ok (.lstore 4, 2) := by decide +kernel
theorem dX3_read_105 : decode cX3_read 105 = .ok (.iinc 9 1, 3) := by decide +kernel
theorem dX3_read_108 : decode cX3_read 108 = .ok (.goto (-54), 3) := by decide +kernel
theorem dX3_read_111 : decode cX3_read 111 = .ok (.aload_n 3, 1) := by decide +kernel
theorem dX3_read_112 : decode cX3_read 112 = .ok (.iload 8, 2) := by decide +kernel
theorem dX3_read_114 : decode cX3_read 114 = .ok (.iload 9, 2) := by decide +kernel
theorem dX3_read_116 : decode cX3_read 116 = .ok (.iastore, 1) := by decide +kernel
theorem dX3_read_117 : decode cX3_read 117 = .ok (.lload 6, 2) := by decide +kernel
theorem dX3_read_119 : decode cX3_read 119 = .ok (.aload_n 0, 1) := by decide +kernel
theorem dX3_read_120 : decode cX3_read 120 = .ok (.getfield 41, 3) := by decide +kernel
theorem dX3_read_123 : decode cX3_read 123 = .ok (.iload 8, 2) := by decide +kernel
theorem dX3_read_125 : decode cX3_read 125 = .ok (.aaload, 1) := by decide +kernel
theorem dX3_read_126 : decode cX3_read 126 = .ok (.iload 9, 2) := by decide +kernel
theorem dX3_read_128 : decode cX3_read 128 = .ok (.laload, 1) := by decide +kernel
theorem dX3_read_129 : decode cX3_read 129 = .ok (.lmul, 1) := by decide +kernel
theorem dX3_read_130 : decode cX3_read 130 = .ok (.lstore 6, 2) := by decide +kernel
theorem dX3_read_132 : decode cX3_read 132 = .ok (.iinc 8 1, 3) := by decide +kernel
theorem dX3_read_135 : decode cX3_read 135 = .ok (.goto (-123), 3) := by decide +kernel
theorem dX3_read_138 : decode cX3_read 138 = .ok (.return_, 1) := by decide +kernel
set_option maxRecDepth 20000 in
theorem ggX3_place_X5_cut : GoodIn wsX3_place wsX5_cut := goodIn_r _ [7] (by decide +kernel) (by decide +kernel)
set_option maxRecDepth 20000 in
theorem gX3_place_X5_cut_n69 : GoodIn wsX3_place (wsX5_cut) := ggX3_place_X5_cut
theorem dX3_place_0 : decode cX3_place 0 = .ok (.lconst 0, 1) := by decide +kernel
theorem dX3_place_1 : decode cX3_place 1 = .ok (.lstore_n 2, 1) := by decide +kernel
theorem dX3_place_2 : decode cX3_place 2 = .ok (.aload_n 0, 1) := by decide +kernel
theorem dX3_place_3 : decode cX3_place 3 = .ok (.getfield 15, 3) := by decide +kernel
theorem dX3_place_6 : decode cX3_place 6 = .ok (.lstore 4, 2) := by decide +kernel
theorem dX3_place_8 : decode cX3_place 8 = .ok (.iconst 0, 1) := by decide +kernel
theorem dX3_place_9 : decode cX3_place 9 = .ok (.istore 6, 2) := by decide +kernel
theorem dX3_place_11 : decode cX3_place 11 = .ok (.iload 6, 2) := by decide +kernel
theorem dX3_place_13 : decode cX3_place 13 = .ok (.aload_n 0, 1) := by decide +kernel
theorem dX3_place_14 : decode cX3_place 14 = .ok (.getfield 9, 3) := by decide +kernel
theorem dX3_place_17 : decode cX3_place 17 = .ok (.if_icmp .ge 81, 3) := by decide +kernel
theorem dX3_place_20 : decode cX3_place 20 = .ok (.aload_n 1, 1) := by decide +kernel
theorem dX3_place_21 : decode cX3_place 21 = .ok (.iload 6, 2) := by decide +kernel
theorem dX3_place_23 : decode cX3_place 23 = .ok (.iaload, 1) := by decide +kernel
theorem dX3_place_24 : decode cX3_place 24 = .ok (.ifCond .lt 68, 3) := by decide +kernel
theorem dX3_place_27 : decode cX3_place 27 = .ok (.lload 4, 2) := by decide +kernel
theorem dX3_place_29 : decode cX3_place 29 = .ok (.aload_n 0, 1) := by decide +kernel
theorem dX3_place_30 : decode cX3_place 30 = .ok (.getfield 35, 3) := by decide +kernel
theorem dX3_place_33 : decode cX3_place 33 = .ok (.iload 6, 2) := by decide +kernel
theorem dX3_place_35 : decode cX3_place 35 = .ok (.laload, 1) := by decide +kernel
theorem dX3_place_36 : decode cX3_place 36 = .ok (.invokestatic 69, 3) := by decide +kernel
theorem dX3_place_39 : decode cX3_place 39 = .ok (.lstore 4, 2) := by decide +kernel
theorem dX3_place_41 : decode cX3_place 41 = .ok (.iconst 0, 1) := by decide +kernel
theorem dX3_place_42 : decode cX3_place 42 = .ok (.istore 7, 2) := by decide +kernel
theorem dX3_place_44 : decode cX3_place 44 = .ok (.iload 7, 2) := by decide +kernel
theorem dX3_place_46 : decode cX3_place 46 = .ok (.aload_n 1, 1) := by decide +kernel
theorem dX3_place_47 : decode cX3_place 47 = .ok (.iload 6, 2) := by decide +kernel
theorem dX3_place_49 : decode cX3_place 49 = .ok (.iaload, 1) := by decide +kernel
theorem dX3_place_50 : decode cX3_place 50 = .ok (.if_icmp .ge 25, 3) := by decide +kernel
theorem dX3_place_53 : decode cX3_place 53 = .ok (.lload_n 2, 1) := by decide +kernel
theorem dX3_place_54 : decode cX3_place 54 = .ok (.lload 4, 2) := by decide +kernel
theorem dX3_place_56 : decode cX3_place 56 = .ok (.aload_n 0, 1) := by decide +kernel
theorem dX3_place_57 : decode cX3_place 57 = .ok (.getfield 41, 3) := by decide +kernel
theorem dX3_place_60 : decode cX3_place 60 = .ok (.iload 6, 2) := by decide +kernel
theorem dX3_place_62 : decode cX3_place 62 = .ok (.aaload, 1) := by decide +kernel
theorem dX3_place_63 : decode cX3_place 63 = .ok (.iload 7, 2) := by decide +kernel
theorem dX3_place_65 : decode cX3_place 65 = .ok (.laload, 1) := by decide +kernel
theorem dX3_place_66 : decode cX3_place 66 = .ok (.lmul, 1) := by decide +kernel
theorem dX3_place_67 : decode cX3_place 67 = .ok (.ladd, 1) := by decide +kernel
theorem dX3_place_68 : decode cX3_place 68 = .ok (.lstore_n 2, 1) := by decide +kernel
theorem dX3_place_69 : decode cX3_place 69 = .ok (.iinc 7 1, 3) := by decide +kernel
theorem dX3_place_72 : decode cX3_place 72 = .ok (.goto (-28), 3) := by decide +kernel
theorem dX3_place_75 : decode cX3_place 75 = .ok (.lload 4, 2) := by decide +kernel
theorem dX3_place_77 : decode cX3_place 77 = .ok (.aload_n 0, 1) := by decide +kernel
theorem dX3_place_78 : decode cX3_place 78 = .ok (.getfield 41, 3) := by decide +kernel
theorem dX3_place_81 : decode cX3_place 81 = .ok (.iload 6, 2) := by decide +kernel
theorem dX3_place_83 : decode cX3_place 83 = .ok (.aaload, 1) := by decide +kernel
theorem dX3_place_84 : decode cX3_place 84 = .ok (.aload_n 1, 1) := by decide +kernel
theorem dX3_place_85 : decode cX3_place 85 = .ok (.iload 6, 2) := by decide +kernel
theorem dX3_place_87 : decode cX3_place 87 = .ok (.iaload, 1) := by decide +kernel
theorem dX3_place_88 : decode cX3_place 88 = .ok (.laload, 1) := by decide +kernel
theorem dX3_place_89 : decode cX3_place 89 = .ok (.lmul, 1) := by decide +kernel
theorem dX3_place_90 : decode cX3_place 90 = .ok (.lstore 4, 2) := by decide +kernel
theorem dX3_place_92 : decode cX3_place 92 = .ok (.iinc 6 1, 3) := by decide +kernel
theorem dX3_place_95 : decode cX3_place 95 = .ok (.goto (-84), 3) := by decide +kernel
theorem dX3_place_98 : decode cX3_place 98 = .ok (.lload_n 2, 1) := by decide +kernel
theorem dX3_place_99 : decode cX3_place 99 = .ok (.lreturn, 1) := by decide +kernel
set_option maxRecDepth 20000 in
theorem ggX3_takeBits_X3_isThere : GoodIn wsX3_takeBits wsX3_isThere := goodIn_r _ [7, 8, 9, 10, 11, 6, 12, 13, 14, 15, 16, 17, 18, 19, 20, 21] (by decide +kernel) (by decide +kernel)
set_option maxRecDepth 20000 in
theorem gX3_takeBits_X3_isThere : GoodIn wsX3_takeBits (wsV RX3 65 RX3 yX3_isThere wsX3_isThere) := goodIn_app (goodIn_of _ (by decide +kernel)) ggX3_takeBits_X3_isThere
theorem dX3_takeBits_0 : decode cX3_takeBits 0 = .ok (.iconst 0, 1) := by decide +kernel
theorem dX3_takeBits_1 : decode cX3_takeBits 1 = .ok (.istore 4, 2) := by decide +kernel
theorem dX3_takeBits_3 : decode cX3_takeBits 3 = .ok (.iload 4, 2) := by decide +kernel
theorem dX3_takeBits_5 : decode cX3_takeBits 5 = .ok (.aload_n 0, 1) := by decide +kernel
theorem dX3_takeBits_6 : decode cX3_takeBits 6 = .ok (.getfield 9, 3) := by decide +kernel
theorem dX3_takeBits_9 : decode cX3_takeBits 9 = .ok (.if_icmp .ge 57, 3) := by decide +kernel
theorem dX3_takeBits_12 : decode cX3_takeBits 12 = .ok (.aload_n 3, 1) := by decide +kernel
theorem dX3_takeBits_13 : decode cX3_takeBits 13 = .ok (.iload 4, 2) := by decide +kernel
theorem dX3_takeBits_15 : decode cX3_takeBits 15 = .ok (.bipush (-2), 2) := by decide +kernel
theorem dX3_takeBits_17 : decode cX3_takeBits 17 = .ok (.iastore, 1) := by decide +kernel
theorem dX3_takeBits_18 : decode cX3_takeBits 18 = .ok (.aload_n 0, 1) := by decide +kernel
theorem dX3_takeBits_19 : decode cX3_takeBits 19 = .ok (.iload 4, 2) := by decide +kernel
theorem dX3_takeBits_21 : decode cX3_takeBits 21 = .ok (.aload_n 3, 1) := by decide +kernel
theorem dX3_takeBits_22 : decode cX3_takeBits 22 = .ok (.invokevirtual 65, 3) := by decide +kernel
theorem dX3_takeBits_25 : decode cX3_takeBits 25 = .ok (.ifCond .eq 35, 3) := by decide +kernel
theorem dX3_takeBits_28 : decode cX3_takeBits 28 = .ok (.lload_n 1, 1) := by decide +kernel
theorem dX3_takeBits_29 : decode cX3_takeBits 29 = .ok (.iconst 5, 1) := by decide +kernel
theorem dX3_takeBits_30 : decode cX3_takeBits 30 = .ok (.iload 4, 2) := by decide +kernel
theorem dX3_takeBits_32 : decode cX3_takeBits 32 = .ok (.imul, 1) := by decide +kernel
theorem dX3_takeBits_33 : decode cX3_takeBits 33 = .ok (.lushr, 1) := by decide +kernel
theorem dX3_takeBits_34 : decode cX3_takeBits 34 = .ok (.l2i, 1) := by decide +kernel
theorem dX3_takeBits_35 : decode cX3_takeBits 35 = .ok (.bipush 31, 2) := by decide +kernel
theorem dX3_takeBits_37 : decode cX3_takeBits 37 = .ok (.iand, 1) := by decide +kernel
theorem dX3_takeBits_38 : decode cX3_takeBits 38 = .ok (.istore 5, 2) := by decide +kernel
theorem dX3_takeBits_40 : decode cX3_takeBits 40 = .ok (.iload 5, 2) := by decide +kernel
theorem dX3_takeBits_42 : decode cX3_takeBits 42 = .ok (.aload_n 0, 1) := by decide +kernel
theorem dX3_takeBits_43 : decode cX3_takeBits 43 = .ok (.getfield 26, 3) := by decide +kernel
theorem dX3_takeBits_46 : decode cX3_takeBits 46 = .ok (.iload 4, 2) := by decide +kernel
theorem dX3_takeBits_48 : decode cX3_takeBits 48 = .ok (.iaload, 1) := by decide +kernel
theorem dX3_takeBits_49 : decode cX3_takeBits 49 = .ok (.if_icmp .lt 5, 3) := by decide +kernel
theorem dX3_takeBits_52 : decode cX3_takeBits 52 = .ok (.iconst 0, 1) := by decide +kernel
theorem dX3_takeBits_53 : decode cX3_takeBits 53 = .ok (.ireturn, 1) := by decide +kernel
theorem dX3_takeBits_54 : decode cX3_takeBits 54 = .ok (.aload_n 3, 1) := by decide +kernel
theorem dX3_takeBits_55 : decode cX3_takeBits 55 = .ok (.iload 4, 2) := by decide +kernel
theorem dX3_takeBits_57 : decode cX3_takeBits 57 = .ok (.iload 5, 2) := by decide +kernel
theorem dX3_takeBits_59 : decode cX3_takeBits 59 = .ok (.iastore, 1) := by decide +kernel
theorem dX3_takeBits_60 : decode cX3_takeBits 60 = .ok (.iinc 4 1, 3) := by decide +kernel
theorem dX3_takeBits_63 : decode cX3_takeBits 63 = .ok (.goto (-60), 3) := by decide +kernel
theorem dX3_takeBits_66 : decode cX3_takeBits 66 = .ok (.iconst 1, 1) := by decide +kernel
theorem dX3_takeBits_67 : decode cX3_takeBits 67 = .ok (.ireturn, 1) := by decide +kernel
set_option maxRecDepth 20000 in
theorem ggX3_pickEach_X3_isThere : GoodIn wsX3_pickEach wsX3_isThere := goodIn_r _ [7, 8, 9, 10, 11, 6, 12, 32, 33, 34, 35, 36, 37, 38, 39, 40] (by decide +kernel) (by decide +kernel)
set_option maxRecDepth 20000 in
theorem gX3_pickEach_X3_isThere : GoodIn wsX3_pickEach (wsV RX3 65 RX3 yX3_isThere wsX3_isThere) := goodIn_app (goodIn_of _ (by decide +kernel)) ggX3_pickEach_X3_isThere
set_option maxRecDepth 20000 in
theorem ggX3_pickEach_X2_hash : GoodIn wsX3_pickEach wsX2_hash := goodIn_r _ [16, 17, 18, 19] (by decide +kernel) (by decide +kernel)
set_option maxRecDepth 20000 in
theorem gX3_pickEach_X2_hash : GoodIn wsX3_pickEach (va_wsS RX3 73 yX2_hash wsX2_hash) := goodIn_app (goodIn_of _ (by decide +kernel)) ggX3_pickEach_X2_hash
set_option maxRecDepth 20000 in
theorem ggX3_pickEach_X2_pick : GoodIn wsX3_pickEach wsX2_pick := goodIn_r _ [22, 23, 24, 25, 15, 26, 27, 28, 29, 30, 31, 14, 16, 17, 18, 19] (by decide +kernel) (by decide +kernel)
set_option maxRecDepth 20000 in
theorem gX3_pickEach_X2_pick : GoodIn wsX3_pickEach (va_wsS RX3 79 yX2_pick wsX2_pick) := goodIn_app (goodIn_of _ (by decide +kernel)) ggX3_pickEach_X2_pick
theorem dX3_pickEach_0 : decode cX3_pickEach 0 = .ok (.iconst 0, 1) := by decide +kernel
theorem dX3_pickEach_1 : decode cX3_pickEach 1 = .ok (.istore_n 3, 1) := by decide +kernel
theorem dX3_pickEach_2 : decode cX3_pickEach 2 = .ok (.iload_n 3, 1) := by decide +kernel
theorem dX3_pickEach_3 : decode cX3_pickEach 3 = .ok (.aload_n 0, 1) := by decide +kernel
theorem dX3_pickEach_4 : decode cX3_pickEach 4 = .ok (.getfield 9, 3) := by decide +kernel
theorem dX3_pickEach_7 : decode cX3_pickEach 7 = .ok (.if_icmp .ge 42, 3) := by decide +kernel
theorem dX3_pickEach_10 : decode cX3_pickEach 10 = .ok (.aload_n 2, 1) := by decide +kernel
theorem dX3_pickEach_11 : decode cX3_pickEach 11 = .ok (.iload_n 3, 1) := by decide +kernel
theorem dX3_pickEach_12 : decode cX3_pickEach 12 = .ok (.bipush (-2), 2) := by decide +kernel
theorem dX3_pickEach_14 : decode cX3_pickEach 14 = .ok (.iastore, 1) := by decide +kernel
theorem dX3_pickEach_15 : decode cX3_pickEach 15 = .ok (.aload_n 0, 1) := by decide +kernel
theorem dX3_pickEach_16 : decode cX3_pickEach 16 = .ok (.iload_n 3, 1) := by decide +kernel
theorem dX3_pickEach_17 : decode cX3_pickEach 17 = .ok (.aload_n 2, 1) := by decide +kernel
theorem dX3_pickEach_18 : decode cX3_pickEach 18 = .ok (.invokevirtual 65, 3) := by decide +kernel
theorem dX3_pickEach_21 : decode cX3_pickEach 21 = .ok (.ifCond .eq 22, 3) := by decide +kernel
theorem dX3_pickEach_24 : decode cX3_pickEach 24 = .ok (.aload_n 2, 1) := by decide +kernel
theorem dX3_pickEach_25 : decode cX3_pickEach 25 = .ok (.iload_n 3, 1) := by decide +kernel
theorem dX3_pickEach_26 : decode cX3_pickEach 26 = .ok (.aload_n 0, 1) := by decide +kernel
theorem dX3_pickEach_27 : decode cX3_pickEach 27 = .ok (.getfield 26, 3) := by decide +kernel
theorem dX3_pickEach_30 : decode cX3_pickEach 30 = .ok (.iload_n 3, 1) := by decide +kernel
theorem dX3_pickEach_31 : decode cX3_pickEach 31 = .ok (.iaload, 1) := by decide +kernel
theorem dX3_pickEach_32 : decode cX3_pickEach 32 = .ok (.i2l, 1) := by decide +kernel
theorem dX3_pickEach_33 : decode cX3_pickEach 33 = .ok (.iload_n 1, 1) := by decide +kernel
theorem dX3_pickEach_34 : decode cX3_pickEach 34 = .ok (.iload_n 3, 1) := by decide +kernel
theorem dX3_pickEach_35 : decode cX3_pickEach 35 = .ok (.invokestatic 73, 3) := by decide +kernel
theorem dX3_pickEach_38 : decode cX3_pickEach 38 = .ok (.invokestatic 79, 3) := by decide +kernel
theorem dX3_pickEach_41 : decode cX3_pickEach 41 = .ok (.l2i, 1) := by decide +kernel
theorem dX3_pickEach_42 : decode cX3_pickEach 42 = .ok (.iastore, 1) := by decide +kernel
theorem dX3_pickEach_43 : decode cX3_pickEach 43 = .ok (.iinc 3 1, 3) := by decide +kernel
theorem dX3_pickEach_46 : decode cX3_pickEach 46 = .ok (.goto (-44), 3) := by decide +kernel
theorem dX3_pickEach_49 : decode cX3_pickEach 49 = .ok (.return_, 1) := by decide +kernel
set_option maxRecDepth 20000 in
theorem ggX3_apart_X3_apartAt : GoodIn wsX3_apart wsX3_apartAt := goodIn_r _ [6, 7, 8, 9, 10, 11, 12, 13, 14, 15, 16, 17, 18, 19, 20, 21, 22, 23] (by decide +kernel) (by decide +kernel)
set_option maxRecDepth 20000 in
theorem gX3_apart_X3_apartAt : GoodIn wsX3_apart (wsV RX3 83 RX3 yX3_apartAt wsX3_apartAt) := goodIn_app (goodIn_of _ (by decide +kernel)) ggX3_apart_X3_apartAt
theorem dX3_apart_0 : decode cX3_apart 0 = .ok (.iconst 0, 1) := by decide +kernel
theorem dX3_apart_1 : decode cX3_apart 1 = .ok (.istore_n 3, 1) := by decide +kernel
theorem dX3_apart_2 : decode cX3_apart 2 = .ok (.iconst 0, 1) := by decide +kernel
theorem dX3_apart_3 : decode cX3_apart 3 = .ok (.istore 4, 2) := by decide +kernel
theorem dX3_apart_5 : decode cX3_apart 5 = .ok (.iload 4, 2) := by decide +kernel
theorem dX3_apart_7 : decode cX3_apart 7 = .ok (.aload_n 0, 1) := by decide +kernel
theorem dX3_apart_8 : decode cX3_apart 8 = .ok (.getfield 9, 3) := by decide +kernel
theorem dX3_apart_11 : decode cX3_apart 11 = .ok (.if_icmp .ge 26, 3) := by decide +kernel
theorem dX3_apart_14 : decode cX3_apart 14 = .ok (.iload_n 3, 1) := by decide +kernel
theorem dX3_apart_15 : decode cX3_apart 15 = .ok (.aload_n 0, 1) := by decide +kernel
theorem dX3_apart_16 : decode cX3_apart 16 = .ok (.iload 4, 2) := by decide +kernel
theorem dX3_apart_18 : decode cX3_apart 18 = .ok (.aload_n 1, 1) := by decide +kernel
theorem dX3_apart_19 : decode cX3_apart 19 = .ok (.iload 4, 2) := by decide +kernel
theorem dX3_apart_21 : decode cX3_apart 21 = .ok (.iaload, 1) := by decide +kernel
theorem dX3_apart_22 : decode cX3_apart 22 = .ok (.aload_n 2, 1) := by decide +kernel
theorem dX3_apart_23 : decode cX3_apart 23 = .ok (.iload 4, 2) := by decide +kernel
theorem dX3_apart_25 : decode cX3_apart 25 = .ok (.iaload, 1) := by decide +kernel
theorem dX3_apart_26 : decode cX3_apart 26 = .ok (.invokevirtual 83, 3) := by decide +kernel
theorem dX3_apart_29 : decode cX3_apart 29 = .ok (.iadd, 1) := by decide +kernel
theorem dX3_apart_30 : decode cX3_apart 30 = .ok (.istore_n 3, 1) := by decide +kernel
theorem dX3_apart_31 : decode cX3_apart 31 = .ok (.iinc 4 1, 3) := by decide +kernel
theorem dX3_apart_34 : decode cX3_apart 34 = .ok (.goto (-29), 3) := by decide +kernel
theorem dX3_apart_37 : decode cX3_apart 37 = .ok (.iload_n 3, 1) := by decide +kernel
theorem dX3_apart_38 : decode cX3_apart 38 = .ok (.ireturn, 1) := by decide +kernel
set_option maxRecDepth 20000 in
theorem ggX3_apartAt_X5_cut : GoodIn wsX3_apartAt wsX5_cut := goodIn_r _ [8] (by decide +kernel) (by decide +kernel)
set_option maxRecDepth 20000 in
theorem gX3_apartAt_X5_cut_n69 : GoodIn wsX3_apartAt (wsX5_cut) := ggX3_apartAt_X5_cut
theorem dX3_apartAt_0 : decode cX3_apartAt 0 = .ok (.iload_n 2, 1) := by decide +kernel
theorem dX3_apartAt_1 : decode cX3_apartAt 1 = .ok (.iload_n 3, 1) := by decide +kernel
theorem dX3_apartAt_2 : decode cX3_apartAt 2 = .ok (.if_icmp .ne 5, 3) := by decide +kernel
theorem dX3_apartAt_5 : decode cX3_apartAt 5 = .ok (.iconst 0, 1) := by decide +kernel
theorem dX3_apartAt_6 : decode cX3_apartAt 6 = .ok (.ireturn, 1) := by decide +kernel
theorem dX3_apartAt_7 : decode cX3_apartAt 7 = .ok (.iload_n 2, 1) := by decide +kernel
theorem dX3_apartAt_8 : decode cX3_apartAt 8 = .ok (.ifCond .lt 7, 3) := by decide +kernel
theorem dX3_apartAt_11 : decode cX3_apartAt 11 = .ok (.iload_n 3, 1) := by decide +kernel
theorem dX3_apartAt_12 : decode cX3_apartAt 12 = .ok (.ifCond .ge 6, 3) := by decide +kernel
theorem dX3_apartAt_15 : decode cX3_apartAt 15 = .ok (.bipush 30, 2) := by decide +kernel
theorem dX3_apartAt_17 : decode cX3_apartAt 17 = .ok (.ireturn, 1) := by decide +kernel
theorem dX3_apartAt_18 : decode cX3_apartAt 18 = .ok (.iload_n 2, 1) := by decide +kernel
theorem dX3_apartAt_19 : decode cX3_apartAt 19 = .ok (.iload_n 3, 1) := by decide +kernel
theorem dX3_apartAt_20 : decode cX3_apartAt 20 = .ok (.isub, 1) := by decide +kernel
theorem dX3_apartAt_21 : decode cX3_apartAt 21 = .ok (.invokestatic 87, 3) := by decide +kernel
theorem dX3_apartAt_24 : decode cX3_apartAt 24 = .ok (.bipush 30, 2) := by decide +kernel
theorem dX3_apartAt_26 : decode cX3_apartAt 26 = .ok (.imul, 1) := by decide +kernel
theorem dX3_apartAt_27 : decode cX3_apartAt 27 = .ok (.i2l, 1) := by decide +kernel
theorem dX3_apartAt_28 : decode cX3_apartAt 28 = .ok (.aload_n 0, 1) := by decide +kernel
theorem dX3_apartAt_29 : decode cX3_apartAt 29 = .ok (.getfield 26, 3) := by decide +kernel
theorem dX3_apartAt_32 : decode cX3_apartAt 32 = .ok (.iload_n 1, 1) := by decide +kernel
theorem dX3_apartAt_33 : decode cX3_apartAt 33 = .ok (.iaload, 1) := by decide +kernel
theorem dX3_apartAt_34 : decode cX3_apartAt 34 = .ok (.i2l, 1) := by decide +kernel
theorem dX3_apartAt_35 : decode cX3_apartAt 35 = .ok (.invokestatic 69, 3) := by decide +kernel
theorem dX3_apartAt_38 : decode cX3_apartAt 38 = .ok (.l2i, 1) := by decide +kernel
theorem dX3_apartAt_39 : decode cX3_apartAt 39 = .ok (.ireturn, 1) := by decide +kernel
