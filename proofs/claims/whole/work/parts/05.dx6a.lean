theorem dX6_hash_0 : decode cX6_hash 0 = .ok (.iload_n 0, 1) := by decide +kernel
theorem dX6_hash_1 : decode cX6_hash 1 = .ok (.iload_n 1, 1) := by decide +kernel
theorem dX6_hash_2 : decode cX6_hash 2 = .ok (.ldc 1, 2) := by decide +kernel
theorem dX6_hash_4 : decode cX6_hash 4 = .ok (.imul, 1) := by decide +kernel
theorem dX6_hash_5 : decode cX6_hash 5 = .ok (.iadd, 1) := by decide +kernel
theorem dX6_hash_6 : decode cX6_hash 6 = .ok (.istore_n 2, 1) := by decide +kernel
theorem dX6_hash_7 : decode cX6_hash 7 = .ok (.iload_n 2, 1) := by decide +kernel
theorem dX6_hash_8 : decode cX6_hash 8 = .ok (.iload_n 2, 1) := by decide +kernel
theorem dX6_hash_9 : decode cX6_hash 9 = .ok (.bipush 16, 2) := by decide +kernel
theorem dX6_hash_11 : decode cX6_hash 11 = .ok (.iushr, 1) := by decide +kernel
theorem dX6_hash_12 : decode cX6_hash 12 = .ok (.ixor, 1) := by decide +kernel
theorem dX6_hash_13 : decode cX6_hash 13 = .ok (.ldc 2, 2) := by decide +kernel
theorem dX6_hash_15 : decode cX6_hash 15 = .ok (.imul, 1) := by decide +kernel
theorem dX6_hash_16 : decode cX6_hash 16 = .ok (.istore_n 2, 1) := by decide +kernel
theorem dX6_hash_17 : decode cX6_hash 17 = .ok (.iload_n 2, 1) := by decide +kernel
theorem dX6_hash_18 : decode cX6_hash 18 = .ok (.iload_n 2, 1) := by decide +kernel
theorem dX6_hash_19 : decode cX6_hash 19 = .ok (.bipush 13, 2) := by decide +kernel
theorem dX6_hash_21 : decode cX6_hash 21 = .ok (.iushr, 1) := by decide +kernel
theorem dX6_hash_22 : decode cX6_hash 22 = .ok (.ixor, 1) := by decide +kernel
theorem dX6_hash_23 : decode cX6_hash 23 = .ok (.ldc 3, 2) := by decide +kernel
theorem dX6_hash_25 : decode cX6_hash 25 = .ok (.imul, 1) := by decide +kernel
theorem dX6_hash_26 : decode cX6_hash 26 = .ok (.istore_n 2, 1) := by decide +kernel
theorem dX6_hash_27 : decode cX6_hash 27 = .ok (.iload_n 2, 1) := by decide +kernel
theorem dX6_hash_28 : decode cX6_hash 28 = .ok (.iload_n 2, 1) := by decide +kernel
theorem dX6_hash_29 : decode cX6_hash 29 = .ok (.bipush 16, 2) := by decide +kernel
theorem dX6_hash_31 : decode cX6_hash 31 = .ok (.iushr, 1) := by decide +kernel
theorem dX6_hash_32 : decode cX6_hash 32 = .ok (.ixor, 1) := by decide +kernel
theorem dX6_hash_33 : decode cX6_hash 33 = .ok (.ireturn, 1) := by decide +kernel
set_option maxRecDepth 20000 in
theorem ggX6_pick_X6_hash : GoodIn wsX6_pick wsX6_hash := goodIn_r _ [5, 6, 7, 8] (by decide +kernel) (by decide +kernel)
set_option maxRecDepth 20000 in
theorem gX6_pick_X6_hash : GoodIn wsX6_pick (va_wsS RX6 4 yX6_hash wsX6_hash) := goodIn_app (goodIn_of _ (by decide +kernel)) ggX6_pick_X6_hash
theorem dX6_pick_0 : decode cX6_pick 0 = .ok (.iconst 0, 1) := by decide +kernel
theorem dX6_pick_1 : decode cX6_pick 1 = .ok (.istore_n 3, 1) := by decide +kernel
theorem dX6_pick_2 : decode cX6_pick 2 = .ok (.lconst 1, 1) := by decide +kernel
theorem dX6_pick_3 : decode cX6_pick 3 = .ok (.iload_n 3, 1) := by decide +kernel
theorem dX6_pick_4 : decode cX6_pick 4 = .ok (.lshl, 1) := by decide +kernel
theorem dX6_pick_5 : decode cX6_pick 5 = .ok (.lload_n 1, 1) := by decide +kernel
theorem dX6_pick_6 : decode cX6_pick 6 = .ok (.lcmp, 1) := by decide +kernel
theorem dX6_pick_7 : decode cX6_pick 7 = .ok (.ifCond .ge 9, 3) := by decide +kernel
theorem dX6_pick_10 : decode cX6_pick 10 = .ok (.iinc 3 1, 3) := by decide +kernel
theorem dX6_pick_13 : decode cX6_pick 13 = .ok (.goto (-11), 3) := by decide +kernel
theorem dX6_pick_16 : decode cX6_pick 16 = .ok (.iconst 0, 1) := by decide +kernel
theorem dX6_pick_17 : decode cX6_pick 17 = .ok (.istore 4, 2) := by decide +kernel
theorem dX6_pick_19 : decode cX6_pick 19 = .ok (.iload_n 0, 1) := by decide +kernel
theorem dX6_pick_20 : decode cX6_pick 20 = .ok (.iconst 2, 1) := by decide +kernel
theorem dX6_pick_21 : decode cX6_pick 21 = .ok (.iload 4, 2) := by decide +kernel
theorem dX6_pick_23 : decode cX6_pick 23 = .ok (.imul, 1) := by decide +kernel
theorem dX6_pick_24 : decode cX6_pick 24 = .ok (.iconst 1, 1) := by decide +kernel
theorem dX6_pick_25 : decode cX6_pick 25 = .ok (.iadd, 1) := by decide +kernel
theorem dX6_pick_26 : decode cX6_pick 26 = .ok (.invokestatic 4, 3) := by decide +kernel
theorem dX6_pick_29 : decode cX6_pick 29 = .ok (.i2l, 1) := by decide +kernel
theorem dX6_pick_30 : decode cX6_pick 30 = .ok (.bipush 32, 2) := by decide +kernel
theorem dX6_pick_32 : decode cX6_pick 32 = .ok (.lshl, 1) := by decide +kernel
theorem dX6_pick_33 : decode cX6_pick 33 = .ok (.iload_n 0, 1) := by decide +kernel
theorem dX6_pick_34 : decode cX6_pick 34 = .ok (.iconst 2, 1) := by decide +kernel
theorem dX6_pick_35 : decode cX6_pick 35 = .ok (.iload 4, 2) := by decide +kernel
theorem dX6_pick_37 : decode cX6_pick 37 = .ok (.imul, 1) := by decide +kernel
theorem dX6_pick_38 : decode cX6_pick 38 = .ok (.iconst 2, 1) := by decide +kernel
theorem dX6_pick_39 : decode cX6_pick 39 = .ok (.iadd, 1) := by decide +kernel
theorem dX6_pick_40 : decode cX6_pick 40 = .ok (.invokestatic 4, 3) := by decide +kernel
theorem dX6_pick_43 : decode cX6_pick 43 = .ok (.i2l, 1) := by decide +kernel
theorem dX6_pick_44 : decode cX6_pick 44 = .ok (.ldc2_w 10, 3) := by decide +kernel
theorem dX6_pick_47 : decode cX6_pick 47 = .ok (.land, 1) := by decide +kernel
theorem dX6_pick_48 : decode cX6_pick 48 = .ok (.lor, 1) := by decide +kernel
theorem dX6_pick_49 : decode cX6_pick 49 = .ok (.lstore 5, 2) := by decide +kernel
theorem dX6_pick_51 : decode cX6_pick 51 = .ok (.iload_n 3, 1) := by decide +kernel
theorem dX6_pick_52 : decode cX6_pick 52 = .ok (.ifCond .ne 7, 3) := by decide +kernel
theorem dX6_pick_55 : decode cX6_pick 55 = .ok (.lconst 0, 1) := by decide +kernel
theorem dX6_pick_56 : decode cX6_pick 56 = .ok (.goto 10, 3) := by decide +kernel
theorem dX6_pick_59 : decode cX6_pick 59 = .ok (.lload 5, 2) := by decide +kernel
theorem dX6_pick_61 : decode cX6_pick 61 = .ok (.bipush 64, 2) := by decide +kernel
theorem dX6_pick_63 : decode cX6_pick 63 = .ok (.iload_n 3, 1) := by decide +kernel
theorem dX6_pick_64 : decode cX6_pick 64 = .ok (.isub, 1) := by decide +kernel
theorem dX6_pick_65 : decode cX6_pick 65 = .ok (.lushr, 1) := by decide +kernel
theorem dX6_pick_66 : decode cX6_pick 66 = .ok (.lstore 5, 2) := by decide +kernel
theorem dX6_pick_68 : decode cX6_pick 68 = .ok (.lload 5, 2) := by decide +kernel
theorem dX6_pick_70 : decode cX6_pick 70 = .ok (.lload_n 1, 1) := by decide +kernel
theorem dX6_pick_71 : decode cX6_pick 71 = .ok (.lcmp, 1) := by decide +kernel
theorem dX6_pick_72 : decode cX6_pick 72 = .ok (.ifCond .ge 6, 3) := by decide +kernel
theorem dX6_pick_75 : decode cX6_pick 75 = .ok (.lload 5, 2) := by decide +kernel
theorem dX6_pick_77 : decode cX6_pick 77 = .ok (.lreturn, 1) := by decide +kernel
theorem dX6_pick_78 : decode cX6_pick 78 = .ok (.iinc 4 1, 3) := by decide +kernel
theorem dX6_pick_81 : decode cX6_pick 81 = .ok (.goto (-62), 3) := by decide +kernel
theorem dX6_in_0 : decode cX6_in 0 = .ok (.lload_n 0, 1) := by decide +kernel
theorem dX6_in_1 : decode cX6_in 1 = .ok (.lload_n 2, 1) := by decide +kernel
theorem dX6_in_2 : decode cX6_in 2 = .ok (.lcmp, 1) := by decide +kernel
theorem dX6_in_3 : decode cX6_in 3 = .ok (.ifCond .lt 14, 3) := by decide +kernel
theorem dX6_in_6 : decode cX6_in 6 = .ok (.lload_n 0, 1) := by decide +kernel
theorem dX6_in_7 : decode cX6_in 7 = .ok (.lload 4, 2) := by decide +kernel
theorem dX6_in_9 : decode cX6_in 9 = .ok (.lcmp, 1) := by decide +kernel
theorem dX6_in_10 : decode cX6_in 10 = .ok (.ifCond .gt 7, 3) := by decide +kernel
theorem dX6_in_13 : decode cX6_in 13 = .ok (.iconst 1, 1) := by decide +kernel
theorem dX6_in_14 : decode cX6_in 14 = .ok (.goto 4, 3) := by decide +kernel
theorem dX6_in_17 : decode cX6_in 17 = .ok (.iconst 0, 1) := by decide +kernel
theorem dX6_in_18 : decode cX6_in 18 = .ok (.ireturn, 1) := by decide +kernel
theorem dX6_init_0 : decode cX6_init 0 = .ok (.aload_n 0, 1) := by decide +kernel
theorem dX6_init_1 : decode cX6_init 1 = .ok (.invokespecial 12, 3) := by decide +kernel
theorem dX6_init_4 : decode cX6_init 4 = .ok (.aload_n 0, 1) := by decide +kernel
theorem dX6_init_5 : decode cX6_init 5 = .ok (.bipush 8, 2) := by decide +kernel
theorem dX6_init_7 : decode cX6_init 7 = .ok (.newarray .int, 2) := by decide +kernel
theorem dX6_init_9 : decode cX6_init 9 = .ok (.putfield 18, 3) := by decide +kernel
theorem dX6_init_12 : decode cX6_init 12 = .ok (.aload_n 0, 1) := by decide +kernel
theorem dX6_init_13 : decode cX6_init 13 = .ok (.bipush 8, 2) := by decide +kernel
theorem dX6_init_15 : decode cX6_init 15 = .ok (.newarray .int, 2) := by decide +kernel
theorem dX6_init_17 : decode cX6_init 17 = .ok (.putfield 22, 3) := by decide +kernel
theorem dX6_init_20 : decode cX6_init 20 = .ok (.aload_n 0, 1) := by decide +kernel
theorem dX6_init_21 : decode cX6_init 21 = .ok (.bipush 8, 2) := by decide +kernel
theorem dX6_init_23 : decode cX6_init 23 = .ok (.newarray .int, 2) := by decide +kernel
theorem dX6_init_25 : decode cX6_init 25 = .ok (.putfield 25, 3) := by decide +kernel
theorem dX6_init_28 : decode cX6_init 28 = .ok (.aload_n 0, 1) := by decide +kernel
theorem dX6_init_29 : decode cX6_init 29 = .ok (.bipush 8, 2) := by decide +kernel
theorem dX6_init_31 : decode cX6_init 31 = .ok (.newarray .long, 2) := by decide +kernel
theorem dX6_init_33 : decode cX6_init 33 = .ok (.putfield 28, 3) := by decide +kernel
theorem dX6_init_36 : decode cX6_init 36 = .ok (.aload_n 0, 1) := by decide +kernel
theorem dX6_init_37 : decode cX6_init 37 = .ok (.bipush 16, 2) := by decide +kernel
theorem dX6_init_39 : decode cX6_init 39 = .ok (.newarray .int, 2) := by decide +kernel
theorem dX6_init_41 : decode cX6_init 41 = .ok (.putfield 32, 3) := by decide +kernel
theorem dX6_init_44 : decode cX6_init 44 = .ok (.aload_n 0, 1) := by decide +kernel
theorem dX6_init_45 : decode cX6_init 45 = .ok (.bipush 60, 2) := by decide +kernel
theorem dX6_init_47 : decode cX6_init 47 = .ok (.newarray .long, 2) := by decide +kernel
theorem dX6_init_49 : decode cX6_init 49 = .ok (.putfield 35, 3) := by decide +kernel
theorem dX6_init_52 : decode cX6_init 52 = .ok (.aload_n 0, 1) := by decide +kernel
theorem dX6_init_53 : decode cX6_init 53 = .ok (.bipush 60, 2) := by decide +kernel
theorem dX6_init_55 : decode cX6_init 55 = .ok (.newarray .int, 2) := by decide +kernel
theorem dX6_init_57 : decode cX6_init 57 = .ok (.putfield 38, 3) := by decide +kernel
theorem dX6_init_60 : decode cX6_init 60 = .ok (.aload_n 0, 1) := by decide +kernel
theorem dX6_init_61 : decode cX6_init 61 = .ok (.bipush 60, 2) := by decide +kernel
theorem dX6_init_63 : decode cX6_init 63 = .ok (.newarray .int, 2) := by decide +kernel
theorem dX6_init_65 : decode cX6_init 65 = .ok (.putfield 41, 3) := by decide +kernel
theorem dX6_init_68 : decode cX6_init 68 = .ok (.aload_n 0, 1) := by decide +kernel
theorem dX6_init_69 : decode cX6_init 69 = .ok (.bipush 60, 2) := by decide +kernel
theorem dX6_init_71 : decode cX6_init 71 = .ok (.newarray .int, 2) := by decide +kernel
theorem dX6_init_73 : decode cX6_init 73 = .ok (.putfield 44, 3) := by decide +kernel
theorem dX6_init_76 : decode cX6_init 76 = .ok (.aload_n 0, 1) := by decide +kernel
theorem dX6_init_77 : decode cX6_init 77 = .ok (.sipush 1200, 3) := by decide +kernel
theorem dX6_init_80 : decode cX6_init 80 = .ok (.newarray .int, 2) := by decide +kernel
theorem dX6_init_82 : decode cX6_init 82 = .ok (.putfield 47, 3) := by decide +kernel
theorem dX6_init_85 : decode cX6_init 85 = .ok (.aload_n 0, 1) := by decide +kernel
theorem dX6_init_86 : decode cX6_init 86 = .ok (.bipush 60, 2) := by decide +kernel
theorem dX6_init_88 : decode cX6_init 88 = .ok (.newarray .boolean, 2) := by decide +kernel
theorem dX6_init_90 : decode cX6_init 90 = .ok (.putfield 50, 3) := by decide +kernel
theorem dX6_init_93 : decode cX6_init 93 = .ok (.aload_n 0, 1) := by decide +kernel
theorem dX6_init_94 : decode cX6_init 94 = .ok (.bipush 60, 2) := by decide +kernel
theorem dX6_init_96 : decode cX6_init 96 = .ok (.newarray .int, 2) := by decide +kernel
theorem dX6_init_98 : decode cX6_init 98 = .ok (.putfield 54, 3) := by decide +kernel
theorem dX6_init_101 : decode cX6_init 101 = .ok (.aload_n 0, 1) := by decide +kernel
theorem dX6_init_102 : decode cX6_init 102 = .ok (.bipush 60, 2) := by decide +kernel
theorem dX6_init_104 : decode cX6_init 104 = .ok (.newarray .boolean, 2) := by decide +kernel
theorem dX6_init_106 : decode cX6_init 106 = .ok (.putfield 57, 3) := by decide +kernel
theorem dX6_init_109 : decode cX6_init 109 = .ok (.aload_n 0, 1) := by decide +kernel
theorem dX6_init_110 : decode cX6_init 110 = .ok (.bipush 60, 2) := by decide +kernel
theorem dX6_init_112 : decode cX6_init 112 = .ok (.newarray .boolean, 2) := by decide +kernel
theorem dX6_init_114 : decode cX6_init 114 = .ok (.putfield 60, 3) := by decide +kernel
theorem dX6_init_117 : decode cX6_init 117 = .ok (.aload_n 0, 1) := by decide +kernel
theorem dX6_init_118 : decode cX6_init 118 = .ok (.bipush 60, 2) := by decide +kernel
theorem dX6_init_120 : decode cX6_init 120 = .ok (.newarray .boolean, 2) := by decide +kernel
theorem dX6_init_122 : decode cX6_init 122 = .ok (.putfield 63, 3) := by decide +kernel
theorem dX6_init_125 : decode cX6_init 125 = .ok (.aload_n 0, 1) := by decide +kernel
theorem dX6_init_126 : decode cX6_init 126 = .ok (.bipush 60, 2) := by decide +kernel
theorem dX6_init_128 : decode cX6_init 128 = .ok (.newarray .int, 2) := by decide +kernel
theorem dX6_init_130 : decode cX6_init 130 = .ok (.putfield 66, 3) := by decide +kernel
theorem dX6_init_133 : decode cX6_init 133 = .ok (.aload_n 0, 1) := by decide +kernel
theorem dX6_init_134 : decode cX6_init 134 = .ok (.sipush 200, 3) := by decide +kernel
theorem dX6_init_137 : decode cX6_init 137 = .ok (.newarray .int, 2) := by decide +kernel
theorem dX6_init_139 : decode cX6_init 139 = .ok (.putfield 69, 3) := by decide +kernel
theorem dX6_init_142 : decode cX6_init 142 = .ok (.aload_n 0, 1) := by decide +kernel
theorem dX6_init_143 : decode cX6_init 143 = .ok (.bipush 10, 2) := by decide +kernel
theorem dX6_init_145 : decode cX6_init 145 = .ok (.newarray .boolean, 2) := by decide +kernel
theorem dX6_init_147 : decode cX6_init 147 = .ok (.putfield 72, 3) := by decide +kernel
theorem dX6_init_150 : decode cX6_init 150 = .ok (.aload_n 0, 1) := by decide +kernel
theorem dX6_init_151 : decode cX6_init 151 = .ok (.sipush 6000, 3) := by decide +kernel
theorem dX6_init_154 : decode cX6_init 154 = .ok (.newarray .int, 2) := by decide +kernel
theorem dX6_init_156 : decode cX6_init 156 = .ok (.putfield 75, 3) := by decide +kernel
theorem dX6_init_159 : decode cX6_init 159 = .ok (.return_, 1) := by decide +kernel
set_option maxRecDepth 20000 in
theorem ggX6_name_X6_in : GoodIn wsX6_name wsX6_in := goodIn_r _ [13] (by decide +kernel) (by decide +kernel)
set_option maxRecDepth 20000 in
theorem gX6_name_X6_in : GoodIn wsX6_name (va_wsS RX6 80 yX6_in wsX6_in) := goodIn_app (goodIn_of _ (by decide +kernel)) ggX6_name_X6_in
set_option maxRecDepth 20000 in
theorem ggX6_name_X6_waysOf : GoodIn wsX6_name wsX6_waysOf := goodIn_r _ [17, 3, 7, 8, 9, 18, 19, 20, 21, 22, 23, 24, 25, 26, 27, 28, 29, 30, 31, 32, 33, 34, 35, 36, 37, 38, 39, 40, 41, 42, 43, 44, 45, 46, 47, 48] (by decide +kernel) (by decide +kernel)
set_option maxRecDepth 20000 in
theorem gX6_name_X6_waysOf : GoodIn wsX6_name (wsV RX6 95 RX6 yX6_waysOf wsX6_waysOf) := goodIn_app (goodIn_of _ (by decide +kernel)) ggX6_name_X6_waysOf
theorem dX6_name_0 : decode cX6_name 0 = .ok (.iload_n 1, 1) := by decide +kernel
theorem dX6_name_1 : decode cX6_name 1 = .ok (.i2l, 1) := by decide +kernel
theorem dX6_name_2 : decode cX6_name 2 = .ok (.lconst 1, 1) := by decide +kernel
theorem dX6_name_3 : decode cX6_name 3 = .ok (.ldc2_w 78, 3) := by decide +kernel
theorem dX6_name_6 : decode cX6_name 6 = .ok (.invokestatic 80, 3) := by decide +kernel
theorem dX6_name_9 : decode cX6_name 9 = .ok (.ifCond .eq 37, 3) := by decide +kernel
theorem dX6_name_12 : decode cX6_name 12 = .ok (.iload_n 2, 1) := by decide +kernel
theorem dX6_name_13 : decode cX6_name 13 = .ok (.i2l, 1) := by decide +kernel
theorem dX6_name_14 : decode cX6_name 14 = .ok (.ldc2_w 84, 3) := by decide +kernel
theorem dX6_name_17 : decode cX6_name 17 = .ok (.aload_n 0, 1) := by decide +kernel
theorem dX6_name_18 : decode cX6_name 18 = .ok (.getfield 86, 3) := by decide +kernel
theorem dX6_name_21 : decode cX6_name 21 = .ok (.iconst 1, 1) := by decide +kernel
theorem dX6_name_22 : decode cX6_name 22 = .ok (.isub, 1) := by decide +kernel
theorem dX6_name_23 : decode cX6_name 23 = .ok (.i2l, 1) := by decide +kernel
theorem dX6_name_24 : decode cX6_name 24 = .ok (.invokestatic 80, 3) := by decide +kernel
theorem dX6_name_27 : decode cX6_name 27 = .ok (.ifCond .eq 19, 3) := by decide +kernel
theorem dX6_name_30 : decode cX6_name 30 = .ok (.iload_n 2, 1) := by decide +kernel
theorem dX6_name_31 : decode cX6_name 31 = .ok (.ifCond .lt 17, 3) := by decide +kernel
theorem dX6_name_34 : decode cX6_name 34 = .ok (.iload_n 3, 1) := by decide +kernel
theorem dX6_name_35 : decode cX6_name 35 = .ok (.i2l, 1) := by decide +kernel
theorem dX6_name_36 : decode cX6_name 36 = .ok (.lconst 1, 1) := by decide +kernel
theorem dX6_name_37 : decode cX6_name 37 = .ok (.ldc2_w 90, 3) := by decide +kernel
theorem dX6_name_40 : decode cX6_name 40 = .ok (.invokestatic 80, 3) := by decide +kernel
theorem dX6_name_43 : decode cX6_name 43 = .ok (.ifCond .ne 5, 3) := by decide +kernel
theorem dX6_name_46 : decode cX6_name 46 = .ok (.iconst (-1), 1) := by decide +kernel
theorem dX6_name_47 : decode cX6_name 47 = .ok (.ireturn, 1) := by decide +kernel
theorem dX6_name_48 : decode cX6_name 48 = .ok (.aload_n 0, 1) := by decide +kernel
theorem dX6_name_49 : decode cX6_name 49 = .ok (.getfield 92, 3) := by decide +kernel
theorem dX6_name_52 : decode cX6_name 52 = .ok (.ifCond .le 6, 3) := by decide +kernel
theorem dX6_name_55 : decode cX6_name 55 = .ok (.bipush (-3), 2) := by decide +kernel
theorem dX6_name_57 : decode cX6_name 57 = .ok (.ireturn, 1) := by decide +kernel
theorem dX6_name_58 : decode cX6_name 58 = .ok (.aload_n 0, 1) := by decide +kernel
theorem dX6_name_59 : decode cX6_name 59 = .ok (.getfield 86, 3) := by decide +kernel
theorem dX6_name_62 : decode cX6_name 62 = .ok (.bipush 8, 2) := by decide +kernel
theorem dX6_name_64 : decode cX6_name 64 = .ok (.if_icmp .ne 6, 3) := by decide +kernel
theorem dX6_name_67 : decode cX6_name 67 = .ok (.bipush (-4), 2) := by decide +kernel
theorem dX6_name_69 : decode cX6_name 69 = .ok (.ireturn, 1) := by decide +kernel
theorem dX6_name_70 : decode cX6_name 70 = .ok (.aload_n 0, 1) := by decide +kernel
theorem dX6_name_71 : decode cX6_name 71 = .ok (.getfield 18, 3) := by decide +kernel
theorem dX6_name_74 : decode cX6_name 74 = .ok (.aload_n 0, 1) := by decide +kernel
theorem dX6_name_75 : decode cX6_name 75 = .ok (.getfield 86, 3) := by decide +kernel
theorem dX6_name_78 : decode cX6_name 78 = .ok (.iload_n 1, 1) := by decide +kernel
theorem dX6_name_79 : decode cX6_name 79 = .ok (.iastore, 1) := by decide +kernel
theorem dX6_name_80 : decode cX6_name 80 = .ok (.aload_n 0, 1) := by decide +kernel
theorem dX6_name_81 : decode cX6_name 81 = .ok (.getfield 22, 3) := by decide +kernel
theorem dX6_name_84 : decode cX6_name 84 = .ok (.aload_n 0, 1) := by decide +kernel
theorem dX6_name_85 : decode cX6_name 85 = .ok (.getfield 86, 3) := by decide +kernel
theorem dX6_name_88 : decode cX6_name 88 = .ok (.iload_n 2, 1) := by decide +kernel
theorem dX6_name_89 : decode cX6_name 89 = .ok (.iastore, 1) := by decide +kernel
theorem dX6_name_90 : decode cX6_name 90 = .ok (.aload_n 0, 1) := by decide +kernel
theorem dX6_name_91 : decode cX6_name 91 = .ok (.getfield 25, 3) := by decide +kernel
theorem dX6_name_94 : decode cX6_name 94 = .ok (.aload_n 0, 1) := by decide +kernel
theorem dX6_name_95 : decode cX6_name 95 = .ok (.getfield 86, 3) := by decide +kernel
theorem dX6_name_98 : decode cX6_name 98 = .ok (.iload_n 3, 1) := by decide +kernel
theorem dX6_name_99 : decode cX6_name 99 = .ok (.iastore, 1) := by decide +kernel
theorem dX6_name_100 : decode cX6_name 100 = .ok (.aload_n 0, 1) := by decide +kernel
theorem dX6_name_101 : decode cX6_name 101 = .ok (.dup, 1) := by decide +kernel
theorem dX6_name_102 : decode cX6_name 102 = .ok (.getfield 86, 3) := by decide +kernel
theorem dX6_name_105 : decode cX6_name 105 = .ok (.iconst 1, 1) := by decide +kernel
theorem dX6_name_106 : decode cX6_name 106 = .ok (.iadd, 1) := by decide +kernel
theorem dX6_name_107 : decode cX6_name 107 = .ok (.putfield 86, 3) := by decide +kernel
theorem dX6_name_110 : decode cX6_name 110 = .ok (.aload_n 0, 1) := by decide +kernel
theorem dX6_name_111 : decode cX6_name 111 = .ok (.getfield 86, 3) := by decide +kernel
theorem dX6_name_114 : decode cX6_name 114 = .ok (.iconst 1, 1) := by decide +kernel
theorem dX6_name_115 : decode cX6_name 115 = .ok (.isub, 1) := by decide +kernel
theorem dX6_name_116 : decode cX6_name 116 = .ok (.istore 4, 2) := by decide +kernel
theorem dX6_name_118 : decode cX6_name 118 = .ok (.iload 4, 2) := by decide +kernel
theorem dX6_name_120 : decode cX6_name 120 = .ok (.ifCond .lt 56, 3) := by decide +kernel
theorem dX6_name_123 : decode cX6_name 123 = .ok (.aload_n 0, 1) := by decide +kernel
theorem dX6_name_124 : decode cX6_name 124 = .ok (.getfield 28, 3) := by decide +kernel
theorem dX6_name_127 : decode cX6_name 127 = .ok (.iload 4, 2) := by decide +kernel
theorem dX6_name_129 : decode cX6_name 129 = .ok (.lconst 0, 1) := by decide +kernel
theorem dX6_name_130 : decode cX6_name 130 = .ok (.lastore, 1) := by decide +kernel
theorem dX6_name_131 : decode cX6_name 131 = .ok (.iconst 0, 1) := by decide +kernel
theorem dX6_name_132 : decode cX6_name 132 = .ok (.istore 5, 2) := by decide +kernel
theorem dX6_name_134 : decode cX6_name 134 = .ok (.iload 5, 2) := by decide +kernel
theorem dX6_name_136 : decode cX6_name 136 = .ok (.aload_n 0, 1) := by decide +kernel
theorem dX6_name_137 : decode cX6_name 137 = .ok (.getfield 18, 3) := by decide +kernel
theorem dX6_name_140 : decode cX6_name 140 = .ok (.iload 4, 2) := by decide +kernel
theorem dX6_name_142 : decode cX6_name 142 = .ok (.iaload, 1) := by decide +kernel
theorem dX6_name_143 : decode cX6_name 143 = .ok (.if_icmp .ge 27, 3) := by decide +kernel
theorem dX6_name_146 : decode cX6_name 146 = .ok (.aload_n 0, 1) := by decide +kernel
theorem dX6_name_147 : decode cX6_name 147 = .ok (.getfield 28, 3) := by decide +kernel
theorem dX6_name_150 : decode cX6_name 150 = .ok (.iload 4, 2) := by decide +kernel
theorem dX6_name_152 : decode cX6_name 152 = .ok (.dup2, 1) := by decide +kernel
theorem dX6_name_153 : decode cX6_name 153 = .ok (.laload, 1) := by decide +kernel
theorem dX6_name_154 : decode cX6_name 154 = .ok (.aload_n 0, 1) := by decide +kernel
theorem dX6_name_155 : decode cX6_name 155 = .ok (.iload 4, 2) := by decide +kernel
theorem dX6_name_157 : decode cX6_name 157 = .ok (.iload 5, 2) := by decide +kernel
theorem dX6_name_159 : decode cX6_name 159 = .ok (.invokevirtual 95, 3) := by decide +kernel
theorem dX6_name_162 : decode cX6_name 162 = .ok (.ladd, 1) := by decide +kernel
theorem dX6_name_163 : decode cX6_name 163 = .ok (.lastore, 1) := by decide +kernel
theorem dX6_name_164 : decode cX6_name 164 = .ok (.iinc 5 1, 3) := by decide +kernel
theorem dX6_name_167 : decode cX6_name 167 = .ok (.goto (-33), 3) := by decide +kernel
theorem dX6_name_170 : decode cX6_name 170 = .ok (.iinc 4 (-1), 3) := by decide +kernel
theorem dX6_name_173 : decode cX6_name 173 = .ok (.goto (-55), 3) := by decide +kernel
theorem dX6_name_176 : decode cX6_name 176 = .ok (.aload_n 0, 1) := by decide +kernel
theorem dX6_name_177 : decode cX6_name 177 = .ok (.getfield 86, 3) := by decide +kernel
theorem dX6_name_180 : decode cX6_name 180 = .ok (.iconst 1, 1) := by decide +kernel
theorem dX6_name_181 : decode cX6_name 181 = .ok (.isub, 1) := by decide +kernel
theorem dX6_name_182 : decode cX6_name 182 = .ok (.ireturn, 1) := by decide +kernel
theorem dX6_waysOf_0 : decode cX6_waysOf 0 = .ok (.lconst 1, 1) := by decide +kernel
theorem dX6_waysOf_1 : decode cX6_waysOf 1 = .ok (.lstore_n 3, 1) := by decide +kernel
theorem dX6_waysOf_2 : decode cX6_waysOf 2 = .ok (.iload_n 1, 1) := by decide +kernel
theorem dX6_waysOf_3 : decode cX6_waysOf 3 = .ok (.iconst 1, 1) := by decide +kernel
theorem dX6_waysOf_4 : decode cX6_waysOf 4 = .ok (.iadd, 1) := by decide +kernel
theorem dX6_waysOf_5 : decode cX6_waysOf 5 = .ok (.istore 5, 2) := by decide +kernel
theorem dX6_waysOf_7 : decode cX6_waysOf 7 = .ok (.iload 5, 2) := by decide +kernel
theorem dX6_waysOf_9 : decode cX6_waysOf 9 = .ok (.aload_n 0, 1) := by decide +kernel
theorem dX6_waysOf_10 : decode cX6_waysOf 10 = .ok (.getfield 86, 3) := by decide +kernel
theorem dX6_waysOf_13 : decode cX6_waysOf 13 = .ok (.if_icmp .ge 49, 3) := by decide +kernel
theorem dX6_waysOf_16 : decode cX6_waysOf 16 = .ok (.lload_n 3, 1) := by decide +kernel
theorem dX6_waysOf_17 : decode cX6_waysOf 17 = .ok (.aload_n 0, 1) := by decide +kernel
theorem dX6_waysOf_18 : decode cX6_waysOf 18 = .ok (.getfield 22, 3) := by decide +kernel
theorem dX6_waysOf_21 : decode cX6_waysOf 21 = .ok (.iload 5, 2) := by decide +kernel
theorem dX6_waysOf_23 : decode cX6_waysOf 23 = .ok (.iaload, 1) := by decide +kernel
theorem dX6_waysOf_24 : decode cX6_waysOf 24 = .ok (.iload_n 1, 1) := by decide +kernel
theorem dX6_waysOf_25 : decode cX6_waysOf 25 = .ok (.if_icmp .ne 28, 3) := by decide +kernel
theorem dX6_waysOf_28 : decode cX6_waysOf 28 = .ok (.aload_n 0, 1) := by decide +kernel
theorem dX6_waysOf_29 : decode cX6_waysOf 29 = .ok (.getfield 25, 3) := by decide +kernel
theorem dX6_waysOf_32 : decode cX6_waysOf 32 = .ok (.iload 5, 2) := by decide +kernel
theorem dX6_waysOf_34 : decode cX6_waysOf 34 = .ok (.iaload, 1) := by decide +kernel
theorem dX6_waysOf_35 : decode cX6_waysOf 35 = .ok (.iload_n 2, 1) := by decide +kernel
theorem dX6_waysOf_36 : decode cX6_waysOf 36 = .ok (.ishr, 1) := by decide +kernel
theorem dX6_waysOf_37 : decode cX6_waysOf 37 = .ok (.iconst 1, 1) := by decide +kernel
theorem dX6_waysOf_38 : decode cX6_waysOf 38 = .ok (.iand, 1) := by decide +kernel
theorem dX6_waysOf_39 : decode cX6_waysOf 39 = .ok (.iconst 1, 1) := by decide +kernel
theorem dX6_waysOf_40 : decode cX6_waysOf 40 = .ok (.if_icmp .ne 13, 3) := by decide +kernel
theorem dX6_waysOf_43 : decode cX6_waysOf 43 = .ok (.aload_n 0, 1) := by decide +kernel
theorem dX6_waysOf_44 : decode cX6_waysOf 44 = .ok (.getfield 28, 3) := by decide +kernel
theorem dX6_waysOf_47 : decode cX6_waysOf 47 = .ok (.iload 5, 2) := by decide +kernel
theorem dX6_waysOf_49 : decode cX6_waysOf 49 = .ok (.laload, 1) := by decide +kernel
theorem dX6_waysOf_50 : decode cX6_waysOf 50 = .ok (.goto 4, 3) := by decide +kernel
theorem dX6_waysOf_53 : decode cX6_waysOf 53 = .ok (.lconst 1, 1) := by decide +kernel
theorem dX6_waysOf_54 : decode cX6_waysOf 54 = .ok (.lmul, 1) := by decide +kernel
theorem dX6_waysOf_55 : decode cX6_waysOf 55 = .ok (.lstore_n 3, 1) := by decide +kernel
theorem dX6_waysOf_56 : decode cX6_waysOf 56 = .ok (.iinc 5 1, 3) := by decide +kernel
theorem dX6_waysOf_59 : decode cX6_waysOf 59 = .ok (.goto (-52), 3) := by decide +kernel
theorem dX6_waysOf_62 : decode cX6_waysOf 62 = .ok (.lload_n 3, 1) := by decide +kernel
theorem dX6_waysOf_63 : decode cX6_waysOf 63 = .ok (.lreturn, 1) := by decide +kernel
theorem dX6_points_0 : decode cX6_points 0 = .ok (.lconst 1, 1) := by decide +kernel
theorem dX6_points_1 : decode cX6_points 1 = .ok (.lstore_n 1, 1) := by decide +kernel
theorem dX6_points_2 : decode cX6_points 2 = .ok (.iconst 0, 1) := by decide +kernel
theorem dX6_points_3 : decode cX6_points 3 = .ok (.istore_n 3, 1) := by decide +kernel
theorem dX6_points_4 : decode cX6_points 4 = .ok (.iload_n 3, 1) := by decide +kernel
theorem dX6_points_5 : decode cX6_points 5 = .ok (.aload_n 0, 1) := by decide +kernel
theorem dX6_points_6 : decode cX6_points 6 = .ok (.getfield 86, 3) := by decide +kernel
theorem dX6_points_9 : decode cX6_points 9 = .ok (.if_icmp .ge 31, 3) := by decide +kernel
theorem dX6_points_12 : decode cX6_points 12 = .ok (.lload_n 1, 1) := by decide +kernel
theorem dX6_points_13 : decode cX6_points 13 = .ok (.aload_n 0, 1) := by decide +kernel
theorem dX6_points_14 : decode cX6_points 14 = .ok (.getfield 22, 3) := by decide +kernel
theorem dX6_points_17 : decode cX6_points 17 = .ok (.iload_n 3, 1) := by decide +kernel
theorem dX6_points_18 : decode cX6_points 18 = .ok (.iaload, 1) := by decide +kernel
theorem dX6_points_19 : decode cX6_points 19 = .ok (.ifCond .ge 12, 3) := by decide +kernel
theorem dX6_points_22 : decode cX6_points 22 = .ok (.aload_n 0, 1) := by decide +kernel
theorem dX6_points_23 : decode cX6_points 23 = .ok (.getfield 28, 3) := by decide +kernel
theorem dX6_points_26 : decode cX6_points 26 = .ok (.iload_n 3, 1) := by decide +kernel
theorem dX6_points_27 : decode cX6_points 27 = .ok (.laload, 1) := by decide +kernel
theorem dX6_points_28 : decode cX6_points 28 = .ok (.goto 4, 3) := by decide +kernel
theorem dX6_points_31 : decode cX6_points 31 = .ok (.lconst 1, 1) := by decide +kernel
theorem dX6_points_32 : decode cX6_points 32 = .ok (.lmul, 1) := by decide +kernel
theorem dX6_points_33 : decode cX6_points 33 = .ok (.lstore_n 1, 1) := by decide +kernel
theorem dX6_points_34 : decode cX6_points 34 = .ok (.iinc 3 1, 3) := by decide +kernel
theorem dX6_points_37 : decode cX6_points 37 = .ok (.goto (-33), 3) := by decide +kernel
theorem dX6_points_40 : decode cX6_points 40 = .ok (.lload_n 1, 1) := by decide +kernel
theorem dX6_points_41 : decode cX6_points 41 = .ok (.lreturn, 1) := by decide +kernel
theorem dX6_isThere_0 : decode cX6_isThere 0 = .ok (.aload_n 0, 1) := by decide +kernel
theorem dX6_isThere_1 : decode cX6_isThere 1 = .ok (.getfield 22, 3) := by decide +kernel
theorem dX6_isThere_4 : decode cX6_isThere 4 = .ok (.iload_n 2, 1) := by decide +kernel
theorem dX6_isThere_5 : decode cX6_isThere 5 = .ok (.iaload, 1) := by decide +kernel
theorem dX6_isThere_6 : decode cX6_isThere 6 = .ok (.ifCond .lt 45, 3) := by decide +kernel
theorem dX6_isThere_9 : decode cX6_isThere 9 = .ok (.aload_n 0, 1) := by decide +kernel
theorem dX6_isThere_10 : decode cX6_isThere 10 = .ok (.getfield 32, 3) := by decide +kernel
theorem dX6_isThere_13 : decode cX6_isThere 13 = .ok (.iload_n 1, 1) := by decide +kernel
theorem dX6_isThere_14 : decode cX6_isThere 14 = .ok (.aload_n 0, 1) := by decide +kernel
theorem dX6_isThere_15 : decode cX6_isThere 15 = .ok (.getfield 22, 3) := by decide +kernel
theorem dX6_isThere_18 : decode cX6_isThere 18 = .ok (.iload_n 2, 1) := by decide +kernel
theorem dX6_isThere_19 : decode cX6_isThere 19 = .ok (.iaload, 1) := by decide +kernel
theorem dX6_isThere_20 : decode cX6_isThere 20 = .ok (.iadd, 1) := by decide +kernel
theorem dX6_isThere_21 : decode cX6_isThere 21 = .ok (.iaload, 1) := by decide +kernel
theorem dX6_isThere_22 : decode cX6_isThere 22 = .ok (.ifCond .lt 33, 3) := by decide +kernel
theorem dX6_isThere_25 : decode cX6_isThere 25 = .ok (.aload_n 0, 1) := by decide +kernel
theorem dX6_isThere_26 : decode cX6_isThere 26 = .ok (.getfield 25, 3) := by decide +kernel
theorem dX6_isThere_29 : decode cX6_isThere 29 = .ok (.iload_n 2, 1) := by decide +kernel
theorem dX6_isThere_30 : decode cX6_isThere 30 = .ok (.iaload, 1) := by decide +kernel
theorem dX6_isThere_31 : decode cX6_isThere 31 = .ok (.aload_n 0, 1) := by decide +kernel
theorem dX6_isThere_32 : decode cX6_isThere 32 = .ok (.getfield 32, 3) := by decide +kernel
theorem dX6_isThere_35 : decode cX6_isThere 35 = .ok (.iload_n 1, 1) := by decide +kernel
theorem dX6_isThere_36 : decode cX6_isThere 36 = .ok (.aload_n 0, 1) := by decide +kernel
theorem dX6_isThere_37 : decode cX6_isThere 37 = .ok (.getfield 22, 3) := by decide +kernel
theorem dX6_isThere_40 : decode cX6_isThere 40 = .ok (.iload_n 2, 1) := by decide +kernel
theorem dX6_isThere_41 : decode cX6_isThere 41 = .ok (.iaload, 1) := by decide +kernel
theorem dX6_isThere_42 : decode cX6_isThere 42 = .ok (.iadd, 1) := by decide +kernel
theorem dX6_isThere_43 : decode cX6_isThere 43 = .ok (.iaload, 1) := by decide +kernel
theorem dX6_isThere_44 : decode cX6_isThere 44 = .ok (.ishr, 1) := by decide +kernel
theorem dX6_isThere_45 : decode cX6_isThere 45 = .ok (.iconst 1, 1) := by decide +kernel
theorem dX6_isThere_46 : decode cX6_isThere 46 = .ok (.iand, 1) := by decide +kernel
theorem dX6_isThere_47 : decode cX6_isThere 47 = .ok (.iconst 1, 1) := by decide +kernel
theorem dX6_isThere_48 : decode cX6_isThere 48 = .ok (.if_icmp .ne 7, 3) := by decide +kernel
theorem dX6_isThere_51 : decode cX6_isThere 51 = .ok (.iconst 1, 1) := by decide +kernel
theorem dX6_isThere_52 : decode cX6_isThere 52 = .ok (.goto 4, 3) := by decide +kernel
theorem dX6_isThere_55 : decode cX6_isThere 55 = .ok (.iconst 0, 1) := by decide +kernel
theorem dX6_isThere_56 : decode cX6_isThere 56 = .ok (.ireturn, 1) := by decide +kernel
set_option maxRecDepth 20000 in
theorem ggX6_behind_X6_isThere : GoodIn wsX6_behind wsX6_isThere := goodIn_r _ [8, 2, 9, 10, 11, 12, 13, 14, 15, 16, 17, 18, 19, 20, 21, 22, 23, 24, 25, 26, 27, 28, 29, 30, 31, 32, 33, 34, 35, 36, 37, 38, 39, 40, 41] (by decide +kernel) (by decide +kernel)
set_option maxRecDepth 20000 in
theorem gX6_behind_X6_isThere : GoodIn wsX6_behind (wsV RX6 99 RX6 yX6_isThere wsX6_isThere) := goodIn_app (goodIn_of _ (by decide +kernel)) ggX6_behind_X6_isThere
theorem dX6_behind_0 : decode cX6_behind 0 = .ok (.lconst 1, 1) := by decide +kernel
theorem dX6_behind_1 : decode cX6_behind 1 = .ok (.lstore_n 3, 1) := by decide +kernel
theorem dX6_behind_2 : decode cX6_behind 2 = .ok (.iload_n 2, 1) := by decide +kernel
theorem dX6_behind_3 : decode cX6_behind 3 = .ok (.iconst 1, 1) := by decide +kernel
theorem dX6_behind_4 : decode cX6_behind 4 = .ok (.iadd, 1) := by decide +kernel
theorem dX6_behind_5 : decode cX6_behind 5 = .ok (.istore 5, 2) := by decide +kernel
theorem dX6_behind_7 : decode cX6_behind 7 = .ok (.iload 5, 2) := by decide +kernel
theorem dX6_behind_9 : decode cX6_behind 9 = .ok (.aload_n 0, 1) := by decide +kernel
theorem dX6_behind_10 : decode cX6_behind 10 = .ok (.getfield 86, 3) := by decide +kernel
theorem dX6_behind_13 : decode cX6_behind 13 = .ok (.if_icmp .ge 44, 3) := by decide +kernel
theorem dX6_behind_16 : decode cX6_behind 16 = .ok (.lload_n 3, 1) := by decide +kernel
theorem dX6_behind_17 : decode cX6_behind 17 = .ok (.aload_n 0, 1) := by decide +kernel
theorem dX6_behind_18 : decode cX6_behind 18 = .ok (.getfield 22, 3) := by decide +kernel
theorem dX6_behind_21 : decode cX6_behind 21 = .ok (.iload 5, 2) := by decide +kernel
theorem dX6_behind_23 : decode cX6_behind 23 = .ok (.iaload, 1) := by decide +kernel
theorem dX6_behind_24 : decode cX6_behind 24 = .ok (.iload_n 2, 1) := by decide +kernel
theorem dX6_behind_25 : decode cX6_behind 25 = .ok (.if_icmp .gt 23, 3) := by decide +kernel
theorem dX6_behind_28 : decode cX6_behind 28 = .ok (.aload_n 0, 1) := by decide +kernel
theorem dX6_behind_29 : decode cX6_behind 29 = .ok (.iload_n 1, 1) := by decide +kernel
theorem dX6_behind_30 : decode cX6_behind 30 = .ok (.iload 5, 2) := by decide +kernel
theorem dX6_behind_32 : decode cX6_behind 32 = .ok (.invokevirtual 99, 3) := by decide +kernel
theorem dX6_behind_35 : decode cX6_behind 35 = .ok (.ifCond .eq 13, 3) := by decide +kernel
theorem dX6_behind_38 : decode cX6_behind 38 = .ok (.aload_n 0, 1) := by decide +kernel
theorem dX6_behind_39 : decode cX6_behind 39 = .ok (.getfield 28, 3) := by decide +kernel
theorem dX6_behind_42 : decode cX6_behind 42 = .ok (.iload 5, 2) := by decide +kernel
theorem dX6_behind_44 : decode cX6_behind 44 = .ok (.laload, 1) := by decide +kernel
theorem dX6_behind_45 : decode cX6_behind 45 = .ok (.goto 4, 3) := by decide +kernel
theorem dX6_behind_48 : decode cX6_behind 48 = .ok (.lconst 1, 1) := by decide +kernel
theorem dX6_behind_49 : decode cX6_behind 49 = .ok (.lmul, 1) := by decide +kernel
theorem dX6_behind_50 : decode cX6_behind 50 = .ok (.lstore_n 3, 1) := by decide +kernel
theorem dX6_behind_51 : decode cX6_behind 51 = .ok (.iinc 5 1, 3) := by decide +kernel
theorem dX6_behind_54 : decode cX6_behind 54 = .ok (.goto (-47), 3) := by decide +kernel
theorem dX6_behind_57 : decode cX6_behind 57 = .ok (.lload_n 3, 1) := by decide +kernel
theorem dX6_behind_58 : decode cX6_behind 58 = .ok (.lreturn, 1) := by decide +kernel
set_option maxRecDepth 20000 in
theorem ggX6_find_X6_isThere : GoodIn wsX6_find wsX6_isThere := goodIn_r _ [7, 8, 2, 9, 15, 16, 17, 18, 19, 20, 21, 22, 23, 24, 25, 26, 27, 28, 29, 30, 31, 32, 33, 34, 35, 36, 37, 38, 39, 40, 41, 42, 43, 44, 45] (by decide +kernel) (by decide +kernel)
set_option maxRecDepth 20000 in
theorem gX6_find_X6_isThere : GoodIn wsX6_find (wsV RX6 99 RX6 yX6_isThere wsX6_isThere) := goodIn_app (goodIn_of _ (by decide +kernel)) ggX6_find_X6_isThere
set_option maxRecDepth 20000 in
theorem ggX6_find_X6_behind : GoodIn wsX6_find wsX6_behind := goodIn_r _ [13, 1, 8, 14, 3, 4, 5, 6, 7, 2, 9, 15, 16, 17, 18, 19, 20, 21, 22, 23, 24, 25, 26, 27, 28, 29, 30, 31, 32, 33, 34, 35, 36, 37, 38, 39, 40, 41, 42, 43, 44, 45] (by decide +kernel) (by decide +kernel)
set_option maxRecDepth 20000 in
theorem gX6_find_X6_behind : GoodIn wsX6_find (wsV RX6 103 RX6 yX6_behind wsX6_behind) := goodIn_app (goodIn_of _ (by decide +kernel)) ggX6_find_X6_behind
theorem dX6_find_0 : decode cX6_find 0 = .ok (.lload_n 2, 1) := by decide +kernel
theorem dX6_find_1 : decode cX6_find 1 = .ok (.lstore 4, 2) := by decide +kernel
theorem dX6_find_3 : decode cX6_find 3 = .ok (.iconst 0, 1) := by decide +kernel
theorem dX6_find_4 : decode cX6_find 4 = .ok (.istore 6, 2) := by decide +kernel
theorem dX6_find_6 : decode cX6_find 6 = .ok (.iload 6, 2) := by decide +kernel
theorem dX6_find_8 : decode cX6_find 8 = .ok (.aload_n 0, 1) := by decide +kernel
theorem dX6_find_9 : decode cX6_find 9 = .ok (.getfield 86, 3) := by decide +kernel
theorem dX6_find_12 : decode cX6_find 12 = .ok (.if_icmp .ge 92, 3) := by decide +kernel
theorem dX6_find_15 : decode cX6_find 15 = .ok (.aload_n 0, 1) := by decide +kernel
theorem dX6_find_16 : decode cX6_find 16 = .ok (.getfield 32, 3) := by decide +kernel
theorem dX6_find_19 : decode cX6_find 19 = .ok (.iload_n 1, 1) := by decide +kernel
theorem dX6_find_20 : decode cX6_find 20 = .ok (.iload 6, 2) := by decide +kernel
theorem dX6_find_22 : decode cX6_find 22 = .ok (.iadd, 1) := by decide +kernel
theorem dX6_find_23 : decode cX6_find 23 = .ok (.bipush (-2), 2) := by decide +kernel
theorem dX6_find_25 : decode cX6_find 25 = .ok (.iastore, 1) := by decide +kernel
theorem dX6_find_26 : decode cX6_find 26 = .ok (.aload_n 0, 1) := by decide +kernel
theorem dX6_find_27 : decode cX6_find 27 = .ok (.iload_n 1, 1) := by decide +kernel
theorem dX6_find_28 : decode cX6_find 28 = .ok (.iload 6, 2) := by decide +kernel
theorem dX6_find_30 : decode cX6_find 30 = .ok (.invokevirtual 99, 3) := by decide +kernel
theorem dX6_find_33 : decode cX6_find 33 = .ok (.ifCond .ne 6, 3) := by decide +kernel
theorem dX6_find_36 : decode cX6_find 36 = .ok (.goto 62, 3) := by decide +kernel
theorem dX6_find_39 : decode cX6_find 39 = .ok (.aload_n 0, 1) := by decide +kernel
theorem dX6_find_40 : decode cX6_find 40 = .ok (.getfield 32, 3) := by decide +kernel
theorem dX6_find_43 : decode cX6_find 43 = .ok (.iload_n 1, 1) := by decide +kernel
theorem dX6_find_44 : decode cX6_find 44 = .ok (.iload 6, 2) := by decide +kernel
theorem dX6_find_46 : decode cX6_find 46 = .ok (.iadd, 1) := by decide +kernel
theorem dX6_find_47 : decode cX6_find 47 = .ok (.iconst 0, 1) := by decide +kernel
theorem dX6_find_48 : decode cX6_find 48 = .ok (.iastore, 1) := by decide +kernel
theorem dX6_find_49 : decode cX6_find 49 = .ok (.aload_n 0, 1) := by decide +kernel
theorem dX6_find_50 : decode cX6_find 50 = .ok (.iload_n 1, 1) := by decide +kernel
theorem dX6_find_51 : decode cX6_find 51 = .ok (.iload 6, 2) := by decide +kernel
theorem dX6_find_53 : decode cX6_find 53 = .ok (.invokevirtual 103, 3) := by decide +kernel
theorem dX6_find_56 : decode cX6_find 56 = .ok (.lstore 7, 2) := by decide +kernel
theorem dX6_find_58 : decode cX6_find 58 = .ok (.lload 4, 2) := by decide +kernel
theorem dX6_find_60 : decode cX6_find 60 = .ok (.lload 7, 2) := by decide +kernel
theorem dX6_find_62 : decode cX6_find 62 = .ok (.lcmp, 1) := by decide +kernel
theorem dX6_find_63 : decode cX6_find 63 = .ok (.ifCond .lt 35, 3) := by decide +kernel
theorem dX6_find_66 : decode cX6_find 66 = .ok (.lload 4, 2) := by decide +kernel
theorem dX6_find_68 : decode cX6_find 68 = .ok (.lload 7, 2) := by decide +kernel
theorem dX6_find_70 : decode cX6_find 70 = .ok (.lsub, 1) := by decide +kernel
theorem dX6_find_71 : decode cX6_find 71 = .ok (.lstore 4, 2) := by decide +kernel
theorem dX6_find_73 : decode cX6_find 73 = .ok (.aload_n 0, 1) := by decide +kernel
theorem dX6_find_74 : decode cX6_find 74 = .ok (.getfield 32, 3) := by decide +kernel
theorem dX6_find_77 : decode cX6_find 77 = .ok (.iload_n 1, 1) := by decide +kernel
theorem dX6_find_78 : decode cX6_find 78 = .ok (.iload 6, 2) := by decide +kernel
theorem dX6_find_80 : decode cX6_find 80 = .ok (.iadd, 1) := by decide +kernel
theorem dX6_find_81 : decode cX6_find 81 = .ok (.dup2, 1) := by decide +kernel
theorem dX6_find_82 : decode cX6_find 82 = .ok (.iaload, 1) := by decide +kernel
theorem dX6_find_83 : decode cX6_find 83 = .ok (.iconst 1, 1) := by decide +kernel
theorem dX6_find_84 : decode cX6_find 84 = .ok (.iadd, 1) := by decide +kernel
theorem dX6_find_85 : decode cX6_find 85 = .ok (.iastore, 1) := by decide +kernel
theorem dX6_find_86 : decode cX6_find 86 = .ok (.aload_n 0, 1) := by decide +kernel
theorem dX6_find_87 : decode cX6_find 87 = .ok (.iload_n 1, 1) := by decide +kernel
theorem dX6_find_88 : decode cX6_find 88 = .ok (.iload 6, 2) := by decide +kernel
theorem dX6_find_90 : decode cX6_find 90 = .ok (.invokevirtual 103, 3) := by decide +kernel
theorem dX6_find_93 : decode cX6_find 93 = .ok (.lstore 7, 2) := by decide +kernel
theorem dX6_find_95 : decode cX6_find 95 = .ok (.goto (-37), 3) := by decide +kernel
theorem dX6_find_98 : decode cX6_find 98 = .ok (.iinc 6 1, 3) := by decide +kernel
theorem dX6_find_101 : decode cX6_find 101 = .ok (.goto (-95), 3) := by decide +kernel
theorem dX6_find_104 : decode cX6_find 104 = .ok (.return_, 1) := by decide +kernel
set_option maxRecDepth 20000 in
theorem ggX6_noPoint_X6_points : GoodIn wsX6_noPoint wsX6_points := goodIn_r _ [5, 6, 7, 8, 12, 13, 14, 15, 16, 17, 18, 19, 20, 21, 22, 23, 24, 25, 26, 27, 28, 29, 30, 31, 32, 33, 34, 35, 36, 37, 38, 39, 40, 41, 42] (by decide +kernel) (by decide +kernel)
set_option maxRecDepth 20000 in
theorem gX6_noPoint_X6_points : GoodIn wsX6_noPoint (wsV RX6 106 RX6 yX6_points wsX6_points) := goodIn_app (goodIn_of _ (by decide +kernel)) ggX6_noPoint_X6_points
set_option maxRecDepth 20000 in
theorem ggX6_noPoint_X6_in : GoodIn wsX6_noPoint wsX6_in := goodIn_r _ [11] (by decide +kernel) (by decide +kernel)
set_option maxRecDepth 20000 in
theorem gX6_noPoint_X6_in : GoodIn wsX6_noPoint (va_wsS RX6 80 yX6_in wsX6_in) := goodIn_app (goodIn_of _ (by decide +kernel)) ggX6_noPoint_X6_in
theorem dX6_noPoint_0 : decode cX6_noPoint 0 = .ok (.lload_n 1, 1) := by decide +kernel
theorem dX6_noPoint_1 : decode cX6_noPoint 1 = .ok (.lconst 0, 1) := by decide +kernel
theorem dX6_noPoint_2 : decode cX6_noPoint 2 = .ok (.aload_n 0, 1) := by decide +kernel
theorem dX6_noPoint_3 : decode cX6_noPoint 3 = .ok (.invokevirtual 106, 3) := by decide +kernel
theorem dX6_noPoint_6 : decode cX6_noPoint 6 = .ok (.lconst 1, 1) := by decide +kernel
theorem dX6_noPoint_7 : decode cX6_noPoint 7 = .ok (.lsub, 1) := by decide +kernel
theorem dX6_noPoint_8 : decode cX6_noPoint 8 = .ok (.invokestatic 80, 3) := by decide +kernel
theorem dX6_noPoint_11 : decode cX6_noPoint 11 = .ok (.ifCond .ne 7, 3) := by decide +kernel
theorem dX6_noPoint_14 : decode cX6_noPoint 14 = .ok (.iconst 1, 1) := by decide +kernel
theorem dX6_noPoint_15 : decode cX6_noPoint 15 = .ok (.goto 4, 3) := by decide +kernel
theorem dX6_noPoint_18 : decode cX6_noPoint 18 = .ok (.iconst 0, 1) := by decide +kernel
theorem dX6_noPoint_19 : decode cX6_noPoint 19 = .ok (.ireturn, 1) := by decide +kernel
set_option maxRecDepth 20000 in
theorem ggX6_value_X6_noPoint : GoodIn wsX6_value wsX6_noPoint := goodIn_r _ [7, 8, 9, 10, 6, 11, 1, 12, 13, 14, 15, 16, 30, 31, 32, 33, 34, 35, 36, 37, 38, 39, 40, 41, 42, 43, 44, 45, 46, 47, 48, 49, 50, 51, 52, 53, 54, 55, 56, 57, 58, 59, 60] (by decide +kernel) (by decide +kernel)
set_option maxRecDepth 20000 in
theorem gX6_value_X6_noPoint : GoodIn wsX6_value (wsV RX6 110 RX6 yX6_noPoint wsX6_noPoint) := goodIn_app (goodIn_of _ (by decide +kernel)) ggX6_value_X6_noPoint
set_option maxRecDepth 20000 in
theorem ggX6_value_X6_in : GoodIn wsX6_value wsX6_in := goodIn_r _ [16] (by decide +kernel) (by decide +kernel)
set_option maxRecDepth 20000 in
theorem gX6_value_X6_in : GoodIn wsX6_value (va_wsS RX6 80 yX6_in wsX6_in) := goodIn_app (goodIn_of _ (by decide +kernel)) ggX6_value_X6_in
set_option maxRecDepth 20000 in
theorem ggX6_value_X6_find : GoodIn wsX6_value wsX6_find := goodIn_r _ [20, 1, 2, 21, 22, 23, 6, 24, 12, 25, 26, 27, 28, 29, 13, 30, 31, 32, 33, 34, 35, 36, 37, 38, 39, 40, 41, 42, 43, 44, 45, 46, 47, 48, 49, 50, 51, 52, 53, 54, 55, 56, 57, 58, 59, 60] (by decide +kernel) (by decide +kernel)
set_option maxRecDepth 20000 in
theorem gX6_value_X6_find : GoodIn wsX6_value (wsV RX6 114 RX6 yX6_find wsX6_find) := goodIn_app (goodIn_of _ (by decide +kernel)) ggX6_value_X6_find
theorem dX6_value_0 : decode cX6_value 0 = .ok (.aload_n 0, 1) := by decide +kernel
theorem dX6_value_1 : decode cX6_value 1 = .ok (.lload_n 1, 1) := by decide +kernel
theorem dX6_value_2 : decode cX6_value 2 = .ok (.invokevirtual 110, 3) := by decide +kernel
theorem dX6_value_5 : decode cX6_value 5 = .ok (.ifCond .ne 19, 3) := by decide +kernel
theorem dX6_value_8 : decode cX6_value 8 = .ok (.iload_n 3, 1) := by decide +kernel
theorem dX6_value_9 : decode cX6_value 9 = .ok (.i2l, 1) := by decide +kernel
theorem dX6_value_10 : decode cX6_value 10 = .ok (.lconst 0, 1) := by decide +kernel
theorem dX6_value_11 : decode cX6_value 11 = .ok (.aload_n 0, 1) := by decide +kernel
theorem dX6_value_12 : decode cX6_value 12 = .ok (.getfield 86, 3) := by decide +kernel
theorem dX6_value_15 : decode cX6_value 15 = .ok (.iconst 1, 1) := by decide +kernel
theorem dX6_value_16 : decode cX6_value 16 = .ok (.isub, 1) := by decide +kernel
theorem dX6_value_17 : decode cX6_value 17 = .ok (.i2l, 1) := by decide +kernel
theorem dX6_value_18 : decode cX6_value 18 = .ok (.invokestatic 80, 3) := by decide +kernel
theorem dX6_value_21 : decode cX6_value 21 = .ok (.ifCond .ne 5, 3) := by decide +kernel
theorem dX6_value_24 : decode cX6_value 24 = .ok (.iconst (-1), 1) := by decide +kernel
theorem dX6_value_25 : decode cX6_value 25 = .ok (.ireturn, 1) := by decide +kernel
theorem dX6_value_26 : decode cX6_value 26 = .ok (.aload_n 0, 1) := by decide +kernel
theorem dX6_value_27 : decode cX6_value 27 = .ok (.iconst 0, 1) := by decide +kernel
theorem dX6_value_28 : decode cX6_value 28 = .ok (.lload_n 1, 1) := by decide +kernel
theorem dX6_value_29 : decode cX6_value 29 = .ok (.invokevirtual 114, 3) := by decide +kernel
theorem dX6_value_32 : decode cX6_value 32 = .ok (.aload_n 0, 1) := by decide +kernel
theorem dX6_value_33 : decode cX6_value 33 = .ok (.getfield 32, 3) := by decide +kernel
theorem dX6_value_36 : decode cX6_value 36 = .ok (.iload_n 3, 1) := by decide +kernel
theorem dX6_value_37 : decode cX6_value 37 = .ok (.iaload, 1) := by decide +kernel
theorem dX6_value_38 : decode cX6_value 38 = .ok (.ireturn, 1) := by decide +kernel
set_option maxRecDepth 20000 in
theorem ggX6_numberOf_X6_behind : GoodIn wsX6_numberOf wsX6_behind := goodIn_r _ [7, 1, 8, 9, 10, 11, 12, 6, 13, 2, 14, 15, 16, 17, 18, 19, 20, 21, 22, 23, 24, 25, 26, 27, 28, 29, 30, 31, 32, 33, 34, 35, 36, 37, 38, 39, 40, 41, 42, 43, 44, 45] (by decide +kernel) (by decide +kernel)
set_option maxRecDepth 20000 in
theorem gX6_numberOf_X6_behind : GoodIn wsX6_numberOf (wsV RX6 103 RX6 yX6_behind wsX6_behind) := goodIn_app (goodIn_of _ (by decide +kernel)) ggX6_numberOf_X6_behind
theorem dX6_numberOf_0 : decode cX6_numberOf 0 = .ok (.lconst 0, 1) := by decide +kernel
theorem dX6_numberOf_1 : decode cX6_numberOf 1 = .ok (.lstore_n 1, 1) := by decide +kernel
theorem dX6_numberOf_2 : decode cX6_numberOf 2 = .ok (.iconst 0, 1) := by decide +kernel
theorem dX6_numberOf_3 : decode cX6_numberOf 3 = .ok (.istore_n 3, 1) := by decide +kernel
theorem dX6_numberOf_4 : decode cX6_numberOf 4 = .ok (.iload_n 3, 1) := by decide +kernel
theorem dX6_numberOf_5 : decode cX6_numberOf 5 = .ok (.aload_n 0, 1) := by decide +kernel
theorem dX6_numberOf_6 : decode cX6_numberOf 6 = .ok (.getfield 86, 3) := by decide +kernel
theorem dX6_numberOf_9 : decode cX6_numberOf 9 = .ok (.if_icmp .ge 58, 3) := by decide +kernel
theorem dX6_numberOf_12 : decode cX6_numberOf 12 = .ok (.aload_n 0, 1) := by decide +kernel
theorem dX6_numberOf_13 : decode cX6_numberOf 13 = .ok (.getfield 32, 3) := by decide +kernel
theorem dX6_numberOf_16 : decode cX6_numberOf 16 = .ok (.iload_n 3, 1) := by decide +kernel
theorem dX6_numberOf_17 : decode cX6_numberOf 17 = .ok (.iaload, 1) := by decide +kernel
theorem dX6_numberOf_18 : decode cX6_numberOf 18 = .ok (.istore 4, 2) := by decide +kernel
theorem dX6_numberOf_20 : decode cX6_numberOf 20 = .ok (.iconst 0, 1) := by decide +kernel
theorem dX6_numberOf_21 : decode cX6_numberOf 21 = .ok (.istore 5, 2) := by decide +kernel
theorem dX6_numberOf_23 : decode cX6_numberOf 23 = .ok (.iload 5, 2) := by decide +kernel
theorem dX6_numberOf_25 : decode cX6_numberOf 25 = .ok (.iload 4, 2) := by decide +kernel
theorem dX6_numberOf_27 : decode cX6_numberOf 27 = .ok (.if_icmp .ge 26, 3) := by decide +kernel
theorem dX6_numberOf_30 : decode cX6_numberOf 30 = .ok (.aload_n 0, 1) := by decide +kernel
theorem dX6_numberOf_31 : decode cX6_numberOf 31 = .ok (.getfield 32, 3) := by decide +kernel
theorem dX6_numberOf_34 : decode cX6_numberOf 34 = .ok (.iload_n 3, 1) := by decide +kernel
theorem dX6_numberOf_35 : decode cX6_numberOf 35 = .ok (.iload 5, 2) := by decide +kernel
theorem dX6_numberOf_37 : decode cX6_numberOf 37 = .ok (.iastore, 1) := by decide +kernel
theorem dX6_numberOf_38 : decode cX6_numberOf 38 = .ok (.lload_n 1, 1) := by decide +kernel
theorem dX6_numberOf_39 : decode cX6_numberOf 39 = .ok (.aload_n 0, 1) := by decide +kernel
theorem dX6_numberOf_40 : decode cX6_numberOf 40 = .ok (.iconst 0, 1) := by decide +kernel
theorem dX6_numberOf_41 : decode cX6_numberOf 41 = .ok (.iload_n 3, 1) := by decide +kernel
theorem dX6_numberOf_42 : decode cX6_numberOf 42 = .ok (.invokevirtual 103, 3) := by decide +kernel
theorem dX6_numberOf_45 : decode cX6_numberOf 45 = .ok (.ladd, 1) := by decide +kernel
theorem dX6_numberOf_46 : decode cX6_numberOf 46 = .ok (.lstore_n 1, 1) := by decide +kernel
theorem dX6_numberOf_47 : decode cX6_numberOf 47 = .ok (.iinc 5 1, 3) := by decide +kernel
theorem dX6_numberOf_50 : decode cX6_numberOf 50 = .ok (.goto (-27), 3) := by decide +kernel
theorem dX6_numberOf_53 : decode cX6_numberOf 53 = .ok (.aload_n 0, 1) := by decide +kernel
theorem dX6_numberOf_54 : decode cX6_numberOf 54 = .ok (.getfield 32, 3) := by decide +kernel
theorem dX6_numberOf_57 : decode cX6_numberOf 57 = .ok (.iload_n 3, 1) := by decide +kernel
theorem dX6_numberOf_58 : decode cX6_numberOf 58 = .ok (.iload 4, 2) := by decide +kernel
theorem dX6_numberOf_60 : decode cX6_numberOf 60 = .ok (.iastore, 1) := by decide +kernel
theorem dX6_numberOf_61 : decode cX6_numberOf 61 = .ok (.iinc 3 1, 3) := by decide +kernel
theorem dX6_numberOf_64 : decode cX6_numberOf 64 = .ok (.goto (-60), 3) := by decide +kernel
theorem dX6_numberOf_67 : decode cX6_numberOf 67 = .ok (.lload_n 1, 1) := by decide +kernel
theorem dX6_numberOf_68 : decode cX6_numberOf 68 = .ok (.lreturn, 1) := by decide +kernel
set_option maxRecDepth 20000 in
theorem ggX6_number_X6_isThere : GoodIn wsX6_number wsX6_isThere := goodIn_r _ [10, 11, 2, 12, 22, 23, 24, 25, 26, 27, 28, 29, 30, 31, 32, 33, 34, 35, 36, 37, 38, 39, 40, 41, 42, 43, 44, 45, 46, 47, 48, 49, 50, 51, 52] (by decide +kernel) (by decide +kernel)
set_option maxRecDepth 20000 in
theorem gX6_number_X6_isThere : GoodIn wsX6_number (wsV RX6 99 RX6 yX6_isThere wsX6_isThere) := goodIn_app (goodIn_of _ (by decide +kernel)) ggX6_number_X6_isThere
set_option maxRecDepth 20000 in
theorem ggX6_number_X6_numberOf : GoodIn wsX6_number wsX6_numberOf := goodIn_r _ [16, 1, 2, 17, 18, 19, 9, 20, 11, 21, 6, 7, 8, 10, 12, 22, 23, 24, 25, 26, 27, 28, 29, 30, 31, 32, 33, 34, 35, 36, 37, 38, 39, 40, 41, 42, 43, 44, 45, 46, 47, 48, 49, 50, 51, 52] (by decide +kernel) (by decide +kernel)
set_option maxRecDepth 20000 in
theorem gX6_number_X6_numberOf : GoodIn wsX6_number (wsV RX6 122 RX6 yX6_numberOf wsX6_numberOf) := goodIn_app (goodIn_of _ (by decide +kernel)) ggX6_number_X6_numberOf
theorem dX6_number_0 : decode cX6_number 0 = .ok (.iconst 0, 1) := by decide +kernel
theorem dX6_number_1 : decode cX6_number 1 = .ok (.istore_n 3, 1) := by decide +kernel
theorem dX6_number_2 : decode cX6_number 2 = .ok (.iload_n 3, 1) := by decide +kernel
theorem dX6_number_3 : decode cX6_number 3 = .ok (.aload_n 0, 1) := by decide +kernel
theorem dX6_number_4 : decode cX6_number 4 = .ok (.getfield 86, 3) := by decide +kernel
theorem dX6_number_7 : decode cX6_number 7 = .ok (.if_icmp .ge 61, 3) := by decide +kernel
theorem dX6_number_10 : decode cX6_number 10 = .ok (.aload_n 0, 1) := by decide +kernel
theorem dX6_number_11 : decode cX6_number 11 = .ok (.getfield 32, 3) := by decide +kernel
theorem dX6_number_14 : decode cX6_number 14 = .ok (.iload_n 3, 1) := by decide +kernel
theorem dX6_number_15 : decode cX6_number 15 = .ok (.bipush (-2), 2) := by decide +kernel
theorem dX6_number_17 : decode cX6_number 17 = .ok (.iastore, 1) := by decide +kernel
theorem dX6_number_18 : decode cX6_number 18 = .ok (.aload_n 0, 1) := by decide +kernel
theorem dX6_number_19 : decode cX6_number 19 = .ok (.iconst 0, 1) := by decide +kernel
theorem dX6_number_20 : decode cX6_number 20 = .ok (.iload_n 3, 1) := by decide +kernel
theorem dX6_number_21 : decode cX6_number 21 = .ok (.invokevirtual 99, 3) := by decide +kernel
theorem dX6_number_24 : decode cX6_number 24 = .ok (.ifCond .eq 38, 3) := by decide +kernel
theorem dX6_number_27 : decode cX6_number 27 = .ok (.aload_n 0, 1) := by decide +kernel
theorem dX6_number_28 : decode cX6_number 28 = .ok (.getfield 32, 3) := by decide +kernel
theorem dX6_number_31 : decode cX6_number 31 = .ok (.iload_n 3, 1) := by decide +kernel
theorem dX6_number_32 : decode cX6_number 32 = .ok (.lload_n 1, 1) := by decide +kernel
theorem dX6_number_33 : decode cX6_number 33 = .ok (.iconst 5, 1) := by decide +kernel
theorem dX6_number_34 : decode cX6_number 34 = .ok (.iload_n 3, 1) := by decide +kernel
theorem dX6_number_35 : decode cX6_number 35 = .ok (.imul, 1) := by decide +kernel
theorem dX6_number_36 : decode cX6_number 36 = .ok (.lshr, 1) := by decide +kernel
theorem dX6_number_37 : decode cX6_number 37 = .ok (.ldc2_w 118, 3) := by decide +kernel
theorem dX6_number_40 : decode cX6_number 40 = .ok (.land, 1) := by decide +kernel
theorem dX6_number_41 : decode cX6_number 41 = .ok (.l2i, 1) := by decide +kernel
theorem dX6_number_42 : decode cX6_number 42 = .ok (.iastore, 1) := by decide +kernel
theorem dX6_number_43 : decode cX6_number 43 = .ok (.aload_n 0, 1) := by decide +kernel
theorem dX6_number_44 : decode cX6_number 44 = .ok (.getfield 32, 3) := by decide +kernel
theorem dX6_number_47 : decode cX6_number 47 = .ok (.iload_n 3, 1) := by decide +kernel
theorem dX6_number_48 : decode cX6_number 48 = .ok (.iaload, 1) := by decide +kernel
theorem dX6_number_49 : decode cX6_number 49 = .ok (.aload_n 0, 1) := by decide +kernel
theorem dX6_number_50 : decode cX6_number 50 = .ok (.getfield 18, 3) := by decide +kernel
theorem dX6_number_53 : decode cX6_number 53 = .ok (.iload_n 3, 1) := by decide +kernel
theorem dX6_number_54 : decode cX6_number 54 = .ok (.iaload, 1) := by decide +kernel
theorem dX6_number_55 : decode cX6_number 55 = .ok (.if_icmp .lt 7, 3) := by decide +kernel
theorem dX6_number_58 : decode cX6_number 58 = .ok (.ldc2_w 120, 3) := by decide +kernel
theorem dX6_number_61 : decode cX6_number 61 = .ok (.lreturn, 1) := by decide +kernel
theorem dX6_number_62 : decode cX6_number 62 = .ok (.iinc 3 1, 3) := by decide +kernel
theorem dX6_number_65 : decode cX6_number 65 = .ok (.goto (-63), 3) := by decide +kernel
theorem dX6_number_68 : decode cX6_number 68 = .ok (.aload_n 0, 1) := by decide +kernel
theorem dX6_number_69 : decode cX6_number 69 = .ok (.invokevirtual 122, 3) := by decide +kernel
theorem dX6_number_72 : decode cX6_number 72 = .ok (.lreturn, 1) := by decide +kernel
set_option maxRecDepth 20000 in
theorem ggX6_distanceOf_X6_find : GoodIn wsX6_distanceOf wsX6_find := goodIn_r _ [8, 1, 2, 9, 10, 11, 7, 12, 13, 14, 15, 16, 17, 18, 19, 20, 21, 22, 23, 24, 25, 26, 27, 28, 29, 30, 31, 32, 33, 34, 35, 36, 37, 38, 39, 40, 41, 42, 43, 44, 45, 46, 47, 48, 49, 50] (by decide +kernel) (by decide +kernel)
set_option maxRecDepth 20000 in
theorem gX6_distanceOf_X6_find : GoodIn wsX6_distanceOf (wsV RX6 114 RX6 yX6_find wsX6_find) := goodIn_app (goodIn_of _ (by decide +kernel)) ggX6_distanceOf_X6_find
theorem dX6_distanceOf_0 : decode cX6_distanceOf 0 = .ok (.aload_n 0, 1) := by decide +kernel
theorem dX6_distanceOf_1 : decode cX6_distanceOf 1 = .ok (.iconst 0, 1) := by decide +kernel
theorem dX6_distanceOf_2 : decode cX6_distanceOf 2 = .ok (.lload_n 1, 1) := by decide +kernel
theorem dX6_distanceOf_3 : decode cX6_distanceOf 3 = .ok (.invokevirtual 114, 3) := by decide +kernel
theorem dX6_distanceOf_6 : decode cX6_distanceOf 6 = .ok (.aload_n 0, 1) := by decide +kernel
theorem dX6_distanceOf_7 : decode cX6_distanceOf 7 = .ok (.bipush 8, 2) := by decide +kernel
theorem dX6_distanceOf_9 : decode cX6_distanceOf 9 = .ok (.lload_n 3, 1) := by decide +kernel
theorem dX6_distanceOf_10 : decode cX6_distanceOf 10 = .ok (.invokevirtual 114, 3) := by decide +kernel
theorem dX6_distanceOf_13 : decode cX6_distanceOf 13 = .ok (.iconst 0, 1) := by decide +kernel
theorem dX6_distanceOf_14 : decode cX6_distanceOf 14 = .ok (.istore 5, 2) := by decide +kernel
theorem dX6_distanceOf_16 : decode cX6_distanceOf 16 = .ok (.iconst 0, 1) := by decide +kernel
theorem dX6_distanceOf_17 : decode cX6_distanceOf 17 = .ok (.istore 6, 2) := by decide +kernel
theorem dX6_distanceOf_19 : decode cX6_distanceOf 19 = .ok (.iload 6, 2) := by decide +kernel
theorem dX6_distanceOf_21 : decode cX6_distanceOf 21 = .ok (.aload_n 0, 1) := by decide +kernel
theorem dX6_distanceOf_22 : decode cX6_distanceOf 22 = .ok (.getfield 86, 3) := by decide +kernel
theorem dX6_distanceOf_25 : decode cX6_distanceOf 25 = .ok (.if_icmp .ge 99, 3) := by decide +kernel
theorem dX6_distanceOf_28 : decode cX6_distanceOf 28 = .ok (.aload_n 0, 1) := by decide +kernel
theorem dX6_distanceOf_29 : decode cX6_distanceOf 29 = .ok (.getfield 32, 3) := by decide +kernel
theorem dX6_distanceOf_32 : decode cX6_distanceOf 32 = .ok (.iload 6, 2) := by decide +kernel
theorem dX6_distanceOf_34 : decode cX6_distanceOf 34 = .ok (.iaload, 1) := by decide +kernel
theorem dX6_distanceOf_35 : decode cX6_distanceOf 35 = .ok (.istore 7, 2) := by decide +kernel
theorem dX6_distanceOf_37 : decode cX6_distanceOf 37 = .ok (.aload_n 0, 1) := by decide +kernel
theorem dX6_distanceOf_38 : decode cX6_distanceOf 38 = .ok (.getfield 32, 3) := by decide +kernel
theorem dX6_distanceOf_41 : decode cX6_distanceOf 41 = .ok (.bipush 8, 2) := by decide +kernel
theorem dX6_distanceOf_43 : decode cX6_distanceOf 43 = .ok (.iload 6, 2) := by decide +kernel
theorem dX6_distanceOf_45 : decode cX6_distanceOf 45 = .ok (.iadd, 1) := by decide +kernel
theorem dX6_distanceOf_46 : decode cX6_distanceOf 46 = .ok (.iaload, 1) := by decide +kernel
theorem dX6_distanceOf_47 : decode cX6_distanceOf 47 = .ok (.istore 8, 2) := by decide +kernel
theorem dX6_distanceOf_49 : decode cX6_distanceOf 49 = .ok (.iload 7, 2) := by decide +kernel
theorem dX6_distanceOf_51 : decode cX6_distanceOf 51 = .ok (.iload 8, 2) := by decide +kernel
theorem dX6_distanceOf_53 : decode cX6_distanceOf 53 = .ok (.if_icmp .le 11, 3) := by decide +kernel
theorem dX6_distanceOf_56 : decode cX6_distanceOf 56 = .ok (.iload 7, 2) := by decide +kernel
theorem dX6_distanceOf_58 : decode cX6_distanceOf 58 = .ok (.iload 8, 2) := by decide +kernel
theorem dX6_distanceOf_60 : decode cX6_distanceOf 60 = .ok (.isub, 1) := by decide +kernel
theorem dX6_distanceOf_61 : decode cX6_distanceOf 61 = .ok (.goto 8, 3) := by decide +kernel
theorem dX6_distanceOf_64 : decode cX6_distanceOf 64 = .ok (.iload 8, 2) := by decide +kernel
theorem dX6_distanceOf_66 : decode cX6_distanceOf 66 = .ok (.iload 7, 2) := by decide +kernel
theorem dX6_distanceOf_68 : decode cX6_distanceOf 68 = .ok (.isub, 1) := by decide +kernel
theorem dX6_distanceOf_69 : decode cX6_distanceOf 69 = .ok (.istore 9, 2) := by decide +kernel
theorem dX6_distanceOf_71 : decode cX6_distanceOf 71 = .ok (.iload 5, 2) := by decide +kernel
theorem dX6_distanceOf_73 : decode cX6_distanceOf 73 = .ok (.iload 7, 2) := by decide +kernel
theorem dX6_distanceOf_75 : decode cX6_distanceOf 75 = .ok (.ifCond .ge 12, 3) := by decide +kernel
theorem dX6_distanceOf_78 : decode cX6_distanceOf 78 = .ok (.iload 8, 2) := by decide +kernel
theorem dX6_distanceOf_80 : decode cX6_distanceOf 80 = .ok (.ifCond .ge 7, 3) := by decide +kernel
theorem dX6_distanceOf_83 : decode cX6_distanceOf 83 = .ok (.iconst 0, 1) := by decide +kernel
theorem dX6_distanceOf_84 : decode cX6_distanceOf 84 = .ok (.goto 31, 3) := by decide +kernel
theorem dX6_distanceOf_87 : decode cX6_distanceOf 87 = .ok (.iload 7, 2) := by decide +kernel
theorem dX6_distanceOf_89 : decode cX6_distanceOf 89 = .ok (.ifCond .lt 8, 3) := by decide +kernel
theorem dX6_distanceOf_92 : decode cX6_distanceOf 92 = .ok (.iload 8, 2) := by decide +kernel
theorem dX6_distanceOf_94 : decode cX6_distanceOf 94 = .ok (.ifCond .ge 8, 3) := by decide +kernel
theorem dX6_distanceOf_97 : decode cX6_distanceOf 97 = .ok (.bipush 30, 2) := by decide +kernel
theorem dX6_distanceOf_99 : decode cX6_distanceOf 99 = .ok (.goto 16, 3) := by decide +kernel
theorem dX6_distanceOf_102 : decode cX6_distanceOf 102 = .ok (.iload 9, 2) := by decide +kernel
theorem dX6_distanceOf_104 : decode cX6_distanceOf 104 = .ok (.bipush 30, 2) := by decide +kernel
theorem dX6_distanceOf_106 : decode cX6_distanceOf 106 = .ok (.imul, 1) := by decide +kernel
theorem dX6_distanceOf_107 : decode cX6_distanceOf 107 = .ok (.aload_n 0, 1) := by decide +kernel
theorem dX6_distanceOf_108 : decode cX6_distanceOf 108 = .ok (.getfield 18, 3) := by decide +kernel
theorem dX6_distanceOf_111 : decode cX6_distanceOf 111 = .ok (.iload 6, 2) := by decide +kernel
theorem dX6_distanceOf_113 : decode cX6_distanceOf 113 = .ok (.iaload, 1) := by decide +kernel
theorem dX6_distanceOf_114 : decode cX6_distanceOf 114 = .ok (.idiv, 1) := by decide +kernel
theorem dX6_distanceOf_115 : decode cX6_distanceOf 115 = .ok (.iadd, 1) := by decide +kernel
theorem dX6_distanceOf_116 : decode cX6_distanceOf 116 = .ok (.istore 5, 2) := by decide +kernel
theorem dX6_distanceOf_118 : decode cX6_distanceOf 118 = .ok (.iinc 6 1, 3) := by decide +kernel
theorem dX6_distanceOf_121 : decode cX6_distanceOf 121 = .ok (.goto (-102), 3) := by decide +kernel
theorem dX6_distanceOf_124 : decode cX6_distanceOf 124 = .ok (.iload 5, 2) := by decide +kernel
theorem dX6_distanceOf_126 : decode cX6_distanceOf 126 = .ok (.ireturn, 1) := by decide +kernel
set_option maxRecDepth 20000 in
theorem ggX6_distance_X6_noPoint : GoodIn wsX6_distance wsX6_noPoint := goodIn_r _ [5, 6, 7, 8, 4, 9, 10, 11, 12, 13, 14, 15, 35, 36, 37, 38, 39, 40, 41, 42, 43, 44, 45, 46, 47, 48, 49, 50, 51, 52, 53, 54, 55, 56, 57, 58, 59, 60, 61, 62, 63, 64, 65] (by decide +kernel) (by decide +kernel)
set_option maxRecDepth 20000 in
theorem gX6_distance_X6_noPoint : GoodIn wsX6_distance (wsV RX6 110 RX6 yX6_noPoint wsX6_noPoint) := goodIn_app (goodIn_of _ (by decide +kernel)) ggX6_distance_X6_noPoint
set_option maxRecDepth 20000 in
theorem ggX6_distance_X6_distanceOf : GoodIn wsX6_distance wsX6_distanceOf := goodIn_r _ [19, 10, 20, 21, 22, 23, 24, 4, 25, 26, 27, 28, 29, 11, 30, 31, 32, 33, 34, 12, 35, 36, 37, 38, 39, 40, 41, 42, 43, 44, 45, 46, 47, 48, 49, 50, 51, 52, 53, 54, 55, 56, 57, 58, 59, 60, 61, 62, 63, 64, 65] (by decide +kernel) (by decide +kernel)
set_option maxRecDepth 20000 in
theorem gX6_distance_X6_distanceOf : GoodIn wsX6_distance (wsV RX6 125 RX6 yX6_distanceOf wsX6_distanceOf) := goodIn_app (goodIn_of _ (by decide +kernel)) ggX6_distance_X6_distanceOf
theorem dX6_distance_0 : decode cX6_distance 0 = .ok (.aload_n 0, 1) := by decide +kernel
theorem dX6_distance_1 : decode cX6_distance 1 = .ok (.lload_n 1, 1) := by decide +kernel
theorem dX6_distance_2 : decode cX6_distance 2 = .ok (.invokevirtual 110, 3) := by decide +kernel
theorem dX6_distance_5 : decode cX6_distance 5 = .ok (.ifCond .ne 11, 3) := by decide +kernel
theorem dX6_distance_8 : decode cX6_distance 8 = .ok (.aload_n 0, 1) := by decide +kernel
theorem dX6_distance_9 : decode cX6_distance 9 = .ok (.lload_n 3, 1) := by decide +kernel
theorem dX6_distance_10 : decode cX6_distance 10 = .ok (.invokevirtual 110, 3) := by decide +kernel
theorem dX6_distance_13 : decode cX6_distance 13 = .ok (.ifCond .eq 7, 3) := by decide +kernel
theorem dX6_distance_16 : decode cX6_distance 16 = .ok (.iconst (-1), 1) := by decide +kernel
theorem dX6_distance_17 : decode cX6_distance 17 = .ok (.goto 9, 3) := by decide +kernel
theorem dX6_distance_20 : decode cX6_distance 20 = .ok (.aload_n 0, 1) := by decide +kernel
theorem dX6_distance_21 : decode cX6_distance 21 = .ok (.lload_n 1, 1) := by decide +kernel
theorem dX6_distance_22 : decode cX6_distance 22 = .ok (.lload_n 3, 1) := by decide +kernel
theorem dX6_distance_23 : decode cX6_distance 23 = .ok (.invokevirtual 125, 3) := by decide +kernel
theorem dX6_distance_26 : decode cX6_distance 26 = .ok (.ireturn, 1) := by decide +kernel
theorem dX6_add_0 : decode cX6_add 0 = .ok (.aload_n 0, 1) := by decide +kernel
theorem dX6_add_1 : decode cX6_add 1 = .ok (.getfield 35, 3) := by decide +kernel
theorem dX6_add_4 : decode cX6_add 4 = .ok (.aload_n 0, 1) := by decide +kernel
theorem dX6_add_5 : decode cX6_add 5 = .ok (.getfield 92, 3) := by decide +kernel
theorem dX6_add_8 : decode cX6_add 8 = .ok (.lload_n 1, 1) := by decide +kernel
theorem dX6_add_9 : decode cX6_add 9 = .ok (.lastore, 1) := by decide +kernel
theorem dX6_add_10 : decode cX6_add 10 = .ok (.aload_n 0, 1) := by decide +kernel
theorem dX6_add_11 : decode cX6_add 11 = .ok (.getfield 38, 3) := by decide +kernel
theorem dX6_add_14 : decode cX6_add 14 = .ok (.aload_n 0, 1) := by decide +kernel
theorem dX6_add_15 : decode cX6_add 15 = .ok (.getfield 92, 3) := by decide +kernel
theorem dX6_add_18 : decode cX6_add 18 = .ok (.iconst 0, 1) := by decide +kernel
theorem dX6_add_19 : decode cX6_add 19 = .ok (.iastore, 1) := by decide +kernel
theorem dX6_add_20 : decode cX6_add 20 = .ok (.aload_n 0, 1) := by decide +kernel
theorem dX6_add_21 : decode cX6_add 21 = .ok (.getfield 41, 3) := by decide +kernel
theorem dX6_add_24 : decode cX6_add 24 = .ok (.aload_n 0, 1) := by decide +kernel
theorem dX6_add_25 : decode cX6_add 25 = .ok (.getfield 92, 3) := by decide +kernel
theorem dX6_add_28 : decode cX6_add 28 = .ok (.iconst 0, 1) := by decide +kernel
theorem dX6_add_29 : decode cX6_add 29 = .ok (.iastore, 1) := by decide +kernel
theorem dX6_add_30 : decode cX6_add 30 = .ok (.aload_n 0, 1) := by decide +kernel
theorem dX6_add_31 : decode cX6_add 31 = .ok (.getfield 44, 3) := by decide +kernel
theorem dX6_add_34 : decode cX6_add 34 = .ok (.aload_n 0, 1) := by decide +kernel
theorem dX6_add_35 : decode cX6_add 35 = .ok (.getfield 92, 3) := by decide +kernel
theorem dX6_add_38 : decode cX6_add 38 = .ok (.iconst 0, 1) := by decide +kernel
theorem dX6_add_39 : decode cX6_add 39 = .ok (.iastore, 1) := by decide +kernel
theorem dX6_add_40 : decode cX6_add 40 = .ok (.aload_n 0, 1) := by decide +kernel
theorem dX6_add_41 : decode cX6_add 41 = .ok (.dup, 1) := by decide +kernel
theorem dX6_add_42 : decode cX6_add 42 = .ok (.getfield 92, 3) := by decide +kernel
theorem dX6_add_45 : decode cX6_add 45 = .ok (.dup_x1, 1) := by decide +kernel
theorem dX6_add_46 : decode cX6_add 46 = .ok (.iconst 1, 1) := by decide +kernel
theorem dX6_add_47 : decode cX6_add 47 = .ok (.iadd, 1) := by decide +kernel
theorem dX6_add_48 : decode cX6_add 48 = .ok (.putfield 92, 3) := by decide +kernel
theorem dX6_add_51 : decode cX6_add 51 = .ok (.ireturn, 1) := by decide +kernel
set_option maxRecDepth 20000 in
theorem ggX6_trial_X6_in : GoodIn wsX6_trial wsX6_in := goodIn_r _ [9] (by decide +kernel) (by decide +kernel)
set_option maxRecDepth 20000 in
theorem gX6_trial_X6_in : GoodIn wsX6_trial (va_wsS RX6 80 yX6_in wsX6_in) := goodIn_app (goodIn_of _ (by decide +kernel)) ggX6_trial_X6_in
set_option maxRecDepth 20000 in
theorem ggX6_trial_X6_points : GoodIn wsX6_trial wsX6_points := goodIn_r _ [13, 3, 14, 15, 47, 48, 49, 50, 51, 52, 53, 54, 55, 56, 57, 58, 59, 60, 61, 62, 63, 64, 65, 66, 67, 68, 69, 70, 71, 72, 73, 74, 75, 76, 77] (by decide +kernel) (by decide +kernel)
set_option maxRecDepth 20000 in
theorem gX6_trial_X6_points : GoodIn wsX6_trial (wsV RX6 106 RX6 yX6_points wsX6_points) := goodIn_app (goodIn_of _ (by decide +kernel)) ggX6_trial_X6_points
set_option maxRecDepth 20000 in
theorem ggX6_trial_X6_pick : GoodIn wsX6_trial wsX6_pick := goodIn_r _ [18, 19, 20, 21, 8, 22, 23, 24, 25] (by decide +kernel) (by decide +kernel)
set_option maxRecDepth 20000 in
theorem gX6_trial_X6_pick : GoodIn wsX6_trial (va_wsS RX6 131 yX6_pick wsX6_pick) := goodIn_app (goodIn_of _ (by decide +kernel)) ggX6_trial_X6_pick
set_option maxRecDepth 20000 in
theorem ggX6_trial_X6_add : GoodIn wsX6_trial wsX6_add := goodIn_r _ [29, 30, 2, 31, 32, 33, 47, 48, 49, 50, 51, 52, 53, 54, 55, 56, 57, 58, 59, 60, 61, 62, 63, 64, 65, 66, 67, 68, 69, 70, 71, 72, 73, 74, 75, 76, 77] (by decide +kernel) (by decide +kernel)
set_option maxRecDepth 20000 in
theorem gX6_trial_X6_add : GoodIn wsX6_trial (wsV RX6 135 RX6 yX6_add wsX6_add) := goodIn_app (goodIn_of _ (by decide +kernel)) ggX6_trial_X6_add
set_option maxRecDepth 20000 in
theorem ggX6_trial_X6_isThere : GoodIn wsX6_trial wsX6_isThere := goodIn_r _ [37, 14, 4, 38, 47, 48, 49, 50, 51, 52, 53, 54, 55, 56, 57, 58, 59, 60, 61, 62, 63, 64, 65, 66, 67, 68, 69, 70, 71, 72, 73, 74, 75, 76, 77] (by decide +kernel) (by decide +kernel)
set_option maxRecDepth 20000 in
theorem gX6_trial_X6_isThere : GoodIn wsX6_trial (wsV RX6 99 RX6 yX6_isThere wsX6_isThere) := goodIn_app (goodIn_of _ (by decide +kernel)) ggX6_trial_X6_isThere
set_option maxRecDepth 20000 in
theorem ggX6_trial_X6_hash : GoodIn wsX6_trial wsX6_hash := goodIn_r _ [22, 23, 24, 25] (by decide +kernel) (by decide +kernel)
set_option maxRecDepth 20000 in
theorem gX6_trial_X6_hash : GoodIn wsX6_trial (va_wsS RX6 4 yX6_hash wsX6_hash) := goodIn_app (goodIn_of _ (by decide +kernel)) ggX6_trial_X6_hash
set_option maxRecDepth 20000 in
theorem ggX6_trial_X6_numberOf : GoodIn wsX6_trial wsX6_numberOf := goodIn_r _ [42, 3, 4, 43, 44, 45, 8, 46, 14, 15, 34, 35, 36, 37, 38, 47, 48, 49, 50, 51, 52, 53, 54, 55, 56, 57, 58, 59, 60, 61, 62, 63, 64, 65, 66, 67, 68, 69, 70, 71, 72, 73, 74, 75, 76, 77] (by decide +kernel) (by decide +kernel)
set_option maxRecDepth 20000 in
theorem gX6_trial_X6_numberOf : GoodIn wsX6_trial (wsV RX6 122 RX6 yX6_numberOf wsX6_numberOf) := goodIn_app (goodIn_of _ (by decide +kernel)) ggX6_trial_X6_numberOf
theorem dX6_trial_0 : decode cX6_trial 0 = .ok (.iload_n 1, 1) := by decide +kernel
theorem dX6_trial_1 : decode cX6_trial 1 = .ok (.i2l, 1) := by decide +kernel
theorem dX6_trial_2 : decode cX6_trial 2 = .ok (.lconst 0, 1) := by decide +kernel
theorem dX6_trial_3 : decode cX6_trial 3 = .ok (.ldc2_w 129, 3) := by decide +kernel
theorem dX6_trial_6 : decode cX6_trial 6 = .ok (.invokestatic 80, 3) := by decide +kernel
theorem dX6_trial_9 : decode cX6_trial 9 = .ok (.ifCond .eq 11, 3) := by decide +kernel
theorem dX6_trial_12 : decode cX6_trial 12 = .ok (.iload_n 1, 1) := by decide +kernel
theorem dX6_trial_13 : decode cX6_trial 13 = .ok (.ifCond .ne 9, 3) := by decide +kernel
theorem dX6_trial_16 : decode cX6_trial 16 = .ok (.iload_n 2, 1) := by decide +kernel
theorem dX6_trial_17 : decode cX6_trial 17 = .ok (.ifCond .ge 5, 3) := by decide +kernel
theorem dX6_trial_20 : decode cX6_trial 20 = .ok (.iconst (-1), 1) := by decide +kernel
theorem dX6_trial_21 : decode cX6_trial 21 = .ok (.ireturn, 1) := by decide +kernel
theorem dX6_trial_22 : decode cX6_trial 22 = .ok (.aload_n 0, 1) := by decide +kernel
theorem dX6_trial_23 : decode cX6_trial 23 = .ok (.getfield 92, 3) := by decide +kernel
theorem dX6_trial_26 : decode cX6_trial 26 = .ok (.bipush 60, 2) := by decide +kernel
theorem dX6_trial_28 : decode cX6_trial 28 = .ok (.if_icmp .ne 6, 3) := by decide +kernel
theorem dX6_trial_31 : decode cX6_trial 31 = .ok (.bipush (-4), 2) := by decide +kernel
theorem dX6_trial_33 : decode cX6_trial 33 = .ok (.ireturn, 1) := by decide +kernel
theorem dX6_trial_34 : decode cX6_trial 34 = .ok (.iload_n 1, 1) := by decide +kernel
theorem dX6_trial_35 : decode cX6_trial 35 = .ok (.iconst 2, 1) := by decide +kernel
theorem dX6_trial_36 : decode cX6_trial 36 = .ok (.if_icmp .ge 30, 3) := by decide +kernel
theorem dX6_trial_39 : decode cX6_trial 39 = .ok (.aload_n 0, 1) := by decide +kernel
theorem dX6_trial_40 : decode cX6_trial 40 = .ok (.iload_n 1, 1) := by decide +kernel
theorem dX6_trial_41 : decode cX6_trial 41 = .ok (.ifCond .ne 13, 3) := by decide +kernel
theorem dX6_trial_44 : decode cX6_trial 44 = .ok (.iload_n 2, 1) := by decide +kernel
theorem dX6_trial_45 : decode cX6_trial 45 = .ok (.i2l, 1) := by decide +kernel
theorem dX6_trial_46 : decode cX6_trial 46 = .ok (.aload_n 0, 1) := by decide +kernel
theorem dX6_trial_47 : decode cX6_trial 47 = .ok (.invokevirtual 106, 3) := by decide +kernel
theorem dX6_trial_50 : decode cX6_trial 50 = .ok (.lrem, 1) := by decide +kernel
theorem dX6_trial_51 : decode cX6_trial 51 = .ok (.goto 11, 3) := by decide +kernel
theorem dX6_trial_54 : decode cX6_trial 54 = .ok (.iload_n 2, 1) := by decide +kernel
theorem dX6_trial_55 : decode cX6_trial 55 = .ok (.aload_n 0, 1) := by decide +kernel
theorem dX6_trial_56 : decode cX6_trial 56 = .ok (.invokevirtual 106, 3) := by decide +kernel
theorem dX6_trial_59 : decode cX6_trial 59 = .ok (.invokestatic 131, 3) := by decide +kernel
theorem dX6_trial_62 : decode cX6_trial 62 = .ok (.invokevirtual 135, 3) := by decide +kernel
theorem dX6_trial_65 : decode cX6_trial 65 = .ok (.ireturn, 1) := by decide +kernel
theorem dX6_trial_66 : decode cX6_trial 66 = .ok (.iconst 0, 1) := by decide +kernel
theorem dX6_trial_67 : decode cX6_trial 67 = .ok (.istore_n 3, 1) := by decide +kernel
theorem dX6_trial_68 : decode cX6_trial 68 = .ok (.iload_n 3, 1) := by decide +kernel
theorem dX6_trial_69 : decode cX6_trial 69 = .ok (.aload_n 0, 1) := by decide +kernel
theorem dX6_trial_70 : decode cX6_trial 70 = .ok (.getfield 86, 3) := by decide +kernel
theorem dX6_trial_73 : decode cX6_trial 73 = .ok (.if_icmp .ge 48, 3) := by decide +kernel
theorem dX6_trial_76 : decode cX6_trial 76 = .ok (.aload_n 0, 1) := by decide +kernel
theorem dX6_trial_77 : decode cX6_trial 77 = .ok (.getfield 32, 3) := by decide +kernel
theorem dX6_trial_80 : decode cX6_trial 80 = .ok (.iload_n 3, 1) := by decide +kernel
theorem dX6_trial_81 : decode cX6_trial 81 = .ok (.bipush (-2), 2) := by decide +kernel
theorem dX6_trial_83 : decode cX6_trial 83 = .ok (.iastore, 1) := by decide +kernel
theorem dX6_trial_84 : decode cX6_trial 84 = .ok (.aload_n 0, 1) := by decide +kernel
theorem dX6_trial_85 : decode cX6_trial 85 = .ok (.iconst 0, 1) := by decide +kernel
theorem dX6_trial_86 : decode cX6_trial 86 = .ok (.iload_n 3, 1) := by decide +kernel
theorem dX6_trial_87 : decode cX6_trial 87 = .ok (.invokevirtual 99, 3) := by decide +kernel
theorem dX6_trial_90 : decode cX6_trial 90 = .ok (.ifCond .eq 25, 3) := by decide +kernel
theorem dX6_trial_93 : decode cX6_trial 93 = .ok (.aload_n 0, 1) := by decide +kernel
theorem dX6_trial_94 : decode cX6_trial 94 = .ok (.getfield 32, 3) := by decide +kernel
theorem dX6_trial_97 : decode cX6_trial 97 = .ok (.iload_n 3, 1) := by decide +kernel
theorem dX6_trial_98 : decode cX6_trial 98 = .ok (.iload_n 2, 1) := by decide +kernel
theorem dX6_trial_99 : decode cX6_trial 99 = .ok (.iload_n 3, 1) := by decide +kernel
theorem dX6_trial_100 : decode cX6_trial 100 = .ok (.invokestatic 4, 3) := by decide +kernel
theorem dX6_trial_103 : decode cX6_trial 103 = .ok (.aload_n 0, 1) := by decide +kernel
theorem dX6_trial_104 : decode cX6_trial 104 = .ok (.getfield 18, 3) := by decide +kernel
theorem dX6_trial_107 : decode cX6_trial 107 = .ok (.iload_n 3, 1) := by decide +kernel
theorem dX6_trial_108 : decode cX6_trial 108 = .ok (.iaload, 1) := by decide +kernel
theorem dX6_trial_109 : decode cX6_trial 109 = .ok (.i2l, 1) := by decide +kernel
theorem dX6_trial_110 : decode cX6_trial 110 = .ok (.invokestatic 131, 3) := by decide +kernel
theorem dX6_trial_113 : decode cX6_trial 113 = .ok (.l2i, 1) := by decide +kernel
theorem dX6_trial_114 : decode cX6_trial 114 = .ok (.iastore, 1) := by decide +kernel
theorem dX6_trial_115 : decode cX6_trial 115 = .ok (.iinc 3 1, 3) := by decide +kernel
theorem dX6_trial_118 : decode cX6_trial 118 = .ok (.goto (-50), 3) := by decide +kernel
theorem dX6_trial_121 : decode cX6_trial 121 = .ok (.aload_n 0, 1) := by decide +kernel
theorem dX6_trial_122 : decode cX6_trial 122 = .ok (.aload_n 0, 1) := by decide +kernel
theorem dX6_trial_123 : decode cX6_trial 123 = .ok (.invokevirtual 122, 3) := by decide +kernel
theorem dX6_trial_126 : decode cX6_trial 126 = .ok (.invokevirtual 135, 3) := by decide +kernel
theorem dX6_trial_129 : decode cX6_trial 129 = .ok (.ireturn, 1) := by decide +kernel
set_option maxRecDepth 20000 in
theorem ggX6_near_X6_distanceOf : GoodIn wsX6_near wsX6_distanceOf := goodIn_r _ [12, 13, 14, 15, 16, 17, 18, 11, 19, 20, 21, 22, 23, 24, 25, 26, 27, 28, 29, 30, 31, 32, 33, 34, 35, 36, 37, 38, 39, 40, 41, 42, 43, 44, 45, 46, 47, 48, 49, 50, 51, 52, 53, 54, 55, 56, 57, 58, 59, 60, 61] (by decide +kernel) (by decide +kernel)
set_option maxRecDepth 20000 in
theorem gX6_near_X6_distanceOf : GoodIn wsX6_near (wsV RX6 125 RX6 yX6_distanceOf wsX6_distanceOf) := goodIn_app (goodIn_of _ (by decide +kernel)) ggX6_near_X6_distanceOf
theorem dX6_near_0 : decode cX6_near 0 = .ok (.iconst 0, 1) := by decide +kernel
theorem dX6_near_1 : decode cX6_near 1 = .ok (.istore 4, 2) := by decide +kernel
theorem dX6_near_3 : decode cX6_near 3 = .ok (.iload 4, 2) := by decide +kernel
theorem dX6_near_5 : decode cX6_near 5 = .ok (.aload_n 0, 1) := by decide +kernel
theorem dX6_near_6 : decode cX6_near 6 = .ok (.getfield 92, 3) := by decide +kernel
theorem dX6_near_9 : decode cX6_near 9 = .ok (.if_icmp .ge 51, 3) := by decide +kernel
theorem dX6_near_12 : decode cX6_near 12 = .ok (.aload_n 0, 1) := by decide +kernel
theorem dX6_near_13 : decode cX6_near 13 = .ok (.getfield 50, 3) := by decide +kernel
theorem dX6_near_16 : decode cX6_near 16 = .ok (.iload 4, 2) := by decide +kernel
theorem dX6_near_18 : decode cX6_near 18 = .ok (.iconst 0, 1) := by decide +kernel
theorem dX6_near_19 : decode cX6_near 19 = .ok (.bastore, 1) := by decide +kernel
theorem dX6_near_20 : decode cX6_near 20 = .ok (.aload_n 0, 1) := by decide +kernel
theorem dX6_near_21 : decode cX6_near 21 = .ok (.getfield 54, 3) := by decide +kernel
theorem dX6_near_24 : decode cX6_near 24 = .ok (.iload 4, 2) := by decide +kernel
theorem dX6_near_26 : decode cX6_near 26 = .ok (.aload_n 0, 1) := by decide +kernel
theorem dX6_near_27 : decode cX6_near 27 = .ok (.getfield 38, 3) := by decide +kernel
theorem dX6_near_30 : decode cX6_near 30 = .ok (.iload 4, 2) := by decide +kernel
theorem dX6_near_32 : decode cX6_near 32 = .ok (.iaload, 1) := by decide +kernel
theorem dX6_near_33 : decode cX6_near 33 = .ok (.iconst 1, 1) := by decide +kernel
theorem dX6_near_34 : decode cX6_near 34 = .ok (.if_icmp .ne 18, 3) := by decide +kernel
theorem dX6_near_37 : decode cX6_near 37 = .ok (.aload_n 0, 1) := by decide +kernel
theorem dX6_near_38 : decode cX6_near 38 = .ok (.lload_n 1, 1) := by decide +kernel
theorem dX6_near_39 : decode cX6_near 39 = .ok (.aload_n 0, 1) := by decide +kernel
theorem dX6_near_40 : decode cX6_near 40 = .ok (.getfield 35, 3) := by decide +kernel
theorem dX6_near_43 : decode cX6_near 43 = .ok (.iload 4, 2) := by decide +kernel
theorem dX6_near_45 : decode cX6_near 45 = .ok (.laload, 1) := by decide +kernel
theorem dX6_near_46 : decode cX6_near 46 = .ok (.invokevirtual 125, 3) := by decide +kernel
theorem dX6_near_49 : decode cX6_near 49 = .ok (.goto 4, 3) := by decide +kernel
theorem dX6_near_52 : decode cX6_near 52 = .ok (.iconst 0, 1) := by decide +kernel
theorem dX6_near_53 : decode cX6_near 53 = .ok (.iastore, 1) := by decide +kernel
theorem dX6_near_54 : decode cX6_near 54 = .ok (.iinc 4 1, 3) := by decide +kernel
theorem dX6_near_57 : decode cX6_near 57 = .ok (.goto (-54), 3) := by decide +kernel
theorem dX6_near_60 : decode cX6_near 60 = .ok (.aload_n 0, 1) := by decide +kernel
theorem dX6_near_61 : decode cX6_near 61 = .ok (.iconst 0, 1) := by decide +kernel
theorem dX6_near_62 : decode cX6_near 62 = .ok (.putfield 139, 3) := by decide +kernel
theorem dX6_near_65 : decode cX6_near 65 = .ok (.lconst 0, 1) := by decide +kernel
theorem dX6_near_66 : decode cX6_near 66 = .ok (.lstore 4, 2) := by decide +kernel
theorem dX6_near_68 : decode cX6_near 68 = .ok (.iconst 0, 1) := by decide +kernel
theorem dX6_near_69 : decode cX6_near 69 = .ok (.istore 6, 2) := by decide +kernel
theorem dX6_near_71 : decode cX6_near 71 = .ok (.iload 6, 2) := by decide +kernel
theorem dX6_near_73 : decode cX6_near 73 = .ok (.iload_n 3, 1) := by decide +kernel
theorem dX6_near_74 : decode cX6_near 74 = .ok (.if_icmp .ge 119, 3) := by decide +kernel
theorem dX6_near_77 : decode cX6_near 77 = .ok (.bipush (-2), 2) := by decide +kernel
theorem dX6_near_79 : decode cX6_near 79 = .ok (.istore 7, 2) := by decide +kernel
theorem dX6_near_81 : decode cX6_near 81 = .ok (.iconst 0, 1) := by decide +kernel
theorem dX6_near_82 : decode cX6_near 82 = .ok (.istore 8, 2) := by decide +kernel
theorem dX6_near_84 : decode cX6_near 84 = .ok (.iload 8, 2) := by decide +kernel
theorem dX6_near_86 : decode cX6_near 86 = .ok (.aload_n 0, 1) := by decide +kernel
theorem dX6_near_87 : decode cX6_near 87 = .ok (.getfield 92, 3) := by decide +kernel
theorem dX6_near_90 : decode cX6_near 90 = .ok (.if_icmp .ge 61, 3) := by decide +kernel
theorem dX6_near_93 : decode cX6_near 93 = .ok (.aload_n 0, 1) := by decide +kernel
theorem dX6_near_94 : decode cX6_near 94 = .ok (.getfield 38, 3) := by decide +kernel
theorem dX6_near_97 : decode cX6_near 97 = .ok (.iload 8, 2) := by decide +kernel
theorem dX6_near_99 : decode cX6_near 99 = .ok (.iaload, 1) := by decide +kernel
theorem dX6_near_100 : decode cX6_near 100 = .ok (.iconst 1, 1) := by decide +kernel
theorem dX6_near_101 : decode cX6_near 101 = .ok (.if_icmp .ne 40, 3) := by decide +kernel
theorem dX6_near_104 : decode cX6_near 104 = .ok (.aload_n 0, 1) := by decide +kernel
theorem dX6_near_105 : decode cX6_near 105 = .ok (.getfield 50, 3) := by decide +kernel
theorem dX6_near_108 : decode cX6_near 108 = .ok (.iload 8, 2) := by decide +kernel
theorem dX6_near_110 : decode cX6_near 110 = .ok (.baload, 1) := by decide +kernel
theorem dX6_near_111 : decode cX6_near 111 = .ok (.ifCond .ne 30, 3) := by decide +kernel
theorem dX6_near_114 : decode cX6_near 114 = .ok (.iload 7, 2) := by decide +kernel
theorem dX6_near_116 : decode cX6_near 116 = .ok (.ifCond .lt 20, 3) := by decide +kernel
theorem dX6_near_119 : decode cX6_near 119 = .ok (.aload_n 0, 1) := by decide +kernel
theorem dX6_near_120 : decode cX6_near 120 = .ok (.getfield 54, 3) := by decide +kernel
theorem dX6_near_123 : decode cX6_near 123 = .ok (.iload 8, 2) := by decide +kernel
theorem dX6_near_125 : decode cX6_near 125 = .ok (.iaload, 1) := by decide +kernel
theorem dX6_near_126 : decode cX6_near 126 = .ok (.aload_n 0, 1) := by decide +kernel
theorem dX6_near_127 : decode cX6_near 127 = .ok (.getfield 54, 3) := by decide +kernel
theorem dX6_near_130 : decode cX6_near 130 = .ok (.iload 7, 2) := by decide +kernel
theorem dX6_near_132 : decode cX6_near 132 = .ok (.iaload, 1) := by decide +kernel
theorem dX6_near_133 : decode cX6_near 133 = .ok (.if_icmp .ge 8, 3) := by decide +kernel
theorem dX6_near_136 : decode cX6_near 136 = .ok (.iload 8, 2) := by decide +kernel
theorem dX6_near_138 : decode cX6_near 138 = .ok (.goto 5, 3) := by decide +kernel
theorem dX6_near_141 : decode cX6_near 141 = .ok (.iload 7, 2) := by decide +kernel
theorem dX6_near_143 : decode cX6_near 143 = .ok (.istore 7, 2) := by decide +kernel
theorem dX6_near_145 : decode cX6_near 145 = .ok (.iinc 8 1, 3) := by decide +kernel
theorem dX6_near_148 : decode cX6_near 148 = .ok (.goto (-64), 3) := by decide +kernel
theorem dX6_near_151 : decode cX6_near 151 = .ok (.iload 7, 2) := by decide +kernel
theorem dX6_near_153 : decode cX6_near 153 = .ok (.ifCond .lt 34, 3) := by decide +kernel
theorem dX6_near_156 : decode cX6_near 156 = .ok (.aload_n 0, 1) := by decide +kernel
theorem dX6_near_157 : decode cX6_near 157 = .ok (.getfield 50, 3) := by decide +kernel
theorem dX6_near_160 : decode cX6_near 160 = .ok (.iload 7, 2) := by decide +kernel
theorem dX6_near_162 : decode cX6_near 162 = .ok (.iconst 1, 1) := by decide +kernel
theorem dX6_near_163 : decode cX6_near 163 = .ok (.bastore, 1) := by decide +kernel
theorem dX6_near_164 : decode cX6_near 164 = .ok (.aload_n 0, 1) := by decide +kernel
theorem dX6_near_165 : decode cX6_near 165 = .ok (.dup, 1) := by decide +kernel
theorem dX6_near_166 : decode cX6_near 166 = .ok (.getfield 139, 3) := by decide +kernel
theorem dX6_near_169 : decode cX6_near 169 = .ok (.iconst 1, 1) := by decide +kernel
theorem dX6_near_170 : decode cX6_near 170 = .ok (.iadd, 1) := by decide +kernel
theorem dX6_near_171 : decode cX6_near 171 = .ok (.putfield 139, 3) := by decide +kernel
theorem dX6_near_174 : decode cX6_near 174 = .ok (.lload 4, 2) := by decide +kernel
theorem dX6_near_176 : decode cX6_near 176 = .ok (.aload_n 0, 1) := by decide +kernel
theorem dX6_near_177 : decode cX6_near 177 = .ok (.getfield 41, 3) := by decide +kernel
theorem dX6_near_180 : decode cX6_near 180 = .ok (.iload 7, 2) := by decide +kernel
theorem dX6_near_182 : decode cX6_near 182 = .ok (.iaload, 1) := by decide +kernel
theorem dX6_near_183 : decode cX6_near 183 = .ok (.i2l, 1) := by decide +kernel
theorem dX6_near_184 : decode cX6_near 184 = .ok (.ladd, 1) := by decide +kernel
theorem dX6_near_185 : decode cX6_near 185 = .ok (.lstore 4, 2) := by decide +kernel
theorem dX6_near_187 : decode cX6_near 187 = .ok (.iinc 6 1, 3) := by decide +kernel
theorem dX6_near_190 : decode cX6_near 190 = .ok (.goto (-119), 3) := by decide +kernel
theorem dX6_near_193 : decode cX6_near 193 = .ok (.lload 4, 2) := by decide +kernel
theorem dX6_near_195 : decode cX6_near 195 = .ok (.lreturn, 1) := by decide +kernel
set_option maxRecDepth 20000 in
theorem ggX6_guess_X6_in : GoodIn wsX6_guess wsX6_in := goodIn_r _ [8] (by decide +kernel) (by decide +kernel)
set_option maxRecDepth 20000 in
theorem gX6_guess_X6_in : GoodIn wsX6_guess (va_wsS RX6 80 yX6_in wsX6_in) := goodIn_app (goodIn_of _ (by decide +kernel)) ggX6_guess_X6_in
set_option maxRecDepth 20000 in
theorem ggX6_guess_X6_hash : GoodIn wsX6_guess wsX6_hash := goodIn_r _ [11, 12, 13, 14] (by decide +kernel) (by decide +kernel)
set_option maxRecDepth 20000 in
theorem gX6_guess_X6_hash : GoodIn wsX6_guess (va_wsS RX6 4 yX6_hash wsX6_hash) := goodIn_app (goodIn_of _ (by decide +kernel)) ggX6_guess_X6_hash
set_option maxRecDepth 20000 in
theorem ggX6_guess_X6_points : GoodIn wsX6_guess wsX6_points := goodIn_r _ [18, 19, 20, 21, 59, 60, 61, 62, 63, 64, 65, 66, 67, 68, 69, 70, 71, 72, 73, 74, 75, 76, 77, 78, 79, 80, 81, 82, 83, 84, 85, 86, 87, 88, 89] (by decide +kernel) (by decide +kernel)
set_option maxRecDepth 20000 in
theorem gX6_guess_X6_points : GoodIn wsX6_guess (wsV RX6 106 RX6 yX6_points wsX6_points) := goodIn_app (goodIn_of _ (by decide +kernel)) ggX6_guess_X6_points
set_option maxRecDepth 20000 in
theorem ggX6_guess_X6_pick : GoodIn wsX6_guess wsX6_pick := goodIn_r _ [24, 25, 9, 10, 7, 11, 12, 13, 14] (by decide +kernel) (by decide +kernel)
set_option maxRecDepth 20000 in
theorem gX6_guess_X6_pick : GoodIn wsX6_guess (va_wsS RX6 131 yX6_pick wsX6_pick) := goodIn_app (goodIn_of _ (by decide +kernel)) ggX6_guess_X6_pick
set_option maxRecDepth 20000 in
theorem ggX6_guess_X6_near : GoodIn wsX6_guess wsX6_near := goodIn_r _ [29, 3, 30, 31, 32, 33, 4, 34, 35, 36, 37, 7, 38, 19, 39, 40, 41, 42, 43, 44, 45, 46, 47, 48, 20, 49, 50, 51, 52, 53, 21, 59, 60, 61, 62, 63, 64, 65, 66, 67, 68, 69, 70, 71, 72, 73, 74, 75, 76, 77, 78, 79, 80, 81, 82, 83, 84, 85, 86, 87, 88, 89] (by decide +kernel) (by decide +kernel)
set_option maxRecDepth 20000 in
theorem gX6_guess_X6_near : GoodIn wsX6_guess (wsV RX6 146 RX6 yX6_near wsX6_near) := goodIn_app (goodIn_of _ (by decide +kernel)) ggX6_guess_X6_near
set_option maxRecDepth 20000 in
theorem ggX6_guess_X6_add : GoodIn wsX6_guess wsX6_add := goodIn_r _ [57, 33, 3, 32, 34, 58, 59, 60, 61, 62, 63, 64, 65, 66, 67, 68, 69, 70, 71, 72, 73, 74, 75, 76, 77, 78, 79, 80, 81, 82, 83, 84, 85, 86, 87, 88, 89] (by decide +kernel) (by decide +kernel)
set_option maxRecDepth 20000 in
theorem gX6_guess_X6_add : GoodIn wsX6_guess (wsV RX6 135 RX6 yX6_add wsX6_add) := goodIn_app (goodIn_of _ (by decide +kernel)) ggX6_guess_X6_add
theorem dX6_guess_0 : decode cX6_guess 0 = .ok (.iload_n 2, 1) := by decide +kernel
theorem dX6_guess_1 : decode cX6_guess 1 = .ok (.i2l, 1) := by decide +kernel
theorem dX6_guess_2 : decode cX6_guess 2 = .ok (.lconst 1, 1) := by decide +kernel
theorem dX6_guess_3 : decode cX6_guess 3 = .ok (.ldc2_w 142, 3) := by decide +kernel
theorem dX6_guess_6 : decode cX6_guess 6 = .ok (.invokestatic 80, 3) := by decide +kernel
theorem dX6_guess_9 : decode cX6_guess 9 = .ok (.ifCond .eq 15, 3) := by decide +kernel
theorem dX6_guess_12 : decode cX6_guess 12 = .ok (.iload_n 3, 1) := by decide +kernel
theorem dX6_guess_13 : decode cX6_guess 13 = .ok (.i2l, 1) := by decide +kernel
theorem dX6_guess_14 : decode cX6_guess 14 = .ok (.lconst 1, 1) := by decide +kernel
theorem dX6_guess_15 : decode cX6_guess 15 = .ok (.ldc2_w 144, 3) := by decide +kernel
theorem dX6_guess_18 : decode cX6_guess 18 = .ok (.invokestatic 80, 3) := by decide +kernel
theorem dX6_guess_21 : decode cX6_guess 21 = .ok (.ifCond .ne 5, 3) := by decide +kernel
theorem dX6_guess_24 : decode cX6_guess 24 = .ok (.iconst (-1), 1) := by decide +kernel
theorem dX6_guess_25 : decode cX6_guess 25 = .ok (.ireturn, 1) := by decide +kernel
theorem dX6_guess_26 : decode cX6_guess 26 = .ok (.aload_n 0, 1) := by decide +kernel
theorem dX6_guess_27 : decode cX6_guess 27 = .ok (.getfield 92, 3) := by decide +kernel
theorem dX6_guess_30 : decode cX6_guess 30 = .ok (.bipush 60, 2) := by decide +kernel
theorem dX6_guess_32 : decode cX6_guess 32 = .ok (.if_icmp .ne 6, 3) := by decide +kernel
theorem dX6_guess_35 : decode cX6_guess 35 = .ok (.bipush (-4), 2) := by decide +kernel
theorem dX6_guess_37 : decode cX6_guess 37 = .ok (.ireturn, 1) := by decide +kernel
theorem dX6_guess_38 : decode cX6_guess 38 = .ok (.iload_n 1, 1) := by decide +kernel
theorem dX6_guess_39 : decode cX6_guess 39 = .ok (.iconst 0, 1) := by decide +kernel
theorem dX6_guess_40 : decode cX6_guess 40 = .ok (.invokestatic 4, 3) := by decide +kernel
theorem dX6_guess_43 : decode cX6_guess 43 = .ok (.aload_n 0, 1) := by decide +kernel
theorem dX6_guess_44 : decode cX6_guess 44 = .ok (.invokevirtual 106, 3) := by decide +kernel
theorem dX6_guess_47 : decode cX6_guess 47 = .ok (.invokestatic 131, 3) := by decide +kernel
theorem dX6_guess_50 : decode cX6_guess 50 = .ok (.lstore 4, 2) := by decide +kernel
theorem dX6_guess_52 : decode cX6_guess 52 = .ok (.aload_n 0, 1) := by decide +kernel
theorem dX6_guess_53 : decode cX6_guess 53 = .ok (.lload 4, 2) := by decide +kernel
theorem dX6_guess_55 : decode cX6_guess 55 = .ok (.iload_n 3, 1) := by decide +kernel
theorem dX6_guess_56 : decode cX6_guess 56 = .ok (.invokevirtual 146, 3) := by decide +kernel
theorem dX6_guess_59 : decode cX6_guess 59 = .ok (.lstore 6, 2) := by decide +kernel
theorem dX6_guess_61 : decode cX6_guess 61 = .ok (.iconst 1, 1) := by decide +kernel
theorem dX6_guess_62 : decode cX6_guess 62 = .ok (.istore 8, 2) := by decide +kernel
theorem dX6_guess_64 : decode cX6_guess 64 = .ok (.iload 8, 2) := by decide +kernel
theorem dX6_guess_66 : decode cX6_guess 66 = .ok (.iload_n 2, 1) := by decide +kernel
theorem dX6_guess_67 : decode cX6_guess 67 = .ok (.if_icmp .ge 56, 3) := by decide +kernel
theorem dX6_guess_70 : decode cX6_guess 70 = .ok (.aload_n 0, 1) := by decide +kernel
theorem dX6_guess_71 : decode cX6_guess 71 = .ok (.getfield 139, 3) := by decide +kernel
theorem dX6_guess_74 : decode cX6_guess 74 = .ok (.ifCond .le 49, 3) := by decide +kernel
theorem dX6_guess_77 : decode cX6_guess 77 = .ok (.iload_n 1, 1) := by decide +kernel
theorem dX6_guess_78 : decode cX6_guess 78 = .ok (.iload 8, 2) := by decide +kernel
theorem dX6_guess_80 : decode cX6_guess 80 = .ok (.invokestatic 4, 3) := by decide +kernel
theorem dX6_guess_83 : decode cX6_guess 83 = .ok (.aload_n 0, 1) := by decide +kernel
theorem dX6_guess_84 : decode cX6_guess 84 = .ok (.invokevirtual 106, 3) := by decide +kernel
theorem dX6_guess_87 : decode cX6_guess 87 = .ok (.invokestatic 131, 3) := by decide +kernel
theorem dX6_guess_90 : decode cX6_guess 90 = .ok (.lstore 9, 2) := by decide +kernel
theorem dX6_guess_92 : decode cX6_guess 92 = .ok (.aload_n 0, 1) := by decide +kernel
theorem dX6_guess_93 : decode cX6_guess 93 = .ok (.lload 9, 2) := by decide +kernel
theorem dX6_guess_95 : decode cX6_guess 95 = .ok (.iload_n 3, 1) := by decide +kernel
theorem dX6_guess_96 : decode cX6_guess 96 = .ok (.invokevirtual 146, 3) := by decide +kernel
theorem dX6_guess_99 : decode cX6_guess 99 = .ok (.lstore 11, 2) := by decide +kernel
theorem dX6_guess_101 : decode cX6_guess 101 = .ok (.lload 11, 2) := by decide +kernel
theorem dX6_guess_103 : decode cX6_guess 103 = .ok (.lload 6, 2) := by decide +kernel
theorem dX6_guess_105 : decode cX6_guess 105 = .ok (.lcmp, 1) := by decide +kernel
theorem dX6_guess_106 : decode cX6_guess 106 = .ok (.ifCond .le 11, 3) := by decide +kernel
theorem dX6_guess_109 : decode cX6_guess 109 = .ok (.lload 11, 2) := by decide +kernel
theorem dX6_guess_111 : decode cX6_guess 111 = .ok (.lstore 6, 2) := by decide +kernel
theorem dX6_guess_113 : decode cX6_guess 113 = .ok (.lload 9, 2) := by decide +kernel
theorem dX6_guess_115 : decode cX6_guess 115 = .ok (.lstore 4, 2) := by decide +kernel
theorem dX6_guess_117 : decode cX6_guess 117 = .ok (.iinc 8 1, 3) := by decide +kernel
theorem dX6_guess_120 : decode cX6_guess 120 = .ok (.goto (-56), 3) := by decide +kernel
theorem dX6_guess_123 : decode cX6_guess 123 = .ok (.aload_n 0, 1) := by decide +kernel
theorem dX6_guess_124 : decode cX6_guess 124 = .ok (.lload 4, 2) := by decide +kernel
theorem dX6_guess_126 : decode cX6_guess 126 = .ok (.invokevirtual 135, 3) := by decide +kernel
theorem dX6_guess_129 : decode cX6_guess 129 = .ok (.ireturn, 1) := by decide +kernel
theorem dX6_divisor_0 : decode cX6_divisor 0 = .ok (.lload_n 0, 1) := by decide +kernel
theorem dX6_divisor_1 : decode cX6_divisor 1 = .ok (.lconst 0, 1) := by decide +kernel
theorem dX6_divisor_2 : decode cX6_divisor 2 = .ok (.lcmp, 1) := by decide +kernel
theorem dX6_divisor_3 : decode cX6_divisor 3 = .ok (.ifCond .ge 8, 3) := by decide +kernel
theorem dX6_divisor_6 : decode cX6_divisor 6 = .ok (.lload_n 0, 1) := by decide +kernel
theorem dX6_divisor_7 : decode cX6_divisor 7 = .ok (.lneg, 1) := by decide +kernel
theorem dX6_divisor_8 : decode cX6_divisor 8 = .ok (.goto 4, 3) := by decide +kernel
theorem dX6_divisor_11 : decode cX6_divisor 11 = .ok (.lload_n 0, 1) := by decide +kernel
theorem dX6_divisor_12 : decode cX6_divisor 12 = .ok (.lstore 4, 2) := by decide +kernel
theorem dX6_divisor_14 : decode cX6_divisor 14 = .ok (.lload_n 2, 1) := by decide +kernel
theorem dX6_divisor_15 : decode cX6_divisor 15 = .ok (.lstore 6, 2) := by decide +kernel
theorem dX6_divisor_17 : decode cX6_divisor 17 = .ok (.lload 6, 2) := by decide +kernel
theorem dX6_divisor_19 : decode cX6_divisor 19 = .ok (.lconst 0, 1) := by decide +kernel
theorem dX6_divisor_20 : decode cX6_divisor 20 = .ok (.lcmp, 1) := by decide +kernel
theorem dX6_divisor_21 : decode cX6_divisor 21 = .ok (.ifCond .eq 21, 3) := by decide +kernel
theorem dX6_divisor_24 : decode cX6_divisor 24 = .ok (.lload 4, 2) := by decide +kernel
theorem dX6_divisor_26 : decode cX6_divisor 26 = .ok (.lload 6, 2) := by decide +kernel
theorem dX6_divisor_28 : decode cX6_divisor 28 = .ok (.lrem, 1) := by decide +kernel
theorem dX6_divisor_29 : decode cX6_divisor 29 = .ok (.lstore 8, 2) := by decide +kernel
theorem dX6_divisor_31 : decode cX6_divisor 31 = .ok (.lload 6, 2) := by decide +kernel
theorem dX6_divisor_33 : decode cX6_divisor 33 = .ok (.lstore 4, 2) := by decide +kernel
theorem dX6_divisor_35 : decode cX6_divisor 35 = .ok (.lload 8, 2) := by decide +kernel
theorem dX6_divisor_37 : decode cX6_divisor 37 = .ok (.lstore 6, 2) := by decide +kernel
theorem dX6_divisor_39 : decode cX6_divisor 39 = .ok (.goto (-22), 3) := by decide +kernel
theorem dX6_divisor_42 : decode cX6_divisor 42 = .ok (.lload 4, 2) := by decide +kernel
theorem dX6_divisor_44 : decode cX6_divisor 44 = .ok (.lreturn, 1) := by decide +kernel
set_option maxRecDepth 20000 in
theorem ggX6_forecast_X6_noPoint : GoodIn wsX6_forecast wsX6_noPoint := goodIn_r _ [9, 10, 11, 12, 8, 13, 14, 15, 16, 17, 18, 19, 52, 53, 54, 55, 56, 57, 58, 59, 60, 61, 62, 63, 64, 65, 66, 67, 68, 69, 70, 71, 72, 73, 74, 75, 76, 77, 78, 79, 80, 81, 82] (by decide +kernel) (by decide +kernel)
set_option maxRecDepth 20000 in
theorem gX6_forecast_X6_noPoint : GoodIn wsX6_forecast (wsV RX6 110 RX6 yX6_noPoint wsX6_noPoint) := goodIn_app (goodIn_of _ (by decide +kernel)) ggX6_forecast_X6_noPoint
set_option maxRecDepth 20000 in
theorem ggX6_forecast_X6_in : GoodIn wsX6_forecast wsX6_in := goodIn_r _ [19] (by decide +kernel) (by decide +kernel)
set_option maxRecDepth 20000 in
theorem gX6_forecast_X6_in : GoodIn wsX6_forecast (va_wsS RX6 80 yX6_in wsX6_in) := goodIn_app (goodIn_of _ (by decide +kernel)) ggX6_forecast_X6_in
set_option maxRecDepth 20000 in
theorem ggX6_forecast_X6_near : GoodIn wsX6_forecast wsX6_near := goodIn_r _ [23, 24, 25, 26, 27, 28, 3, 29, 30, 31, 32, 8, 33, 14, 34, 35, 36, 37, 38, 39, 40, 41, 42, 43, 15, 44, 45, 46, 47, 48, 16, 52, 53, 54, 55, 56, 57, 58, 59, 60, 61, 62, 63, 64, 65, 66, 67, 68, 69, 70, 71, 72, 73, 74, 75, 76, 77, 78, 79, 80, 81, 82] (by decide +kernel) (by decide +kernel)
set_option maxRecDepth 20000 in
theorem gX6_forecast_X6_near : GoodIn wsX6_forecast (wsV RX6 146 RX6 yX6_near wsX6_near) := goodIn_app (goodIn_of _ (by decide +kernel)) ggX6_forecast_X6_near
set_option maxRecDepth 20000 in
theorem ggX6_forecast_X6_divisor : GoodIn wsX6_forecast wsX6_divisor := goodIn_r _ [51] (by decide +kernel) (by decide +kernel)
set_option maxRecDepth 20000 in
theorem gX6_forecast_X6_divisor : GoodIn wsX6_forecast (va_wsS RX6 154 yX6_divisor wsX6_divisor) := goodIn_app (goodIn_of _ (by decide +kernel)) ggX6_forecast_X6_divisor
theorem dX6_forecast_0 : decode cX6_forecast 0 = .ok (.aload_n 0, 1) := by decide +kernel
theorem dX6_forecast_1 : decode cX6_forecast 1 = .ok (.lload_n 1, 1) := by decide +kernel
theorem dX6_forecast_2 : decode cX6_forecast 2 = .ok (.invokevirtual 110, 3) := by decide +kernel
theorem dX6_forecast_5 : decode cX6_forecast 5 = .ok (.ifCond .ne 26, 3) := by decide +kernel
theorem dX6_forecast_8 : decode cX6_forecast 8 = .ok (.iload_n 3, 1) := by decide +kernel
theorem dX6_forecast_9 : decode cX6_forecast 9 = .ok (.i2l, 1) := by decide +kernel
theorem dX6_forecast_10 : decode cX6_forecast 10 = .ok (.lconst 1, 1) := by decide +kernel
theorem dX6_forecast_11 : decode cX6_forecast 11 = .ok (.ldc2_w 144, 3) := by decide +kernel
theorem dX6_forecast_14 : decode cX6_forecast 14 = .ok (.invokestatic 80, 3) := by decide +kernel
theorem dX6_forecast_17 : decode cX6_forecast 17 = .ok (.ifCond .eq 14, 3) := by decide +kernel
theorem dX6_forecast_20 : decode cX6_forecast 20 = .ok (.iload 4, 2) := by decide +kernel
theorem dX6_forecast_22 : decode cX6_forecast 22 = .ok (.i2l, 1) := by decide +kernel
theorem dX6_forecast_23 : decode cX6_forecast 23 = .ok (.lconst 0, 1) := by decide +kernel
theorem dX6_forecast_24 : decode cX6_forecast 24 = .ok (.lconst 1, 1) := by decide +kernel
theorem dX6_forecast_25 : decode cX6_forecast 25 = .ok (.invokestatic 80, 3) := by decide +kernel
theorem dX6_forecast_28 : decode cX6_forecast 28 = .ok (.ifCond .ne 7, 3) := by decide +kernel
theorem dX6_forecast_31 : decode cX6_forecast 31 = .ok (.ldc2_w 150, 3) := by decide +kernel
theorem dX6_forecast_34 : decode cX6_forecast 34 = .ok (.lreturn, 1) := by decide +kernel
theorem dX6_forecast_35 : decode cX6_forecast 35 = .ok (.aload_n 0, 1) := by decide +kernel
theorem dX6_forecast_36 : decode cX6_forecast 36 = .ok (.lload_n 1, 1) := by decide +kernel
theorem dX6_forecast_37 : decode cX6_forecast 37 = .ok (.iload_n 3, 1) := by decide +kernel
theorem dX6_forecast_38 : decode cX6_forecast 38 = .ok (.invokevirtual 146, 3) := by decide +kernel
theorem dX6_forecast_41 : decode cX6_forecast 41 = .ok (.lstore 5, 2) := by decide +kernel
theorem dX6_forecast_43 : decode cX6_forecast 43 = .ok (.aload_n 0, 1) := by decide +kernel
theorem dX6_forecast_44 : decode cX6_forecast 44 = .ok (.getfield 139, 3) := by decide +kernel
theorem dX6_forecast_47 : decode cX6_forecast 47 = .ok (.ifCond .ne 7, 3) := by decide +kernel
theorem dX6_forecast_50 : decode cX6_forecast 50 = .ok (.ldc2_w 152, 3) := by decide +kernel
theorem dX6_forecast_53 : decode cX6_forecast 53 = .ok (.lreturn, 1) := by decide +kernel
theorem dX6_forecast_54 : decode cX6_forecast 54 = .ok (.lload 5, 2) := by decide +kernel
theorem dX6_forecast_56 : decode cX6_forecast 56 = .ok (.aload_n 0, 1) := by decide +kernel
theorem dX6_forecast_57 : decode cX6_forecast 57 = .ok (.getfield 139, 3) := by decide +kernel
theorem dX6_forecast_60 : decode cX6_forecast 60 = .ok (.i2l, 1) := by decide +kernel
theorem dX6_forecast_61 : decode cX6_forecast 61 = .ok (.invokestatic 154, 3) := by decide +kernel
theorem dX6_forecast_64 : decode cX6_forecast 64 = .ok (.lstore 7, 2) := by decide +kernel
theorem dX6_forecast_66 : decode cX6_forecast 66 = .ok (.iload 4, 2) := by decide +kernel
theorem dX6_forecast_68 : decode cX6_forecast 68 = .ok (.ifCond .ne 11, 3) := by decide +kernel
theorem dX6_forecast_71 : decode cX6_forecast 71 = .ok (.lload 5, 2) := by decide +kernel
theorem dX6_forecast_73 : decode cX6_forecast 73 = .ok (.lload 7, 2) := by decide +kernel
theorem dX6_forecast_75 : decode cX6_forecast 75 = .ok (.ldiv, 1) := by decide +kernel
theorem dX6_forecast_76 : decode cX6_forecast 76 = .ok (.goto 11, 3) := by decide +kernel
theorem dX6_forecast_79 : decode cX6_forecast 79 = .ok (.aload_n 0, 1) := by decide +kernel
theorem dX6_forecast_80 : decode cX6_forecast 80 = .ok (.getfield 139, 3) := by decide +kernel
theorem dX6_forecast_83 : decode cX6_forecast 83 = .ok (.i2l, 1) := by decide +kernel
theorem dX6_forecast_84 : decode cX6_forecast 84 = .ok (.lload 7, 2) := by decide +kernel
theorem dX6_forecast_86 : decode cX6_forecast 86 = .ok (.ldiv, 1) := by decide +kernel
theorem dX6_forecast_87 : decode cX6_forecast 87 = .ok (.lreturn, 1) := by decide +kernel
set_option maxRecDepth 20000 in
theorem ggX6_noTrial_X6_in : GoodIn wsX6_noTrial wsX6_in := goodIn_r _ [5] (by decide +kernel) (by decide +kernel)
set_option maxRecDepth 20000 in
theorem gX6_noTrial_X6_in : GoodIn wsX6_noTrial (va_wsS RX6 80 yX6_in wsX6_in) := goodIn_app (goodIn_of _ (by decide +kernel)) ggX6_noTrial_X6_in
theorem dX6_noTrial_0 : decode cX6_noTrial 0 = .ok (.iload_n 1, 1) := by decide +kernel
theorem dX6_noTrial_1 : decode cX6_noTrial 1 = .ok (.i2l, 1) := by decide +kernel
theorem dX6_noTrial_2 : decode cX6_noTrial 2 = .ok (.lconst 0, 1) := by decide +kernel
theorem dX6_noTrial_3 : decode cX6_noTrial 3 = .ok (.aload_n 0, 1) := by decide +kernel
theorem dX6_noTrial_4 : decode cX6_noTrial 4 = .ok (.getfield 92, 3) := by decide +kernel
theorem dX6_noTrial_7 : decode cX6_noTrial 7 = .ok (.iconst 1, 1) := by decide +kernel
theorem dX6_noTrial_8 : decode cX6_noTrial 8 = .ok (.isub, 1) := by decide +kernel
theorem dX6_noTrial_9 : decode cX6_noTrial 9 = .ok (.i2l, 1) := by decide +kernel
theorem dX6_noTrial_10 : decode cX6_noTrial 10 = .ok (.invokestatic 80, 3) := by decide +kernel
theorem dX6_noTrial_13 : decode cX6_noTrial 13 = .ok (.ifCond .ne 7, 3) := by decide +kernel
theorem dX6_noTrial_16 : decode cX6_noTrial 16 = .ok (.iconst 1, 1) := by decide +kernel
theorem dX6_noTrial_17 : decode cX6_noTrial 17 = .ok (.goto 4, 3) := by decide +kernel
theorem dX6_noTrial_20 : decode cX6_noTrial 20 = .ok (.iconst 0, 1) := by decide +kernel
theorem dX6_noTrial_21 : decode cX6_noTrial 21 = .ok (.ireturn, 1) := by decide +kernel
set_option maxRecDepth 20000 in
theorem ggX6_isScore_X6_in : GoodIn wsX6_isScore wsX6_in := goodIn_r _ [6] (by decide +kernel) (by decide +kernel)
set_option maxRecDepth 20000 in
theorem gX6_isScore_X6_in : GoodIn wsX6_isScore (va_wsS RX6 80 yX6_in wsX6_in) := goodIn_app (goodIn_of _ (by decide +kernel)) ggX6_isScore_X6_in
theorem dX6_isScore_0 : decode cX6_isScore 0 = .ok (.iload_n 0, 1) := by decide +kernel
theorem dX6_isScore_1 : decode cX6_isScore 1 = .ok (.i2l, 1) := by decide +kernel
theorem dX6_isScore_2 : decode cX6_isScore 2 = .ok (.ldc2_w 158, 3) := by decide +kernel
theorem dX6_isScore_5 : decode cX6_isScore 5 = .ok (.ldc2_w 160, 3) := by decide +kernel
theorem dX6_isScore_8 : decode cX6_isScore 8 = .ok (.invokestatic 80, 3) := by decide +kernel
theorem dX6_isScore_11 : decode cX6_isScore 11 = .ok (.ireturn, 1) := by decide +kernel
set_option maxRecDepth 20000 in
theorem ggX6_score_X6_noTrial : GoodIn wsX6_score wsX6_noTrial := goodIn_r _ [8, 3, 9, 10, 7, 11, 17, 18, 19, 20, 21, 22, 23, 24, 25, 26, 27, 28, 29, 30, 31, 32, 33, 34, 35, 36, 37, 38, 39, 40, 41, 42, 43, 44, 45, 46, 47] (by decide +kernel) (by decide +kernel)
set_option maxRecDepth 20000 in
theorem gX6_score_X6_noTrial : GoodIn wsX6_score (wsV RX6 162 RX6 yX6_noTrial wsX6_noTrial) := goodIn_app (goodIn_of _ (by decide +kernel)) ggX6_score_X6_noTrial
set_option maxRecDepth 20000 in
theorem ggX6_score_X6_isScore : GoodIn wsX6_score wsX6_isScore := goodIn_r _ [14, 15, 16, 9, 10, 7, 11] (by decide +kernel) (by decide +kernel)
set_option maxRecDepth 20000 in
theorem gX6_score_X6_isScore : GoodIn wsX6_score (va_wsS RX6 166 yX6_isScore wsX6_isScore) := goodIn_app (goodIn_of _ (by decide +kernel)) ggX6_score_X6_isScore
theorem dX6_score_0 : decode cX6_score 0 = .ok (.aload_n 0, 1) := by decide +kernel
theorem dX6_score_1 : decode cX6_score 1 = .ok (.iload_n 1, 1) := by decide +kernel
theorem dX6_score_2 : decode cX6_score 2 = .ok (.invokevirtual 162, 3) := by decide +kernel
theorem dX6_score_5 : decode cX6_score 5 = .ok (.ifCond .ne 14, 3) := by decide +kernel
theorem dX6_score_8 : decode cX6_score 8 = .ok (.iload_n 3, 1) := by decide +kernel
theorem dX6_score_9 : decode cX6_score 9 = .ok (.ifCond .eq 12, 3) := by decide +kernel
theorem dX6_score_12 : decode cX6_score 12 = .ok (.iload_n 2, 1) := by decide +kernel
theorem dX6_score_13 : decode cX6_score 13 = .ok (.invokestatic 166, 3) := by decide +kernel
theorem dX6_score_16 : decode cX6_score 16 = .ok (.ifCond .ne 5, 3) := by decide +kernel
theorem dX6_score_19 : decode cX6_score 19 = .ok (.iconst (-1), 1) := by decide +kernel
theorem dX6_score_20 : decode cX6_score 20 = .ok (.ireturn, 1) := by decide +kernel
theorem dX6_score_21 : decode cX6_score 21 = .ok (.aload_n 0, 1) := by decide +kernel
theorem dX6_score_22 : decode cX6_score 22 = .ok (.getfield 38, 3) := by decide +kernel
theorem dX6_score_25 : decode cX6_score 25 = .ok (.iload_n 1, 1) := by decide +kernel
theorem dX6_score_26 : decode cX6_score 26 = .ok (.iaload, 1) := by decide +kernel
theorem dX6_score_27 : decode cX6_score 27 = .ok (.ifCond .eq 6, 3) := by decide +kernel
theorem dX6_score_30 : decode cX6_score 30 = .ok (.bipush (-3), 2) := by decide +kernel
theorem dX6_score_32 : decode cX6_score 32 = .ok (.ireturn, 1) := by decide +kernel
theorem dX6_score_33 : decode cX6_score 33 = .ok (.aload_n 0, 1) := by decide +kernel
theorem dX6_score_34 : decode cX6_score 34 = .ok (.getfield 38, 3) := by decide +kernel
theorem dX6_score_37 : decode cX6_score 37 = .ok (.iload_n 1, 1) := by decide +kernel
theorem dX6_score_38 : decode cX6_score 38 = .ok (.iload_n 3, 1) := by decide +kernel
theorem dX6_score_39 : decode cX6_score 39 = .ok (.ifCond .eq 7, 3) := by decide +kernel
theorem dX6_score_42 : decode cX6_score 42 = .ok (.iconst 1, 1) := by decide +kernel
theorem dX6_score_43 : decode cX6_score 43 = .ok (.goto 4, 3) := by decide +kernel
