theorem dX4_init_0 : decode cX4_init 0 = .ok (.aload_n 0, 1) := by decide +kernel
theorem dX4_init_1 : decode cX4_init 1 = .ok (.invokespecial 3, 3) := by decide +kernel
theorem dX4_init_4 : decode cX4_init 4 = .ok (.aload_n 0, 1) := by decide +kernel
theorem dX4_init_5 : decode cX4_init 5 = .ok (.iconst 0, 1) := by decide +kernel
theorem dX4_init_6 : decode cX4_init 6 = .ok (.putfield 9, 3) := by decide +kernel
theorem dX4_init_9 : decode cX4_init 9 = .ok (.aload_n 0, 1) := by decide +kernel
theorem dX4_init_10 : decode cX4_init 10 = .ok (.iconst 0, 1) := by decide +kernel
theorem dX4_init_11 : decode cX4_init 11 = .ok (.putfield 15, 3) := by decide +kernel
theorem dX4_init_14 : decode cX4_init 14 = .ok (.aload_n 0, 1) := by decide +kernel
theorem dX4_init_15 : decode cX4_init 15 = .ok (.bipush 60, 2) := by decide +kernel
theorem dX4_init_17 : decode cX4_init 17 = .ok (.newarray .long, 2) := by decide +kernel
theorem dX4_init_19 : decode cX4_init 19 = .ok (.putfield 18, 3) := by decide +kernel
theorem dX4_init_22 : decode cX4_init 22 = .ok (.aload_n 0, 1) := by decide +kernel
theorem dX4_init_23 : decode cX4_init 23 = .ok (.bipush 60, 2) := by decide +kernel
theorem dX4_init_25 : decode cX4_init 25 = .ok (.newarray .int, 2) := by decide +kernel
theorem dX4_init_27 : decode cX4_init 27 = .ok (.putfield 22, 3) := by decide +kernel
theorem dX4_init_30 : decode cX4_init 30 = .ok (.aload_n 0, 1) := by decide +kernel
theorem dX4_init_31 : decode cX4_init 31 = .ok (.bipush 60, 2) := by decide +kernel
theorem dX4_init_33 : decode cX4_init 33 = .ok (.newarray .int, 2) := by decide +kernel
theorem dX4_init_35 : decode cX4_init 35 = .ok (.putfield 26, 3) := by decide +kernel
theorem dX4_init_38 : decode cX4_init 38 = .ok (.aload_n 0, 1) := by decide +kernel
theorem dX4_init_39 : decode cX4_init 39 = .ok (.bipush 60, 2) := by decide +kernel
theorem dX4_init_41 : decode cX4_init 41 = .ok (.newarray .int, 2) := by decide +kernel
theorem dX4_init_43 : decode cX4_init 43 = .ok (.putfield 29, 3) := by decide +kernel
theorem dX4_init_46 : decode cX4_init 46 = .ok (.aload_n 0, 1) := by decide +kernel
theorem dX4_init_47 : decode cX4_init 47 = .ok (.bipush 60, 2) := by decide +kernel
theorem dX4_init_49 : decode cX4_init 49 = .ok (.bipush 20, 2) := by decide +kernel
theorem dX4_init_51 : decode cX4_init 51 = .ok (.multianewarray 32 2, 4) := by decide +kernel
theorem dX4_init_55 : decode cX4_init 55 = .ok (.putfield 34, 3) := by decide +kernel
theorem dX4_init_58 : decode cX4_init 58 = .ok (.aload_n 0, 1) := by decide +kernel
theorem dX4_init_59 : decode cX4_init 59 = .ok (.aload_n 1, 1) := by decide +kernel
theorem dX4_init_60 : decode cX4_init 60 = .ok (.putfield 37, 3) := by decide +kernel
theorem dX4_init_63 : decode cX4_init 63 = .ok (.aload_n 0, 1) := by decide +kernel
theorem dX4_init_64 : decode cX4_init 64 = .ok (.bipush 60, 2) := by decide +kernel
theorem dX4_init_66 : decode cX4_init 66 = .ok (.bipush 8, 2) := by decide +kernel
theorem dX4_init_68 : decode cX4_init 68 = .ok (.multianewarray 32 2, 4) := by decide +kernel
theorem dX4_init_72 : decode cX4_init 72 = .ok (.putfield 41, 3) := by decide +kernel
theorem dX4_init_75 : decode cX4_init 75 = .ok (.aload_n 0, 1) := by decide +kernel
theorem dX4_init_76 : decode cX4_init 76 = .ok (.iconst 5, 1) := by decide +kernel
theorem dX4_init_77 : decode cX4_init 77 = .ok (.newarray .int, 2) := by decide +kernel
theorem dX4_init_79 : decode cX4_init 79 = .ok (.putfield 44, 3) := by decide +kernel
theorem dX4_init_82 : decode cX4_init 82 = .ok (.aload_n 0, 1) := by decide +kernel
theorem dX4_init_83 : decode cX4_init 83 = .ok (.iconst 5, 1) := by decide +kernel
theorem dX4_init_84 : decode cX4_init 84 = .ok (.newarray .int, 2) := by decide +kernel
theorem dX4_init_86 : decode cX4_init 86 = .ok (.putfield 47, 3) := by decide +kernel
theorem dX4_init_89 : decode cX4_init 89 = .ok (.aload_n 0, 1) := by decide +kernel
theorem dX4_init_90 : decode cX4_init 90 = .ok (.bipush 60, 2) := by decide +kernel
theorem dX4_init_92 : decode cX4_init 92 = .ok (.newarray .int, 2) := by decide +kernel
theorem dX4_init_94 : decode cX4_init 94 = .ok (.putfield 50, 3) := by decide +kernel
theorem dX4_init_97 : decode cX4_init 97 = .ok (.return_, 1) := by decide +kernel
set_option maxRecDepth 20000 in
theorem ggX4_add_X3_read : GoodIn wsX4_add wsX3_read := goodIn_r _ [10, 11, 12, 13, 14, 15, 16, 17, 18, 9, 19, 20, 21, 22, 23, 24, 25, 26, 27, 40, 41, 42, 43, 44, 45, 46, 47, 48] (by decide +kernel) (by decide +kernel)
set_option maxRecDepth 20000 in
theorem gX4_add_X3_read : GoodIn wsX4_add (wsV RX4 53 RX3 yX3_read wsX3_read) := goodIn_app (goodIn_of _ (by decide +kernel)) ggX4_add_X3_read
theorem dX4_add_0 : decode cX4_add 0 = .ok (.aload_n 0, 1) := by decide +kernel
theorem dX4_add_1 : decode cX4_add 1 = .ok (.getfield 9, 3) := by decide +kernel
theorem dX4_add_4 : decode cX4_add 4 = .ok (.istore_n 3, 1) := by decide +kernel
theorem dX4_add_5 : decode cX4_add 5 = .ok (.aload_n 0, 1) := by decide +kernel
theorem dX4_add_6 : decode cX4_add 6 = .ok (.getfield 18, 3) := by decide +kernel
theorem dX4_add_9 : decode cX4_add 9 = .ok (.iload_n 3, 1) := by decide +kernel
theorem dX4_add_10 : decode cX4_add 10 = .ok (.lload_n 1, 1) := by decide +kernel
theorem dX4_add_11 : decode cX4_add 11 = .ok (.lastore, 1) := by decide +kernel
theorem dX4_add_12 : decode cX4_add 12 = .ok (.aload_n 0, 1) := by decide +kernel
theorem dX4_add_13 : decode cX4_add 13 = .ok (.getfield 22, 3) := by decide +kernel
theorem dX4_add_16 : decode cX4_add 16 = .ok (.iload_n 3, 1) := by decide +kernel
theorem dX4_add_17 : decode cX4_add 17 = .ok (.iconst 0, 1) := by decide +kernel
theorem dX4_add_18 : decode cX4_add 18 = .ok (.iastore, 1) := by decide +kernel
theorem dX4_add_19 : decode cX4_add 19 = .ok (.aload_n 0, 1) := by decide +kernel
theorem dX4_add_20 : decode cX4_add 20 = .ok (.getfield 37, 3) := by decide +kernel
theorem dX4_add_23 : decode cX4_add 23 = .ok (.lload_n 1, 1) := by decide +kernel
theorem dX4_add_24 : decode cX4_add 24 = .ok (.aload_n 0, 1) := by decide +kernel
theorem dX4_add_25 : decode cX4_add 25 = .ok (.getfield 41, 3) := by decide +kernel
theorem dX4_add_28 : decode cX4_add 28 = .ok (.iload_n 3, 1) := by decide +kernel
theorem dX4_add_29 : decode cX4_add 29 = .ok (.aaload, 1) := by decide +kernel
theorem dX4_add_30 : decode cX4_add 30 = .ok (.invokevirtual 53, 3) := by decide +kernel
theorem dX4_add_33 : decode cX4_add 33 = .ok (.aload_n 0, 1) := by decide +kernel
theorem dX4_add_34 : decode cX4_add 34 = .ok (.dup, 1) := by decide +kernel
theorem dX4_add_35 : decode cX4_add 35 = .ok (.getfield 9, 3) := by decide +kernel
theorem dX4_add_38 : decode cX4_add 38 = .ok (.iconst 1, 1) := by decide +kernel
theorem dX4_add_39 : decode cX4_add 39 = .ok (.iadd, 1) := by decide +kernel
theorem dX4_add_40 : decode cX4_add 40 = .ok (.putfield 9, 3) := by decide +kernel
theorem dX4_add_43 : decode cX4_add 43 = .ok (.iload_n 3, 1) := by decide +kernel
theorem dX4_add_44 : decode cX4_add 44 = .ok (.ireturn, 1) := by decide +kernel
set_option maxRecDepth 20000 in
theorem ggX4_bestCandidate_X2_hash : GoodIn wsX4_bestCandidate wsX2_hash := goodIn_r _ [7, 8, 9, 10] (by decide +kernel) (by decide +kernel)
set_option maxRecDepth 20000 in
theorem gX4_bestCandidate_X2_hash : GoodIn wsX4_bestCandidate (va_wsS RX4 63 yX2_hash wsX2_hash) := goodIn_app (goodIn_of _ (by decide +kernel)) ggX4_bestCandidate_X2_hash
set_option maxRecDepth 20000 in
theorem ggX4_bestCandidate_X2_pick : GoodIn wsX4_bestCandidate wsX2_pick := goodIn_r _ [13, 14, 15, 16, 6, 17, 18, 19, 20, 21, 22, 5, 7, 8, 9, 10] (by decide +kernel) (by decide +kernel)
set_option maxRecDepth 20000 in
theorem gX4_bestCandidate_X2_pick : GoodIn wsX4_bestCandidate (va_wsS RX4 69 yX2_pick wsX2_pick) := goodIn_app (goodIn_of _ (by decide +kernel)) ggX4_bestCandidate_X2_pick
set_option maxRecDepth 20000 in
theorem ggX4_bestCandidate_X4_nearSum : GoodIn wsX4_bestCandidate wsX4_nearSum := goodIn_r _ [27, 1, 28, 29, 30, 31, 32, 33, 34, 35, 36, 37, 38, 39, 40, 41, 42, 43, 44, 45, 46, 47, 48, 49, 50, 51, 52, 53, 54, 55, 56, 57, 58, 59, 60, 61, 62, 63, 64, 65, 66, 67, 68, 69, 70, 26, 71, 72, 73, 74, 75, 76, 77, 78, 79, 80, 81, 82, 83, 84, 85, 86, 87, 88, 89, 90, 91, 92, 93, 94, 95, 96] (by decide +kernel) (by decide +kernel)
set_option maxRecDepth 20000 in
theorem gX4_bestCandidate_X4_nearSum : GoodIn wsX4_bestCandidate (wsV RX4 73 RX4 yX4_nearSum wsX4_nearSum) := goodIn_app (goodIn_of _ (by decide +kernel)) ggX4_bestCandidate_X4_nearSum
theorem dX4_bestCandidate_0 : decode cX4_bestCandidate 0 = .ok (.aload_n 0, 1) := by decide +kernel
theorem dX4_bestCandidate_1 : decode cX4_bestCandidate 1 = .ok (.getfield 37, 3) := by decide +kernel
theorem dX4_bestCandidate_4 : decode cX4_bestCandidate 4 = .ok (.getfield 59, 3) := by decide +kernel
theorem dX4_bestCandidate_7 : decode cX4_bestCandidate 7 = .ok (.iload_n 1, 1) := by decide +kernel
theorem dX4_bestCandidate_8 : decode cX4_bestCandidate 8 = .ok (.iconst 0, 1) := by decide +kernel
theorem dX4_bestCandidate_9 : decode cX4_bestCandidate 9 = .ok (.invokestatic 63, 3) := by decide +kernel
theorem dX4_bestCandidate_12 : decode cX4_bestCandidate 12 = .ok (.invokestatic 69, 3) := by decide +kernel
theorem dX4_bestCandidate_15 : decode cX4_bestCandidate 15 = .ok (.lstore 4, 2) := by decide +kernel
theorem dX4_bestCandidate_17 : decode cX4_bestCandidate 17 = .ok (.aload_n 0, 1) := by decide +kernel
theorem dX4_bestCandidate_18 : decode cX4_bestCandidate 18 = .ok (.getfield 15, 3) := by decide +kernel
theorem dX4_bestCandidate_21 : decode cX4_bestCandidate 21 = .ok (.ifCond .ne 6, 3) := by decide +kernel
theorem dX4_bestCandidate_24 : decode cX4_bestCandidate 24 = .ok (.lload 4, 2) := by decide +kernel
theorem dX4_bestCandidate_26 : decode cX4_bestCandidate 26 = .ok (.lreturn, 1) := by decide +kernel
theorem dX4_bestCandidate_27 : decode cX4_bestCandidate 27 = .ok (.aload_n 0, 1) := by decide +kernel
theorem dX4_bestCandidate_28 : decode cX4_bestCandidate 28 = .ok (.lload 4, 2) := by decide +kernel
theorem dX4_bestCandidate_30 : decode cX4_bestCandidate 30 = .ok (.iload_n 3, 1) := by decide +kernel
theorem dX4_bestCandidate_31 : decode cX4_bestCandidate 31 = .ok (.invokevirtual 73, 3) := by decide +kernel
theorem dX4_bestCandidate_34 : decode cX4_bestCandidate 34 = .ok (.lstore 6, 2) := by decide +kernel
theorem dX4_bestCandidate_36 : decode cX4_bestCandidate 36 = .ok (.iconst 1, 1) := by decide +kernel
theorem dX4_bestCandidate_37 : decode cX4_bestCandidate 37 = .ok (.istore 8, 2) := by decide +kernel
theorem dX4_bestCandidate_39 : decode cX4_bestCandidate 39 = .ok (.iload 8, 2) := by decide +kernel
theorem dX4_bestCandidate_41 : decode cX4_bestCandidate 41 = .ok (.iload_n 2, 1) := by decide +kernel
theorem dX4_bestCandidate_42 : decode cX4_bestCandidate 42 = .ok (.if_icmp .ge 52, 3) := by decide +kernel
theorem dX4_bestCandidate_45 : decode cX4_bestCandidate 45 = .ok (.aload_n 0, 1) := by decide +kernel
theorem dX4_bestCandidate_46 : decode cX4_bestCandidate 46 = .ok (.getfield 37, 3) := by decide +kernel
theorem dX4_bestCandidate_49 : decode cX4_bestCandidate 49 = .ok (.getfield 59, 3) := by decide +kernel
theorem dX4_bestCandidate_52 : decode cX4_bestCandidate 52 = .ok (.iload_n 1, 1) := by decide +kernel
theorem dX4_bestCandidate_53 : decode cX4_bestCandidate 53 = .ok (.iload 8, 2) := by decide +kernel
theorem dX4_bestCandidate_55 : decode cX4_bestCandidate 55 = .ok (.invokestatic 63, 3) := by decide +kernel
theorem dX4_bestCandidate_58 : decode cX4_bestCandidate 58 = .ok (.invokestatic 69, 3) := by decide +kernel
theorem dX4_bestCandidate_61 : decode cX4_bestCandidate 61 = .ok (.lstore 9, 2) := by decide +kernel
theorem dX4_bestCandidate_63 : decode cX4_bestCandidate 63 = .ok (.aload_n 0, 1) := by decide +kernel
theorem dX4_bestCandidate_64 : decode cX4_bestCandidate 64 = .ok (.lload 9, 2) := by decide +kernel
theorem dX4_bestCandidate_66 : decode cX4_bestCandidate 66 = .ok (.iload_n 3, 1) := by decide +kernel
theorem dX4_bestCandidate_67 : decode cX4_bestCandidate 67 = .ok (.invokevirtual 73, 3) := by decide +kernel
theorem dX4_bestCandidate_70 : decode cX4_bestCandidate 70 = .ok (.lstore 11, 2) := by decide +kernel
theorem dX4_bestCandidate_72 : decode cX4_bestCandidate 72 = .ok (.lload 11, 2) := by decide +kernel
theorem dX4_bestCandidate_74 : decode cX4_bestCandidate 74 = .ok (.lload 6, 2) := by decide +kernel
theorem dX4_bestCandidate_76 : decode cX4_bestCandidate 76 = .ok (.lcmp, 1) := by decide +kernel
theorem dX4_bestCandidate_77 : decode cX4_bestCandidate 77 = .ok (.ifCond .le 11, 3) := by decide +kernel
theorem dX4_bestCandidate_80 : decode cX4_bestCandidate 80 = .ok (.lload 9, 2) := by decide +kernel
theorem dX4_bestCandidate_82 : decode cX4_bestCandidate 82 = .ok (.lstore 4, 2) := by decide +kernel
theorem dX4_bestCandidate_84 : decode cX4_bestCandidate 84 = .ok (.lload 11, 2) := by decide +kernel
theorem dX4_bestCandidate_86 : decode cX4_bestCandidate 86 = .ok (.lstore 6, 2) := by decide +kernel
theorem dX4_bestCandidate_88 : decode cX4_bestCandidate 88 = .ok (.iinc 8 1, 3) := by decide +kernel
theorem dX4_bestCandidate_91 : decode cX4_bestCandidate 91 = .ok (.goto (-52), 3) := by decide +kernel
theorem dX4_bestCandidate_94 : decode cX4_bestCandidate 94 = .ok (.lload 4, 2) := by decide +kernel
theorem dX4_bestCandidate_96 : decode cX4_bestCandidate 96 = .ok (.lreturn, 1) := by decide +kernel
set_option maxRecDepth 20000 in
theorem ggX4_nearSum_X3_read : GoodIn wsX4_nearSum wsX3_read := goodIn_r _ [12, 13, 14, 15, 16, 17, 18, 19, 20, 11, 21, 22, 23, 24, 25, 26, 27, 28, 29, 63, 64, 65, 66, 67, 68, 69, 70, 71] (by decide +kernel) (by decide +kernel)
set_option maxRecDepth 20000 in
theorem gX4_nearSum_X3_read : GoodIn wsX4_nearSum (wsV RX4 53 RX3 yX3_read wsX3_read) := goodIn_app (goodIn_of _ (by decide +kernel)) ggX4_nearSum_X3_read
set_option maxRecDepth 20000 in
theorem ggX4_nearSum_X3_apart : GoodIn wsX4_nearSum wsX3_apart := goodIn_r _ [33, 14, 34, 35, 36, 11, 37, 38, 39, 40, 41, 16, 27, 28, 29, 63, 64, 65, 66, 67, 68, 69, 70, 71] (by decide +kernel) (by decide +kernel)
set_option maxRecDepth 20000 in
theorem gX4_nearSum_X3_apart : GoodIn wsX4_nearSum (wsV RX4 79 RX3 yX3_apart wsX3_apart) := goodIn_app (goodIn_of _ (by decide +kernel)) ggX4_nearSum_X3_apart
set_option maxRecDepth 20000 in
theorem ggX4_nearSum_X4_holdNear : GoodIn wsX4_nearSum wsX4_holdNear := goodIn_r _ [46, 47, 48, 49, 40, 50, 7, 51, 52, 53, 54, 55, 56, 57, 58, 59, 60, 61, 62] (by decide +kernel) (by decide +kernel)
set_option maxRecDepth 20000 in
theorem gX4_nearSum_X4_holdNear : GoodIn wsX4_nearSum (wsV RX4 83 RX4 yX4_holdNear wsX4_holdNear) := goodIn_app (goodIn_of _ (by decide +kernel)) ggX4_nearSum_X4_holdNear
theorem dX4_nearSum_0 : decode cX4_nearSum 0 = .ok (.aload_n 0, 1) := by decide +kernel
theorem dX4_nearSum_1 : decode cX4_nearSum 1 = .ok (.getfield 37, 3) := by decide +kernel
theorem dX4_nearSum_4 : decode cX4_nearSum 4 = .ok (.lload_n 1, 1) := by decide +kernel
theorem dX4_nearSum_5 : decode cX4_nearSum 5 = .ok (.aload_n 0, 1) := by decide +kernel
theorem dX4_nearSum_6 : decode cX4_nearSum 6 = .ok (.getfield 37, 3) := by decide +kernel
theorem dX4_nearSum_9 : decode cX4_nearSum 9 = .ok (.getfield 76, 3) := by decide +kernel
theorem dX4_nearSum_12 : decode cX4_nearSum 12 = .ok (.invokevirtual 53, 3) := by decide +kernel
theorem dX4_nearSum_15 : decode cX4_nearSum 15 = .ok (.iconst 0, 1) := by decide +kernel
theorem dX4_nearSum_16 : decode cX4_nearSum 16 = .ok (.istore 4, 2) := by decide +kernel
theorem dX4_nearSum_18 : decode cX4_nearSum 18 = .ok (.iconst 0, 1) := by decide +kernel
theorem dX4_nearSum_19 : decode cX4_nearSum 19 = .ok (.istore 5, 2) := by decide +kernel
theorem dX4_nearSum_21 : decode cX4_nearSum 21 = .ok (.iload 5, 2) := by decide +kernel
theorem dX4_nearSum_23 : decode cX4_nearSum 23 = .ok (.aload_n 0, 1) := by decide +kernel
theorem dX4_nearSum_24 : decode cX4_nearSum 24 = .ok (.getfield 9, 3) := by decide +kernel
theorem dX4_nearSum_27 : decode cX4_nearSum 27 = .ok (.if_icmp .ge 57, 3) := by decide +kernel
theorem dX4_nearSum_30 : decode cX4_nearSum 30 = .ok (.aload_n 0, 1) := by decide +kernel
theorem dX4_nearSum_31 : decode cX4_nearSum 31 = .ok (.getfield 22, 3) := by decide +kernel
theorem dX4_nearSum_34 : decode cX4_nearSum 34 = .ok (.iload 5, 2) := by decide +kernel
theorem dX4_nearSum_36 : decode cX4_nearSum 36 = .ok (.iaload, 1) := by decide +kernel
theorem dX4_nearSum_37 : decode cX4_nearSum 37 = .ok (.iconst 1, 1) := by decide +kernel
theorem dX4_nearSum_38 : decode cX4_nearSum 38 = .ok (.if_icmp .ne 40, 3) := by decide +kernel
theorem dX4_nearSum_41 : decode cX4_nearSum 41 = .ok (.aload_n 0, 1) := by decide +kernel
theorem dX4_nearSum_42 : decode cX4_nearSum 42 = .ok (.aload_n 0, 1) := by decide +kernel
theorem dX4_nearSum_43 : decode cX4_nearSum 43 = .ok (.getfield 37, 3) := by decide +kernel
theorem dX4_nearSum_46 : decode cX4_nearSum 46 = .ok (.aload_n 0, 1) := by decide +kernel
theorem dX4_nearSum_47 : decode cX4_nearSum 47 = .ok (.getfield 37, 3) := by decide +kernel
theorem dX4_nearSum_50 : decode cX4_nearSum 50 = .ok (.getfield 76, 3) := by decide +kernel
theorem dX4_nearSum_53 : decode cX4_nearSum 53 = .ok (.aload_n 0, 1) := by decide +kernel
theorem dX4_nearSum_54 : decode cX4_nearSum 54 = .ok (.getfield 41, 3) := by decide +kernel
theorem dX4_nearSum_57 : decode cX4_nearSum 57 = .ok (.iload 5, 2) := by decide +kernel
theorem dX4_nearSum_59 : decode cX4_nearSum 59 = .ok (.aaload, 1) := by decide +kernel
theorem dX4_nearSum_60 : decode cX4_nearSum 60 = .ok (.invokevirtual 79, 3) := by decide +kernel
theorem dX4_nearSum_63 : decode cX4_nearSum 63 = .ok (.aload_n 0, 1) := by decide +kernel
theorem dX4_nearSum_64 : decode cX4_nearSum 64 = .ok (.getfield 26, 3) := by decide +kernel
theorem dX4_nearSum_67 : decode cX4_nearSum 67 = .ok (.iload 5, 2) := by decide +kernel
theorem dX4_nearSum_69 : decode cX4_nearSum 69 = .ok (.iaload, 1) := by decide +kernel
theorem dX4_nearSum_70 : decode cX4_nearSum 70 = .ok (.iload 4, 2) := by decide +kernel
theorem dX4_nearSum_72 : decode cX4_nearSum 72 = .ok (.iload_n 3, 1) := by decide +kernel
theorem dX4_nearSum_73 : decode cX4_nearSum 73 = .ok (.invokevirtual 83, 3) := by decide +kernel
theorem dX4_nearSum_76 : decode cX4_nearSum 76 = .ok (.istore 4, 2) := by decide +kernel
theorem dX4_nearSum_78 : decode cX4_nearSum 78 = .ok (.iinc 5 1, 3) := by decide +kernel
theorem dX4_nearSum_81 : decode cX4_nearSum 81 = .ok (.goto (-60), 3) := by decide +kernel
theorem dX4_nearSum_84 : decode cX4_nearSum 84 = .ok (.lconst 0, 1) := by decide +kernel
theorem dX4_nearSum_85 : decode cX4_nearSum 85 = .ok (.lstore 5, 2) := by decide +kernel
theorem dX4_nearSum_87 : decode cX4_nearSum 87 = .ok (.iconst 0, 1) := by decide +kernel
theorem dX4_nearSum_88 : decode cX4_nearSum 88 = .ok (.istore 7, 2) := by decide +kernel
theorem dX4_nearSum_90 : decode cX4_nearSum 90 = .ok (.iload 7, 2) := by decide +kernel
theorem dX4_nearSum_92 : decode cX4_nearSum 92 = .ok (.iload 4, 2) := by decide +kernel
theorem dX4_nearSum_94 : decode cX4_nearSum 94 = .ok (.if_icmp .ge 22, 3) := by decide +kernel
theorem dX4_nearSum_97 : decode cX4_nearSum 97 = .ok (.lload 5, 2) := by decide +kernel
theorem dX4_nearSum_99 : decode cX4_nearSum 99 = .ok (.aload_n 0, 1) := by decide +kernel
theorem dX4_nearSum_100 : decode cX4_nearSum 100 = .ok (.getfield 47, 3) := by decide +kernel
theorem dX4_nearSum_103 : decode cX4_nearSum 103 = .ok (.iload 7, 2) := by decide +kernel
theorem dX4_nearSum_105 : decode cX4_nearSum 105 = .ok (.iaload, 1) := by decide +kernel
theorem dX4_nearSum_106 : decode cX4_nearSum 106 = .ok (.i2l, 1) := by decide +kernel
theorem dX4_nearSum_107 : decode cX4_nearSum 107 = .ok (.ladd, 1) := by decide +kernel
theorem dX4_nearSum_108 : decode cX4_nearSum 108 = .ok (.lstore 5, 2) := by decide +kernel
theorem dX4_nearSum_110 : decode cX4_nearSum 110 = .ok (.iinc 7 1, 3) := by decide +kernel
theorem dX4_nearSum_113 : decode cX4_nearSum 113 = .ok (.goto (-23), 3) := by decide +kernel
theorem dX4_nearSum_116 : decode cX4_nearSum 116 = .ok (.lload 5, 2) := by decide +kernel
theorem dX4_nearSum_118 : decode cX4_nearSum 118 = .ok (.lreturn, 1) := by decide +kernel
theorem dX4_holdNear_0 : decode cX4_holdNear 0 = .ok (.iload_n 3, 1) := by decide +kernel
theorem dX4_holdNear_1 : decode cX4_holdNear 1 = .ok (.istore 5, 2) := by decide +kernel
theorem dX4_holdNear_3 : decode cX4_holdNear 3 = .ok (.iload 5, 2) := by decide +kernel
theorem dX4_holdNear_5 : decode cX4_holdNear 5 = .ok (.ifCond .le 22, 3) := by decide +kernel
theorem dX4_holdNear_8 : decode cX4_holdNear 8 = .ok (.aload_n 0, 1) := by decide +kernel
theorem dX4_holdNear_9 : decode cX4_holdNear 9 = .ok (.getfield 44, 3) := by decide +kernel
theorem dX4_holdNear_12 : decode cX4_holdNear 12 = .ok (.iload 5, 2) := by decide +kernel
theorem dX4_holdNear_14 : decode cX4_holdNear 14 = .ok (.iconst 1, 1) := by decide +kernel
theorem dX4_holdNear_15 : decode cX4_holdNear 15 = .ok (.isub, 1) := by decide +kernel
theorem dX4_holdNear_16 : decode cX4_holdNear 16 = .ok (.iaload, 1) := by decide +kernel
theorem dX4_holdNear_17 : decode cX4_holdNear 17 = .ok (.iload_n 1, 1) := by decide +kernel
theorem dX4_holdNear_18 : decode cX4_holdNear 18 = .ok (.if_icmp .le 9, 3) := by decide +kernel
theorem dX4_holdNear_21 : decode cX4_holdNear 21 = .ok (.iinc 5 (-1), 3) := by decide +kernel
theorem dX4_holdNear_24 : decode cX4_holdNear 24 = .ok (.goto (-21), 3) := by decide +kernel
theorem dX4_holdNear_27 : decode cX4_holdNear 27 = .ok (.iload 5, 2) := by decide +kernel
theorem dX4_holdNear_29 : decode cX4_holdNear 29 = .ok (.iload 4, 2) := by decide +kernel
theorem dX4_holdNear_31 : decode cX4_holdNear 31 = .ok (.if_icmp .lt 5, 3) := by decide +kernel
theorem dX4_holdNear_34 : decode cX4_holdNear 34 = .ok (.iload_n 3, 1) := by decide +kernel
theorem dX4_holdNear_35 : decode cX4_holdNear 35 = .ok (.ireturn, 1) := by decide +kernel
theorem dX4_holdNear_36 : decode cX4_holdNear 36 = .ok (.iload_n 3, 1) := by decide +kernel
theorem dX4_holdNear_37 : decode cX4_holdNear 37 = .ok (.iload 4, 2) := by decide +kernel
theorem dX4_holdNear_39 : decode cX4_holdNear 39 = .ok (.iconst 1, 1) := by decide +kernel
theorem dX4_holdNear_40 : decode cX4_holdNear 40 = .ok (.isub, 1) := by decide +kernel
theorem dX4_holdNear_41 : decode cX4_holdNear 41 = .ok (.invokestatic 87, 3) := by decide +kernel
theorem dX4_holdNear_44 : decode cX4_holdNear 44 = .ok (.istore 6, 2) := by decide +kernel
theorem dX4_holdNear_46 : decode cX4_holdNear 46 = .ok (.iload 6, 2) := by decide +kernel
theorem dX4_holdNear_48 : decode cX4_holdNear 48 = .ok (.istore 7, 2) := by decide +kernel
theorem dX4_holdNear_50 : decode cX4_holdNear 50 = .ok (.iload 7, 2) := by decide +kernel
theorem dX4_holdNear_52 : decode cX4_holdNear 52 = .ok (.iload 5, 2) := by decide +kernel
theorem dX4_holdNear_54 : decode cX4_holdNear 54 = .ok (.if_icmp .le 41, 3) := by decide +kernel
theorem dX4_holdNear_57 : decode cX4_holdNear 57 = .ok (.aload_n 0, 1) := by decide +kernel
theorem dX4_holdNear_58 : decode cX4_holdNear 58 = .ok (.getfield 44, 3) := by decide +kernel
theorem dX4_holdNear_61 : decode cX4_holdNear 61 = .ok (.iload 7, 2) := by decide +kernel
theorem dX4_holdNear_63 : decode cX4_holdNear 63 = .ok (.aload_n 0, 1) := by decide +kernel
theorem dX4_holdNear_64 : decode cX4_holdNear 64 = .ok (.getfield 44, 3) := by decide +kernel
theorem dX4_holdNear_67 : decode cX4_holdNear 67 = .ok (.iload 7, 2) := by decide +kernel
theorem dX4_holdNear_69 : decode cX4_holdNear 69 = .ok (.iconst 1, 1) := by decide +kernel
theorem dX4_holdNear_70 : decode cX4_holdNear 70 = .ok (.isub, 1) := by decide +kernel
theorem dX4_holdNear_71 : decode cX4_holdNear 71 = .ok (.iaload, 1) := by decide +kernel
theorem dX4_holdNear_72 : decode cX4_holdNear 72 = .ok (.iastore, 1) := by decide +kernel
theorem dX4_holdNear_73 : decode cX4_holdNear 73 = .ok (.aload_n 0, 1) := by decide +kernel
theorem dX4_holdNear_74 : decode cX4_holdNear 74 = .ok (.getfield 47, 3) := by decide +kernel
theorem dX4_holdNear_77 : decode cX4_holdNear 77 = .ok (.iload 7, 2) := by decide +kernel
theorem dX4_holdNear_79 : decode cX4_holdNear 79 = .ok (.aload_n 0, 1) := by decide +kernel
theorem dX4_holdNear_80 : decode cX4_holdNear 80 = .ok (.getfield 47, 3) := by decide +kernel
theorem dX4_holdNear_83 : decode cX4_holdNear 83 = .ok (.iload 7, 2) := by decide +kernel
theorem dX4_holdNear_85 : decode cX4_holdNear 85 = .ok (.iconst 1, 1) := by decide +kernel
theorem dX4_holdNear_86 : decode cX4_holdNear 86 = .ok (.isub, 1) := by decide +kernel
theorem dX4_holdNear_87 : decode cX4_holdNear 87 = .ok (.iaload, 1) := by decide +kernel
theorem dX4_holdNear_88 : decode cX4_holdNear 88 = .ok (.iastore, 1) := by decide +kernel
theorem dX4_holdNear_89 : decode cX4_holdNear 89 = .ok (.iinc 7 (-1), 3) := by decide +kernel
theorem dX4_holdNear_92 : decode cX4_holdNear 92 = .ok (.goto (-42), 3) := by decide +kernel
theorem dX4_holdNear_95 : decode cX4_holdNear 95 = .ok (.aload_n 0, 1) := by decide +kernel
theorem dX4_holdNear_96 : decode cX4_holdNear 96 = .ok (.getfield 44, 3) := by decide +kernel
theorem dX4_holdNear_99 : decode cX4_holdNear 99 = .ok (.iload 5, 2) := by decide +kernel
theorem dX4_holdNear_101 : decode cX4_holdNear 101 = .ok (.iload_n 1, 1) := by decide +kernel
theorem dX4_holdNear_102 : decode cX4_holdNear 102 = .ok (.iastore, 1) := by decide +kernel
theorem dX4_holdNear_103 : decode cX4_holdNear 103 = .ok (.aload_n 0, 1) := by decide +kernel
theorem dX4_holdNear_104 : decode cX4_holdNear 104 = .ok (.getfield 47, 3) := by decide +kernel
theorem dX4_holdNear_107 : decode cX4_holdNear 107 = .ok (.iload 5, 2) := by decide +kernel
theorem dX4_holdNear_109 : decode cX4_holdNear 109 = .ok (.iload_n 2, 1) := by decide +kernel
theorem dX4_holdNear_110 : decode cX4_holdNear 110 = .ok (.iastore, 1) := by decide +kernel
theorem dX4_holdNear_111 : decode cX4_holdNear 111 = .ok (.iload 6, 2) := by decide +kernel
theorem dX4_holdNear_113 : decode cX4_holdNear 113 = .ok (.iconst 1, 1) := by decide +kernel
theorem dX4_holdNear_114 : decode cX4_holdNear 114 = .ok (.iadd, 1) := by decide +kernel
theorem dX4_holdNear_115 : decode cX4_holdNear 115 = .ok (.ireturn, 1) := by decide +kernel
theorem dX4_close_0 : decode cX4_close 0 = .ok (.aload_n 0, 1) := by decide +kernel
theorem dX4_close_1 : decode cX4_close 1 = .ok (.getfield 22, 3) := by decide +kernel
theorem dX4_close_4 : decode cX4_close 4 = .ok (.iload_n 1, 1) := by decide +kernel
theorem dX4_close_5 : decode cX4_close 5 = .ok (.iload_n 3, 1) := by decide +kernel
theorem dX4_close_6 : decode cX4_close 6 = .ok (.ifCond .eq 7, 3) := by decide +kernel
theorem dX4_close_9 : decode cX4_close 9 = .ok (.iconst 1, 1) := by decide +kernel
theorem dX4_close_10 : decode cX4_close 10 = .ok (.goto 4, 3) := by decide +kernel
theorem dX4_close_13 : decode cX4_close 13 = .ok (.iconst 2, 1) := by decide +kernel
theorem dX4_close_14 : decode cX4_close 14 = .ok (.iastore, 1) := by decide +kernel
theorem dX4_close_15 : decode cX4_close 15 = .ok (.iload_n 3, 1) := by decide +kernel
theorem dX4_close_16 : decode cX4_close 16 = .ok (.ifCond .eq 20, 3) := by decide +kernel
theorem dX4_close_19 : decode cX4_close 19 = .ok (.aload_n 0, 1) := by decide +kernel
theorem dX4_close_20 : decode cX4_close 20 = .ok (.getfield 26, 3) := by decide +kernel
theorem dX4_close_23 : decode cX4_close 23 = .ok (.iload_n 1, 1) := by decide +kernel
theorem dX4_close_24 : decode cX4_close 24 = .ok (.iload_n 2, 1) := by decide +kernel
theorem dX4_close_25 : decode cX4_close 25 = .ok (.iastore, 1) := by decide +kernel
theorem dX4_close_26 : decode cX4_close 26 = .ok (.aload_n 0, 1) := by decide +kernel
theorem dX4_close_27 : decode cX4_close 27 = .ok (.dup, 1) := by decide +kernel
theorem dX4_close_28 : decode cX4_close 28 = .ok (.getfield 15, 3) := by decide +kernel
theorem dX4_close_31 : decode cX4_close 31 = .ok (.iconst 1, 1) := by decide +kernel
theorem dX4_close_32 : decode cX4_close 32 = .ok (.iadd, 1) := by decide +kernel
theorem dX4_close_33 : decode cX4_close 33 = .ok (.putfield 15, 3) := by decide +kernel
theorem dX4_close_36 : decode cX4_close 36 = .ok (.aload_n 0, 1) := by decide +kernel
theorem dX4_close_37 : decode cX4_close 37 = .ok (.getfield 15, 3) := by decide +kernel
theorem dX4_close_40 : decode cX4_close 40 = .ok (.ireturn, 1) := by decide +kernel
set_option maxRecDepth 20000 in
theorem ggX4_addReport_X4_isBelowMiddle : GoodIn wsX4_addReport wsX4_isBelowMiddle := goodIn_r _ [8, 9, 1, 2, 10, 11, 12, 13, 7, 14, 15, 16, 17, 18, 19, 20, 21, 22, 23, 24, 25, 26] (by decide +kernel) (by decide +kernel)
set_option maxRecDepth 20000 in
theorem gX4_addReport_X4_isBelowMiddle : GoodIn wsX4_addReport (wsV RX4 92 RX4 yX4_isBelowMiddle wsX4_isBelowMiddle) := goodIn_app (goodIn_of _ (by decide +kernel)) ggX4_addReport_X4_isBelowMiddle
theorem dX4_addReport_0 : decode cX4_addReport 0 = .ok (.aload_n 0, 1) := by decide +kernel
theorem dX4_addReport_1 : decode cX4_addReport 1 = .ok (.getfield 29, 3) := by decide +kernel
theorem dX4_addReport_4 : decode cX4_addReport 4 = .ok (.iload_n 1, 1) := by decide +kernel
theorem dX4_addReport_5 : decode cX4_addReport 5 = .ok (.iaload, 1) := by decide +kernel
theorem dX4_addReport_6 : decode cX4_addReport 6 = .ok (.istore 4, 2) := by decide +kernel
theorem dX4_addReport_8 : decode cX4_addReport 8 = .ok (.iload_n 3, 1) := by decide +kernel
theorem dX4_addReport_9 : decode cX4_addReport 9 = .ok (.ifCond .le 19, 3) := by decide +kernel
theorem dX4_addReport_12 : decode cX4_addReport 12 = .ok (.aload_n 0, 1) := by decide +kernel
theorem dX4_addReport_13 : decode cX4_addReport 13 = .ok (.iload_n 1, 1) := by decide +kernel
theorem dX4_addReport_14 : decode cX4_addReport 14 = .ok (.iload 4, 2) := by decide +kernel
theorem dX4_addReport_16 : decode cX4_addReport 16 = .ok (.iload_n 2, 1) := by decide +kernel
theorem dX4_addReport_17 : decode cX4_addReport 17 = .ok (.iload_n 3, 1) := by decide +kernel
theorem dX4_addReport_18 : decode cX4_addReport 18 = .ok (.invokevirtual 92, 3) := by decide +kernel
theorem dX4_addReport_21 : decode cX4_addReport 21 = .ok (.ifCond .eq 7, 3) := by decide +kernel
theorem dX4_addReport_24 : decode cX4_addReport 24 = .ok (.iconst 1, 1) := by decide +kernel
theorem dX4_addReport_25 : decode cX4_addReport 25 = .ok (.goto 4, 3) := by decide +kernel
theorem dX4_addReport_28 : decode cX4_addReport 28 = .ok (.iconst 0, 1) := by decide +kernel
theorem dX4_addReport_29 : decode cX4_addReport 29 = .ok (.istore 5, 2) := by decide +kernel
theorem dX4_addReport_31 : decode cX4_addReport 31 = .ok (.aload_n 0, 1) := by decide +kernel
theorem dX4_addReport_32 : decode cX4_addReport 32 = .ok (.getfield 34, 3) := by decide +kernel
theorem dX4_addReport_35 : decode cX4_addReport 35 = .ok (.iload_n 1, 1) := by decide +kernel
theorem dX4_addReport_36 : decode cX4_addReport 36 = .ok (.aaload, 1) := by decide +kernel
theorem dX4_addReport_37 : decode cX4_addReport 37 = .ok (.iload 4, 2) := by decide +kernel
theorem dX4_addReport_39 : decode cX4_addReport 39 = .ok (.iload_n 2, 1) := by decide +kernel
theorem dX4_addReport_40 : decode cX4_addReport 40 = .ok (.iastore, 1) := by decide +kernel
theorem dX4_addReport_41 : decode cX4_addReport 41 = .ok (.aload_n 0, 1) := by decide +kernel
theorem dX4_addReport_42 : decode cX4_addReport 42 = .ok (.getfield 29, 3) := by decide +kernel
theorem dX4_addReport_45 : decode cX4_addReport 45 = .ok (.iload_n 1, 1) := by decide +kernel
theorem dX4_addReport_46 : decode cX4_addReport 46 = .ok (.dup2, 1) := by decide +kernel
theorem dX4_addReport_47 : decode cX4_addReport 47 = .ok (.iaload, 1) := by decide +kernel
theorem dX4_addReport_48 : decode cX4_addReport 48 = .ok (.iconst 1, 1) := by decide +kernel
theorem dX4_addReport_49 : decode cX4_addReport 49 = .ok (.iadd, 1) := by decide +kernel
theorem dX4_addReport_50 : decode cX4_addReport 50 = .ok (.iastore, 1) := by decide +kernel
theorem dX4_addReport_51 : decode cX4_addReport 51 = .ok (.iload 5, 2) := by decide +kernel
theorem dX4_addReport_53 : decode cX4_addReport 53 = .ok (.ifCond .eq 16, 3) := by decide +kernel
theorem dX4_addReport_56 : decode cX4_addReport 56 = .ok (.aload_n 0, 1) := by decide +kernel
theorem dX4_addReport_57 : decode cX4_addReport 57 = .ok (.getfield 22, 3) := by decide +kernel
theorem dX4_addReport_60 : decode cX4_addReport 60 = .ok (.iload_n 1, 1) := by decide +kernel
theorem dX4_addReport_61 : decode cX4_addReport 61 = .ok (.iconst 3, 1) := by decide +kernel
theorem dX4_addReport_62 : decode cX4_addReport 62 = .ok (.iastore, 1) := by decide +kernel
theorem dX4_addReport_63 : decode cX4_addReport 63 = .ok (.bipush (-10), 2) := by decide +kernel
theorem dX4_addReport_65 : decode cX4_addReport 65 = .ok (.iload 4, 2) := by decide +kernel
theorem dX4_addReport_67 : decode cX4_addReport 67 = .ok (.isub, 1) := by decide +kernel
theorem dX4_addReport_68 : decode cX4_addReport 68 = .ok (.ireturn, 1) := by decide +kernel
theorem dX4_addReport_69 : decode cX4_addReport 69 = .ok (.iload 4, 2) := by decide +kernel
theorem dX4_addReport_71 : decode cX4_addReport 71 = .ok (.ireturn, 1) := by decide +kernel
set_option maxRecDepth 20000 in
theorem ggX4_isBelowMiddle_X4_sortIn : GoodIn wsX4_isBelowMiddle wsX4_sortIn := goodIn_r _ [9, 4, 10, 11, 12, 13, 14, 15, 16, 17, 18, 19, 20, 21] (by decide +kernel) (by decide +kernel)
set_option maxRecDepth 20000 in
theorem gX4_isBelowMiddle_X4_sortIn : GoodIn wsX4_isBelowMiddle (wsV RX4 96 RX4 yX4_sortIn wsX4_sortIn) := goodIn_app (goodIn_of _ (by decide +kernel)) ggX4_isBelowMiddle_X4_sortIn
theorem dX4_isBelowMiddle_0 : decode cX4_isBelowMiddle 0 = .ok (.iconst 0, 1) := by decide +kernel
theorem dX4_isBelowMiddle_1 : decode cX4_isBelowMiddle 1 = .ok (.istore 5, 2) := by decide +kernel
theorem dX4_isBelowMiddle_3 : decode cX4_isBelowMiddle 3 = .ok (.iconst 0, 1) := by decide +kernel
theorem dX4_isBelowMiddle_4 : decode cX4_isBelowMiddle 4 = .ok (.istore 6, 2) := by decide +kernel
theorem dX4_isBelowMiddle_6 : decode cX4_isBelowMiddle 6 = .ok (.iload 6, 2) := by decide +kernel
theorem dX4_isBelowMiddle_8 : decode cX4_isBelowMiddle 8 = .ok (.aload_n 0, 1) := by decide +kernel
theorem dX4_isBelowMiddle_9 : decode cX4_isBelowMiddle 9 = .ok (.getfield 9, 3) := by decide +kernel
theorem dX4_isBelowMiddle_12 : decode cX4_isBelowMiddle 12 = .ok (.if_icmp .ge 44, 3) := by decide +kernel
theorem dX4_isBelowMiddle_15 : decode cX4_isBelowMiddle 15 = .ok (.iload 6, 2) := by decide +kernel
theorem dX4_isBelowMiddle_17 : decode cX4_isBelowMiddle 17 = .ok (.iload_n 1, 1) := by decide +kernel
theorem dX4_isBelowMiddle_18 : decode cX4_isBelowMiddle 18 = .ok (.if_icmp .eq 32, 3) := by decide +kernel
theorem dX4_isBelowMiddle_21 : decode cX4_isBelowMiddle 21 = .ok (.aload_n 0, 1) := by decide +kernel
theorem dX4_isBelowMiddle_22 : decode cX4_isBelowMiddle 22 = .ok (.getfield 29, 3) := by decide +kernel
theorem dX4_isBelowMiddle_25 : decode cX4_isBelowMiddle 25 = .ok (.iload 6, 2) := by decide +kernel
theorem dX4_isBelowMiddle_27 : decode cX4_isBelowMiddle 27 = .ok (.iaload, 1) := by decide +kernel
theorem dX4_isBelowMiddle_28 : decode cX4_isBelowMiddle 28 = .ok (.iload_n 2, 1) := by decide +kernel
theorem dX4_isBelowMiddle_29 : decode cX4_isBelowMiddle 29 = .ok (.if_icmp .le 21, 3) := by decide +kernel
theorem dX4_isBelowMiddle_32 : decode cX4_isBelowMiddle 32 = .ok (.aload_n 0, 1) := by decide +kernel
theorem dX4_isBelowMiddle_33 : decode cX4_isBelowMiddle 33 = .ok (.aload_n 0, 1) := by decide +kernel
theorem dX4_isBelowMiddle_34 : decode cX4_isBelowMiddle 34 = .ok (.getfield 34, 3) := by decide +kernel
theorem dX4_isBelowMiddle_37 : decode cX4_isBelowMiddle 37 = .ok (.iload 6, 2) := by decide +kernel
theorem dX4_isBelowMiddle_39 : decode cX4_isBelowMiddle 39 = .ok (.aaload, 1) := by decide +kernel
theorem dX4_isBelowMiddle_40 : decode cX4_isBelowMiddle 40 = .ok (.iload_n 2, 1) := by decide +kernel
theorem dX4_isBelowMiddle_41 : decode cX4_isBelowMiddle 41 = .ok (.iaload, 1) := by decide +kernel
theorem dX4_isBelowMiddle_42 : decode cX4_isBelowMiddle 42 = .ok (.iload 5, 2) := by decide +kernel
theorem dX4_isBelowMiddle_44 : decode cX4_isBelowMiddle 44 = .ok (.invokevirtual 96, 3) := by decide +kernel
theorem dX4_isBelowMiddle_47 : decode cX4_isBelowMiddle 47 = .ok (.iinc 5 1, 3) := by decide +kernel
theorem dX4_isBelowMiddle_50 : decode cX4_isBelowMiddle 50 = .ok (.iinc 6 1, 3) := by decide +kernel
theorem dX4_isBelowMiddle_53 : decode cX4_isBelowMiddle 53 = .ok (.goto (-47), 3) := by decide +kernel
theorem dX4_isBelowMiddle_56 : decode cX4_isBelowMiddle 56 = .ok (.iload 5, 2) := by decide +kernel
theorem dX4_isBelowMiddle_58 : decode cX4_isBelowMiddle 58 = .ok (.iload 4, 2) := by decide +kernel
theorem dX4_isBelowMiddle_60 : decode cX4_isBelowMiddle 60 = .ok (.if_icmp .lt 22, 3) := by decide +kernel
theorem dX4_isBelowMiddle_63 : decode cX4_isBelowMiddle 63 = .ok (.iload_n 3, 1) := by decide +kernel
theorem dX4_isBelowMiddle_64 : decode cX4_isBelowMiddle 64 = .ok (.aload_n 0, 1) := by decide +kernel
theorem dX4_isBelowMiddle_65 : decode cX4_isBelowMiddle 65 = .ok (.getfield 50, 3) := by decide +kernel
theorem dX4_isBelowMiddle_68 : decode cX4_isBelowMiddle 68 = .ok (.iload 5, 2) := by decide +kernel
theorem dX4_isBelowMiddle_70 : decode cX4_isBelowMiddle 70 = .ok (.iconst 1, 1) := by decide +kernel
theorem dX4_isBelowMiddle_71 : decode cX4_isBelowMiddle 71 = .ok (.isub, 1) := by decide +kernel
theorem dX4_isBelowMiddle_72 : decode cX4_isBelowMiddle 72 = .ok (.iconst 2, 1) := by decide +kernel
theorem dX4_isBelowMiddle_73 : decode cX4_isBelowMiddle 73 = .ok (.idiv, 1) := by decide +kernel
theorem dX4_isBelowMiddle_74 : decode cX4_isBelowMiddle 74 = .ok (.iaload, 1) := by decide +kernel
theorem dX4_isBelowMiddle_75 : decode cX4_isBelowMiddle 75 = .ok (.if_icmp .ge 7, 3) := by decide +kernel
theorem dX4_isBelowMiddle_78 : decode cX4_isBelowMiddle 78 = .ok (.iconst 1, 1) := by decide +kernel
theorem dX4_isBelowMiddle_79 : decode cX4_isBelowMiddle 79 = .ok (.goto 4, 3) := by decide +kernel
theorem dX4_isBelowMiddle_82 : decode cX4_isBelowMiddle 82 = .ok (.iconst 0, 1) := by decide +kernel
theorem dX4_isBelowMiddle_83 : decode cX4_isBelowMiddle 83 = .ok (.ireturn, 1) := by decide +kernel
theorem dX4_sortIn_0 : decode cX4_sortIn 0 = .ok (.iload_n 2, 1) := by decide +kernel
theorem dX4_sortIn_1 : decode cX4_sortIn 1 = .ok (.istore_n 3, 1) := by decide +kernel
theorem dX4_sortIn_2 : decode cX4_sortIn 2 = .ok (.iload_n 3, 1) := by decide +kernel
theorem dX4_sortIn_3 : decode cX4_sortIn 3 = .ok (.ifCond .le 35, 3) := by decide +kernel
theorem dX4_sortIn_6 : decode cX4_sortIn 6 = .ok (.aload_n 0, 1) := by decide +kernel
theorem dX4_sortIn_7 : decode cX4_sortIn 7 = .ok (.getfield 50, 3) := by decide +kernel
theorem dX4_sortIn_10 : decode cX4_sortIn 10 = .ok (.iload_n 3, 1) := by decide +kernel
theorem dX4_sortIn_11 : decode cX4_sortIn 11 = .ok (.iconst 1, 1) := by decide +kernel
theorem dX4_sortIn_12 : decode cX4_sortIn 12 = .ok (.isub, 1) := by decide +kernel
theorem dX4_sortIn_13 : decode cX4_sortIn 13 = .ok (.iaload, 1) := by decide +kernel
theorem dX4_sortIn_14 : decode cX4_sortIn 14 = .ok (.iload_n 1, 1) := by decide +kernel
theorem dX4_sortIn_15 : decode cX4_sortIn 15 = .ok (.if_icmp .le 23, 3) := by decide +kernel
theorem dX4_sortIn_18 : decode cX4_sortIn 18 = .ok (.aload_n 0, 1) := by decide +kernel
theorem dX4_sortIn_19 : decode cX4_sortIn 19 = .ok (.getfield 50, 3) := by decide +kernel
theorem dX4_sortIn_22 : decode cX4_sortIn 22 = .ok (.iload_n 3, 1) := by decide +kernel
theorem dX4_sortIn_23 : decode cX4_sortIn 23 = .ok (.aload_n 0, 1) := by decide +kernel
theorem dX4_sortIn_24 : decode cX4_sortIn 24 = .ok (.getfield 50, 3) := by decide +kernel
theorem dX4_sortIn_27 : decode cX4_sortIn 27 = .ok (.iload_n 3, 1) := by decide +kernel
theorem dX4_sortIn_28 : decode cX4_sortIn 28 = .ok (.iconst 1, 1) := by decide +kernel
theorem dX4_sortIn_29 : decode cX4_sortIn 29 = .ok (.isub, 1) := by decide +kernel
theorem dX4_sortIn_30 : decode cX4_sortIn 30 = .ok (.iaload, 1) := by decide +kernel
theorem dX4_sortIn_31 : decode cX4_sortIn 31 = .ok (.iastore, 1) := by decide +kernel
theorem dX4_sortIn_32 : decode cX4_sortIn 32 = .ok (.iinc 3 (-1), 3) := by decide +kernel
theorem dX4_sortIn_35 : decode cX4_sortIn 35 = .ok (.goto (-33), 3) := by decide +kernel
theorem dX4_sortIn_38 : decode cX4_sortIn 38 = .ok (.aload_n 0, 1) := by decide +kernel
theorem dX4_sortIn_39 : decode cX4_sortIn 39 = .ok (.getfield 50, 3) := by decide +kernel
theorem dX4_sortIn_42 : decode cX4_sortIn 42 = .ok (.iload_n 3, 1) := by decide +kernel
theorem dX4_sortIn_43 : decode cX4_sortIn 43 = .ok (.iload_n 1, 1) := by decide +kernel
theorem dX4_sortIn_44 : decode cX4_sortIn 44 = .ok (.iastore, 1) := by decide +kernel
theorem dX4_sortIn_45 : decode cX4_sortIn 45 = .ok (.return_, 1) := by decide +kernel
theorem dX4_firstGreatest_0 : decode cX4_firstGreatest 0 = .ok (.bipush (-2), 2) := by decide +kernel
theorem dX4_firstGreatest_2 : decode cX4_firstGreatest 2 = .ok (.istore_n 1, 1) := by decide +kernel
theorem dX4_firstGreatest_3 : decode cX4_firstGreatest 3 = .ok (.iconst 0, 1) := by decide +kernel
theorem dX4_firstGreatest_4 : decode cX4_firstGreatest 4 = .ok (.istore_n 2, 1) := by decide +kernel
theorem dX4_firstGreatest_5 : decode cX4_firstGreatest 5 = .ok (.iload_n 2, 1) := by decide +kernel
theorem dX4_firstGreatest_6 : decode cX4_firstGreatest 6 = .ok (.aload_n 0, 1) := by decide +kernel
theorem dX4_firstGreatest_7 : decode cX4_firstGreatest 7 = .ok (.getfield 9, 3) := by decide +kernel
theorem dX4_firstGreatest_10 : decode cX4_firstGreatest 10 = .ok (.if_icmp .ge 40, 3) := by decide +kernel
theorem dX4_firstGreatest_13 : decode cX4_firstGreatest 13 = .ok (.aload_n 0, 1) := by decide +kernel
theorem dX4_firstGreatest_14 : decode cX4_firstGreatest 14 = .ok (.getfield 22, 3) := by decide +kernel
theorem dX4_firstGreatest_17 : decode cX4_firstGreatest 17 = .ok (.iload_n 2, 1) := by decide +kernel
theorem dX4_firstGreatest_18 : decode cX4_firstGreatest 18 = .ok (.iaload, 1) := by decide +kernel
theorem dX4_firstGreatest_19 : decode cX4_firstGreatest 19 = .ok (.iconst 1, 1) := by decide +kernel
theorem dX4_firstGreatest_20 : decode cX4_firstGreatest 20 = .ok (.if_icmp .ne 24, 3) := by decide +kernel
theorem dX4_firstGreatest_23 : decode cX4_firstGreatest 23 = .ok (.iload_n 1, 1) := by decide +kernel
theorem dX4_firstGreatest_24 : decode cX4_firstGreatest 24 = .ok (.ifCond .lt 18, 3) := by decide +kernel
theorem dX4_firstGreatest_27 : decode cX4_firstGreatest 27 = .ok (.aload_n 0, 1) := by decide +kernel
theorem dX4_firstGreatest_28 : decode cX4_firstGreatest 28 = .ok (.getfield 26, 3) := by decide +kernel
theorem dX4_firstGreatest_31 : decode cX4_firstGreatest 31 = .ok (.iload_n 2, 1) := by decide +kernel
theorem dX4_firstGreatest_32 : decode cX4_firstGreatest 32 = .ok (.iaload, 1) := by decide +kernel
theorem dX4_firstGreatest_33 : decode cX4_firstGreatest 33 = .ok (.aload_n 0, 1) := by decide +kernel
theorem dX4_firstGreatest_34 : decode cX4_firstGreatest 34 = .ok (.getfield 26, 3) := by decide +kernel
theorem dX4_firstGreatest_37 : decode cX4_firstGreatest 37 = .ok (.iload_n 1, 1) := by decide +kernel
theorem dX4_firstGreatest_38 : decode cX4_firstGreatest 38 = .ok (.iaload, 1) := by decide +kernel
theorem dX4_firstGreatest_39 : decode cX4_firstGreatest 39 = .ok (.if_icmp .le 5, 3) := by decide +kernel
theorem dX4_firstGreatest_42 : decode cX4_firstGreatest 42 = .ok (.iload_n 2, 1) := by decide +kernel
theorem dX4_firstGreatest_43 : decode cX4_firstGreatest 43 = .ok (.istore_n 1, 1) := by decide +kernel
theorem dX4_firstGreatest_44 : decode cX4_firstGreatest 44 = .ok (.iinc 2 1, 3) := by decide +kernel
theorem dX4_firstGreatest_47 : decode cX4_firstGreatest 47 = .ok (.goto (-42), 3) := by decide +kernel
theorem dX4_firstGreatest_50 : decode cX4_firstGreatest 50 = .ok (.iload_n 1, 1) := by decide +kernel
theorem dX4_firstGreatest_51 : decode cX4_firstGreatest 51 = .ok (.ireturn, 1) := by decide +kernel
set_option maxRecDepth 20000 in
theorem ggX5_init_X3_init : GoodIn wsX5_init wsX3_init := goodIn_r _ [22, 23, 2, 3, 24, 25, 26, 27, 28, 29, 30, 31, 32, 33, 34, 35, 74, 75, 76, 77, 78, 79, 80, 81, 82] (by decide +kernel) (by decide +kernel)
set_option maxRecDepth 20000 in
theorem gX5_init_X3_init : GoodIn wsX5_init (wsX3_init) := ggX5_init_X3_init
set_option maxRecDepth 20000 in
theorem ggX5_init_X4_init : GoodIn wsX5_init wsX4_init := goodIn_r _ [38, 39, 2, 3, 40, 41, 32, 42, 26, 43, 44, 45, 46, 47, 48, 49, 50, 51, 52, 87, 88, 89, 90, 91, 92, 93, 94, 95, 96, 97, 98] (by decide +kernel) (by decide +kernel)
set_option maxRecDepth 20000 in
theorem gX5_init_X4_init : GoodIn wsX5_init (wsX4_init) := ggX5_init_X4_init
set_option maxRecDepth 20000 in
theorem ggX5_init_X1_init : GoodIn wsX5_init wsX1_init := goodIn_r _ [55, 56, 2, 3, 57, 58, 26, 59, 60, 99, 100, 101, 102, 103, 104, 105, 106, 107, 108] (by decide +kernel) (by decide +kernel)
set_option maxRecDepth 20000 in
theorem gX5_init_X1_init : GoodIn wsX5_init (wsX1_init) := ggX5_init_X1_init
set_option maxRecDepth 20000 in
theorem ggX5_init_X0_init : GoodIn wsX5_init wsX0_init := goodIn_r _ [63, 64, 2, 3, 65, 66, 67, 26, 68, 69, 70, 71, 72, 32, 73, 109, 110, 111, 112, 113, 114, 115, 116] (by decide +kernel) (by decide +kernel)
set_option maxRecDepth 20000 in
theorem gX5_init_X0_init : GoodIn wsX5_init (wsX0_init) := ggX5_init_X0_init
theorem dX5_init_0 : decode cX5_init 0 = .ok (.aload_n 0, 1) := by decide +kernel
theorem dX5_init_1 : decode cX5_init 1 = .ok (.invokespecial 3, 3) := by decide +kernel
theorem dX5_init_4 : decode cX5_init 4 = .ok (.aload_n 0, 1) := by decide +kernel
theorem dX5_init_5 : decode cX5_init 5 = .ok (.new 9, 3) := by decide +kernel
theorem dX5_init_8 : decode cX5_init 8 = .ok (.dup, 1) := by decide +kernel
theorem dX5_init_9 : decode cX5_init 9 = .ok (.invokespecial 11, 3) := by decide +kernel
theorem dX5_init_12 : decode cX5_init 12 = .ok (.putfield 12, 3) := by decide +kernel
theorem dX5_init_15 : decode cX5_init 15 = .ok (.aload_n 0, 1) := by decide +kernel
theorem dX5_init_16 : decode cX5_init 16 = .ok (.new 16, 3) := by decide +kernel
theorem dX5_init_19 : decode cX5_init 19 = .ok (.dup, 1) := by decide +kernel
theorem dX5_init_20 : decode cX5_init 20 = .ok (.aload_n 0, 1) := by decide +kernel
theorem dX5_init_21 : decode cX5_init 21 = .ok (.getfield 12, 3) := by decide +kernel
theorem dX5_init_24 : decode cX5_init 24 = .ok (.invokespecial 18, 3) := by decide +kernel
theorem dX5_init_27 : decode cX5_init 27 = .ok (.putfield 21, 3) := by decide +kernel
theorem dX5_init_30 : decode cX5_init 30 = .ok (.aload_n 0, 1) := by decide +kernel
theorem dX5_init_31 : decode cX5_init 31 = .ok (.new 25, 3) := by decide +kernel
theorem dX5_init_34 : decode cX5_init 34 = .ok (.dup, 1) := by decide +kernel
theorem dX5_init_35 : decode cX5_init 35 = .ok (.invokespecial 27, 3) := by decide +kernel
theorem dX5_init_38 : decode cX5_init 38 = .ok (.putfield 28, 3) := by decide +kernel
theorem dX5_init_41 : decode cX5_init 41 = .ok (.aload_n 0, 1) := by decide +kernel
theorem dX5_init_42 : decode cX5_init 42 = .ok (.new 32, 3) := by decide +kernel
theorem dX5_init_45 : decode cX5_init 45 = .ok (.dup, 1) := by decide +kernel
theorem dX5_init_46 : decode cX5_init 46 = .ok (.invokespecial 34, 3) := by decide +kernel
theorem dX5_init_49 : decode cX5_init 49 = .ok (.putfield 35, 3) := by decide +kernel
theorem dX5_init_52 : decode cX5_init 52 = .ok (.return_, 1) := by decide +kernel
set_option maxRecDepth 20000 in
theorem ggX5_name_X5_within : GoodIn wsX5_name wsX5_within := goodIn_r _ [11] (by decide +kernel) (by decide +kernel)
set_option maxRecDepth 20000 in
theorem gX5_name_X5_within : GoodIn wsX5_name (va_wsS RX5 41 yX5_within wsX5_within) := goodIn_app (goodIn_of _ (by decide +kernel)) ggX5_name_X5_within
set_option maxRecDepth 20000 in
theorem ggX5_name_X3_add : GoodIn wsX5_name wsX3_add := goodIn_r _ [16, 17, 18, 19, 20, 21, 22, 23, 15, 24, 25, 26, 27, 28, 29, 30, 31, 32, 33, 34, 35, 36, 37, 38, 39, 40, 41, 42, 47, 48, 49, 50, 51, 52, 53, 54, 55] (by decide +kernel) (by decide +kernel)
set_option maxRecDepth 20000 in
theorem gX5_name_X3_add : GoodIn wsX5_name (wsV RX5 56 RX3 yX3_add wsX3_add) := goodIn_app (goodIn_of _ (by decide +kernel)) ggX5_name_X3_add
theorem dX5_name_0 : decode cX5_name 0 = .ok (.iload_n 1, 1) := by decide +kernel
theorem dX5_name_1 : decode cX5_name 1 = .ok (.i2l, 1) := by decide +kernel
theorem dX5_name_2 : decode cX5_name 2 = .ok (.lconst 1, 1) := by decide +kernel
theorem dX5_name_3 : decode cX5_name 3 = .ok (.ldc2_w 39, 3) := by decide +kernel
theorem dX5_name_6 : decode cX5_name 6 = .ok (.invokestatic 41, 3) := by decide +kernel
theorem dX5_name_9 : decode cX5_name 9 = .ok (.ifCond .eq 24, 3) := by decide +kernel
theorem dX5_name_12 : decode cX5_name 12 = .ok (.iload_n 2, 1) := by decide +kernel
theorem dX5_name_13 : decode cX5_name 13 = .ok (.i2l, 1) := by decide +kernel
theorem dX5_name_14 : decode cX5_name 14 = .ok (.ldc2_w 45, 3) := by decide +kernel
theorem dX5_name_17 : decode cX5_name 17 = .ok (.aload_n 0, 1) := by decide +kernel
theorem dX5_name_18 : decode cX5_name 18 = .ok (.getfield 12, 3) := by decide +kernel
theorem dX5_name_21 : decode cX5_name 21 = .ok (.getfield 47, 3) := by decide +kernel
theorem dX5_name_24 : decode cX5_name 24 = .ok (.iconst 1, 1) := by decide +kernel
theorem dX5_name_25 : decode cX5_name 25 = .ok (.isub, 1) := by decide +kernel
theorem dX5_name_26 : decode cX5_name 26 = .ok (.i2l, 1) := by decide +kernel
theorem dX5_name_27 : decode cX5_name 27 = .ok (.invokestatic 41, 3) := by decide +kernel
theorem dX5_name_30 : decode cX5_name 30 = .ok (.ifCond .ne 5, 3) := by decide +kernel
theorem dX5_name_33 : decode cX5_name 33 = .ok (.iconst (-1), 1) := by decide +kernel
theorem dX5_name_34 : decode cX5_name 34 = .ok (.ireturn, 1) := by decide +kernel
theorem dX5_name_35 : decode cX5_name 35 = .ok (.iload_n 2, 1) := by decide +kernel
theorem dX5_name_36 : decode cX5_name 36 = .ok (.ifCond .lt 17, 3) := by decide +kernel
theorem dX5_name_39 : decode cX5_name 39 = .ok (.iload_n 3, 1) := by decide +kernel
theorem dX5_name_40 : decode cX5_name 40 = .ok (.i2l, 1) := by decide +kernel
theorem dX5_name_41 : decode cX5_name 41 = .ok (.lconst 1, 1) := by decide +kernel
theorem dX5_name_42 : decode cX5_name 42 = .ok (.ldc2_w 51, 3) := by decide +kernel
theorem dX5_name_45 : decode cX5_name 45 = .ok (.invokestatic 41, 3) := by decide +kernel
theorem dX5_name_48 : decode cX5_name 48 = .ok (.ifCond .ne 5, 3) := by decide +kernel
theorem dX5_name_51 : decode cX5_name 51 = .ok (.iconst (-1), 1) := by decide +kernel
theorem dX5_name_52 : decode cX5_name 52 = .ok (.ireturn, 1) := by decide +kernel
theorem dX5_name_53 : decode cX5_name 53 = .ok (.aload_n 0, 1) := by decide +kernel
theorem dX5_name_54 : decode cX5_name 54 = .ok (.getfield 21, 3) := by decide +kernel
theorem dX5_name_57 : decode cX5_name 57 = .ok (.getfield 53, 3) := by decide +kernel
theorem dX5_name_60 : decode cX5_name 60 = .ok (.ifCond .le 6, 3) := by decide +kernel
theorem dX5_name_63 : decode cX5_name 63 = .ok (.bipush (-3), 2) := by decide +kernel
theorem dX5_name_65 : decode cX5_name 65 = .ok (.ireturn, 1) := by decide +kernel
theorem dX5_name_66 : decode cX5_name 66 = .ok (.aload_n 0, 1) := by decide +kernel
theorem dX5_name_67 : decode cX5_name 67 = .ok (.getfield 12, 3) := by decide +kernel
theorem dX5_name_70 : decode cX5_name 70 = .ok (.getfield 47, 3) := by decide +kernel
theorem dX5_name_73 : decode cX5_name 73 = .ok (.bipush 8, 2) := by decide +kernel
theorem dX5_name_75 : decode cX5_name 75 = .ok (.if_icmp .ge 16, 3) := by decide +kernel
theorem dX5_name_78 : decode cX5_name 78 = .ok (.aload_n 0, 1) := by decide +kernel
theorem dX5_name_79 : decode cX5_name 79 = .ok (.getfield 12, 3) := by decide +kernel
theorem dX5_name_82 : decode cX5_name 82 = .ok (.iload_n 1, 1) := by decide +kernel
theorem dX5_name_83 : decode cX5_name 83 = .ok (.iload_n 2, 1) := by decide +kernel
theorem dX5_name_84 : decode cX5_name 84 = .ok (.iload_n 3, 1) := by decide +kernel
theorem dX5_name_85 : decode cX5_name 85 = .ok (.invokevirtual 56, 3) := by decide +kernel
theorem dX5_name_88 : decode cX5_name 88 = .ok (.goto 5, 3) := by decide +kernel
theorem dX5_name_91 : decode cX5_name 91 = .ok (.bipush (-4), 2) := by decide +kernel
theorem dX5_name_93 : decode cX5_name 93 = .ok (.ireturn, 1) := by decide +kernel
theorem dX5_points_0 : decode cX5_points 0 = .ok (.aload_n 0, 1) := by decide +kernel
theorem dX5_points_1 : decode cX5_points 1 = .ok (.getfield 12, 3) := by decide +kernel
theorem dX5_points_4 : decode cX5_points 4 = .ok (.getfield 60, 3) := by decide +kernel
theorem dX5_points_7 : decode cX5_points 7 = .ok (.lreturn, 1) := by decide +kernel
set_option maxRecDepth 20000 in
theorem ggX5_value_X5_isPoint : GoodIn wsX5_value wsX5_isPoint := goodIn_r _ [8, 1, 9, 10, 11, 7, 12, 34, 35, 36, 37, 38, 39, 40, 41, 42, 43, 44, 45, 46] (by decide +kernel) (by decide +kernel)
set_option maxRecDepth 20000 in
theorem gX5_value_X5_isPoint : GoodIn wsX5_value (wsV RX5 64 RX5 yX5_isPoint wsX5_isPoint) := goodIn_app (goodIn_of _ (by decide +kernel)) ggX5_value_X5_isPoint
set_option maxRecDepth 20000 in
theorem ggX5_value_X5_within : GoodIn wsX5_value wsX5_within := goodIn_r _ [12] (by decide +kernel) (by decide +kernel)
set_option maxRecDepth 20000 in
theorem gX5_value_X5_within : GoodIn wsX5_value (va_wsS RX5 41 yX5_within wsX5_within) := goodIn_app (goodIn_of _ (by decide +kernel)) ggX5_value_X5_within
set_option maxRecDepth 20000 in
theorem ggX5_value_X3_read : GoodIn wsX5_value wsX3_read := goodIn_r _ [17, 18, 19, 20, 21, 22, 23, 24, 25, 16, 26, 27, 28, 29, 30, 31, 32, 7, 33, 38, 39, 40, 41, 42, 43, 44, 45, 46] (by decide +kernel) (by decide +kernel)
set_option maxRecDepth 20000 in
theorem gX5_value_X3_read : GoodIn wsX5_value (wsV RX5 72 RX3 yX3_read wsX3_read) := goodIn_app (goodIn_of _ (by decide +kernel)) ggX5_value_X3_read
theorem dX5_value_0 : decode cX5_value 0 = .ok (.aload_n 0, 1) := by decide +kernel
theorem dX5_value_1 : decode cX5_value 1 = .ok (.lload_n 1, 1) := by decide +kernel
theorem dX5_value_2 : decode cX5_value 2 = .ok (.invokevirtual 64, 3) := by decide +kernel
theorem dX5_value_5 : decode cX5_value 5 = .ok (.ifCond .eq 22, 3) := by decide +kernel
theorem dX5_value_8 : decode cX5_value 8 = .ok (.iload_n 3, 1) := by decide +kernel
theorem dX5_value_9 : decode cX5_value 9 = .ok (.i2l, 1) := by decide +kernel
theorem dX5_value_10 : decode cX5_value 10 = .ok (.lconst 0, 1) := by decide +kernel
theorem dX5_value_11 : decode cX5_value 11 = .ok (.aload_n 0, 1) := by decide +kernel
theorem dX5_value_12 : decode cX5_value 12 = .ok (.getfield 12, 3) := by decide +kernel
theorem dX5_value_15 : decode cX5_value 15 = .ok (.getfield 47, 3) := by decide +kernel
theorem dX5_value_18 : decode cX5_value 18 = .ok (.iconst 1, 1) := by decide +kernel
theorem dX5_value_19 : decode cX5_value 19 = .ok (.isub, 1) := by decide +kernel
theorem dX5_value_20 : decode cX5_value 20 = .ok (.i2l, 1) := by decide +kernel
theorem dX5_value_21 : decode cX5_value 21 = .ok (.invokestatic 41, 3) := by decide +kernel
theorem dX5_value_24 : decode cX5_value 24 = .ok (.ifCond .ne 5, 3) := by decide +kernel
theorem dX5_value_27 : decode cX5_value 27 = .ok (.iconst (-1), 1) := by decide +kernel
theorem dX5_value_28 : decode cX5_value 28 = .ok (.ireturn, 1) := by decide +kernel
theorem dX5_value_29 : decode cX5_value 29 = .ok (.aload_n 0, 1) := by decide +kernel
theorem dX5_value_30 : decode cX5_value 30 = .ok (.getfield 12, 3) := by decide +kernel
theorem dX5_value_33 : decode cX5_value 33 = .ok (.lload_n 1, 1) := by decide +kernel
theorem dX5_value_34 : decode cX5_value 34 = .ok (.aload_n 0, 1) := by decide +kernel
theorem dX5_value_35 : decode cX5_value 35 = .ok (.getfield 12, 3) := by decide +kernel
theorem dX5_value_38 : decode cX5_value 38 = .ok (.getfield 68, 3) := by decide +kernel
theorem dX5_value_41 : decode cX5_value 41 = .ok (.invokevirtual 72, 3) := by decide +kernel
theorem dX5_value_44 : decode cX5_value 44 = .ok (.aload_n 0, 1) := by decide +kernel
theorem dX5_value_45 : decode cX5_value 45 = .ok (.getfield 12, 3) := by decide +kernel
theorem dX5_value_48 : decode cX5_value 48 = .ok (.getfield 68, 3) := by decide +kernel
theorem dX5_value_51 : decode cX5_value 51 = .ok (.iload_n 3, 1) := by decide +kernel
theorem dX5_value_52 : decode cX5_value 52 = .ok (.iaload, 1) := by decide +kernel
theorem dX5_value_53 : decode cX5_value 53 = .ok (.ireturn, 1) := by decide +kernel
set_option maxRecDepth 20000 in
theorem ggX5_number_X3_takeBits : GoodIn wsX5_number wsX3_takeBits := goodIn_r _ [8, 9, 10, 11, 12, 13, 7, 14, 15, 16, 17, 18, 19, 34, 35, 36, 37, 38, 39, 40, 41, 42] (by decide +kernel) (by decide +kernel)
set_option maxRecDepth 20000 in
theorem gX5_number_X3_takeBits : GoodIn wsX5_number (wsV RX5 76 RX3 yX3_takeBits wsX3_takeBits) := goodIn_app (goodIn_of _ (by decide +kernel)) ggX5_number_X3_takeBits
set_option maxRecDepth 20000 in
theorem ggX5_number_X3_place : GoodIn wsX5_number wsX3_place := goodIn_r _ [23, 24, 9, 25, 26, 27, 28, 29, 34, 35, 36, 37, 38, 39, 40, 41, 42] (by decide +kernel) (by decide +kernel)
set_option maxRecDepth 20000 in
theorem gX5_number_X3_place : GoodIn wsX5_number (wsV RX5 80 RX3 yX3_place wsX3_place) := goodIn_app (goodIn_of _ (by decide +kernel)) ggX5_number_X3_place
theorem dX5_number_0 : decode cX5_number 0 = .ok (.aload_n 0, 1) := by decide +kernel
theorem dX5_number_1 : decode cX5_number 1 = .ok (.getfield 12, 3) := by decide +kernel
theorem dX5_number_4 : decode cX5_number 4 = .ok (.lload_n 1, 1) := by decide +kernel
theorem dX5_number_5 : decode cX5_number 5 = .ok (.aload_n 0, 1) := by decide +kernel
theorem dX5_number_6 : decode cX5_number 6 = .ok (.getfield 12, 3) := by decide +kernel
theorem dX5_number_9 : decode cX5_number 9 = .ok (.getfield 68, 3) := by decide +kernel
theorem dX5_number_12 : decode cX5_number 12 = .ok (.invokevirtual 76, 3) := by decide +kernel
theorem dX5_number_15 : decode cX5_number 15 = .ok (.ifCond .eq 20, 3) := by decide +kernel
theorem dX5_number_18 : decode cX5_number 18 = .ok (.aload_n 0, 1) := by decide +kernel
theorem dX5_number_19 : decode cX5_number 19 = .ok (.getfield 12, 3) := by decide +kernel
theorem dX5_number_22 : decode cX5_number 22 = .ok (.aload_n 0, 1) := by decide +kernel
theorem dX5_number_23 : decode cX5_number 23 = .ok (.getfield 12, 3) := by decide +kernel
theorem dX5_number_26 : decode cX5_number 26 = .ok (.getfield 68, 3) := by decide +kernel
theorem dX5_number_29 : decode cX5_number 29 = .ok (.invokevirtual 80, 3) := by decide +kernel
theorem dX5_number_32 : decode cX5_number 32 = .ok (.goto 6, 3) := by decide +kernel
theorem dX5_number_35 : decode cX5_number 35 = .ok (.ldc2_w 84, 3) := by decide +kernel
theorem dX5_number_38 : decode cX5_number 38 = .ok (.lreturn, 1) := by decide +kernel
set_option maxRecDepth 20000 in
theorem ggX5_distance_X5_isPoint : GoodIn wsX5_distance wsX5_isPoint := goodIn_r _ [8, 1, 9, 10, 11, 7, 12, 46, 47, 48, 49, 50, 51, 52, 53, 54, 55, 56, 57, 58] (by decide +kernel) (by decide +kernel)
set_option maxRecDepth 20000 in
theorem gX5_distance_X5_isPoint : GoodIn wsX5_distance (wsV RX5 64 RX5 yX5_isPoint wsX5_isPoint) := goodIn_app (goodIn_of _ (by decide +kernel)) ggX5_distance_X5_isPoint
set_option maxRecDepth 20000 in
theorem ggX5_distance_X3_read : GoodIn wsX5_distance wsX3_read := goodIn_r _ [17, 18, 19, 20, 21, 22, 23, 24, 25, 16, 26, 27, 28, 29, 30, 31, 32, 7, 33, 50, 51, 52, 53, 54, 55, 56, 57, 58] (by decide +kernel) (by decide +kernel)
set_option maxRecDepth 20000 in
theorem gX5_distance_X3_read : GoodIn wsX5_distance (wsV RX5 72 RX3 yX3_read wsX3_read) := goodIn_app (goodIn_of _ (by decide +kernel)) ggX5_distance_X3_read
set_option maxRecDepth 20000 in
theorem ggX5_distance_X3_apart : GoodIn wsX5_distance wsX3_apart := goodIn_r _ [37, 19, 38, 39, 40, 16, 41, 42, 43, 44, 45, 21, 32, 7, 33, 50, 51, 52, 53, 54, 55, 56, 57, 58] (by decide +kernel) (by decide +kernel)
set_option maxRecDepth 20000 in
theorem gX5_distance_X3_apart : GoodIn wsX5_distance (wsV RX5 89 RX3 yX3_apart wsX3_apart) := goodIn_app (goodIn_of _ (by decide +kernel)) ggX5_distance_X3_apart
theorem dX5_distance_0 : decode cX5_distance 0 = .ok (.aload_n 0, 1) := by decide +kernel
theorem dX5_distance_1 : decode cX5_distance 1 = .ok (.lload_n 1, 1) := by decide +kernel
theorem dX5_distance_2 : decode cX5_distance 2 = .ok (.invokevirtual 64, 3) := by decide +kernel
theorem dX5_distance_5 : decode cX5_distance 5 = .ok (.ifCond .eq 11, 3) := by decide +kernel
theorem dX5_distance_8 : decode cX5_distance 8 = .ok (.aload_n 0, 1) := by decide +kernel
theorem dX5_distance_9 : decode cX5_distance 9 = .ok (.lload_n 3, 1) := by decide +kernel
theorem dX5_distance_10 : decode cX5_distance 10 = .ok (.invokevirtual 64, 3) := by decide +kernel
theorem dX5_distance_13 : decode cX5_distance 13 = .ok (.ifCond .ne 5, 3) := by decide +kernel
theorem dX5_distance_16 : decode cX5_distance 16 = .ok (.iconst (-1), 1) := by decide +kernel
theorem dX5_distance_17 : decode cX5_distance 17 = .ok (.ireturn, 1) := by decide +kernel
theorem dX5_distance_18 : decode cX5_distance 18 = .ok (.aload_n 0, 1) := by decide +kernel
theorem dX5_distance_19 : decode cX5_distance 19 = .ok (.getfield 12, 3) := by decide +kernel
theorem dX5_distance_22 : decode cX5_distance 22 = .ok (.lload_n 1, 1) := by decide +kernel
theorem dX5_distance_23 : decode cX5_distance 23 = .ok (.aload_n 0, 1) := by decide +kernel
theorem dX5_distance_24 : decode cX5_distance 24 = .ok (.getfield 12, 3) := by decide +kernel
theorem dX5_distance_27 : decode cX5_distance 27 = .ok (.getfield 68, 3) := by decide +kernel
theorem dX5_distance_30 : decode cX5_distance 30 = .ok (.invokevirtual 72, 3) := by decide +kernel
theorem dX5_distance_33 : decode cX5_distance 33 = .ok (.aload_n 0, 1) := by decide +kernel
theorem dX5_distance_34 : decode cX5_distance 34 = .ok (.getfield 12, 3) := by decide +kernel
theorem dX5_distance_37 : decode cX5_distance 37 = .ok (.lload_n 3, 1) := by decide +kernel
theorem dX5_distance_38 : decode cX5_distance 38 = .ok (.aload_n 0, 1) := by decide +kernel
theorem dX5_distance_39 : decode cX5_distance 39 = .ok (.getfield 12, 3) := by decide +kernel
theorem dX5_distance_42 : decode cX5_distance 42 = .ok (.getfield 86, 3) := by decide +kernel
theorem dX5_distance_45 : decode cX5_distance 45 = .ok (.invokevirtual 72, 3) := by decide +kernel
theorem dX5_distance_48 : decode cX5_distance 48 = .ok (.aload_n 0, 1) := by decide +kernel
theorem dX5_distance_49 : decode cX5_distance 49 = .ok (.getfield 12, 3) := by decide +kernel
theorem dX5_distance_52 : decode cX5_distance 52 = .ok (.aload_n 0, 1) := by decide +kernel
theorem dX5_distance_53 : decode cX5_distance 53 = .ok (.getfield 12, 3) := by decide +kernel
theorem dX5_distance_56 : decode cX5_distance 56 = .ok (.getfield 68, 3) := by decide +kernel
theorem dX5_distance_59 : decode cX5_distance 59 = .ok (.aload_n 0, 1) := by decide +kernel
theorem dX5_distance_60 : decode cX5_distance 60 = .ok (.getfield 12, 3) := by decide +kernel
theorem dX5_distance_63 : decode cX5_distance 63 = .ok (.getfield 86, 3) := by decide +kernel
theorem dX5_distance_66 : decode cX5_distance 66 = .ok (.invokevirtual 89, 3) := by decide +kernel
theorem dX5_distance_69 : decode cX5_distance 69 = .ok (.ireturn, 1) := by decide +kernel
set_option maxRecDepth 20000 in
theorem ggX5_trial_X5_within : GoodIn wsX5_trial wsX5_within := goodIn_r _ [7] (by decide +kernel) (by decide +kernel)
set_option maxRecDepth 20000 in
theorem gX5_trial_X5_within : GoodIn wsX5_trial (va_wsS RX5 41 yX5_within wsX5_within) := goodIn_app (goodIn_of _ (by decide +kernel)) ggX5_trial_X5_within
set_option maxRecDepth 20000 in
theorem ggX5_trial_X5_placeBy : GoodIn wsX5_trial wsX5_placeBy := goodIn_r _ [11, 12, 13, 14, 15, 16, 6, 17, 18, 19, 20, 21, 22, 23, 24, 25, 26, 27, 28, 29, 30, 31, 32, 33, 34, 35, 36, 37, 38, 39, 40, 41, 42, 43, 44, 45, 46, 47, 48, 49, 50, 51, 52, 53, 54, 55, 56, 57, 58, 59, 60, 61, 62, 77, 78, 79, 80, 93, 94, 95, 96, 97, 98, 99, 100, 101] (by decide +kernel) (by decide +kernel)
set_option maxRecDepth 20000 in
theorem gX5_trial_X5_placeBy : GoodIn wsX5_trial (wsV RX5 95 RX5 yX5_placeBy wsX5_placeBy) := goodIn_app (goodIn_of _ (by decide +kernel)) ggX5_trial_X5_placeBy
set_option maxRecDepth 20000 in
theorem ggX5_trial_X4_add : GoodIn wsX5_trial wsX4_add := goodIn_r _ [67, 68, 69, 70, 71, 72, 73, 74, 75, 39, 76, 58, 41, 59, 42, 60, 43, 44, 45, 46, 47, 48, 49, 50, 51, 61, 6, 62, 81, 82, 83, 84, 85, 86, 87, 88, 89, 90, 91, 92, 93, 94, 95, 96, 97, 98, 99, 100, 101] (by decide +kernel) (by decide +kernel)
set_option maxRecDepth 20000 in
theorem gX5_trial_X4_add : GoodIn wsX5_trial (wsV RX5 99 RX4 yX4_add wsX4_add) := goodIn_app (goodIn_of _ (by decide +kernel)) ggX5_trial_X4_add
theorem dX5_trial_0 : decode cX5_trial 0 = .ok (.iload_n 1, 1) := by decide +kernel
theorem dX5_trial_1 : decode cX5_trial 1 = .ok (.i2l, 1) := by decide +kernel
theorem dX5_trial_2 : decode cX5_trial 2 = .ok (.lconst 0, 1) := by decide +kernel
theorem dX5_trial_3 : decode cX5_trial 3 = .ok (.ldc2_w 93, 3) := by decide +kernel
theorem dX5_trial_6 : decode cX5_trial 6 = .ok (.invokestatic 41, 3) := by decide +kernel
theorem dX5_trial_9 : decode cX5_trial 9 = .ok (.ifCond .eq 11, 3) := by decide +kernel
theorem dX5_trial_12 : decode cX5_trial 12 = .ok (.iload_n 1, 1) := by decide +kernel
theorem dX5_trial_13 : decode cX5_trial 13 = .ok (.ifCond .ne 9, 3) := by decide +kernel
theorem dX5_trial_16 : decode cX5_trial 16 = .ok (.iload_n 2, 1) := by decide +kernel
theorem dX5_trial_17 : decode cX5_trial 17 = .ok (.ifCond .ge 5, 3) := by decide +kernel
theorem dX5_trial_20 : decode cX5_trial 20 = .ok (.iconst (-1), 1) := by decide +kernel
theorem dX5_trial_21 : decode cX5_trial 21 = .ok (.ireturn, 1) := by decide +kernel
theorem dX5_trial_22 : decode cX5_trial 22 = .ok (.aload_n 0, 1) := by decide +kernel
theorem dX5_trial_23 : decode cX5_trial 23 = .ok (.getfield 21, 3) := by decide +kernel
theorem dX5_trial_26 : decode cX5_trial 26 = .ok (.getfield 53, 3) := by decide +kernel
theorem dX5_trial_29 : decode cX5_trial 29 = .ok (.bipush 60, 2) := by decide +kernel
theorem dX5_trial_31 : decode cX5_trial 31 = .ok (.if_icmp .ge 19, 3) := by decide +kernel
theorem dX5_trial_34 : decode cX5_trial 34 = .ok (.aload_n 0, 1) := by decide +kernel
theorem dX5_trial_35 : decode cX5_trial 35 = .ok (.getfield 21, 3) := by decide +kernel
theorem dX5_trial_38 : decode cX5_trial 38 = .ok (.aload_n 0, 1) := by decide +kernel
theorem dX5_trial_39 : decode cX5_trial 39 = .ok (.iload_n 1, 1) := by decide +kernel
theorem dX5_trial_40 : decode cX5_trial 40 = .ok (.iload_n 2, 1) := by decide +kernel
theorem dX5_trial_41 : decode cX5_trial 41 = .ok (.invokevirtual 95, 3) := by decide +kernel
theorem dX5_trial_44 : decode cX5_trial 44 = .ok (.invokevirtual 99, 3) := by decide +kernel
theorem dX5_trial_47 : decode cX5_trial 47 = .ok (.goto 5, 3) := by decide +kernel
theorem dX5_trial_50 : decode cX5_trial 50 = .ok (.bipush (-4), 2) := by decide +kernel
theorem dX5_trial_52 : decode cX5_trial 52 = .ok (.ireturn, 1) := by decide +kernel
set_option maxRecDepth 20000 in
theorem ggX5_guess_X5_within : GoodIn wsX5_guess wsX5_within := goodIn_r _ [8] (by decide +kernel) (by decide +kernel)
set_option maxRecDepth 20000 in
theorem gX5_guess_X5_within : GoodIn wsX5_guess (va_wsS RX5 41 yX5_within wsX5_within) := goodIn_app (goodIn_of _ (by decide +kernel)) ggX5_guess_X5_within
set_option maxRecDepth 20000 in
theorem ggX5_guess_X4_bestCandidate : GoodIn wsX5_guess wsX4_bestCandidate := goodIn_r _ [13, 14, 15, 16, 17, 18, 19, 20, 21, 22, 23, 24, 25, 26, 27, 28, 29, 30, 31, 32, 33, 34, 35, 36, 37, 38, 12, 39, 40, 41, 42, 43, 44, 45, 46, 47, 48, 49, 50, 51, 52, 53, 54, 55, 56, 57, 58, 59, 60, 61, 62, 63, 64, 65, 7, 66, 67, 68, 69, 70, 71, 72, 73, 74, 75, 76, 77, 78, 79, 80, 81, 82, 83, 84, 85, 86, 96, 97, 98, 99, 100, 101, 102, 103, 104, 105, 106, 107, 108, 109, 110, 111, 112, 113, 114, 115, 116] (by decide +kernel) (by decide +kernel)
set_option maxRecDepth 20000 in
theorem gX5_guess_X4_bestCandidate : GoodIn wsX5_guess (wsV RX5 106 RX4 yX4_bestCandidate wsX4_bestCandidate) := goodIn_app (goodIn_of _ (by decide +kernel)) ggX5_guess_X4_bestCandidate
set_option maxRecDepth 20000 in
theorem ggX5_guess_X4_add : GoodIn wsX5_guess wsX4_add := goodIn_r _ [90, 41, 91, 42, 14, 43, 46, 47, 48, 49, 50, 51, 52, 53, 54, 55, 56, 57, 58, 59, 60, 61, 62, 63, 64, 65, 7, 66, 96, 97, 98, 99, 100, 101, 102, 103, 104, 105, 106, 107, 108, 109, 110, 111, 112, 113, 114, 115, 116] (by decide +kernel) (by decide +kernel)
set_option maxRecDepth 20000 in
theorem gX5_guess_X4_add : GoodIn wsX5_guess (wsV RX5 99 RX4 yX4_add wsX4_add) := goodIn_app (goodIn_of _ (by decide +kernel)) ggX5_guess_X4_add
theorem dX5_guess_0 : decode cX5_guess 0 = .ok (.iload_n 2, 1) := by decide +kernel
theorem dX5_guess_1 : decode cX5_guess 1 = .ok (.i2l, 1) := by decide +kernel
theorem dX5_guess_2 : decode cX5_guess 2 = .ok (.lconst 1, 1) := by decide +kernel
theorem dX5_guess_3 : decode cX5_guess 3 = .ok (.ldc2_w 102, 3) := by decide +kernel
theorem dX5_guess_6 : decode cX5_guess 6 = .ok (.invokestatic 41, 3) := by decide +kernel
theorem dX5_guess_9 : decode cX5_guess 9 = .ok (.ifCond .eq 15, 3) := by decide +kernel
theorem dX5_guess_12 : decode cX5_guess 12 = .ok (.iload_n 3, 1) := by decide +kernel
theorem dX5_guess_13 : decode cX5_guess 13 = .ok (.i2l, 1) := by decide +kernel
theorem dX5_guess_14 : decode cX5_guess 14 = .ok (.lconst 1, 1) := by decide +kernel
theorem dX5_guess_15 : decode cX5_guess 15 = .ok (.ldc2_w 104, 3) := by decide +kernel
theorem dX5_guess_18 : decode cX5_guess 18 = .ok (.invokestatic 41, 3) := by decide +kernel
theorem dX5_guess_21 : decode cX5_guess 21 = .ok (.ifCond .ne 5, 3) := by decide +kernel
theorem dX5_guess_24 : decode cX5_guess 24 = .ok (.iconst (-1), 1) := by decide +kernel
theorem dX5_guess_25 : decode cX5_guess 25 = .ok (.ireturn, 1) := by decide +kernel
theorem dX5_guess_26 : decode cX5_guess 26 = .ok (.aload_n 0, 1) := by decide +kernel
theorem dX5_guess_27 : decode cX5_guess 27 = .ok (.getfield 21, 3) := by decide +kernel
theorem dX5_guess_30 : decode cX5_guess 30 = .ok (.getfield 53, 3) := by decide +kernel
theorem dX5_guess_33 : decode cX5_guess 33 = .ok (.bipush 60, 2) := by decide +kernel
theorem dX5_guess_35 : decode cX5_guess 35 = .ok (.if_icmp .ge 23, 3) := by decide +kernel
theorem dX5_guess_38 : decode cX5_guess 38 = .ok (.aload_n 0, 1) := by decide +kernel
theorem dX5_guess_39 : decode cX5_guess 39 = .ok (.getfield 21, 3) := by decide +kernel
theorem dX5_guess_42 : decode cX5_guess 42 = .ok (.aload_n 0, 1) := by decide +kernel
theorem dX5_guess_43 : decode cX5_guess 43 = .ok (.getfield 21, 3) := by decide +kernel
theorem dX5_guess_46 : decode cX5_guess 46 = .ok (.iload_n 1, 1) := by decide +kernel
theorem dX5_guess_47 : decode cX5_guess 47 = .ok (.iload_n 2, 1) := by decide +kernel
theorem dX5_guess_48 : decode cX5_guess 48 = .ok (.iload_n 3, 1) := by decide +kernel
theorem dX5_guess_49 : decode cX5_guess 49 = .ok (.invokevirtual 106, 3) := by decide +kernel
theorem dX5_guess_52 : decode cX5_guess 52 = .ok (.invokevirtual 99, 3) := by decide +kernel
theorem dX5_guess_55 : decode cX5_guess 55 = .ok (.goto 5, 3) := by decide +kernel
theorem dX5_guess_58 : decode cX5_guess 58 = .ok (.bipush (-4), 2) := by decide +kernel
theorem dX5_guess_60 : decode cX5_guess 60 = .ok (.ireturn, 1) := by decide +kernel
set_option maxRecDepth 20000 in
theorem ggX5_forecast_X5_isPoint : GoodIn wsX5_forecast wsX5_isPoint := goodIn_r _ [17, 18, 19, 20, 21, 16, 22, 80, 81, 82, 83, 96, 97, 98, 99, 100, 101, 102, 103, 104] (by decide +kernel) (by decide +kernel)
set_option maxRecDepth 20000 in
theorem gX5_forecast_X5_isPoint : GoodIn wsX5_forecast (wsV RX5 64 RX5 yX5_isPoint wsX5_isPoint) := goodIn_app (goodIn_of _ (by decide +kernel)) ggX5_forecast_X5_isPoint
set_option maxRecDepth 20000 in
theorem ggX5_forecast_X5_within : GoodIn wsX5_forecast wsX5_within := goodIn_r _ [22] (by decide +kernel) (by decide +kernel)
set_option maxRecDepth 20000 in
theorem gX5_forecast_X5_within : GoodIn wsX5_forecast (va_wsS RX5 41 yX5_within wsX5_within) := goodIn_app (goodIn_of _ (by decide +kernel)) ggX5_forecast_X5_within
set_option maxRecDepth 20000 in
theorem ggX5_forecast_X4_nearSum : GoodIn wsX5_forecast wsX4_nearSum := goodIn_r _ [27, 28, 29, 30, 31, 32, 33, 34, 35, 36, 37, 38, 39, 40, 41, 42, 43, 44, 45, 46, 47, 48, 49, 50, 51, 52, 53, 54, 16, 55, 56, 57, 58, 59, 60, 61, 62, 63, 64, 65, 8, 66, 67, 68, 69, 26, 70, 71, 72, 7, 9, 84, 85, 86, 87, 88, 89, 90, 91, 92, 93, 94, 95, 96, 97, 98, 99, 100, 101, 102, 103, 104] (by decide +kernel) (by decide +kernel)
set_option maxRecDepth 20000 in
theorem gX5_forecast_X4_nearSum : GoodIn wsX5_forecast (wsV RX5 117 RX4 yX4_nearSum wsX4_nearSum) := goodIn_app (goodIn_of _ (by decide +kernel)) ggX5_forecast_X4_nearSum
set_option maxRecDepth 20000 in
theorem ggX5_forecast_X5_commonDivisor : GoodIn wsX5_forecast wsX5_commonDivisor := goodIn_r _ [75, 76, 77, 16, 78] (by decide +kernel) (by decide +kernel)
set_option maxRecDepth 20000 in
theorem gX5_forecast_X5_commonDivisor : GoodIn wsX5_forecast (va_wsS RX5 131 yX5_commonDivisor wsX5_commonDivisor) := goodIn_app (goodIn_of _ (by decide +kernel)) ggX5_forecast_X5_commonDivisor
set_option maxRecDepth 20000 in
theorem ggX5_forecast_X5_cut : GoodIn wsX5_forecast wsX5_cut := goodIn_r _ [55] (by decide +kernel) (by decide +kernel)
set_option maxRecDepth 20000 in
theorem gX5_forecast_X5_cut : GoodIn wsX5_forecast (va_wsS RX5 135 yX5_cut wsX5_cut) := goodIn_app (goodIn_of _ (by decide +kernel)) ggX5_forecast_X5_cut
theorem dX5_forecast_0 : decode cX5_forecast 0 = .ok (.aload_n 0, 1) := by decide +kernel
theorem dX5_forecast_1 : decode cX5_forecast 1 = .ok (.lload_n 1, 1) := by decide +kernel
theorem dX5_forecast_2 : decode cX5_forecast 2 = .ok (.invokevirtual 64, 3) := by decide +kernel
theorem dX5_forecast_5 : decode cX5_forecast 5 = .ok (.ifCond .eq 26, 3) := by decide +kernel
theorem dX5_forecast_8 : decode cX5_forecast 8 = .ok (.iload_n 3, 1) := by decide +kernel
theorem dX5_forecast_9 : decode cX5_forecast 9 = .ok (.i2l, 1) := by decide +kernel
theorem dX5_forecast_10 : decode cX5_forecast 10 = .ok (.lconst 1, 1) := by decide +kernel
theorem dX5_forecast_11 : decode cX5_forecast 11 = .ok (.ldc2_w 104, 3) := by decide +kernel
theorem dX5_forecast_14 : decode cX5_forecast 14 = .ok (.invokestatic 41, 3) := by decide +kernel
theorem dX5_forecast_17 : decode cX5_forecast 17 = .ok (.ifCond .eq 14, 3) := by decide +kernel
theorem dX5_forecast_20 : decode cX5_forecast 20 = .ok (.iload 4, 2) := by decide +kernel
theorem dX5_forecast_22 : decode cX5_forecast 22 = .ok (.i2l, 1) := by decide +kernel
theorem dX5_forecast_23 : decode cX5_forecast 23 = .ok (.lconst 0, 1) := by decide +kernel
theorem dX5_forecast_24 : decode cX5_forecast 24 = .ok (.lconst 1, 1) := by decide +kernel
theorem dX5_forecast_25 : decode cX5_forecast 25 = .ok (.invokestatic 41, 3) := by decide +kernel
theorem dX5_forecast_28 : decode cX5_forecast 28 = .ok (.ifCond .ne 7, 3) := by decide +kernel
theorem dX5_forecast_31 : decode cX5_forecast 31 = .ok (.ldc2_w 110, 3) := by decide +kernel
theorem dX5_forecast_34 : decode cX5_forecast 34 = .ok (.lreturn, 1) := by decide +kernel
theorem dX5_forecast_35 : decode cX5_forecast 35 = .ok (.aload_n 0, 1) := by decide +kernel
theorem dX5_forecast_36 : decode cX5_forecast 36 = .ok (.getfield 21, 3) := by decide +kernel
theorem dX5_forecast_39 : decode cX5_forecast 39 = .ok (.getfield 112, 3) := by decide +kernel
theorem dX5_forecast_42 : decode cX5_forecast 42 = .ok (.ifCond .ne 7, 3) := by decide +kernel
theorem dX5_forecast_45 : decode cX5_forecast 45 = .ok (.ldc2_w 115, 3) := by decide +kernel
theorem dX5_forecast_48 : decode cX5_forecast 48 = .ok (.lreturn, 1) := by decide +kernel
theorem dX5_forecast_49 : decode cX5_forecast 49 = .ok (.aload_n 0, 1) := by decide +kernel
theorem dX5_forecast_50 : decode cX5_forecast 50 = .ok (.getfield 21, 3) := by decide +kernel
theorem dX5_forecast_53 : decode cX5_forecast 53 = .ok (.lload_n 1, 1) := by decide +kernel
theorem dX5_forecast_54 : decode cX5_forecast 54 = .ok (.iload_n 3, 1) := by decide +kernel
theorem dX5_forecast_55 : decode cX5_forecast 55 = .ok (.invokevirtual 117, 3) := by decide +kernel
theorem dX5_forecast_58 : decode cX5_forecast 58 = .ok (.lstore 5, 2) := by decide +kernel
theorem dX5_forecast_60 : decode cX5_forecast 60 = .ok (.iload_n 3, 1) := by decide +kernel
theorem dX5_forecast_61 : decode cX5_forecast 61 = .ok (.aload_n 0, 1) := by decide +kernel
theorem dX5_forecast_62 : decode cX5_forecast 62 = .ok (.getfield 21, 3) := by decide +kernel
theorem dX5_forecast_65 : decode cX5_forecast 65 = .ok (.getfield 112, 3) := by decide +kernel
theorem dX5_forecast_68 : decode cX5_forecast 68 = .ok (.invokestatic 121, 3) := by decide +kernel
theorem dX5_forecast_71 : decode cX5_forecast 71 = .ok (.i2l, 1) := by decide +kernel
theorem dX5_forecast_72 : decode cX5_forecast 72 = .ok (.lstore 7, 2) := by decide +kernel
theorem dX5_forecast_74 : decode cX5_forecast 74 = .ok (.lload 5, 2) := by decide +kernel
theorem dX5_forecast_76 : decode cX5_forecast 76 = .ok (.invokestatic 127, 3) := by decide +kernel
theorem dX5_forecast_79 : decode cX5_forecast 79 = .ok (.lload 7, 2) := by decide +kernel
theorem dX5_forecast_81 : decode cX5_forecast 81 = .ok (.invokestatic 131, 3) := by decide +kernel
theorem dX5_forecast_84 : decode cX5_forecast 84 = .ok (.lstore 9, 2) := by decide +kernel
theorem dX5_forecast_86 : decode cX5_forecast 86 = .ok (.iload 4, 2) := by decide +kernel
theorem dX5_forecast_88 : decode cX5_forecast 88 = .ok (.ifCond .ne 8, 3) := by decide +kernel
theorem dX5_forecast_91 : decode cX5_forecast 91 = .ok (.lload 5, 2) := by decide +kernel
theorem dX5_forecast_93 : decode cX5_forecast 93 = .ok (.goto 5, 3) := by decide +kernel
theorem dX5_forecast_96 : decode cX5_forecast 96 = .ok (.lload 7, 2) := by decide +kernel
theorem dX5_forecast_98 : decode cX5_forecast 98 = .ok (.lload 9, 2) := by decide +kernel
theorem dX5_forecast_100 : decode cX5_forecast 100 = .ok (.invokestatic 135, 3) := by decide +kernel
theorem dX5_forecast_103 : decode cX5_forecast 103 = .ok (.lreturn, 1) := by decide +kernel
set_option maxRecDepth 20000 in
theorem ggX5_score_X5_isTrial : GoodIn wsX5_score wsX5_isTrial := goodIn_r _ [7, 1, 8, 9, 10, 6, 11, 25, 26, 27, 28, 29, 30, 31, 32, 33, 34, 35, 36, 37, 38, 39, 40] (by decide +kernel) (by decide +kernel)
set_option maxRecDepth 20000 in
theorem gX5_score_X5_isTrial : GoodIn wsX5_score (wsV RX5 138 RX5 yX5_isTrial wsX5_isTrial) := goodIn_app (goodIn_of _ (by decide +kernel)) ggX5_score_X5_isTrial
set_option maxRecDepth 20000 in
theorem ggX5_score_X5_isMark : GoodIn wsX5_score wsX5_isMark := goodIn_r _ [14, 15, 16, 9, 10, 6, 11] (by decide +kernel) (by decide +kernel)
set_option maxRecDepth 20000 in
theorem gX5_score_X5_isMark : GoodIn wsX5_score (va_wsS RX5 142 yX5_isMark wsX5_isMark) := goodIn_app (goodIn_of _ (by decide +kernel)) ggX5_score_X5_isMark
set_option maxRecDepth 20000 in
theorem ggX5_score_X4_close : GoodIn wsX5_score wsX4_close := goodIn_r _ [21, 22, 23, 24, 29, 30, 31, 32, 33, 34, 35, 36, 37, 38, 39, 40] (by decide +kernel) (by decide +kernel)
set_option maxRecDepth 20000 in
theorem gX5_score_X4_close : GoodIn wsX5_score (wsV RX5 149 RX4 yX4_close wsX4_close) := goodIn_app (goodIn_of _ (by decide +kernel)) ggX5_score_X4_close
theorem dX5_score_0 : decode cX5_score 0 = .ok (.aload_n 0, 1) := by decide +kernel
theorem dX5_score_1 : decode cX5_score 1 = .ok (.iload_n 1, 1) := by decide +kernel
theorem dX5_score_2 : decode cX5_score 2 = .ok (.invokevirtual 138, 3) := by decide +kernel
theorem dX5_score_5 : decode cX5_score 5 = .ok (.ifCond .eq 11, 3) := by decide +kernel
theorem dX5_score_8 : decode cX5_score 8 = .ok (.iload_n 2, 1) := by decide +kernel
theorem dX5_score_9 : decode cX5_score 9 = .ok (.iload_n 3, 1) := by decide +kernel
theorem dX5_score_10 : decode cX5_score 10 = .ok (.invokestatic 142, 3) := by decide +kernel
theorem dX5_score_13 : decode cX5_score 13 = .ok (.ifCond .ne 5, 3) := by decide +kernel
theorem dX5_score_16 : decode cX5_score 16 = .ok (.iconst (-1), 1) := by decide +kernel
theorem dX5_score_17 : decode cX5_score 17 = .ok (.ireturn, 1) := by decide +kernel
theorem dX5_score_18 : decode cX5_score 18 = .ok (.aload_n 0, 1) := by decide +kernel
theorem dX5_score_19 : decode cX5_score 19 = .ok (.getfield 21, 3) := by decide +kernel
theorem dX5_score_22 : decode cX5_score 22 = .ok (.getfield 146, 3) := by decide +kernel
theorem dX5_score_25 : decode cX5_score 25 = .ok (.iload_n 1, 1) := by decide +kernel
theorem dX5_score_26 : decode cX5_score 26 = .ok (.iaload, 1) := by decide +kernel
theorem dX5_score_27 : decode cX5_score 27 = .ok (.ifCond .ne 16, 3) := by decide +kernel
theorem dX5_score_30 : decode cX5_score 30 = .ok (.aload_n 0, 1) := by decide +kernel
theorem dX5_score_31 : decode cX5_score 31 = .ok (.getfield 21, 3) := by decide +kernel
theorem dX5_score_34 : decode cX5_score 34 = .ok (.iload_n 1, 1) := by decide +kernel
theorem dX5_score_35 : decode cX5_score 35 = .ok (.iload_n 2, 1) := by decide +kernel
theorem dX5_score_36 : decode cX5_score 36 = .ok (.iload_n 3, 1) := by decide +kernel
theorem dX5_score_37 : decode cX5_score 37 = .ok (.invokevirtual 149, 3) := by decide +kernel
theorem dX5_score_40 : decode cX5_score 40 = .ok (.goto 5, 3) := by decide +kernel
theorem dX5_score_43 : decode cX5_score 43 = .ok (.bipush (-3), 2) := by decide +kernel
theorem dX5_score_45 : decode cX5_score 45 = .ok (.ireturn, 1) := by decide +kernel
set_option maxRecDepth 20000 in
theorem ggX5_report_X5_isTrial : GoodIn wsX5_report wsX5_isTrial := goodIn_r _ [9, 2, 10, 11, 12, 8, 13, 37, 38, 39, 40, 41, 42, 43, 44, 45, 46, 47, 48, 49, 50, 51, 52] (by decide +kernel) (by decide +kernel)
set_option maxRecDepth 20000 in
theorem gX5_report_X5_isTrial : GoodIn wsX5_report (wsV RX5 138 RX5 yX5_isTrial wsX5_isTrial) := goodIn_app (goodIn_of _ (by decide +kernel)) ggX5_report_X5_isTrial
set_option maxRecDepth 20000 in
theorem ggX5_report_X5_isMark : GoodIn wsX5_report wsX5_isMark := goodIn_r _ [16, 17, 18, 11, 12, 8, 13] (by decide +kernel) (by decide +kernel)
set_option maxRecDepth 20000 in
theorem gX5_report_X5_isMark : GoodIn wsX5_report (va_wsS RX5 142 yX5_isMark wsX5_isMark) := goodIn_app (goodIn_of _ (by decide +kernel)) ggX5_report_X5_isMark
set_option maxRecDepth 20000 in
theorem ggX5_report_X5_within : GoodIn wsX5_report wsX5_within := goodIn_r _ [13] (by decide +kernel) (by decide +kernel)
set_option maxRecDepth 20000 in
theorem gX5_report_X5_within : GoodIn wsX5_report (va_wsS RX5 41 yX5_within wsX5_within) := goodIn_app (goodIn_of _ (by decide +kernel)) ggX5_report_X5_within
set_option maxRecDepth 20000 in
theorem ggX5_report_X4_addReport : GoodIn wsX5_report wsX4_addReport := goodIn_r _ [23, 24, 25, 26, 27, 28, 29, 22, 30, 31, 32, 33, 34, 35, 36, 41, 42, 43, 44, 45, 46, 47, 48, 49, 50, 51, 52] (by decide +kernel) (by decide +kernel)
set_option maxRecDepth 20000 in
theorem gX5_report_X4_addReport : GoodIn wsX5_report (wsV RX5 158 RX4 yX4_addReport wsX4_addReport) := goodIn_app (goodIn_of _ (by decide +kernel)) ggX5_report_X4_addReport
theorem dX5_report_0 : decode cX5_report 0 = .ok (.aload_n 0, 1) := by decide +kernel
theorem dX5_report_1 : decode cX5_report 1 = .ok (.iload_n 1, 1) := by decide +kernel
theorem dX5_report_2 : decode cX5_report 2 = .ok (.invokevirtual 138, 3) := by decide +kernel
theorem dX5_report_5 : decode cX5_report 5 = .ok (.ifCond .eq 23, 3) := by decide +kernel
theorem dX5_report_8 : decode cX5_report 8 = .ok (.iload_n 2, 1) := by decide +kernel
theorem dX5_report_9 : decode cX5_report 9 = .ok (.iconst 1, 1) := by decide +kernel
theorem dX5_report_10 : decode cX5_report 10 = .ok (.invokestatic 142, 3) := by decide +kernel
theorem dX5_report_13 : decode cX5_report 13 = .ok (.ifCond .eq 15, 3) := by decide +kernel
theorem dX5_report_16 : decode cX5_report 16 = .ok (.iload_n 3, 1) := by decide +kernel
theorem dX5_report_17 : decode cX5_report 17 = .ok (.i2l, 1) := by decide +kernel
theorem dX5_report_18 : decode cX5_report 18 = .ok (.lconst 0, 1) := by decide +kernel
theorem dX5_report_19 : decode cX5_report 19 = .ok (.ldc2_w 153, 3) := by decide +kernel
theorem dX5_report_22 : decode cX5_report 22 = .ok (.invokestatic 41, 3) := by decide +kernel
theorem dX5_report_25 : decode cX5_report 25 = .ok (.ifCond .ne 5, 3) := by decide +kernel
theorem dX5_report_28 : decode cX5_report 28 = .ok (.iconst (-1), 1) := by decide +kernel
theorem dX5_report_29 : decode cX5_report 29 = .ok (.ireturn, 1) := by decide +kernel
theorem dX5_report_30 : decode cX5_report 30 = .ok (.aload_n 0, 1) := by decide +kernel
theorem dX5_report_31 : decode cX5_report 31 = .ok (.getfield 21, 3) := by decide +kernel
theorem dX5_report_34 : decode cX5_report 34 = .ok (.getfield 146, 3) := by decide +kernel
theorem dX5_report_37 : decode cX5_report 37 = .ok (.iload_n 1, 1) := by decide +kernel
theorem dX5_report_38 : decode cX5_report 38 = .ok (.iaload, 1) := by decide +kernel
theorem dX5_report_39 : decode cX5_report 39 = .ok (.ifCond .eq 6, 3) := by decide +kernel
theorem dX5_report_42 : decode cX5_report 42 = .ok (.bipush (-3), 2) := by decide +kernel
theorem dX5_report_44 : decode cX5_report 44 = .ok (.ireturn, 1) := by decide +kernel
theorem dX5_report_45 : decode cX5_report 45 = .ok (.aload_n 0, 1) := by decide +kernel
theorem dX5_report_46 : decode cX5_report 46 = .ok (.getfield 21, 3) := by decide +kernel
theorem dX5_report_49 : decode cX5_report 49 = .ok (.getfield 155, 3) := by decide +kernel
theorem dX5_report_52 : decode cX5_report 52 = .ok (.iload_n 1, 1) := by decide +kernel
theorem dX5_report_53 : decode cX5_report 53 = .ok (.iaload, 1) := by decide +kernel
theorem dX5_report_54 : decode cX5_report 54 = .ok (.bipush 20, 2) := by decide +kernel
theorem dX5_report_56 : decode cX5_report 56 = .ok (.if_icmp .ge 16, 3) := by decide +kernel
theorem dX5_report_59 : decode cX5_report 59 = .ok (.aload_n 0, 1) := by decide +kernel
theorem dX5_report_60 : decode cX5_report 60 = .ok (.getfield 21, 3) := by decide +kernel
theorem dX5_report_63 : decode cX5_report 63 = .ok (.iload_n 1, 1) := by decide +kernel
theorem dX5_report_64 : decode cX5_report 64 = .ok (.iload_n 2, 1) := by decide +kernel
theorem dX5_report_65 : decode cX5_report 65 = .ok (.iload_n 3, 1) := by decide +kernel
theorem dX5_report_66 : decode cX5_report 66 = .ok (.invokevirtual 158, 3) := by decide +kernel
theorem dX5_report_69 : decode cX5_report 69 = .ok (.goto 5, 3) := by decide +kernel
theorem dX5_report_72 : decode cX5_report 72 = .ok (.bipush (-4), 2) := by decide +kernel
theorem dX5_report_74 : decode cX5_report 74 = .ok (.ireturn, 1) := by decide +kernel
set_option maxRecDepth 20000 in
theorem ggX5_told_X5_isTrial : GoodIn wsX5_told wsX5_isTrial := goodIn_r _ [11, 1, 12, 13, 14, 10, 15, 22, 23, 24, 25, 26, 27, 28, 29, 30, 31, 32, 33, 34, 35, 36, 37] (by decide +kernel) (by decide +kernel)
set_option maxRecDepth 20000 in
theorem gX5_told_X5_isTrial : GoodIn wsX5_told (wsV RX5 138 RX5 yX5_isTrial wsX5_isTrial) := goodIn_app (goodIn_of _ (by decide +kernel)) ggX5_told_X5_isTrial
set_option maxRecDepth 20000 in
theorem ggX5_told_X1_isIn : GoodIn wsX5_told wsX1_isIn := goodIn_r _ [20, 21, 38, 39, 40, 41, 42, 43, 44, 45, 46, 47] (by decide +kernel) (by decide +kernel)
set_option maxRecDepth 20000 in
theorem gX5_told_X1_isIn : GoodIn wsX5_told (wsV RX5 167 RX1 yX1_isIn wsX1_isIn) := goodIn_app (goodIn_of _ (by decide +kernel)) ggX5_told_X1_isIn
theorem dX5_told_0 : decode cX5_told 0 = .ok (.aload_n 0, 1) := by decide +kernel
theorem dX5_told_1 : decode cX5_told 1 = .ok (.iload_n 1, 1) := by decide +kernel
theorem dX5_told_2 : decode cX5_told 2 = .ok (.invokevirtual 138, 3) := by decide +kernel
theorem dX5_told_5 : decode cX5_told 5 = .ok (.ifCond .ne 5, 3) := by decide +kernel
theorem dX5_told_8 : decode cX5_told 8 = .ok (.iconst (-1), 1) := by decide +kernel
theorem dX5_told_9 : decode cX5_told 9 = .ok (.ireturn, 1) := by decide +kernel
theorem dX5_told_10 : decode cX5_told 10 = .ok (.iload_n 2, 1) := by decide +kernel
theorem dX5_told_11 : decode cX5_told 11 = .ok (.tableswitch 90 0 4 #[33, 43, 53, 63, 73], 33) := by decide +kernel
theorem dX5_told_44 : decode cX5_told 44 = .ok (.aload_n 0, 1) := by decide +kernel
theorem dX5_told_45 : decode cX5_told 45 = .ok (.getfield 21, 3) := by decide +kernel
theorem dX5_told_48 : decode cX5_told 48 = .ok (.getfield 146, 3) := by decide +kernel
theorem dX5_told_51 : decode cX5_told 51 = .ok (.iload_n 1, 1) := by decide +kernel
theorem dX5_told_52 : decode cX5_told 52 = .ok (.iaload, 1) := by decide +kernel
theorem dX5_told_53 : decode cX5_told 53 = .ok (.ireturn, 1) := by decide +kernel
theorem dX5_told_54 : decode cX5_told 54 = .ok (.aload_n 0, 1) := by decide +kernel
theorem dX5_told_55 : decode cX5_told 55 = .ok (.getfield 21, 3) := by decide +kernel
theorem dX5_told_58 : decode cX5_told 58 = .ok (.getfield 161, 3) := by decide +kernel
theorem dX5_told_61 : decode cX5_told 61 = .ok (.iload_n 1, 1) := by decide +kernel
theorem dX5_told_62 : decode cX5_told 62 = .ok (.iaload, 1) := by decide +kernel
theorem dX5_told_63 : decode cX5_told 63 = .ok (.ireturn, 1) := by decide +kernel
theorem dX5_told_64 : decode cX5_told 64 = .ok (.aload_n 0, 1) := by decide +kernel
theorem dX5_told_65 : decode cX5_told 65 = .ok (.getfield 21, 3) := by decide +kernel
theorem dX5_told_68 : decode cX5_told 68 = .ok (.getfield 155, 3) := by decide +kernel
theorem dX5_told_71 : decode cX5_told 71 = .ok (.iload_n 1, 1) := by decide +kernel
theorem dX5_told_72 : decode cX5_told 72 = .ok (.iaload, 1) := by decide +kernel
theorem dX5_told_73 : decode cX5_told 73 = .ok (.ireturn, 1) := by decide +kernel
theorem dX5_told_74 : decode cX5_told 74 = .ok (.aload_n 0, 1) := by decide +kernel
theorem dX5_told_75 : decode cX5_told 75 = .ok (.getfield 28, 3) := by decide +kernel
theorem dX5_told_78 : decode cX5_told 78 = .ok (.getfield 164, 3) := by decide +kernel
theorem dX5_told_81 : decode cX5_told 81 = .ok (.iload_n 1, 1) := by decide +kernel
theorem dX5_told_82 : decode cX5_told 82 = .ok (.iaload, 1) := by decide +kernel
theorem dX5_told_83 : decode cX5_told 83 = .ok (.ireturn, 1) := by decide +kernel
theorem dX5_told_84 : decode cX5_told 84 = .ok (.aload_n 0, 1) := by decide +kernel
theorem dX5_told_85 : decode cX5_told 85 = .ok (.getfield 28, 3) := by decide +kernel
theorem dX5_told_88 : decode cX5_told 88 = .ok (.iload_n 1, 1) := by decide +kernel
theorem dX5_told_89 : decode cX5_told 89 = .ok (.invokevirtual 167, 3) := by decide +kernel
theorem dX5_told_92 : decode cX5_told 92 = .ok (.ifCond .eq 7, 3) := by decide +kernel
theorem dX5_told_95 : decode cX5_told 95 = .ok (.iconst 1, 1) := by decide +kernel
theorem dX5_told_96 : decode cX5_told 96 = .ok (.goto 4, 3) := by decide +kernel
theorem dX5_told_99 : decode cX5_told 99 = .ok (.iconst 0, 1) := by decide +kernel
theorem dX5_told_100 : decode cX5_told 100 = .ok (.ireturn, 1) := by decide +kernel
theorem dX5_told_101 : decode cX5_told 101 = .ok (.iconst (-1), 1) := by decide +kernel
theorem dX5_told_102 : decode cX5_told 102 = .ok (.ireturn, 1) := by decide +kernel
set_option maxRecDepth 20000 in
theorem ggX5_point_X5_isTrial : GoodIn wsX5_point wsX5_isTrial := goodIn_r _ [8, 1, 9, 10, 11, 7, 12, 13, 14, 15, 16, 17, 18, 19, 20, 21, 22, 23, 24, 25, 26, 27, 28] (by decide +kernel) (by decide +kernel)
set_option maxRecDepth 20000 in
theorem gX5_point_X5_isTrial : GoodIn wsX5_point (wsV RX5 138 RX5 yX5_isTrial wsX5_isTrial) := goodIn_app (goodIn_of _ (by decide +kernel)) ggX5_point_X5_isTrial
theorem dX5_point_0 : decode cX5_point 0 = .ok (.aload_n 0, 1) := by decide +kernel
theorem dX5_point_1 : decode cX5_point 1 = .ok (.iload_n 1, 1) := by decide +kernel
theorem dX5_point_2 : decode cX5_point 2 = .ok (.invokevirtual 138, 3) := by decide +kernel
theorem dX5_point_5 : decode cX5_point 5 = .ok (.ifCond .eq 15, 3) := by decide +kernel
theorem dX5_point_8 : decode cX5_point 8 = .ok (.aload_n 0, 1) := by decide +kernel
theorem dX5_point_9 : decode cX5_point 9 = .ok (.getfield 21, 3) := by decide +kernel
theorem dX5_point_12 : decode cX5_point 12 = .ok (.getfield 170, 3) := by decide +kernel
theorem dX5_point_15 : decode cX5_point 15 = .ok (.iload_n 1, 1) := by decide +kernel
theorem dX5_point_16 : decode cX5_point 16 = .ok (.laload, 1) := by decide +kernel
theorem dX5_point_17 : decode cX5_point 17 = .ok (.goto 6, 3) := by decide +kernel
theorem dX5_point_20 : decode cX5_point 20 = .ok (.ldc2_w 45, 3) := by decide +kernel
theorem dX5_point_23 : decode cX5_point 23 = .ok (.lreturn, 1) := by decide +kernel
set_option maxRecDepth 20000 in
theorem ggX5_reported_X5_isTrial : GoodIn wsX5_reported wsX5_isTrial := goodIn_r _ [9, 1, 10, 11, 12, 8, 13, 14, 15, 16, 17, 18, 19, 20, 21, 22, 23, 24, 25, 26, 27, 28, 29] (by decide +kernel) (by decide +kernel)
set_option maxRecDepth 20000 in
theorem gX5_reported_X5_isTrial : GoodIn wsX5_reported (wsV RX5 138 RX5 yX5_isTrial wsX5_isTrial) := goodIn_app (goodIn_of _ (by decide +kernel)) ggX5_reported_X5_isTrial
set_option maxRecDepth 20000 in
theorem ggX5_reported_X5_within : GoodIn wsX5_reported wsX5_within := goodIn_r _ [13] (by decide +kernel) (by decide +kernel)
set_option maxRecDepth 20000 in
theorem gX5_reported_X5_within : GoodIn wsX5_reported (va_wsS RX5 41 yX5_within wsX5_within) := goodIn_app (goodIn_of _ (by decide +kernel)) ggX5_reported_X5_within
theorem dX5_reported_0 : decode cX5_reported 0 = .ok (.aload_n 0, 1) := by decide +kernel
theorem dX5_reported_1 : decode cX5_reported 1 = .ok (.iload_n 1, 1) := by decide +kernel
theorem dX5_reported_2 : decode cX5_reported 2 = .ok (.invokevirtual 138, 3) := by decide +kernel
theorem dX5_reported_5 : decode cX5_reported 5 = .ok (.ifCond .eq 24, 3) := by decide +kernel
theorem dX5_reported_8 : decode cX5_reported 8 = .ok (.iload_n 2, 1) := by decide +kernel
theorem dX5_reported_9 : decode cX5_reported 9 = .ok (.i2l, 1) := by decide +kernel
theorem dX5_reported_10 : decode cX5_reported 10 = .ok (.lconst 0, 1) := by decide +kernel
theorem dX5_reported_11 : decode cX5_reported 11 = .ok (.aload_n 0, 1) := by decide +kernel
theorem dX5_reported_12 : decode cX5_reported 12 = .ok (.getfield 21, 3) := by decide +kernel
theorem dX5_reported_15 : decode cX5_reported 15 = .ok (.getfield 155, 3) := by decide +kernel
theorem dX5_reported_18 : decode cX5_reported 18 = .ok (.iload_n 1, 1) := by decide +kernel
theorem dX5_reported_19 : decode cX5_reported 19 = .ok (.iaload, 1) := by decide +kernel
theorem dX5_reported_20 : decode cX5_reported 20 = .ok (.iconst 1, 1) := by decide +kernel
theorem dX5_reported_21 : decode cX5_reported 21 = .ok (.isub, 1) := by decide +kernel
theorem dX5_reported_22 : decode cX5_reported 22 = .ok (.i2l, 1) := by decide +kernel
theorem dX5_reported_23 : decode cX5_reported 23 = .ok (.invokestatic 41, 3) := by decide +kernel
theorem dX5_reported_26 : decode cX5_reported 26 = .ok (.ifCond .ne 6, 3) := by decide +kernel
theorem dX5_reported_29 : decode cX5_reported 29 = .ok (.ldc 174, 2) := by decide +kernel
theorem dX5_reported_31 : decode cX5_reported 31 = .ok (.ireturn, 1) := by decide +kernel
theorem dX5_reported_32 : decode cX5_reported 32 = .ok (.aload_n 0, 1) := by decide +kernel
theorem dX5_reported_33 : decode cX5_reported 33 = .ok (.getfield 21, 3) := by decide +kernel
theorem dX5_reported_36 : decode cX5_reported 36 = .ok (.getfield 175, 3) := by decide +kernel
theorem dX5_reported_39 : decode cX5_reported 39 = .ok (.iload_n 1, 1) := by decide +kernel
theorem dX5_reported_40 : decode cX5_reported 40 = .ok (.aaload, 1) := by decide +kernel
theorem dX5_reported_41 : decode cX5_reported 41 = .ok (.iload_n 2, 1) := by decide +kernel
theorem dX5_reported_42 : decode cX5_reported 42 = .ok (.iaload, 1) := by decide +kernel
theorem dX5_reported_43 : decode cX5_reported 43 = .ok (.ireturn, 1) := by decide +kernel
set_option maxRecDepth 20000 in
theorem ggX5_best_X4_firstGreatest : GoodIn wsX5_best wsX4_firstGreatest := goodIn_r _ [6, 7, 8, 9, 14, 15, 16, 17, 18, 19, 20, 21, 22, 23, 24, 25] (by decide +kernel) (by decide +kernel)
set_option maxRecDepth 20000 in
theorem gX5_best_X4_firstGreatest : GoodIn wsX5_best (wsV RX5 179 RX4 yX4_firstGreatest wsX4_firstGreatest) := goodIn_app (goodIn_of _ (by decide +kernel)) ggX5_best_X4_firstGreatest
theorem dX5_best_0 : decode cX5_best 0 = .ok (.aload_n 0, 1) := by decide +kernel
theorem dX5_best_1 : decode cX5_best 1 = .ok (.getfield 21, 3) := by decide +kernel
theorem dX5_best_4 : decode cX5_best 4 = .ok (.invokevirtual 179, 3) := by decide +kernel
theorem dX5_best_7 : decode cX5_best 7 = .ok (.ireturn, 1) := by decide +kernel
set_option maxRecDepth 20000 in
theorem ggX5_bracket_X5_within : GoodIn wsX5_bracket wsX5_within := goodIn_r _ [11] (by decide +kernel) (by decide +kernel)
set_option maxRecDepth 20000 in
theorem gX5_bracket_X5_within : GoodIn wsX5_bracket (va_wsS RX5 41 yX5_within wsX5_within) := goodIn_app (goodIn_of _ (by decide +kernel)) ggX5_bracket_X5_within
set_option maxRecDepth 20000 in
theorem ggX5_bracket_X1_start : GoodIn wsX5_bracket wsX1_start := goodIn_r _ [16, 17, 18, 19, 20, 21, 22, 23, 24, 25, 26, 43, 44, 45, 46, 47, 48, 49, 50, 51, 52] (by decide +kernel) (by decide +kernel)
set_option maxRecDepth 20000 in
theorem gX5_bracket_X1_start : GoodIn wsX5_bracket (wsV RX5 185 RX1 yX1_start wsX1_start) := goodIn_app (goodIn_of _ (by decide +kernel)) ggX5_bracket_X1_start
theorem dX5_bracket_0 : decode cX5_bracket 0 = .ok (.iload_n 2, 1) := by decide +kernel
theorem dX5_bracket_1 : decode cX5_bracket 1 = .ok (.i2l, 1) := by decide +kernel
theorem dX5_bracket_2 : decode cX5_bracket 2 = .ok (.lconst 1, 1) := by decide +kernel
theorem dX5_bracket_3 : decode cX5_bracket 3 = .ok (.ldc2_w 153, 3) := by decide +kernel
theorem dX5_bracket_6 : decode cX5_bracket 6 = .ok (.invokestatic 41, 3) := by decide +kernel
theorem dX5_bracket_9 : decode cX5_bracket 9 = .ok (.ifCond .eq 22, 3) := by decide +kernel
theorem dX5_bracket_12 : decode cX5_bracket 12 = .ok (.iload_n 1, 1) := by decide +kernel
theorem dX5_bracket_13 : decode cX5_bracket 13 = .ok (.i2l, 1) := by decide +kernel
theorem dX5_bracket_14 : decode cX5_bracket 14 = .ok (.lconst 0, 1) := by decide +kernel
theorem dX5_bracket_15 : decode cX5_bracket 15 = .ok (.aload_n 0, 1) := by decide +kernel
theorem dX5_bracket_16 : decode cX5_bracket 16 = .ok (.getfield 21, 3) := by decide +kernel
theorem dX5_bracket_19 : decode cX5_bracket 19 = .ok (.getfield 53, 3) := by decide +kernel
theorem dX5_bracket_22 : decode cX5_bracket 22 = .ok (.iload_n 2, 1) := by decide +kernel
theorem dX5_bracket_23 : decode cX5_bracket 23 = .ok (.isub, 1) := by decide +kernel
theorem dX5_bracket_24 : decode cX5_bracket 24 = .ok (.i2l, 1) := by decide +kernel
theorem dX5_bracket_25 : decode cX5_bracket 25 = .ok (.invokestatic 41, 3) := by decide +kernel
theorem dX5_bracket_28 : decode cX5_bracket 28 = .ok (.ifCond .ne 5, 3) := by decide +kernel
theorem dX5_bracket_31 : decode cX5_bracket 31 = .ok (.iconst (-1), 1) := by decide +kernel
theorem dX5_bracket_32 : decode cX5_bracket 32 = .ok (.ireturn, 1) := by decide +kernel
theorem dX5_bracket_33 : decode cX5_bracket 33 = .ok (.iload_n 3, 1) := by decide +kernel
theorem dX5_bracket_34 : decode cX5_bracket 34 = .ok (.i2l, 1) := by decide +kernel
theorem dX5_bracket_35 : decode cX5_bracket 35 = .ok (.lconst 1, 1) := by decide +kernel
theorem dX5_bracket_36 : decode cX5_bracket 36 = .ok (.ldc2_w 183, 3) := by decide +kernel
theorem dX5_bracket_39 : decode cX5_bracket 39 = .ok (.invokestatic 41, 3) := by decide +kernel
theorem dX5_bracket_42 : decode cX5_bracket 42 = .ok (.ifCond .eq 18, 3) := by decide +kernel
theorem dX5_bracket_45 : decode cX5_bracket 45 = .ok (.iload 4, 2) := by decide +kernel
theorem dX5_bracket_47 : decode cX5_bracket 47 = .ok (.i2l, 1) := by decide +kernel
theorem dX5_bracket_48 : decode cX5_bracket 48 = .ok (.ldc2_w 93, 3) := by decide +kernel
theorem dX5_bracket_51 : decode cX5_bracket 51 = .ok (.ldc2_w 104, 3) := by decide +kernel
theorem dX5_bracket_54 : decode cX5_bracket 54 = .ok (.invokestatic 41, 3) := by decide +kernel
theorem dX5_bracket_57 : decode cX5_bracket 57 = .ok (.ifCond .ne 5, 3) := by decide +kernel
theorem dX5_bracket_60 : decode cX5_bracket 60 = .ok (.iconst (-1), 1) := by decide +kernel
theorem dX5_bracket_61 : decode cX5_bracket 61 = .ok (.ireturn, 1) := by decide +kernel
theorem dX5_bracket_62 : decode cX5_bracket 62 = .ok (.aload_n 0, 1) := by decide +kernel
theorem dX5_bracket_63 : decode cX5_bracket 63 = .ok (.getfield 28, 3) := by decide +kernel
theorem dX5_bracket_66 : decode cX5_bracket 66 = .ok (.iload_n 1, 1) := by decide +kernel
theorem dX5_bracket_67 : decode cX5_bracket 67 = .ok (.iload_n 2, 1) := by decide +kernel
theorem dX5_bracket_68 : decode cX5_bracket 68 = .ok (.iload_n 3, 1) := by decide +kernel
theorem dX5_bracket_69 : decode cX5_bracket 69 = .ok (.iload 4, 2) := by decide +kernel
theorem dX5_bracket_71 : decode cX5_bracket 71 = .ok (.invokevirtual 185, 3) := by decide +kernel
theorem dX5_bracket_74 : decode cX5_bracket 74 = .ok (.iconst 1, 1) := by decide +kernel
theorem dX5_bracket_75 : decode cX5_bracket 75 = .ok (.ireturn, 1) := by decide +kernel
set_option maxRecDepth 20000 in
theorem ggX5_result_X5_isTrial : GoodIn wsX5_result wsX5_isTrial := goodIn_r _ [6, 7, 8, 9, 10, 5, 11, 31, 32, 33, 34, 35, 36, 37, 38, 39, 40, 41, 42, 43, 44, 45, 46] (by decide +kernel) (by decide +kernel)
set_option maxRecDepth 20000 in
theorem gX5_result_X5_isTrial : GoodIn wsX5_result (wsV RX5 138 RX5 yX5_isTrial wsX5_isTrial) := goodIn_app (goodIn_of _ (by decide +kernel)) ggX5_result_X5_isTrial
set_option maxRecDepth 20000 in
theorem ggX5_result_X5_isMark : GoodIn wsX5_result wsX5_isMark := goodIn_r _ [14, 15, 16, 9, 10, 5, 11] (by decide +kernel) (by decide +kernel)
set_option maxRecDepth 20000 in
theorem gX5_result_X5_isMark : GoodIn wsX5_result (va_wsS RX5 142 yX5_isMark wsX5_isMark) := goodIn_app (goodIn_of _ (by decide +kernel)) ggX5_result_X5_isMark
set_option maxRecDepth 20000 in
theorem ggX5_result_X1_isWaiting : GoodIn wsX5_result wsX1_isWaiting := goodIn_r _ [21, 22, 47, 48, 49, 50, 51, 52, 53, 54, 55, 56] (by decide +kernel) (by decide +kernel)
set_option maxRecDepth 20000 in
theorem gX5_result_X1_isWaiting : GoodIn wsX5_result (wsV RX5 189 RX1 yX1_isWaiting wsX1_isWaiting) := goodIn_app (goodIn_of _ (by decide +kernel)) ggX5_result_X1_isWaiting
set_option maxRecDepth 20000 in
theorem ggX5_result_X1_mark : GoodIn wsX5_result wsX1_mark := goodIn_r _ [26, 22, 27, 28, 29, 30, 47, 48, 49, 50, 51, 52, 53, 54, 55, 56] (by decide +kernel) (by decide +kernel)
set_option maxRecDepth 20000 in
theorem gX5_result_X1_mark : GoodIn wsX5_result (wsV RX5 192 RX1 yX1_mark wsX1_mark) := goodIn_app (goodIn_of _ (by decide +kernel)) ggX5_result_X1_mark
theorem dX5_result_0 : decode cX5_result 0 = .ok (.aload_n 0, 1) := by decide +kernel
theorem dX5_result_1 : decode cX5_result 1 = .ok (.iload_n 1, 1) := by decide +kernel
theorem dX5_result_2 : decode cX5_result 2 = .ok (.invokevirtual 138, 3) := by decide +kernel
theorem dX5_result_5 : decode cX5_result 5 = .ok (.ifCond .eq 11, 3) := by decide +kernel
theorem dX5_result_8 : decode cX5_result 8 = .ok (.iload_n 2, 1) := by decide +kernel
theorem dX5_result_9 : decode cX5_result 9 = .ok (.iload_n 3, 1) := by decide +kernel
theorem dX5_result_10 : decode cX5_result 10 = .ok (.invokestatic 142, 3) := by decide +kernel
theorem dX5_result_13 : decode cX5_result 13 = .ok (.ifCond .ne 5, 3) := by decide +kernel
theorem dX5_result_16 : decode cX5_result 16 = .ok (.iconst (-1), 1) := by decide +kernel
theorem dX5_result_17 : decode cX5_result 17 = .ok (.ireturn, 1) := by decide +kernel
theorem dX5_result_18 : decode cX5_result 18 = .ok (.aload_n 0, 1) := by decide +kernel
theorem dX5_result_19 : decode cX5_result 19 = .ok (.getfield 28, 3) := by decide +kernel
theorem dX5_result_22 : decode cX5_result 22 = .ok (.iload_n 1, 1) := by decide +kernel
theorem dX5_result_23 : decode cX5_result 23 = .ok (.invokevirtual 189, 3) := by decide +kernel
theorem dX5_result_26 : decode cX5_result 26 = .ok (.ifCond .eq 16, 3) := by decide +kernel
theorem dX5_result_29 : decode cX5_result 29 = .ok (.aload_n 0, 1) := by decide +kernel
theorem dX5_result_30 : decode cX5_result 30 = .ok (.getfield 28, 3) := by decide +kernel
theorem dX5_result_33 : decode cX5_result 33 = .ok (.iload_n 1, 1) := by decide +kernel
theorem dX5_result_34 : decode cX5_result 34 = .ok (.iload_n 2, 1) := by decide +kernel
theorem dX5_result_35 : decode cX5_result 35 = .ok (.iload_n 3, 1) := by decide +kernel
theorem dX5_result_36 : decode cX5_result 36 = .ok (.invokevirtual 192, 3) := by decide +kernel
theorem dX5_result_39 : decode cX5_result 39 = .ok (.goto 5, 3) := by decide +kernel
theorem dX5_result_42 : decode cX5_result 42 = .ok (.bipush (-3), 2) := by decide +kernel
theorem dX5_result_44 : decode cX5_result 44 = .ok (.ireturn, 1) := by decide +kernel
set_option maxRecDepth 20000 in
theorem ggX5_halve_X1_canEnd : GoodIn wsX5_halve wsX1_canEnd := goodIn_r _ [6, 7, 8, 9, 43, 44, 45, 46, 47, 48, 49, 50, 51, 52] (by decide +kernel) (by decide +kernel)
set_option maxRecDepth 20000 in
theorem gX5_halve_X1_canEnd : GoodIn wsX5_halve (wsV RX5 195 RX1 yX1_canEnd wsX1_canEnd) := goodIn_app (goodIn_of _ (by decide +kernel)) ggX5_halve_X1_canEnd
set_option maxRecDepth 20000 in
theorem ggX5_halve_X1_end : GoodIn wsX5_halve wsX1_end := goodIn_r _ [13, 14, 15, 16, 17, 18, 19, 9, 20, 21, 22, 23, 24, 25, 8, 26, 27, 28, 29, 30, 31, 5, 32, 33, 34, 35, 36, 37, 38, 43, 44, 45, 46, 47, 48, 49, 50, 51, 52] (by decide +kernel) (by decide +kernel)
set_option maxRecDepth 20000 in
theorem gX5_halve_X1_end : GoodIn wsX5_halve (wsV RX5 199 RX1 yX1_end wsX1_end) := goodIn_app (goodIn_of _ (by decide +kernel)) ggX5_halve_X1_end
theorem dX5_halve_0 : decode cX5_halve 0 = .ok (.aload_n 0, 1) := by decide +kernel
theorem dX5_halve_1 : decode cX5_halve 1 = .ok (.getfield 28, 3) := by decide +kernel
theorem dX5_halve_4 : decode cX5_halve 4 = .ok (.invokevirtual 195, 3) := by decide +kernel
theorem dX5_halve_7 : decode cX5_halve 7 = .ok (.ifCond .eq 13, 3) := by decide +kernel
theorem dX5_halve_10 : decode cX5_halve 10 = .ok (.aload_n 0, 1) := by decide +kernel
theorem dX5_halve_11 : decode cX5_halve 11 = .ok (.getfield 28, 3) := by decide +kernel
theorem dX5_halve_14 : decode cX5_halve 14 = .ok (.invokevirtual 199, 3) := by decide +kernel
theorem dX5_halve_17 : decode cX5_halve 17 = .ok (.goto 5, 3) := by decide +kernel
theorem dX5_halve_20 : decode cX5_halve 20 = .ok (.bipush (-3), 2) := by decide +kernel
theorem dX5_halve_22 : decode cX5_halve 22 = .ok (.ireturn, 1) := by decide +kernel
set_option maxRecDepth 20000 in
theorem ggX5_round_X5_within : GoodIn wsX5_round wsX5_within := goodIn_r _ [7] (by decide +kernel) (by decide +kernel)
set_option maxRecDepth 20000 in
theorem gX5_round_X5_within : GoodIn wsX5_round (va_wsS RX5 41 yX5_within wsX5_within) := goodIn_app (goodIn_of _ (by decide +kernel)) ggX5_round_X5_within
set_option maxRecDepth 20000 in
theorem ggX5_round_X1_tell : GoodIn wsX5_round wsX1_tell := goodIn_r _ [12, 13, 14, 15, 16, 21, 22, 23, 24, 25, 26, 27, 28, 29, 30] (by decide +kernel) (by decide +kernel)
set_option maxRecDepth 20000 in
theorem gX5_round_X1_tell : GoodIn wsX5_round (wsV RX5 208 RX1 yX1_tell wsX1_tell) := goodIn_app (goodIn_of _ (by decide +kernel)) ggX5_round_X1_tell
theorem dX5_round_0 : decode cX5_round 0 = .ok (.iload_n 1, 1) := by decide +kernel
theorem dX5_round_1 : decode cX5_round 1 = .ok (.i2l, 1) := by decide +kernel
theorem dX5_round_2 : decode cX5_round 2 = .ok (.lconst 0, 1) := by decide +kernel
theorem dX5_round_3 : decode cX5_round 3 = .ok (.ldc2_w 202, 3) := by decide +kernel
theorem dX5_round_6 : decode cX5_round 6 = .ok (.invokestatic 41, 3) := by decide +kernel
theorem dX5_round_9 : decode cX5_round 9 = .ok (.ifCond .ne 5, 3) := by decide +kernel
theorem dX5_round_12 : decode cX5_round 12 = .ok (.iconst (-1), 1) := by decide +kernel
theorem dX5_round_13 : decode cX5_round 13 = .ok (.ireturn, 1) := by decide +kernel
theorem dX5_round_14 : decode cX5_round 14 = .ok (.aload_n 0, 1) := by decide +kernel
theorem dX5_round_15 : decode cX5_round 15 = .ok (.getfield 28, 3) := by decide +kernel
theorem dX5_round_18 : decode cX5_round 18 = .ok (.getfield 204, 3) := by decide +kernel
theorem dX5_round_21 : decode cX5_round 21 = .ok (.ifCond .eq 14, 3) := by decide +kernel
theorem dX5_round_24 : decode cX5_round 24 = .ok (.aload_n 0, 1) := by decide +kernel
theorem dX5_round_25 : decode cX5_round 25 = .ok (.getfield 28, 3) := by decide +kernel
theorem dX5_round_28 : decode cX5_round 28 = .ok (.iload_n 1, 1) := by decide +kernel
theorem dX5_round_29 : decode cX5_round 29 = .ok (.invokevirtual 208, 3) := by decide +kernel
theorem dX5_round_32 : decode cX5_round 32 = .ok (.goto 5, 3) := by decide +kernel
theorem dX5_round_35 : decode cX5_round 35 = .ok (.bipush (-2), 2) := by decide +kernel
theorem dX5_round_37 : decode cX5_round 37 = .ok (.ireturn, 1) := by decide +kernel
theorem dX5_cost_0 : decode cX5_cost 0 = .ok (.aload_n 0, 1) := by decide +kernel
theorem dX5_cost_1 : decode cX5_cost 1 = .ok (.getfield 28, 3) := by decide +kernel
theorem dX5_cost_4 : decode cX5_cost 4 = .ok (.getfield 212, 3) := by decide +kernel
theorem dX5_cost_7 : decode cX5_cost 7 = .ok (.lreturn, 1) := by decide +kernel
set_option maxRecDepth 20000 in
theorem ggX5_plan_X5_within : GoodIn wsX5_plan wsX5_within := goodIn_r _ [8] (by decide +kernel) (by decide +kernel)
set_option maxRecDepth 20000 in
theorem gX5_plan_X5_within : GoodIn wsX5_plan (va_wsS RX5 41 yX5_within wsX5_within) := goodIn_app (goodIn_of _ (by decide +kernel)) ggX5_plan_X5_within
set_option maxRecDepth 20000 in
theorem ggX5_plan_X5_lastBracket : GoodIn wsX5_plan wsX5_lastBracket := goodIn_r _ [11, 12, 13, 7, 14] (by decide +kernel) (by decide +kernel)
set_option maxRecDepth 20000 in
theorem gX5_plan_X5_lastBracket : GoodIn wsX5_plan (va_wsS RX5 215 yX5_lastBracket wsX5_lastBracket) := goodIn_app (goodIn_of _ (by decide +kernel)) ggX5_plan_X5_lastBracket
set_option maxRecDepth 20000 in
theorem ggX5_plan_X5_power : GoodIn wsX5_plan wsX5_power := goodIn_r _ [14] (by decide +kernel) (by decide +kernel)
set_option maxRecDepth 20000 in
theorem gX5_plan_X5_power : GoodIn wsX5_plan (va_wsS RX5 218 yX5_power wsX5_power) := goodIn_app (goodIn_of _ (by decide +kernel)) ggX5_plan_X5_power
set_option maxRecDepth 20000 in
theorem ggX5_plan_X5_cutUp : GoodIn wsX5_plan wsX5_cutUp := goodIn_r _ [17, 18, 19, 7, 20] (by decide +kernel) (by decide +kernel)
set_option maxRecDepth 20000 in
theorem gX5_plan_X5_cutUp : GoodIn wsX5_plan (va_wsS RX5 221 yX5_cutUp wsX5_cutUp) := goodIn_app (goodIn_of _ (by decide +kernel)) ggX5_plan_X5_cutUp
set_option maxRecDepth 20000 in
theorem ggX5_plan_X5_cut : GoodIn wsX5_plan wsX5_cut := goodIn_r _ [20] (by decide +kernel) (by decide +kernel)
set_option maxRecDepth 20000 in
theorem gX5_plan_X5_cut : GoodIn wsX5_plan (va_wsS RX5 135 yX5_cut wsX5_cut) := goodIn_app (goodIn_of _ (by decide +kernel)) ggX5_plan_X5_cut
theorem dX5_plan_0 : decode cX5_plan 0 = .ok (.iload_n 1, 1) := by decide +kernel
theorem dX5_plan_1 : decode cX5_plan 1 = .ok (.i2l, 1) := by decide +kernel
theorem dX5_plan_2 : decode cX5_plan 2 = .ok (.lconst 1, 1) := by decide +kernel
theorem dX5_plan_3 : decode cX5_plan 3 = .ok (.ldc2_w 183, 3) := by decide +kernel
theorem dX5_plan_6 : decode cX5_plan 6 = .ok (.invokestatic 41, 3) := by decide +kernel
theorem dX5_plan_9 : decode cX5_plan 9 = .ok (.ifCond .eq 28, 3) := by decide +kernel
theorem dX5_plan_12 : decode cX5_plan 12 = .ok (.iload_n 2, 1) := by decide +kernel
theorem dX5_plan_13 : decode cX5_plan 13 = .ok (.i2l, 1) := by decide +kernel
theorem dX5_plan_14 : decode cX5_plan 14 = .ok (.ldc2_w 93, 3) := by decide +kernel
theorem dX5_plan_17 : decode cX5_plan 17 = .ok (.ldc2_w 104, 3) := by decide +kernel
theorem dX5_plan_20 : decode cX5_plan 20 = .ok (.invokestatic 41, 3) := by decide +kernel
theorem dX5_plan_23 : decode cX5_plan 23 = .ok (.ifCond .eq 14, 3) := by decide +kernel
theorem dX5_plan_26 : decode cX5_plan 26 = .ok (.iload 4, 2) := by decide +kernel
theorem dX5_plan_28 : decode cX5_plan 28 = .ok (.i2l, 1) := by decide +kernel
theorem dX5_plan_29 : decode cX5_plan 29 = .ok (.lconst 0, 1) := by decide +kernel
theorem dX5_plan_30 : decode cX5_plan 30 = .ok (.lconst 1, 1) := by decide +kernel
theorem dX5_plan_31 : decode cX5_plan 31 = .ok (.invokestatic 41, 3) := by decide +kernel
theorem dX5_plan_34 : decode cX5_plan 34 = .ok (.ifCond .ne 5, 3) := by decide +kernel
theorem dX5_plan_37 : decode cX5_plan 37 = .ok (.iconst (-1), 1) := by decide +kernel
theorem dX5_plan_38 : decode cX5_plan 38 = .ok (.ireturn, 1) := by decide +kernel
theorem dX5_plan_39 : decode cX5_plan 39 = .ok (.iload_n 1, 1) := by decide +kernel
theorem dX5_plan_40 : decode cX5_plan 40 = .ok (.iload_n 2, 1) := by decide +kernel
theorem dX5_plan_41 : decode cX5_plan 41 = .ok (.invokestatic 215, 3) := by decide +kernel
theorem dX5_plan_44 : decode cX5_plan 44 = .ok (.istore 5, 2) := by decide +kernel
theorem dX5_plan_46 : decode cX5_plan 46 = .ok (.iload_n 3, 1) := by decide +kernel
theorem dX5_plan_47 : decode cX5_plan 47 = .ok (.i2l, 1) := by decide +kernel
theorem dX5_plan_48 : decode cX5_plan 48 = .ok (.ldc2_w 45, 3) := by decide +kernel
theorem dX5_plan_51 : decode cX5_plan 51 = .ok (.iload 5, 2) := by decide +kernel
theorem dX5_plan_53 : decode cX5_plan 53 = .ok (.i2l, 1) := by decide +kernel
theorem dX5_plan_54 : decode cX5_plan 54 = .ok (.invokestatic 41, 3) := by decide +kernel
theorem dX5_plan_57 : decode cX5_plan 57 = .ok (.ifCond .ne 5, 3) := by decide +kernel
theorem dX5_plan_60 : decode cX5_plan 60 = .ok (.iconst (-1), 1) := by decide +kernel
theorem dX5_plan_61 : decode cX5_plan 61 = .ok (.ireturn, 1) := by decide +kernel
theorem dX5_plan_62 : decode cX5_plan 62 = .ok (.iload_n 3, 1) := by decide +kernel
theorem dX5_plan_63 : decode cX5_plan 63 = .ok (.iconst (-1), 1) := by decide +kernel
theorem dX5_plan_64 : decode cX5_plan 64 = .ok (.if_icmp .ne 15, 3) := by decide +kernel
theorem dX5_plan_67 : decode cX5_plan 67 = .ok (.iload 4, 2) := by decide +kernel
theorem dX5_plan_69 : decode cX5_plan 69 = .ok (.ifCond .ne 8, 3) := by decide +kernel
theorem dX5_plan_72 : decode cX5_plan 72 = .ok (.iload 5, 2) := by decide +kernel
theorem dX5_plan_74 : decode cX5_plan 74 = .ok (.goto 4, 3) := by decide +kernel
theorem dX5_plan_77 : decode cX5_plan 77 = .ok (.iconst (-1), 1) := by decide +kernel
theorem dX5_plan_78 : decode cX5_plan 78 = .ok (.ireturn, 1) := by decide +kernel
theorem dX5_plan_79 : decode cX5_plan 79 = .ok (.iload_n 2, 1) := by decide +kernel
theorem dX5_plan_80 : decode cX5_plan 80 = .ok (.iload_n 3, 1) := by decide +kernel
theorem dX5_plan_81 : decode cX5_plan 81 = .ok (.invokestatic 218, 3) := by decide +kernel
theorem dX5_plan_84 : decode cX5_plan 84 = .ok (.lstore 6, 2) := by decide +kernel
theorem dX5_plan_86 : decode cX5_plan 86 = .ok (.iload 4, 2) := by decide +kernel
theorem dX5_plan_88 : decode cX5_plan 88 = .ok (.ifCond .ne 21, 3) := by decide +kernel
theorem dX5_plan_91 : decode cX5_plan 91 = .ok (.iload 5, 2) := by decide +kernel
theorem dX5_plan_93 : decode cX5_plan 93 = .ok (.iconst 1, 1) := by decide +kernel
theorem dX5_plan_94 : decode cX5_plan 94 = .ok (.iadd, 1) := by decide +kernel
theorem dX5_plan_95 : decode cX5_plan 95 = .ok (.i2l, 1) := by decide +kernel
theorem dX5_plan_96 : decode cX5_plan 96 = .ok (.lload 6, 2) := by decide +kernel
theorem dX5_plan_98 : decode cX5_plan 98 = .ok (.lmul, 1) := by decide +kernel
theorem dX5_plan_99 : decode cX5_plan 99 = .ok (.iload_n 3, 1) := by decide +kernel
theorem dX5_plan_100 : decode cX5_plan 100 = .ok (.iconst 1, 1) := by decide +kernel
theorem dX5_plan_101 : decode cX5_plan 101 = .ok (.iadd, 1) := by decide +kernel
theorem dX5_plan_102 : decode cX5_plan 102 = .ok (.i2l, 1) := by decide +kernel
theorem dX5_plan_103 : decode cX5_plan 103 = .ok (.invokestatic 221, 3) := by decide +kernel
theorem dX5_plan_106 : decode cX5_plan 106 = .ok (.goto 10, 3) := by decide +kernel
theorem dX5_plan_109 : decode cX5_plan 109 = .ok (.iload_n 1, 1) := by decide +kernel
theorem dX5_plan_110 : decode cX5_plan 110 = .ok (.i2l, 1) := by decide +kernel
theorem dX5_plan_111 : decode cX5_plan 111 = .ok (.lload 6, 2) := by decide +kernel
theorem dX5_plan_113 : decode cX5_plan 113 = .ok (.invokestatic 135, 3) := by decide +kernel
theorem dX5_plan_116 : decode cX5_plan 116 = .ok (.l2i, 1) := by decide +kernel
theorem dX5_plan_117 : decode cX5_plan 117 = .ok (.ireturn, 1) := by decide +kernel
set_option maxRecDepth 20000 in
theorem ggX5_folds_X5_within : GoodIn wsX5_folds wsX5_within := goodIn_r _ [8] (by decide +kernel) (by decide +kernel)
set_option maxRecDepth 20000 in
theorem gX5_folds_X5_within : GoodIn wsX5_folds (va_wsS RX5 41 yX5_within wsX5_within) := goodIn_app (goodIn_of _ (by decide +kernel)) ggX5_folds_X5_within
set_option maxRecDepth 20000 in
theorem ggX5_folds_X0_make : GoodIn wsX5_folds wsX0_make := goodIn_r _ [13, 14, 15, 16, 17, 18, 19, 20, 21, 22, 23, 24, 25, 26, 27, 28, 29, 30, 31, 32, 33, 34, 35, 12, 36, 37, 38, 39, 40, 41, 7, 42, 43, 44, 49, 50, 51, 52, 53, 54, 55, 56] (by decide +kernel) (by decide +kernel)
set_option maxRecDepth 20000 in
theorem gX5_folds_X0_make : GoodIn wsX5_folds (wsV RX5 228 RX0 yX0_make wsX0_make) := goodIn_app (goodIn_of _ (by decide +kernel)) ggX5_folds_X0_make
theorem dX5_folds_0 : decode cX5_folds 0 = .ok (.iload_n 1, 1) := by decide +kernel
theorem dX5_folds_1 : decode cX5_folds 1 = .ok (.i2l, 1) := by decide +kernel
theorem dX5_folds_2 : decode cX5_folds 2 = .ok (.lconst 1, 1) := by decide +kernel
theorem dX5_folds_3 : decode cX5_folds 3 = .ok (.ldc2_w 224, 3) := by decide +kernel
theorem dX5_folds_6 : decode cX5_folds 6 = .ok (.invokestatic 41, 3) := by decide +kernel
theorem dX5_folds_9 : decode cX5_folds 9 = .ok (.ifCond .eq 31, 3) := by decide +kernel
theorem dX5_folds_12 : decode cX5_folds 12 = .ok (.iload_n 2, 1) := by decide +kernel
theorem dX5_folds_13 : decode cX5_folds 13 = .ok (.i2l, 1) := by decide +kernel
theorem dX5_folds_14 : decode cX5_folds 14 = .ok (.ldc2_w 93, 3) := by decide +kernel
theorem dX5_folds_17 : decode cX5_folds 17 = .ok (.ldc2_w 226, 3) := by decide +kernel
theorem dX5_folds_20 : decode cX5_folds 20 = .ok (.invokestatic 41, 3) := by decide +kernel
theorem dX5_folds_23 : decode cX5_folds 23 = .ok (.ifCond .eq 17, 3) := by decide +kernel
theorem dX5_folds_26 : decode cX5_folds 26 = .ok (.iload_n 3, 1) := by decide +kernel
theorem dX5_folds_27 : decode cX5_folds 27 = .ok (.i2l, 1) := by decide +kernel
theorem dX5_folds_28 : decode cX5_folds 28 = .ok (.ldc2_w 93, 3) := by decide +kernel
theorem dX5_folds_31 : decode cX5_folds 31 = .ok (.ldc2_w 226, 3) := by decide +kernel
theorem dX5_folds_34 : decode cX5_folds 34 = .ok (.invokestatic 41, 3) := by decide +kernel
theorem dX5_folds_37 : decode cX5_folds 37 = .ok (.ifCond .ne 5, 3) := by decide +kernel
theorem dX5_folds_40 : decode cX5_folds 40 = .ok (.iconst (-1), 1) := by decide +kernel
theorem dX5_folds_41 : decode cX5_folds 41 = .ok (.ireturn, 1) := by decide +kernel
theorem dX5_folds_42 : decode cX5_folds 42 = .ok (.aload_n 0, 1) := by decide +kernel
theorem dX5_folds_43 : decode cX5_folds 43 = .ok (.getfield 35, 3) := by decide +kernel
theorem dX5_folds_46 : decode cX5_folds 46 = .ok (.iload_n 1, 1) := by decide +kernel
theorem dX5_folds_47 : decode cX5_folds 47 = .ok (.iload_n 2, 1) := by decide +kernel
theorem dX5_folds_48 : decode cX5_folds 48 = .ok (.iload_n 3, 1) := by decide +kernel
theorem dX5_folds_49 : decode cX5_folds 49 = .ok (.iload 4, 2) := by decide +kernel
theorem dX5_folds_51 : decode cX5_folds 51 = .ok (.invokevirtual 228, 3) := by decide +kernel
theorem dX5_folds_54 : decode cX5_folds 54 = .ok (.iconst 1, 1) := by decide +kernel
theorem dX5_folds_55 : decode cX5_folds 55 = .ok (.ireturn, 1) := by decide +kernel
set_option maxRecDepth 20000 in
theorem ggX5_fold_X5_isRow : GoodIn wsX5_fold wsX5_isRow := goodIn_r _ [8, 1, 9, 10, 11, 7, 12, 13, 14, 15, 16, 17, 18, 19, 20, 21, 22, 23, 24] (by decide +kernel) (by decide +kernel)
set_option maxRecDepth 20000 in
theorem gX5_fold_X5_isRow : GoodIn wsX5_fold (wsV RX5 231 RX5 yX5_isRow wsX5_isRow) := goodIn_app (goodIn_of _ (by decide +kernel)) ggX5_fold_X5_isRow
set_option maxRecDepth 20000 in
theorem ggX5_fold_X5_within : GoodIn wsX5_fold wsX5_within := goodIn_r _ [12] (by decide +kernel) (by decide +kernel)
set_option maxRecDepth 20000 in
theorem gX5_fold_X5_within : GoodIn wsX5_fold (va_wsS RX5 41 yX5_within wsX5_within) := goodIn_app (goodIn_of _ (by decide +kernel)) ggX5_fold_X5_within
theorem dX5_fold_0 : decode cX5_fold 0 = .ok (.aload_n 0, 1) := by decide +kernel
theorem dX5_fold_1 : decode cX5_fold 1 = .ok (.iload_n 1, 1) := by decide +kernel
theorem dX5_fold_2 : decode cX5_fold 2 = .ok (.invokevirtual 231, 3) := by decide +kernel
theorem dX5_fold_5 : decode cX5_fold 5 = .ok (.ifCond .eq 13, 3) := by decide +kernel
theorem dX5_fold_8 : decode cX5_fold 8 = .ok (.iload_n 2, 1) := by decide +kernel
theorem dX5_fold_9 : decode cX5_fold 9 = .ok (.i2l, 1) := by decide +kernel
theorem dX5_fold_10 : decode cX5_fold 10 = .ok (.lconst 0, 1) := by decide +kernel
theorem dX5_fold_11 : decode cX5_fold 11 = .ok (.lconst 1, 1) := by decide +kernel
theorem dX5_fold_12 : decode cX5_fold 12 = .ok (.invokestatic 41, 3) := by decide +kernel
theorem dX5_fold_15 : decode cX5_fold 15 = .ok (.ifCond .ne 5, 3) := by decide +kernel
theorem dX5_fold_18 : decode cX5_fold 18 = .ok (.iconst (-1), 1) := by decide +kernel
theorem dX5_fold_19 : decode cX5_fold 19 = .ok (.ireturn, 1) := by decide +kernel
theorem dX5_fold_20 : decode cX5_fold 20 = .ok (.iload_n 2, 1) := by decide +kernel
theorem dX5_fold_21 : decode cX5_fold 21 = .ok (.ifCond .ne 15, 3) := by decide +kernel
theorem dX5_fold_24 : decode cX5_fold 24 = .ok (.aload_n 0, 1) := by decide +kernel
theorem dX5_fold_25 : decode cX5_fold 25 = .ok (.getfield 35, 3) := by decide +kernel
theorem dX5_fold_28 : decode cX5_fold 28 = .ok (.getfield 234, 3) := by decide +kernel
theorem dX5_fold_31 : decode cX5_fold 31 = .ok (.iload_n 1, 1) := by decide +kernel
theorem dX5_fold_32 : decode cX5_fold 32 = .ok (.iaload, 1) := by decide +kernel
theorem dX5_fold_33 : decode cX5_fold 33 = .ok (.goto 12, 3) := by decide +kernel
theorem dX5_fold_36 : decode cX5_fold 36 = .ok (.aload_n 0, 1) := by decide +kernel
theorem dX5_fold_37 : decode cX5_fold 37 = .ok (.getfield 35, 3) := by decide +kernel
theorem dX5_fold_40 : decode cX5_fold 40 = .ok (.getfield 237, 3) := by decide +kernel
theorem dX5_fold_43 : decode cX5_fold 43 = .ok (.iload_n 1, 1) := by decide +kernel
theorem dX5_fold_44 : decode cX5_fold 44 = .ok (.iaload, 1) := by decide +kernel
theorem dX5_fold_45 : decode cX5_fold 45 = .ok (.ireturn, 1) := by decide +kernel
set_option maxRecDepth 20000 in
theorem ggX5_use_X5_isOuter : GoodIn wsX5_use wsX5_isOuter := goodIn_r _ [9, 2, 10, 11, 12, 8, 13, 28, 29, 30, 31, 32, 33, 34, 35, 36, 37, 38, 39] (by decide +kernel) (by decide +kernel)
set_option maxRecDepth 20000 in
theorem gX5_use_X5_isOuter : GoodIn wsX5_use (wsV RX5 240 RX5 yX5_isOuter wsX5_isOuter) := goodIn_app (goodIn_of _ (by decide +kernel)) ggX5_use_X5_isOuter
set_option maxRecDepth 20000 in
theorem ggX5_use_X5_within : GoodIn wsX5_use wsX5_within := goodIn_r _ [13] (by decide +kernel) (by decide +kernel)
set_option maxRecDepth 20000 in
theorem gX5_use_X5_within : GoodIn wsX5_use (va_wsS RX5 41 yX5_within wsX5_within) := goodIn_app (goodIn_of _ (by decide +kernel)) ggX5_use_X5_within
set_option maxRecDepth 20000 in
theorem ggX5_use_X0_test : GoodIn wsX5_use wsX0_test := goodIn_r _ [18, 19, 20, 21, 32, 33, 34, 35, 36, 37, 38, 39] (by decide +kernel) (by decide +kernel)
set_option maxRecDepth 20000 in
theorem gX5_use_X0_test : GoodIn wsX5_use (wsV RX5 249 RX0 yX0_test wsX0_test) := goodIn_app (goodIn_of _ (by decide +kernel)) ggX5_use_X0_test
set_option maxRecDepth 20000 in
theorem ggX5_use_X0_choose : GoodIn wsX5_use wsX0_choose := goodIn_r _ [25, 26, 20, 21, 27, 32, 33, 34, 35, 36, 37, 38, 39] (by decide +kernel) (by decide +kernel)
set_option maxRecDepth 20000 in
theorem gX5_use_X0_choose : GoodIn wsX5_use (wsV RX5 252 RX0 yX0_choose wsX0_choose) := goodIn_app (goodIn_of _ (by decide +kernel)) ggX5_use_X0_choose
theorem dX5_use_0 : decode cX5_use 0 = .ok (.aload_n 0, 1) := by decide +kernel
theorem dX5_use_1 : decode cX5_use 1 = .ok (.iload_n 1, 1) := by decide +kernel
theorem dX5_use_2 : decode cX5_use 2 = .ok (.invokevirtual 240, 3) := by decide +kernel
theorem dX5_use_5 : decode cX5_use 5 = .ok (.ifCond .eq 24, 3) := by decide +kernel
theorem dX5_use_8 : decode cX5_use 8 = .ok (.iload_n 2, 1) := by decide +kernel
theorem dX5_use_9 : decode cX5_use 9 = .ok (.i2l, 1) := by decide +kernel
theorem dX5_use_10 : decode cX5_use 10 = .ok (.ldc2_w 45, 3) := by decide +kernel
theorem dX5_use_13 : decode cX5_use 13 = .ok (.aload_n 0, 1) := by decide +kernel
theorem dX5_use_14 : decode cX5_use 14 = .ok (.getfield 35, 3) := by decide +kernel
theorem dX5_use_17 : decode cX5_use 17 = .ok (.getfield 243, 3) := by decide +kernel
theorem dX5_use_20 : decode cX5_use 20 = .ok (.iconst 1, 1) := by decide +kernel
theorem dX5_use_21 : decode cX5_use 21 = .ok (.isub, 1) := by decide +kernel
theorem dX5_use_22 : decode cX5_use 22 = .ok (.i2l, 1) := by decide +kernel
theorem dX5_use_23 : decode cX5_use 23 = .ok (.invokestatic 41, 3) := by decide +kernel
theorem dX5_use_26 : decode cX5_use 26 = .ok (.ifCond .ne 5, 3) := by decide +kernel
theorem dX5_use_29 : decode cX5_use 29 = .ok (.iconst (-1), 1) := by decide +kernel
theorem dX5_use_30 : decode cX5_use 30 = .ok (.ireturn, 1) := by decide +kernel
theorem dX5_use_31 : decode cX5_use 31 = .ok (.aload_n 0, 1) := by decide +kernel
theorem dX5_use_32 : decode cX5_use 32 = .ok (.getfield 35, 3) := by decide +kernel
theorem dX5_use_35 : decode cX5_use 35 = .ok (.getfield 246, 3) := by decide +kernel
theorem dX5_use_38 : decode cX5_use 38 = .ok (.iload_n 1, 1) := by decide +kernel
theorem dX5_use_39 : decode cX5_use 39 = .ok (.iaload, 1) := by decide +kernel
theorem dX5_use_40 : decode cX5_use 40 = .ok (.ifCond .le 6, 3) := by decide +kernel
theorem dX5_use_43 : decode cX5_use 43 = .ok (.bipush (-3), 2) := by decide +kernel
theorem dX5_use_45 : decode cX5_use 45 = .ok (.ireturn, 1) := by decide +kernel
theorem dX5_use_46 : decode cX5_use 46 = .ok (.iload_n 2, 1) := by decide +kernel
theorem dX5_use_47 : decode cX5_use 47 = .ok (.ifCond .ge 14, 3) := by decide +kernel
theorem dX5_use_50 : decode cX5_use 50 = .ok (.aload_n 0, 1) := by decide +kernel
theorem dX5_use_51 : decode cX5_use 51 = .ok (.getfield 35, 3) := by decide +kernel
theorem dX5_use_54 : decode cX5_use 54 = .ok (.iload_n 1, 1) := by decide +kernel
theorem dX5_use_55 : decode cX5_use 55 = .ok (.invokevirtual 249, 3) := by decide +kernel
theorem dX5_use_58 : decode cX5_use 58 = .ok (.goto 12, 3) := by decide +kernel
theorem dX5_use_61 : decode cX5_use 61 = .ok (.aload_n 0, 1) := by decide +kernel
theorem dX5_use_62 : decode cX5_use 62 = .ok (.getfield 35, 3) := by decide +kernel
theorem dX5_use_65 : decode cX5_use 65 = .ok (.iload_n 1, 1) := by decide +kernel
theorem dX5_use_66 : decode cX5_use 66 = .ok (.iload_n 2, 1) := by decide +kernel
theorem dX5_use_67 : decode cX5_use 67 = .ok (.invokevirtual 252, 3) := by decide +kernel
theorem dX5_use_70 : decode cX5_use 70 = .ok (.ireturn, 1) := by decide +kernel
set_option maxRecDepth 20000 in
theorem ggX5_used_X5_isRow : GoodIn wsX5_used wsX5_isRow := goodIn_r _ [6, 1, 7, 8, 9, 5, 10, 34, 35, 36, 37, 38, 39, 40, 41, 42, 43, 44, 45] (by decide +kernel) (by decide +kernel)
set_option maxRecDepth 20000 in
theorem gX5_used_X5_isRow : GoodIn wsX5_used (wsV RX5 231 RX5 yX5_isRow wsX5_isRow) := goodIn_app (goodIn_of _ (by decide +kernel)) ggX5_used_X5_isRow
set_option maxRecDepth 20000 in
theorem ggX5_used_X5_isOuter : GoodIn wsX5_used wsX5_isOuter := goodIn_r _ [14, 1, 15, 8, 9, 5, 10, 34, 35, 36, 37, 38, 39, 40, 41, 42, 43, 44, 45] (by decide +kernel) (by decide +kernel)
set_option maxRecDepth 20000 in
theorem gX5_used_X5_isOuter : GoodIn wsX5_used (wsV RX5 240 RX5 yX5_isOuter wsX5_isOuter) := goodIn_app (goodIn_of _ (by decide +kernel)) ggX5_used_X5_isOuter
set_option maxRecDepth 20000 in
theorem ggX5_used_X0_trained : GoodIn wsX5_used wsX0_trained := goodIn_r _ [20, 21, 22, 23, 24, 25, 38, 39, 40, 41, 42, 43, 44, 45] (by decide +kernel) (by decide +kernel)
set_option maxRecDepth 20000 in
theorem gX5_used_X0_trained : GoodIn wsX5_used (wsV RX5 255 RX0 yX0_trained wsX0_trained) := goodIn_app (goodIn_of _ (by decide +kernel)) ggX5_used_X0_trained
set_option maxRecDepth 20000 in
theorem ggX5_used_X0_validated : GoodIn wsX5_used wsX0_validated := goodIn_r _ [29, 21, 25, 24, 38, 39, 40, 41, 42, 43, 44, 45] (by decide +kernel) (by decide +kernel)
set_option maxRecDepth 20000 in
theorem gX5_used_X0_validated : GoodIn wsX5_used (wsV RX5 258 RX0 yX0_validated wsX0_validated) := goodIn_app (goodIn_of _ (by decide +kernel)) ggX5_used_X0_validated
set_option maxRecDepth 20000 in
theorem ggX5_used_X0_testing : GoodIn wsX5_used wsX0_testing := goodIn_r _ [33, 21, 22, 38, 39, 40, 41, 42, 43, 44, 45] (by decide +kernel) (by decide +kernel)
set_option maxRecDepth 20000 in
theorem gX5_used_X0_testing : GoodIn wsX5_used (wsV RX5 261 RX0 yX0_testing wsX0_testing) := goodIn_app (goodIn_of _ (by decide +kernel)) ggX5_used_X0_testing
theorem dX5_used_0 : decode cX5_used 0 = .ok (.aload_n 0, 1) := by decide +kernel
theorem dX5_used_1 : decode cX5_used 1 = .ok (.iload_n 1, 1) := by decide +kernel
theorem dX5_used_2 : decode cX5_used 2 = .ok (.invokevirtual 231, 3) := by decide +kernel
theorem dX5_used_5 : decode cX5_used 5 = .ok (.ifCond .eq 11, 3) := by decide +kernel
theorem dX5_used_8 : decode cX5_used 8 = .ok (.aload_n 0, 1) := by decide +kernel
theorem dX5_used_9 : decode cX5_used 9 = .ok (.iload_n 2, 1) := by decide +kernel
theorem dX5_used_10 : decode cX5_used 10 = .ok (.invokevirtual 240, 3) := by decide +kernel
theorem dX5_used_13 : decode cX5_used 13 = .ok (.ifCond .ne 5, 3) := by decide +kernel
theorem dX5_used_16 : decode cX5_used 16 = .ok (.iconst (-1), 1) := by decide +kernel
theorem dX5_used_17 : decode cX5_used 17 = .ok (.ireturn, 1) := by decide +kernel
theorem dX5_used_18 : decode cX5_used 18 = .ok (.iload_n 3, 1) := by decide +kernel
theorem dX5_used_19 : decode cX5_used 19 = .ok (.tableswitch 55 0 2 #[25, 35, 45], 25) := by decide +kernel
theorem dX5_used_44 : decode cX5_used 44 = .ok (.aload_n 0, 1) := by decide +kernel
theorem dX5_used_45 : decode cX5_used 45 = .ok (.getfield 35, 3) := by decide +kernel
theorem dX5_used_48 : decode cX5_used 48 = .ok (.iload_n 1, 1) := by decide +kernel
theorem dX5_used_49 : decode cX5_used 49 = .ok (.iload_n 2, 1) := by decide +kernel
theorem dX5_used_50 : decode cX5_used 50 = .ok (.invokevirtual 255, 3) := by decide +kernel
theorem dX5_used_53 : decode cX5_used 53 = .ok (.ireturn, 1) := by decide +kernel
theorem dX5_used_54 : decode cX5_used 54 = .ok (.aload_n 0, 1) := by decide +kernel
theorem dX5_used_55 : decode cX5_used 55 = .ok (.getfield 35, 3) := by decide +kernel
theorem dX5_used_58 : decode cX5_used 58 = .ok (.iload_n 1, 1) := by decide +kernel
theorem dX5_used_59 : decode cX5_used 59 = .ok (.iload_n 2, 1) := by decide +kernel
theorem dX5_used_60 : decode cX5_used 60 = .ok (.invokevirtual 258, 3) := by decide +kernel
theorem dX5_used_63 : decode cX5_used 63 = .ok (.ireturn, 1) := by decide +kernel
theorem dX5_used_64 : decode cX5_used 64 = .ok (.aload_n 0, 1) := by decide +kernel
theorem dX5_used_65 : decode cX5_used 65 = .ok (.getfield 35, 3) := by decide +kernel
theorem dX5_used_68 : decode cX5_used 68 = .ok (.iload_n 1, 1) := by decide +kernel
theorem dX5_used_69 : decode cX5_used 69 = .ok (.iload_n 2, 1) := by decide +kernel
theorem dX5_used_70 : decode cX5_used 70 = .ok (.invokevirtual 261, 3) := by decide +kernel
theorem dX5_used_73 : decode cX5_used 73 = .ok (.ireturn, 1) := by decide +kernel
theorem dX5_used_74 : decode cX5_used 74 = .ok (.iconst (-1), 1) := by decide +kernel
theorem dX5_used_75 : decode cX5_used 75 = .ok (.ireturn, 1) := by decide +kernel
theorem dX5_within_0 : decode cX5_within 0 = .ok (.lload_n 2, 1) := by decide +kernel
theorem dX5_within_1 : decode cX5_within 1 = .ok (.lload_n 0, 1) := by decide +kernel
theorem dX5_within_2 : decode cX5_within 2 = .ok (.lcmp, 1) := by decide +kernel
theorem dX5_within_3 : decode cX5_within 3 = .ok (.ifCond .gt 14, 3) := by decide +kernel
theorem dX5_within_6 : decode cX5_within 6 = .ok (.lload_n 0, 1) := by decide +kernel
theorem dX5_within_7 : decode cX5_within 7 = .ok (.lload 4, 2) := by decide +kernel
theorem dX5_within_9 : decode cX5_within 9 = .ok (.lcmp, 1) := by decide +kernel
theorem dX5_within_10 : decode cX5_within 10 = .ok (.ifCond .gt 7, 3) := by decide +kernel
theorem dX5_within_13 : decode cX5_within 13 = .ok (.iconst 1, 1) := by decide +kernel
theorem dX5_within_14 : decode cX5_within 14 = .ok (.goto 4, 3) := by decide +kernel
theorem dX5_within_17 : decode cX5_within 17 = .ok (.iconst 0, 1) := by decide +kernel
theorem dX5_within_18 : decode cX5_within 18 = .ok (.ireturn, 1) := by decide +kernel
set_option maxRecDepth 20000 in
theorem ggX5_isMark_X5_within : GoodIn wsX5_isMark wsX5_within := goodIn_r _ [6] (by decide +kernel) (by decide +kernel)
set_option maxRecDepth 20000 in
theorem gX5_isMark_X5_within : GoodIn wsX5_isMark (va_wsS RX5 41 yX5_within wsX5_within) := goodIn_app (goodIn_of _ (by decide +kernel)) ggX5_isMark_X5_within
theorem dX5_isMark_0 : decode cX5_isMark 0 = .ok (.iload_n 1, 1) := by decide +kernel
theorem dX5_isMark_1 : decode cX5_isMark 1 = .ok (.ifCond .eq 17, 3) := by decide +kernel
theorem dX5_isMark_4 : decode cX5_isMark 4 = .ok (.iload_n 0, 1) := by decide +kernel
theorem dX5_isMark_5 : decode cX5_isMark 5 = .ok (.i2l, 1) := by decide +kernel
theorem dX5_isMark_6 : decode cX5_isMark 6 = .ok (.ldc2_w 264, 3) := by decide +kernel
theorem dX5_isMark_9 : decode cX5_isMark 9 = .ok (.ldc2_w 183, 3) := by decide +kernel
theorem dX5_isMark_12 : decode cX5_isMark 12 = .ok (.invokestatic 41, 3) := by decide +kernel
theorem dX5_isMark_15 : decode cX5_isMark 15 = .ok (.ifCond .eq 7, 3) := by decide +kernel
theorem dX5_isMark_18 : decode cX5_isMark 18 = .ok (.iconst 1, 1) := by decide +kernel
theorem dX5_isMark_19 : decode cX5_isMark 19 = .ok (.goto 4, 3) := by decide +kernel
theorem dX5_isMark_22 : decode cX5_isMark 22 = .ok (.iconst 0, 1) := by decide +kernel
theorem dX5_isMark_23 : decode cX5_isMark 23 = .ok (.ireturn, 1) := by decide +kernel
set_option maxRecDepth 20000 in
theorem ggX5_isPoint_X5_within : GoodIn wsX5_isPoint wsX5_within := goodIn_r _ [6] (by decide +kernel) (by decide +kernel)
set_option maxRecDepth 20000 in
theorem gX5_isPoint_X5_within : GoodIn wsX5_isPoint (va_wsS RX5 41 yX5_within wsX5_within) := goodIn_app (goodIn_of _ (by decide +kernel)) ggX5_isPoint_X5_within
theorem dX5_isPoint_0 : decode cX5_isPoint 0 = .ok (.lload_n 1, 1) := by decide +kernel
theorem dX5_isPoint_1 : decode cX5_isPoint 1 = .ok (.lconst 0, 1) := by decide +kernel
theorem dX5_isPoint_2 : decode cX5_isPoint 2 = .ok (.aload_n 0, 1) := by decide +kernel
theorem dX5_isPoint_3 : decode cX5_isPoint 3 = .ok (.getfield 12, 3) := by decide +kernel
theorem dX5_isPoint_6 : decode cX5_isPoint 6 = .ok (.getfield 60, 3) := by decide +kernel
theorem dX5_isPoint_9 : decode cX5_isPoint 9 = .ok (.lconst 1, 1) := by decide +kernel
theorem dX5_isPoint_10 : decode cX5_isPoint 10 = .ok (.lsub, 1) := by decide +kernel
theorem dX5_isPoint_11 : decode cX5_isPoint 11 = .ok (.invokestatic 41, 3) := by decide +kernel
theorem dX5_isPoint_14 : decode cX5_isPoint 14 = .ok (.ireturn, 1) := by decide +kernel
set_option maxRecDepth 20000 in
theorem ggX5_isTrial_X5_within : GoodIn wsX5_isTrial wsX5_within := goodIn_r _ [6] (by decide +kernel) (by decide +kernel)
set_option maxRecDepth 20000 in
theorem gX5_isTrial_X5_within : GoodIn wsX5_isTrial (va_wsS RX5 41 yX5_within wsX5_within) := goodIn_app (goodIn_of _ (by decide +kernel)) ggX5_isTrial_X5_within
theorem dX5_isTrial_0 : decode cX5_isTrial 0 = .ok (.iload_n 1, 1) := by decide +kernel
theorem dX5_isTrial_1 : decode cX5_isTrial 1 = .ok (.i2l, 1) := by decide +kernel
theorem dX5_isTrial_2 : decode cX5_isTrial 2 = .ok (.lconst 0, 1) := by decide +kernel
theorem dX5_isTrial_3 : decode cX5_isTrial 3 = .ok (.aload_n 0, 1) := by decide +kernel
theorem dX5_isTrial_4 : decode cX5_isTrial 4 = .ok (.getfield 21, 3) := by decide +kernel
theorem dX5_isTrial_7 : decode cX5_isTrial 7 = .ok (.getfield 53, 3) := by decide +kernel
theorem dX5_isTrial_10 : decode cX5_isTrial 10 = .ok (.iconst 1, 1) := by decide +kernel
theorem dX5_isTrial_11 : decode cX5_isTrial 11 = .ok (.isub, 1) := by decide +kernel
theorem dX5_isTrial_12 : decode cX5_isTrial 12 = .ok (.i2l, 1) := by decide +kernel
theorem dX5_isTrial_13 : decode cX5_isTrial 13 = .ok (.invokestatic 41, 3) := by decide +kernel
theorem dX5_isTrial_16 : decode cX5_isTrial 16 = .ok (.ireturn, 1) := by decide +kernel
set_option maxRecDepth 20000 in
theorem ggX5_isRow_X5_within : GoodIn wsX5_isRow wsX5_within := goodIn_r _ [6] (by decide +kernel) (by decide +kernel)
set_option maxRecDepth 20000 in
theorem gX5_isRow_X5_within : GoodIn wsX5_isRow (va_wsS RX5 41 yX5_within wsX5_within) := goodIn_app (goodIn_of _ (by decide +kernel)) ggX5_isRow_X5_within
theorem dX5_isRow_0 : decode cX5_isRow 0 = .ok (.iload_n 1, 1) := by decide +kernel
theorem dX5_isRow_1 : decode cX5_isRow 1 = .ok (.i2l, 1) := by decide +kernel
theorem dX5_isRow_2 : decode cX5_isRow 2 = .ok (.lconst 0, 1) := by decide +kernel
theorem dX5_isRow_3 : decode cX5_isRow 3 = .ok (.aload_n 0, 1) := by decide +kernel
theorem dX5_isRow_4 : decode cX5_isRow 4 = .ok (.getfield 35, 3) := by decide +kernel
theorem dX5_isRow_7 : decode cX5_isRow 7 = .ok (.getfield 266, 3) := by decide +kernel
theorem dX5_isRow_10 : decode cX5_isRow 10 = .ok (.iconst 1, 1) := by decide +kernel
theorem dX5_isRow_11 : decode cX5_isRow 11 = .ok (.isub, 1) := by decide +kernel
theorem dX5_isRow_12 : decode cX5_isRow 12 = .ok (.i2l, 1) := by decide +kernel
theorem dX5_isRow_13 : decode cX5_isRow 13 = .ok (.invokestatic 41, 3) := by decide +kernel
theorem dX5_isRow_16 : decode cX5_isRow 16 = .ok (.ireturn, 1) := by decide +kernel
set_option maxRecDepth 20000 in
theorem ggX5_isOuter_X5_within : GoodIn wsX5_isOuter wsX5_within := goodIn_r _ [6] (by decide +kernel) (by decide +kernel)
set_option maxRecDepth 20000 in
theorem gX5_isOuter_X5_within : GoodIn wsX5_isOuter (va_wsS RX5 41 yX5_within wsX5_within) := goodIn_app (goodIn_of _ (by decide +kernel)) ggX5_isOuter_X5_within
theorem dX5_isOuter_0 : decode cX5_isOuter 0 = .ok (.iload_n 1, 1) := by decide +kernel
theorem dX5_isOuter_1 : decode cX5_isOuter 1 = .ok (.i2l, 1) := by decide +kernel
theorem dX5_isOuter_2 : decode cX5_isOuter 2 = .ok (.lconst 0, 1) := by decide +kernel
theorem dX5_isOuter_3 : decode cX5_isOuter 3 = .ok (.aload_n 0, 1) := by decide +kernel
theorem dX5_isOuter_4 : decode cX5_isOuter 4 = .ok (.getfield 35, 3) := by decide +kernel
theorem dX5_isOuter_7 : decode cX5_isOuter 7 = .ok (.getfield 269, 3) := by decide +kernel
theorem dX5_isOuter_10 : decode cX5_isOuter 10 = .ok (.iconst 1, 1) := by decide +kernel
theorem dX5_isOuter_11 : decode cX5_isOuter 11 = .ok (.isub, 1) := by decide +kernel
theorem dX5_isOuter_12 : decode cX5_isOuter 12 = .ok (.i2l, 1) := by decide +kernel
theorem dX5_isOuter_13 : decode cX5_isOuter 13 = .ok (.invokestatic 41, 3) := by decide +kernel
theorem dX5_isOuter_16 : decode cX5_isOuter 16 = .ok (.ireturn, 1) := by decide +kernel
theorem dX5_cut_0 : decode cX5_cut 0 = .ok (.lload_n 2, 1) := by decide +kernel
theorem dX5_cut_1 : decode cX5_cut 1 = .ok (.lconst 0, 1) := by decide +kernel
theorem dX5_cut_2 : decode cX5_cut 2 = .ok (.lcmp, 1) := by decide +kernel
theorem dX5_cut_3 : decode cX5_cut 3 = .ok (.ifCond .le 9, 3) := by decide +kernel
theorem dX5_cut_6 : decode cX5_cut 6 = .ok (.lload_n 0, 1) := by decide +kernel
theorem dX5_cut_7 : decode cX5_cut 7 = .ok (.lload_n 2, 1) := by decide +kernel
theorem dX5_cut_8 : decode cX5_cut 8 = .ok (.ldiv, 1) := by decide +kernel
theorem dX5_cut_9 : decode cX5_cut 9 = .ok (.goto 4, 3) := by decide +kernel
theorem dX5_cut_12 : decode cX5_cut 12 = .ok (.lconst 0, 1) := by decide +kernel
theorem dX5_cut_13 : decode cX5_cut 13 = .ok (.lreturn, 1) := by decide +kernel
theorem dX5_rest_0 : decode cX5_rest 0 = .ok (.lload_n 2, 1) := by decide +kernel
theorem dX5_rest_1 : decode cX5_rest 1 = .ok (.lconst 0, 1) := by decide +kernel
theorem dX5_rest_2 : decode cX5_rest 2 = .ok (.lcmp, 1) := by decide +kernel
theorem dX5_rest_3 : decode cX5_rest 3 = .ok (.ifCond .le 9, 3) := by decide +kernel
theorem dX5_rest_6 : decode cX5_rest 6 = .ok (.lload_n 0, 1) := by decide +kernel
theorem dX5_rest_7 : decode cX5_rest 7 = .ok (.lload_n 2, 1) := by decide +kernel
theorem dX5_rest_8 : decode cX5_rest 8 = .ok (.lrem, 1) := by decide +kernel
theorem dX5_rest_9 : decode cX5_rest 9 = .ok (.goto 4, 3) := by decide +kernel
theorem dX5_rest_12 : decode cX5_rest 12 = .ok (.lconst 0, 1) := by decide +kernel
theorem dX5_rest_13 : decode cX5_rest 13 = .ok (.lreturn, 1) := by decide +kernel
set_option maxRecDepth 20000 in
theorem ggX5_cutUp_X5_cut : GoodIn wsX5_cutUp wsX5_cut := goodIn_r _ [4] (by decide +kernel) (by decide +kernel)
set_option maxRecDepth 20000 in
theorem gX5_cutUp_X5_cut : GoodIn wsX5_cutUp (va_wsS RX5 135 yX5_cut wsX5_cut) := goodIn_app (goodIn_of _ (by decide +kernel)) ggX5_cutUp_X5_cut
theorem dX5_cutUp_0 : decode cX5_cutUp 0 = .ok (.lload_n 0, 1) := by decide +kernel
theorem dX5_cutUp_1 : decode cX5_cutUp 1 = .ok (.lload_n 2, 1) := by decide +kernel
theorem dX5_cutUp_2 : decode cX5_cutUp 2 = .ok (.ladd, 1) := by decide +kernel
theorem dX5_cutUp_3 : decode cX5_cutUp 3 = .ok (.lconst 1, 1) := by decide +kernel
theorem dX5_cutUp_4 : decode cX5_cutUp 4 = .ok (.lsub, 1) := by decide +kernel
theorem dX5_cutUp_5 : decode cX5_cutUp 5 = .ok (.lload_n 2, 1) := by decide +kernel
theorem dX5_cutUp_6 : decode cX5_cutUp 6 = .ok (.invokestatic 135, 3) := by decide +kernel
theorem dX5_cutUp_9 : decode cX5_cutUp 9 = .ok (.lreturn, 1) := by decide +kernel
set_option maxRecDepth 20000 in
theorem ggX5_commonDivisor_X5_rest : GoodIn wsX5_commonDivisor wsX5_rest := goodIn_r _ [4] (by decide +kernel) (by decide +kernel)
set_option maxRecDepth 20000 in
theorem gX5_commonDivisor_X5_rest : GoodIn wsX5_commonDivisor (va_wsS RX5 272 yX5_rest wsX5_rest) := goodIn_app (goodIn_of _ (by decide +kernel)) ggX5_commonDivisor_X5_rest
theorem dX5_commonDivisor_0 : decode cX5_commonDivisor 0 = .ok (.lload_n 2, 1) := by decide +kernel
theorem dX5_commonDivisor_1 : decode cX5_commonDivisor 1 = .ok (.lstore 4, 2) := by decide +kernel
theorem dX5_commonDivisor_3 : decode cX5_commonDivisor 3 = .ok (.lload_n 0, 1) := by decide +kernel
theorem dX5_commonDivisor_4 : decode cX5_commonDivisor 4 = .ok (.lstore 6, 2) := by decide +kernel
theorem dX5_commonDivisor_6 : decode cX5_commonDivisor 6 = .ok (.iconst 0, 1) := by decide +kernel
theorem dX5_commonDivisor_7 : decode cX5_commonDivisor 7 = .ok (.istore 8, 2) := by decide +kernel
theorem dX5_commonDivisor_9 : decode cX5_commonDivisor 9 = .ok (.iload 8, 2) := by decide +kernel
theorem dX5_commonDivisor_11 : decode cX5_commonDivisor 11 = .ok (.sipush 128, 3) := by decide +kernel
theorem dX5_commonDivisor_14 : decode cX5_commonDivisor 14 = .ok (.if_icmp .ge 33, 3) := by decide +kernel
theorem dX5_commonDivisor_17 : decode cX5_commonDivisor 17 = .ok (.lload 6, 2) := by decide +kernel
theorem dX5_commonDivisor_19 : decode cX5_commonDivisor 19 = .ok (.lconst 0, 1) := by decide +kernel
theorem dX5_commonDivisor_20 : decode cX5_commonDivisor 20 = .ok (.lcmp, 1) := by decide +kernel
theorem dX5_commonDivisor_21 : decode cX5_commonDivisor 21 = .ok (.ifCond .le 26, 3) := by decide +kernel
theorem dX5_commonDivisor_24 : decode cX5_commonDivisor 24 = .ok (.lload 4, 2) := by decide +kernel
theorem dX5_commonDivisor_26 : decode cX5_commonDivisor 26 = .ok (.lload 6, 2) := by decide +kernel
theorem dX5_commonDivisor_28 : decode cX5_commonDivisor 28 = .ok (.invokestatic 272, 3) := by decide +kernel
theorem dX5_commonDivisor_31 : decode cX5_commonDivisor 31 = .ok (.lstore 9, 2) := by decide +kernel
theorem dX5_commonDivisor_33 : decode cX5_commonDivisor 33 = .ok (.lload 6, 2) := by decide +kernel
theorem dX5_commonDivisor_35 : decode cX5_commonDivisor 35 = .ok (.lstore 4, 2) := by decide +kernel
theorem dX5_commonDivisor_37 : decode cX5_commonDivisor 37 = .ok (.lload 9, 2) := by decide +kernel
theorem dX5_commonDivisor_39 : decode cX5_commonDivisor 39 = .ok (.lstore 6, 2) := by decide +kernel
theorem dX5_commonDivisor_41 : decode cX5_commonDivisor 41 = .ok (.iinc 8 1, 3) := by decide +kernel
theorem dX5_commonDivisor_44 : decode cX5_commonDivisor 44 = .ok (.goto (-35), 3) := by decide +kernel
theorem dX5_commonDivisor_47 : decode cX5_commonDivisor 47 = .ok (.lload 4, 2) := by decide +kernel
theorem dX5_commonDivisor_49 : decode cX5_commonDivisor 49 = .ok (.lreturn, 1) := by decide +kernel
theorem dX5_power_0 : decode cX5_power 0 = .ok (.lconst 1, 1) := by decide +kernel
theorem dX5_power_1 : decode cX5_power 1 = .ok (.lstore_n 2, 1) := by decide +kernel
theorem dX5_power_2 : decode cX5_power 2 = .ok (.iconst 0, 1) := by decide +kernel
theorem dX5_power_3 : decode cX5_power 3 = .ok (.istore 4, 2) := by decide +kernel
theorem dX5_power_5 : decode cX5_power 5 = .ok (.iload 4, 2) := by decide +kernel
theorem dX5_power_7 : decode cX5_power 7 = .ok (.iload_n 1, 1) := by decide +kernel
theorem dX5_power_8 : decode cX5_power 8 = .ok (.if_icmp .ge 14, 3) := by decide +kernel
theorem dX5_power_11 : decode cX5_power 11 = .ok (.lload_n 2, 1) := by decide +kernel
theorem dX5_power_12 : decode cX5_power 12 = .ok (.iload_n 0, 1) := by decide +kernel
theorem dX5_power_13 : decode cX5_power 13 = .ok (.i2l, 1) := by decide +kernel
theorem dX5_power_14 : decode cX5_power 14 = .ok (.lmul, 1) := by decide +kernel
theorem dX5_power_15 : decode cX5_power 15 = .ok (.lstore_n 2, 1) := by decide +kernel
theorem dX5_power_16 : decode cX5_power 16 = .ok (.iinc 4 1, 3) := by decide +kernel
theorem dX5_power_19 : decode cX5_power 19 = .ok (.goto (-14), 3) := by decide +kernel
theorem dX5_power_22 : decode cX5_power 22 = .ok (.lload_n 2, 1) := by decide +kernel
theorem dX5_power_23 : decode cX5_power 23 = .ok (.lreturn, 1) := by decide +kernel
set_option maxRecDepth 20000 in
theorem ggX5_lastBracket_X5_power : GoodIn wsX5_lastBracket wsX5_power := goodIn_r _ [4] (by decide +kernel) (by decide +kernel)
set_option maxRecDepth 20000 in
theorem gX5_lastBracket_X5_power : GoodIn wsX5_lastBracket (va_wsS RX5 218 yX5_power wsX5_power) := goodIn_app (goodIn_of _ (by decide +kernel)) ggX5_lastBracket_X5_power
theorem dX5_lastBracket_0 : decode cX5_lastBracket 0 = .ok (.iconst 0, 1) := by decide +kernel
theorem dX5_lastBracket_1 : decode cX5_lastBracket 1 = .ok (.istore_n 2, 1) := by decide +kernel
theorem dX5_lastBracket_2 : decode cX5_lastBracket 2 = .ok (.iload_n 2, 1) := by decide +kernel
theorem dX5_lastBracket_3 : decode cX5_lastBracket 3 = .ok (.bipush 20, 2) := by decide +kernel
theorem dX5_lastBracket_5 : decode cX5_lastBracket 5 = .ok (.if_icmp .ge 22, 3) := by decide +kernel
theorem dX5_lastBracket_8 : decode cX5_lastBracket 8 = .ok (.iload_n 1, 1) := by decide +kernel
theorem dX5_lastBracket_9 : decode cX5_lastBracket 9 = .ok (.iload_n 2, 1) := by decide +kernel
theorem dX5_lastBracket_10 : decode cX5_lastBracket 10 = .ok (.iconst 1, 1) := by decide +kernel
theorem dX5_lastBracket_11 : decode cX5_lastBracket 11 = .ok (.iadd, 1) := by decide +kernel
theorem dX5_lastBracket_12 : decode cX5_lastBracket 12 = .ok (.invokestatic 218, 3) := by decide +kernel
theorem dX5_lastBracket_15 : decode cX5_lastBracket 15 = .ok (.iload_n 0, 1) := by decide +kernel
theorem dX5_lastBracket_16 : decode cX5_lastBracket 16 = .ok (.i2l, 1) := by decide +kernel
theorem dX5_lastBracket_17 : decode cX5_lastBracket 17 = .ok (.lcmp, 1) := by decide +kernel
theorem dX5_lastBracket_18 : decode cX5_lastBracket 18 = .ok (.ifCond .gt 9, 3) := by decide +kernel
theorem dX5_lastBracket_21 : decode cX5_lastBracket 21 = .ok (.iinc 2 1, 3) := by decide +kernel
theorem dX5_lastBracket_24 : decode cX5_lastBracket 24 = .ok (.goto (-22), 3) := by decide +kernel
theorem dX5_lastBracket_27 : decode cX5_lastBracket 27 = .ok (.iload_n 2, 1) := by decide +kernel
theorem dX5_lastBracket_28 : decode cX5_lastBracket 28 = .ok (.ireturn, 1) := by decide +kernel
set_option maxRecDepth 20000 in
theorem ggX5_placeBy_X5_rest : GoodIn wsX5_placeBy wsX5_rest := goodIn_r _ [7] (by decide +kernel) (by decide +kernel)
set_option maxRecDepth 20000 in
theorem gX5_placeBy_X5_rest : GoodIn wsX5_placeBy (va_wsS RX5 272 yX5_rest wsX5_rest) := goodIn_app (goodIn_of _ (by decide +kernel)) ggX5_placeBy_X5_rest
set_option maxRecDepth 20000 in
theorem ggX5_placeBy_X2_pick : GoodIn wsX5_placeBy wsX2_pick := goodIn_r _ [11, 12, 13, 14, 10, 15, 16, 17, 18, 19, 20, 21, 22, 23, 24, 25] (by decide +kernel) (by decide +kernel)
set_option maxRecDepth 20000 in
theorem gX5_placeBy_X2_pick : GoodIn wsX5_placeBy (va_wsS RX5 275 yX2_pick wsX2_pick) := goodIn_app (goodIn_of _ (by decide +kernel)) ggX5_placeBy_X2_pick
set_option maxRecDepth 20000 in
theorem ggX5_placeBy_X3_pickEach : GoodIn wsX5_placeBy wsX3_pickEach := goodIn_r _ [30, 31, 32, 33, 34, 35, 29, 36, 37, 38, 39, 40, 41, 42, 21, 10, 22, 23, 24, 25, 43, 9, 11, 12, 13, 14, 15, 16, 17, 18, 19, 20, 57, 58, 59, 60, 61, 62, 63, 64, 65] (by decide +kernel) (by decide +kernel)
set_option maxRecDepth 20000 in
theorem gX5_placeBy_X3_pickEach : GoodIn wsX5_placeBy (wsV RX5 280 RX3 yX3_pickEach wsX3_pickEach) := goodIn_app (goodIn_of _ (by decide +kernel)) ggX5_placeBy_X3_pickEach
set_option maxRecDepth 20000 in
theorem ggX5_placeBy_X3_place : GoodIn wsX5_placeBy wsX3_place := goodIn_r _ [47, 48, 31, 49, 50, 51, 6, 52, 57, 58, 59, 60, 61, 62, 63, 64, 65] (by decide +kernel) (by decide +kernel)
set_option maxRecDepth 20000 in
theorem gX5_placeBy_X3_place : GoodIn wsX5_placeBy (wsV RX5 80 RX3 yX3_place wsX3_place) := goodIn_app (goodIn_of _ (by decide +kernel)) ggX5_placeBy_X3_place
theorem dX5_placeBy_0 : decode cX5_placeBy 0 = .ok (.iload_n 1, 1) := by decide +kernel
theorem dX5_placeBy_1 : decode cX5_placeBy 1 = .ok (.ifCond .ne 16, 3) := by decide +kernel
theorem dX5_placeBy_4 : decode cX5_placeBy 4 = .ok (.iload_n 2, 1) := by decide +kernel
theorem dX5_placeBy_5 : decode cX5_placeBy 5 = .ok (.i2l, 1) := by decide +kernel
theorem dX5_placeBy_6 : decode cX5_placeBy 6 = .ok (.aload_n 0, 1) := by decide +kernel
theorem dX5_placeBy_7 : decode cX5_placeBy 7 = .ok (.getfield 12, 3) := by decide +kernel
theorem dX5_placeBy_10 : decode cX5_placeBy 10 = .ok (.getfield 60, 3) := by decide +kernel
theorem dX5_placeBy_13 : decode cX5_placeBy 13 = .ok (.invokestatic 272, 3) := by decide +kernel
theorem dX5_placeBy_16 : decode cX5_placeBy 16 = .ok (.lreturn, 1) := by decide +kernel
theorem dX5_placeBy_17 : decode cX5_placeBy 17 = .ok (.iload_n 1, 1) := by decide +kernel
theorem dX5_placeBy_18 : decode cX5_placeBy 18 = .ok (.iconst 1, 1) := by decide +kernel
theorem dX5_placeBy_19 : decode cX5_placeBy 19 = .ok (.if_icmp .ne 15, 3) := by decide +kernel
theorem dX5_placeBy_22 : decode cX5_placeBy 22 = .ok (.aload_n 0, 1) := by decide +kernel
theorem dX5_placeBy_23 : decode cX5_placeBy 23 = .ok (.getfield 12, 3) := by decide +kernel
theorem dX5_placeBy_26 : decode cX5_placeBy 26 = .ok (.getfield 60, 3) := by decide +kernel
theorem dX5_placeBy_29 : decode cX5_placeBy 29 = .ok (.iload_n 2, 1) := by decide +kernel
theorem dX5_placeBy_30 : decode cX5_placeBy 30 = .ok (.invokestatic 275, 3) := by decide +kernel
theorem dX5_placeBy_33 : decode cX5_placeBy 33 = .ok (.lreturn, 1) := by decide +kernel
theorem dX5_placeBy_34 : decode cX5_placeBy 34 = .ok (.aload_n 0, 1) := by decide +kernel
theorem dX5_placeBy_35 : decode cX5_placeBy 35 = .ok (.getfield 12, 3) := by decide +kernel
theorem dX5_placeBy_38 : decode cX5_placeBy 38 = .ok (.iload_n 2, 1) := by decide +kernel
theorem dX5_placeBy_39 : decode cX5_placeBy 39 = .ok (.aload_n 0, 1) := by decide +kernel
theorem dX5_placeBy_40 : decode cX5_placeBy 40 = .ok (.getfield 12, 3) := by decide +kernel
theorem dX5_placeBy_43 : decode cX5_placeBy 43 = .ok (.getfield 68, 3) := by decide +kernel
theorem dX5_placeBy_46 : decode cX5_placeBy 46 = .ok (.invokevirtual 280, 3) := by decide +kernel
theorem dX5_placeBy_49 : decode cX5_placeBy 49 = .ok (.aload_n 0, 1) := by decide +kernel
theorem dX5_placeBy_50 : decode cX5_placeBy 50 = .ok (.getfield 12, 3) := by decide +kernel
theorem dX5_placeBy_53 : decode cX5_placeBy 53 = .ok (.aload_n 0, 1) := by decide +kernel
theorem dX5_placeBy_54 : decode cX5_placeBy 54 = .ok (.getfield 12, 3) := by decide +kernel
theorem dX5_placeBy_57 : decode cX5_placeBy 57 = .ok (.getfield 68, 3) := by decide +kernel
theorem dX5_placeBy_60 : decode cX5_placeBy 60 = .ok (.invokevirtual 80, 3) := by decide +kernel
theorem dX5_placeBy_63 : decode cX5_placeBy 63 = .ok (.lreturn, 1) := by decide +kernel
