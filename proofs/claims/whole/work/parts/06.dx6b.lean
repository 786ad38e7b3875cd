theorem dX6_score_46 : decode cX6_score 46 = .ok (.iconst 2, 1) := by decide +kernel
theorem dX6_score_47 : decode cX6_score 47 = .ok (.iastore, 1) := by decide +kernel
theorem dX6_score_48 : decode cX6_score 48 = .ok (.aload_n 0, 1) := by decide +kernel
theorem dX6_score_49 : decode cX6_score 49 = .ok (.getfield 41, 3) := by decide +kernel
theorem dX6_score_52 : decode cX6_score 52 = .ok (.iload_n 1, 1) := by decide +kernel
theorem dX6_score_53 : decode cX6_score 53 = .ok (.iload_n 3, 1) := by decide +kernel
theorem dX6_score_54 : decode cX6_score 54 = .ok (.ifCond .eq 7, 3) := by decide +kernel
theorem dX6_score_57 : decode cX6_score 57 = .ok (.iload_n 2, 1) := by decide +kernel
theorem dX6_score_58 : decode cX6_score 58 = .ok (.goto 4, 3) := by decide +kernel
theorem dX6_score_61 : decode cX6_score 61 = .ok (.iconst 0, 1) := by decide +kernel
theorem dX6_score_62 : decode cX6_score 62 = .ok (.iastore, 1) := by decide +kernel
theorem dX6_score_63 : decode cX6_score 63 = .ok (.iconst 0, 1) := by decide +kernel
theorem dX6_score_64 : decode cX6_score 64 = .ok (.istore 4, 2) := by decide +kernel
theorem dX6_score_66 : decode cX6_score 66 = .ok (.iconst 0, 1) := by decide +kernel
theorem dX6_score_67 : decode cX6_score 67 = .ok (.istore 5, 2) := by decide +kernel
theorem dX6_score_69 : decode cX6_score 69 = .ok (.iload 5, 2) := by decide +kernel
theorem dX6_score_71 : decode cX6_score 71 = .ok (.aload_n 0, 1) := by decide +kernel
theorem dX6_score_72 : decode cX6_score 72 = .ok (.getfield 92, 3) := by decide +kernel
theorem dX6_score_75 : decode cX6_score 75 = .ok (.if_icmp .ge 30, 3) := by decide +kernel
theorem dX6_score_78 : decode cX6_score 78 = .ok (.iload 4, 2) := by decide +kernel
theorem dX6_score_80 : decode cX6_score 80 = .ok (.aload_n 0, 1) := by decide +kernel
theorem dX6_score_81 : decode cX6_score 81 = .ok (.getfield 38, 3) := by decide +kernel
theorem dX6_score_84 : decode cX6_score 84 = .ok (.iload 5, 2) := by decide +kernel
theorem dX6_score_86 : decode cX6_score 86 = .ok (.iaload, 1) := by decide +kernel
theorem dX6_score_87 : decode cX6_score 87 = .ok (.iconst 1, 1) := by decide +kernel
theorem dX6_score_88 : decode cX6_score 88 = .ok (.if_icmp .ne 7, 3) := by decide +kernel
theorem dX6_score_91 : decode cX6_score 91 = .ok (.iconst 1, 1) := by decide +kernel
theorem dX6_score_92 : decode cX6_score 92 = .ok (.goto 4, 3) := by decide +kernel
theorem dX6_score_95 : decode cX6_score 95 = .ok (.iconst 0, 1) := by decide +kernel
theorem dX6_score_96 : decode cX6_score 96 = .ok (.iadd, 1) := by decide +kernel
theorem dX6_score_97 : decode cX6_score 97 = .ok (.istore 4, 2) := by decide +kernel
theorem dX6_score_99 : decode cX6_score 99 = .ok (.iinc 5 1, 3) := by decide +kernel
theorem dX6_score_102 : decode cX6_score 102 = .ok (.goto (-33), 3) := by decide +kernel
theorem dX6_score_105 : decode cX6_score 105 = .ok (.iload 4, 2) := by decide +kernel
theorem dX6_score_107 : decode cX6_score 107 = .ok (.ireturn, 1) := by decide +kernel
theorem dX6_prunes_0 : decode cX6_prunes 0 = .ok (.iconst 0, 1) := by decide +kernel
theorem dX6_prunes_1 : decode cX6_prunes 1 = .ok (.istore 5, 2) := by decide +kernel
theorem dX6_prunes_3 : decode cX6_prunes 3 = .ok (.iconst 0, 1) := by decide +kernel
theorem dX6_prunes_4 : decode cX6_prunes 4 = .ok (.istore 6, 2) := by decide +kernel
theorem dX6_prunes_6 : decode cX6_prunes 6 = .ok (.iload 6, 2) := by decide +kernel
theorem dX6_prunes_8 : decode cX6_prunes 8 = .ok (.aload_n 0, 1) := by decide +kernel
theorem dX6_prunes_9 : decode cX6_prunes 9 = .ok (.getfield 92, 3) := by decide +kernel
theorem dX6_prunes_12 : decode cX6_prunes 12 = .ok (.if_icmp .ge 36, 3) := by decide +kernel
theorem dX6_prunes_15 : decode cX6_prunes 15 = .ok (.iload 5, 2) := by decide +kernel
theorem dX6_prunes_17 : decode cX6_prunes 17 = .ok (.iload 6, 2) := by decide +kernel
theorem dX6_prunes_19 : decode cX6_prunes 19 = .ok (.iload_n 1, 1) := by decide +kernel
theorem dX6_prunes_20 : decode cX6_prunes 20 = .ok (.if_icmp .eq 18, 3) := by decide +kernel
theorem dX6_prunes_23 : decode cX6_prunes 23 = .ok (.aload_n 0, 1) := by decide +kernel
theorem dX6_prunes_24 : decode cX6_prunes 24 = .ok (.getfield 44, 3) := by decide +kernel
theorem dX6_prunes_27 : decode cX6_prunes 27 = .ok (.iload 6, 2) := by decide +kernel
theorem dX6_prunes_29 : decode cX6_prunes 29 = .ok (.iaload, 1) := by decide +kernel
theorem dX6_prunes_30 : decode cX6_prunes 30 = .ok (.iload_n 2, 1) := by decide +kernel
theorem dX6_prunes_31 : decode cX6_prunes 31 = .ok (.if_icmp .le 7, 3) := by decide +kernel
theorem dX6_prunes_34 : decode cX6_prunes 34 = .ok (.iconst 1, 1) := by decide +kernel
theorem dX6_prunes_35 : decode cX6_prunes 35 = .ok (.goto 4, 3) := by decide +kernel
theorem dX6_prunes_38 : decode cX6_prunes 38 = .ok (.iconst 0, 1) := by decide +kernel
theorem dX6_prunes_39 : decode cX6_prunes 39 = .ok (.iadd, 1) := by decide +kernel
theorem dX6_prunes_40 : decode cX6_prunes 40 = .ok (.istore 5, 2) := by decide +kernel
theorem dX6_prunes_42 : decode cX6_prunes 42 = .ok (.iinc 6 1, 3) := by decide +kernel
theorem dX6_prunes_45 : decode cX6_prunes 45 = .ok (.goto (-39), 3) := by decide +kernel
theorem dX6_prunes_48 : decode cX6_prunes 48 = .ok (.iload 4, 2) := by decide +kernel
theorem dX6_prunes_50 : decode cX6_prunes 50 = .ok (.ifCond .eq 10, 3) := by decide +kernel
theorem dX6_prunes_53 : decode cX6_prunes 53 = .ok (.iload 5, 2) := by decide +kernel
theorem dX6_prunes_55 : decode cX6_prunes 55 = .ok (.iload 4, 2) := by decide +kernel
theorem dX6_prunes_57 : decode cX6_prunes 57 = .ok (.if_icmp .ge 5, 3) := by decide +kernel
theorem dX6_prunes_60 : decode cX6_prunes 60 = .ok (.iconst 0, 1) := by decide +kernel
theorem dX6_prunes_61 : decode cX6_prunes 61 = .ok (.ireturn, 1) := by decide +kernel
theorem dX6_prunes_62 : decode cX6_prunes 62 = .ok (.iconst 0, 1) := by decide +kernel
theorem dX6_prunes_63 : decode cX6_prunes 63 = .ok (.istore 6, 2) := by decide +kernel
theorem dX6_prunes_65 : decode cX6_prunes 65 = .ok (.iconst 0, 1) := by decide +kernel
theorem dX6_prunes_66 : decode cX6_prunes 66 = .ok (.istore 7, 2) := by decide +kernel
theorem dX6_prunes_68 : decode cX6_prunes 68 = .ok (.iload 7, 2) := by decide +kernel
theorem dX6_prunes_70 : decode cX6_prunes 70 = .ok (.aload_n 0, 1) := by decide +kernel
theorem dX6_prunes_71 : decode cX6_prunes 71 = .ok (.getfield 92, 3) := by decide +kernel
theorem dX6_prunes_74 : decode cX6_prunes 74 = .ok (.if_icmp .ge 52, 3) := by decide +kernel
theorem dX6_prunes_77 : decode cX6_prunes 77 = .ok (.iload 6, 2) := by decide +kernel
theorem dX6_prunes_79 : decode cX6_prunes 79 = .ok (.iload 7, 2) := by decide +kernel
theorem dX6_prunes_81 : decode cX6_prunes 81 = .ok (.iload_n 1, 1) := by decide +kernel
theorem dX6_prunes_82 : decode cX6_prunes 82 = .ok (.if_icmp .eq 34, 3) := by decide +kernel
theorem dX6_prunes_85 : decode cX6_prunes 85 = .ok (.aload_n 0, 1) := by decide +kernel
theorem dX6_prunes_86 : decode cX6_prunes 86 = .ok (.getfield 44, 3) := by decide +kernel
theorem dX6_prunes_89 : decode cX6_prunes 89 = .ok (.iload 7, 2) := by decide +kernel
theorem dX6_prunes_91 : decode cX6_prunes 91 = .ok (.iaload, 1) := by decide +kernel
theorem dX6_prunes_92 : decode cX6_prunes 92 = .ok (.iload_n 2, 1) := by decide +kernel
theorem dX6_prunes_93 : decode cX6_prunes 93 = .ok (.if_icmp .le 23, 3) := by decide +kernel
theorem dX6_prunes_96 : decode cX6_prunes 96 = .ok (.aload_n 0, 1) := by decide +kernel
theorem dX6_prunes_97 : decode cX6_prunes 97 = .ok (.getfield 47, 3) := by decide +kernel
theorem dX6_prunes_100 : decode cX6_prunes 100 = .ok (.bipush 20, 2) := by decide +kernel
theorem dX6_prunes_102 : decode cX6_prunes 102 = .ok (.iload 7, 2) := by decide +kernel
theorem dX6_prunes_104 : decode cX6_prunes 104 = .ok (.imul, 1) := by decide +kernel
theorem dX6_prunes_105 : decode cX6_prunes 105 = .ok (.iload_n 2, 1) := by decide +kernel
theorem dX6_prunes_106 : decode cX6_prunes 106 = .ok (.iadd, 1) := by decide +kernel
theorem dX6_prunes_107 : decode cX6_prunes 107 = .ok (.iaload, 1) := by decide +kernel
theorem dX6_prunes_108 : decode cX6_prunes 108 = .ok (.iload_n 3, 1) := by decide +kernel
theorem dX6_prunes_109 : decode cX6_prunes 109 = .ok (.if_icmp .le 7, 3) := by decide +kernel
theorem dX6_prunes_112 : decode cX6_prunes 112 = .ok (.iconst 1, 1) := by decide +kernel
theorem dX6_prunes_113 : decode cX6_prunes 113 = .ok (.goto 4, 3) := by decide +kernel
theorem dX6_prunes_116 : decode cX6_prunes 116 = .ok (.iconst 0, 1) := by decide +kernel
theorem dX6_prunes_117 : decode cX6_prunes 117 = .ok (.iadd, 1) := by decide +kernel
theorem dX6_prunes_118 : decode cX6_prunes 118 = .ok (.istore 6, 2) := by decide +kernel
theorem dX6_prunes_120 : decode cX6_prunes 120 = .ok (.iinc 7 1, 3) := by decide +kernel
theorem dX6_prunes_123 : decode cX6_prunes 123 = .ok (.goto (-55), 3) := by decide +kernel
theorem dX6_prunes_126 : decode cX6_prunes 126 = .ok (.iload 5, 2) := by decide +kernel
theorem dX6_prunes_128 : decode cX6_prunes 128 = .ok (.iload 6, 2) := by decide +kernel
theorem dX6_prunes_130 : decode cX6_prunes 130 = .ok (.isub, 1) := by decide +kernel
theorem dX6_prunes_131 : decode cX6_prunes 131 = .ok (.iload 5, 2) := by decide +kernel
theorem dX6_prunes_133 : decode cX6_prunes 133 = .ok (.iconst 1, 1) := by decide +kernel
theorem dX6_prunes_134 : decode cX6_prunes 134 = .ok (.isub, 1) := by decide +kernel
theorem dX6_prunes_135 : decode cX6_prunes 135 = .ok (.iconst 2, 1) := by decide +kernel
theorem dX6_prunes_136 : decode cX6_prunes 136 = .ok (.idiv, 1) := by decide +kernel
theorem dX6_prunes_137 : decode cX6_prunes 137 = .ok (.if_icmp .gt 7, 3) := by decide +kernel
theorem dX6_prunes_140 : decode cX6_prunes 140 = .ok (.iconst 1, 1) := by decide +kernel
theorem dX6_prunes_141 : decode cX6_prunes 141 = .ok (.goto 4, 3) := by decide +kernel
theorem dX6_prunes_144 : decode cX6_prunes 144 = .ok (.iconst 0, 1) := by decide +kernel
theorem dX6_prunes_145 : decode cX6_prunes 145 = .ok (.ireturn, 1) := by decide +kernel
set_option maxRecDepth 20000 in
theorem ggX6_report_X6_noTrial : GoodIn wsX6_report wsX6_noTrial := goodIn_r _ [9, 10, 11, 12, 8, 13, 23, 24, 25, 26, 27, 28, 29, 30, 31, 32, 33, 34, 35, 36, 37, 38, 39, 40, 41, 42, 43, 44, 45, 46, 47, 48, 49, 50, 51, 52, 53] (by decide +kernel) (by decide +kernel)
set_option maxRecDepth 20000 in
theorem gX6_report_X6_noTrial : GoodIn wsX6_report (wsV RX6 162 RX6 yX6_noTrial wsX6_noTrial) := goodIn_app (goodIn_of _ (by decide +kernel)) ggX6_report_X6_noTrial
set_option maxRecDepth 20000 in
theorem ggX6_report_X6_isScore : GoodIn wsX6_report wsX6_isScore := goodIn_r _ [16, 17, 18, 11, 12, 8, 13] (by decide +kernel) (by decide +kernel)
set_option maxRecDepth 20000 in
theorem gX6_report_X6_isScore : GoodIn wsX6_report (va_wsS RX6 166 yX6_isScore wsX6_isScore) := goodIn_app (goodIn_of _ (by decide +kernel)) ggX6_report_X6_isScore
set_option maxRecDepth 20000 in
theorem ggX6_report_X6_in : GoodIn wsX6_report wsX6_in := goodIn_r _ [13] (by decide +kernel) (by decide +kernel)
set_option maxRecDepth 20000 in
theorem gX6_report_X6_in : GoodIn wsX6_report (va_wsS RX6 80 yX6_in wsX6_in) := goodIn_app (goodIn_of _ (by decide +kernel)) ggX6_report_X6_in
set_option maxRecDepth 20000 in
theorem ggX6_report_X6_prunes : GoodIn wsX6_report wsX6_prunes := goodIn_r _ [22, 10, 3, 4, 23, 24, 25, 26, 27, 28, 29, 30, 31, 32, 33, 34, 35, 36, 37, 38, 39, 40, 41, 42, 43, 44, 45, 46, 47, 48, 49, 50, 51, 52, 53] (by decide +kernel) (by decide +kernel)
set_option maxRecDepth 20000 in
theorem gX6_report_X6_prunes : GoodIn wsX6_report (wsV RX6 171 RX6 yX6_prunes wsX6_prunes) := goodIn_app (goodIn_of _ (by decide +kernel)) ggX6_report_X6_prunes
theorem dX6_report_0 : decode cX6_report 0 = .ok (.aload_n 0, 1) := by decide +kernel
theorem dX6_report_1 : decode cX6_report 1 = .ok (.iload_n 1, 1) := by decide +kernel
theorem dX6_report_2 : decode cX6_report 2 = .ok (.invokevirtual 162, 3) := by decide +kernel
theorem dX6_report_5 : decode cX6_report 5 = .ok (.ifCond .ne 22, 3) := by decide +kernel
theorem dX6_report_8 : decode cX6_report 8 = .ok (.iload_n 2, 1) := by decide +kernel
theorem dX6_report_9 : decode cX6_report 9 = .ok (.invokestatic 166, 3) := by decide +kernel
theorem dX6_report_12 : decode cX6_report 12 = .ok (.ifCond .eq 15, 3) := by decide +kernel
theorem dX6_report_15 : decode cX6_report 15 = .ok (.iload_n 3, 1) := by decide +kernel
theorem dX6_report_16 : decode cX6_report 16 = .ok (.i2l, 1) := by decide +kernel
theorem dX6_report_17 : decode cX6_report 17 = .ok (.lconst 0, 1) := by decide +kernel
theorem dX6_report_18 : decode cX6_report 18 = .ok (.ldc2_w 169, 3) := by decide +kernel
theorem dX6_report_21 : decode cX6_report 21 = .ok (.invokestatic 80, 3) := by decide +kernel
theorem dX6_report_24 : decode cX6_report 24 = .ok (.ifCond .ne 5, 3) := by decide +kernel
theorem dX6_report_27 : decode cX6_report 27 = .ok (.iconst (-1), 1) := by decide +kernel
theorem dX6_report_28 : decode cX6_report 28 = .ok (.ireturn, 1) := by decide +kernel
theorem dX6_report_29 : decode cX6_report 29 = .ok (.aload_n 0, 1) := by decide +kernel
theorem dX6_report_30 : decode cX6_report 30 = .ok (.getfield 38, 3) := by decide +kernel
theorem dX6_report_33 : decode cX6_report 33 = .ok (.iload_n 1, 1) := by decide +kernel
theorem dX6_report_34 : decode cX6_report 34 = .ok (.iaload, 1) := by decide +kernel
theorem dX6_report_35 : decode cX6_report 35 = .ok (.ifCond .eq 6, 3) := by decide +kernel
theorem dX6_report_38 : decode cX6_report 38 = .ok (.bipush (-3), 2) := by decide +kernel
theorem dX6_report_40 : decode cX6_report 40 = .ok (.ireturn, 1) := by decide +kernel
theorem dX6_report_41 : decode cX6_report 41 = .ok (.aload_n 0, 1) := by decide +kernel
theorem dX6_report_42 : decode cX6_report 42 = .ok (.getfield 44, 3) := by decide +kernel
theorem dX6_report_45 : decode cX6_report 45 = .ok (.iload_n 1, 1) := by decide +kernel
theorem dX6_report_46 : decode cX6_report 46 = .ok (.iaload, 1) := by decide +kernel
theorem dX6_report_47 : decode cX6_report 47 = .ok (.bipush 20, 2) := by decide +kernel
theorem dX6_report_49 : decode cX6_report 49 = .ok (.if_icmp .ne 6, 3) := by decide +kernel
theorem dX6_report_52 : decode cX6_report 52 = .ok (.bipush (-4), 2) := by decide +kernel
theorem dX6_report_54 : decode cX6_report 54 = .ok (.ireturn, 1) := by decide +kernel
theorem dX6_report_55 : decode cX6_report 55 = .ok (.aload_n 0, 1) := by decide +kernel
theorem dX6_report_56 : decode cX6_report 56 = .ok (.getfield 44, 3) := by decide +kernel
theorem dX6_report_59 : decode cX6_report 59 = .ok (.iload_n 1, 1) := by decide +kernel
theorem dX6_report_60 : decode cX6_report 60 = .ok (.dup2, 1) := by decide +kernel
theorem dX6_report_61 : decode cX6_report 61 = .ok (.iaload, 1) := by decide +kernel
theorem dX6_report_62 : decode cX6_report 62 = .ok (.dup_x2, 1) := by decide +kernel
theorem dX6_report_63 : decode cX6_report 63 = .ok (.iconst 1, 1) := by decide +kernel
theorem dX6_report_64 : decode cX6_report 64 = .ok (.iadd, 1) := by decide +kernel
theorem dX6_report_65 : decode cX6_report 65 = .ok (.iastore, 1) := by decide +kernel
theorem dX6_report_66 : decode cX6_report 66 = .ok (.istore 4, 2) := by decide +kernel
theorem dX6_report_68 : decode cX6_report 68 = .ok (.aload_n 0, 1) := by decide +kernel
theorem dX6_report_69 : decode cX6_report 69 = .ok (.getfield 47, 3) := by decide +kernel
theorem dX6_report_72 : decode cX6_report 72 = .ok (.bipush 20, 2) := by decide +kernel
theorem dX6_report_74 : decode cX6_report 74 = .ok (.iload_n 1, 1) := by decide +kernel
theorem dX6_report_75 : decode cX6_report 75 = .ok (.imul, 1) := by decide +kernel
theorem dX6_report_76 : decode cX6_report 76 = .ok (.iload 4, 2) := by decide +kernel
theorem dX6_report_78 : decode cX6_report 78 = .ok (.iadd, 1) := by decide +kernel
theorem dX6_report_79 : decode cX6_report 79 = .ok (.iload_n 2, 1) := by decide +kernel
theorem dX6_report_80 : decode cX6_report 80 = .ok (.iastore, 1) := by decide +kernel
theorem dX6_report_81 : decode cX6_report 81 = .ok (.aload_n 0, 1) := by decide +kernel
theorem dX6_report_82 : decode cX6_report 82 = .ok (.iload_n 1, 1) := by decide +kernel
theorem dX6_report_83 : decode cX6_report 83 = .ok (.iload 4, 2) := by decide +kernel
theorem dX6_report_85 : decode cX6_report 85 = .ok (.iload_n 2, 1) := by decide +kernel
theorem dX6_report_86 : decode cX6_report 86 = .ok (.iload_n 3, 1) := by decide +kernel
theorem dX6_report_87 : decode cX6_report 87 = .ok (.invokevirtual 171, 3) := by decide +kernel
theorem dX6_report_90 : decode cX6_report 90 = .ok (.ifCond .ne 6, 3) := by decide +kernel
theorem dX6_report_93 : decode cX6_report 93 = .ok (.iload 4, 2) := by decide +kernel
theorem dX6_report_95 : decode cX6_report 95 = .ok (.ireturn, 1) := by decide +kernel
theorem dX6_report_96 : decode cX6_report 96 = .ok (.aload_n 0, 1) := by decide +kernel
theorem dX6_report_97 : decode cX6_report 97 = .ok (.getfield 38, 3) := by decide +kernel
theorem dX6_report_100 : decode cX6_report 100 = .ok (.iload_n 1, 1) := by decide +kernel
theorem dX6_report_101 : decode cX6_report 101 = .ok (.iconst 3, 1) := by decide +kernel
theorem dX6_report_102 : decode cX6_report 102 = .ok (.iastore, 1) := by decide +kernel
theorem dX6_report_103 : decode cX6_report 103 = .ok (.bipush (-10), 2) := by decide +kernel
theorem dX6_report_105 : decode cX6_report 105 = .ok (.iload 4, 2) := by decide +kernel
theorem dX6_report_107 : decode cX6_report 107 = .ok (.isub, 1) := by decide +kernel
theorem dX6_report_108 : decode cX6_report 108 = .ok (.ireturn, 1) := by decide +kernel
set_option maxRecDepth 20000 in
theorem ggX6_told_X6_noTrial : GoodIn wsX6_told wsX6_noTrial := goodIn_r _ [11, 12, 13, 14, 10, 15, 16, 17, 18, 19, 20, 21, 22, 23, 24, 25, 26, 27, 28, 29, 30, 31, 32, 33, 34, 35, 36, 37, 38, 39, 40, 41, 42, 43, 44, 45, 46] (by decide +kernel) (by decide +kernel)
set_option maxRecDepth 20000 in
theorem gX6_told_X6_noTrial : GoodIn wsX6_told (wsV RX6 162 RX6 yX6_noTrial wsX6_noTrial) := goodIn_app (goodIn_of _ (by decide +kernel)) ggX6_told_X6_noTrial
theorem dX6_told_0 : decode cX6_told 0 = .ok (.aload_n 0, 1) := by decide +kernel
theorem dX6_told_1 : decode cX6_told 1 = .ok (.iload_n 1, 1) := by decide +kernel
theorem dX6_told_2 : decode cX6_told 2 = .ok (.invokevirtual 162, 3) := by decide +kernel
theorem dX6_told_5 : decode cX6_told 5 = .ok (.ifCond .eq 5, 3) := by decide +kernel
theorem dX6_told_8 : decode cX6_told 8 = .ok (.iconst (-1), 1) := by decide +kernel
theorem dX6_told_9 : decode cX6_told 9 = .ok (.ireturn, 1) := by decide +kernel
theorem dX6_told_10 : decode cX6_told 10 = .ok (.iload_n 2, 1) := by decide +kernel
theorem dX6_told_11 : decode cX6_told 11 = .ok (.tableswitch 98 0 4 #[33, 40, 47, 54, 83], 33) := by decide +kernel
theorem dX6_told_44 : decode cX6_told 44 = .ok (.aload_n 0, 1) := by decide +kernel
theorem dX6_told_45 : decode cX6_told 45 = .ok (.getfield 38, 3) := by decide +kernel
theorem dX6_told_48 : decode cX6_told 48 = .ok (.iload_n 1, 1) := by decide +kernel
theorem dX6_told_49 : decode cX6_told 49 = .ok (.iaload, 1) := by decide +kernel
theorem dX6_told_50 : decode cX6_told 50 = .ok (.ireturn, 1) := by decide +kernel
theorem dX6_told_51 : decode cX6_told 51 = .ok (.aload_n 0, 1) := by decide +kernel
theorem dX6_told_52 : decode cX6_told 52 = .ok (.getfield 41, 3) := by decide +kernel
theorem dX6_told_55 : decode cX6_told 55 = .ok (.iload_n 1, 1) := by decide +kernel
theorem dX6_told_56 : decode cX6_told 56 = .ok (.iaload, 1) := by decide +kernel
theorem dX6_told_57 : decode cX6_told 57 = .ok (.ireturn, 1) := by decide +kernel
theorem dX6_told_58 : decode cX6_told 58 = .ok (.aload_n 0, 1) := by decide +kernel
theorem dX6_told_59 : decode cX6_told 59 = .ok (.getfield 44, 3) := by decide +kernel
theorem dX6_told_62 : decode cX6_told 62 = .ok (.iload_n 1, 1) := by decide +kernel
theorem dX6_told_63 : decode cX6_told 63 = .ok (.iaload, 1) := by decide +kernel
theorem dX6_told_64 : decode cX6_told 64 = .ok (.ireturn, 1) := by decide +kernel
theorem dX6_told_65 : decode cX6_told 65 = .ok (.aload_n 0, 1) := by decide +kernel
theorem dX6_told_66 : decode cX6_told 66 = .ok (.getfield 57, 3) := by decide +kernel
theorem dX6_told_69 : decode cX6_told 69 = .ok (.iload_n 1, 1) := by decide +kernel
theorem dX6_told_70 : decode cX6_told 70 = .ok (.baload, 1) := by decide +kernel
theorem dX6_told_71 : decode cX6_told 71 = .ok (.ifCond .eq 21, 3) := by decide +kernel
theorem dX6_told_74 : decode cX6_told 74 = .ok (.aload_n 0, 1) := by decide +kernel
theorem dX6_told_75 : decode cX6_told 75 = .ok (.getfield 60, 3) := by decide +kernel
theorem dX6_told_78 : decode cX6_told 78 = .ok (.iload_n 1, 1) := by decide +kernel
theorem dX6_told_79 : decode cX6_told 79 = .ok (.baload, 1) := by decide +kernel
theorem dX6_told_80 : decode cX6_told 80 = .ok (.ifCond .eq 12, 3) := by decide +kernel
theorem dX6_told_83 : decode cX6_told 83 = .ok (.aload_n 0, 1) := by decide +kernel
theorem dX6_told_84 : decode cX6_told 84 = .ok (.getfield 66, 3) := by decide +kernel
theorem dX6_told_87 : decode cX6_told 87 = .ok (.iload_n 1, 1) := by decide +kernel
theorem dX6_told_88 : decode cX6_told 88 = .ok (.iaload, 1) := by decide +kernel
theorem dX6_told_89 : decode cX6_told 89 = .ok (.goto 4, 3) := by decide +kernel
theorem dX6_told_92 : decode cX6_told 92 = .ok (.iconst 0, 1) := by decide +kernel
theorem dX6_told_93 : decode cX6_told 93 = .ok (.ireturn, 1) := by decide +kernel
theorem dX6_told_94 : decode cX6_told 94 = .ok (.aload_n 0, 1) := by decide +kernel
theorem dX6_told_95 : decode cX6_told 95 = .ok (.getfield 57, 3) := by decide +kernel
theorem dX6_told_98 : decode cX6_told 98 = .ok (.iload_n 1, 1) := by decide +kernel
theorem dX6_told_99 : decode cX6_told 99 = .ok (.baload, 1) := by decide +kernel
theorem dX6_told_100 : decode cX6_told 100 = .ok (.ifCond .eq 7, 3) := by decide +kernel
theorem dX6_told_103 : decode cX6_told 103 = .ok (.iconst 1, 1) := by decide +kernel
theorem dX6_told_104 : decode cX6_told 104 = .ok (.goto 4, 3) := by decide +kernel
theorem dX6_told_107 : decode cX6_told 107 = .ok (.iconst 0, 1) := by decide +kernel
theorem dX6_told_108 : decode cX6_told 108 = .ok (.ireturn, 1) := by decide +kernel
theorem dX6_told_109 : decode cX6_told 109 = .ok (.iconst (-1), 1) := by decide +kernel
theorem dX6_told_110 : decode cX6_told 110 = .ok (.ireturn, 1) := by decide +kernel
set_option maxRecDepth 20000 in
theorem ggX6_point_X6_noTrial : GoodIn wsX6_point wsX6_noTrial := goodIn_r _ [7, 8, 9, 10, 6, 11, 12, 13, 14, 15, 16, 17, 18, 19, 20, 21, 22, 23, 24, 25, 26, 27, 28, 29, 30, 31, 32, 33, 34, 35, 36, 37, 38, 39, 40, 41, 42] (by decide +kernel) (by decide +kernel)
set_option maxRecDepth 20000 in
theorem gX6_point_X6_noTrial : GoodIn wsX6_point (wsV RX6 162 RX6 yX6_noTrial wsX6_noTrial) := goodIn_app (goodIn_of _ (by decide +kernel)) ggX6_point_X6_noTrial
theorem dX6_point_0 : decode cX6_point 0 = .ok (.aload_n 0, 1) := by decide +kernel
theorem dX6_point_1 : decode cX6_point 1 = .ok (.iload_n 1, 1) := by decide +kernel
theorem dX6_point_2 : decode cX6_point 2 = .ok (.invokevirtual 162, 3) := by decide +kernel
theorem dX6_point_5 : decode cX6_point 5 = .ok (.ifCond .eq 9, 3) := by decide +kernel
theorem dX6_point_8 : decode cX6_point 8 = .ok (.ldc2_w 84, 3) := by decide +kernel
theorem dX6_point_11 : decode cX6_point 11 = .ok (.goto 9, 3) := by decide +kernel
theorem dX6_point_14 : decode cX6_point 14 = .ok (.aload_n 0, 1) := by decide +kernel
theorem dX6_point_15 : decode cX6_point 15 = .ok (.getfield 35, 3) := by decide +kernel
theorem dX6_point_18 : decode cX6_point 18 = .ok (.iload_n 1, 1) := by decide +kernel
theorem dX6_point_19 : decode cX6_point 19 = .ok (.laload, 1) := by decide +kernel
theorem dX6_point_20 : decode cX6_point 20 = .ok (.lreturn, 1) := by decide +kernel
set_option maxRecDepth 20000 in
theorem ggX6_reported_X6_noTrial : GoodIn wsX6_reported wsX6_noTrial := goodIn_r _ [8, 9, 10, 11, 7, 12, 13, 14, 15, 16, 17, 18, 19, 20, 21, 22, 23, 24, 25, 26, 27, 28, 29, 30, 31, 32, 33, 34, 35, 36, 37, 38, 39, 40, 41, 42, 43] (by decide +kernel) (by decide +kernel)
set_option maxRecDepth 20000 in
theorem gX6_reported_X6_noTrial : GoodIn wsX6_reported (wsV RX6 162 RX6 yX6_noTrial wsX6_noTrial) := goodIn_app (goodIn_of _ (by decide +kernel)) ggX6_reported_X6_noTrial
set_option maxRecDepth 20000 in
theorem ggX6_reported_X6_in : GoodIn wsX6_reported wsX6_in := goodIn_r _ [12] (by decide +kernel) (by decide +kernel)
set_option maxRecDepth 20000 in
theorem gX6_reported_X6_in : GoodIn wsX6_reported (va_wsS RX6 80 yX6_in wsX6_in) := goodIn_app (goodIn_of _ (by decide +kernel)) ggX6_reported_X6_in
theorem dX6_reported_0 : decode cX6_reported 0 = .ok (.aload_n 0, 1) := by decide +kernel
theorem dX6_reported_1 : decode cX6_reported 1 = .ok (.iload_n 1, 1) := by decide +kernel
theorem dX6_reported_2 : decode cX6_reported 2 = .ok (.invokevirtual 162, 3) := by decide +kernel
theorem dX6_reported_5 : decode cX6_reported 5 = .ok (.ifCond .ne 21, 3) := by decide +kernel
theorem dX6_reported_8 : decode cX6_reported 8 = .ok (.iload_n 2, 1) := by decide +kernel
theorem dX6_reported_9 : decode cX6_reported 9 = .ok (.i2l, 1) := by decide +kernel
theorem dX6_reported_10 : decode cX6_reported 10 = .ok (.lconst 0, 1) := by decide +kernel
theorem dX6_reported_11 : decode cX6_reported 11 = .ok (.aload_n 0, 1) := by decide +kernel
theorem dX6_reported_12 : decode cX6_reported 12 = .ok (.getfield 44, 3) := by decide +kernel
theorem dX6_reported_15 : decode cX6_reported 15 = .ok (.iload_n 1, 1) := by decide +kernel
theorem dX6_reported_16 : decode cX6_reported 16 = .ok (.iaload, 1) := by decide +kernel
theorem dX6_reported_17 : decode cX6_reported 17 = .ok (.iconst 1, 1) := by decide +kernel
theorem dX6_reported_18 : decode cX6_reported 18 = .ok (.isub, 1) := by decide +kernel
theorem dX6_reported_19 : decode cX6_reported 19 = .ok (.i2l, 1) := by decide +kernel
theorem dX6_reported_20 : decode cX6_reported 20 = .ok (.invokestatic 80, 3) := by decide +kernel
theorem dX6_reported_23 : decode cX6_reported 23 = .ok (.ifCond .ne 8, 3) := by decide +kernel
theorem dX6_reported_26 : decode cX6_reported 26 = .ok (.ldc 175, 2) := by decide +kernel
theorem dX6_reported_28 : decode cX6_reported 28 = .ok (.goto 14, 3) := by decide +kernel
theorem dX6_reported_31 : decode cX6_reported 31 = .ok (.aload_n 0, 1) := by decide +kernel
theorem dX6_reported_32 : decode cX6_reported 32 = .ok (.getfield 47, 3) := by decide +kernel
theorem dX6_reported_35 : decode cX6_reported 35 = .ok (.bipush 20, 2) := by decide +kernel
theorem dX6_reported_37 : decode cX6_reported 37 = .ok (.iload_n 1, 1) := by decide +kernel
theorem dX6_reported_38 : decode cX6_reported 38 = .ok (.imul, 1) := by decide +kernel
theorem dX6_reported_39 : decode cX6_reported 39 = .ok (.iload_n 2, 1) := by decide +kernel
theorem dX6_reported_40 : decode cX6_reported 40 = .ok (.iadd, 1) := by decide +kernel
theorem dX6_reported_41 : decode cX6_reported 41 = .ok (.iaload, 1) := by decide +kernel
theorem dX6_reported_42 : decode cX6_reported 42 = .ok (.ireturn, 1) := by decide +kernel
theorem dX6_best_0 : decode cX6_best 0 = .ok (.bipush (-2), 2) := by decide +kernel
theorem dX6_best_2 : decode cX6_best 2 = .ok (.istore_n 1, 1) := by decide +kernel
theorem dX6_best_3 : decode cX6_best 3 = .ok (.iconst 0, 1) := by decide +kernel
theorem dX6_best_4 : decode cX6_best 4 = .ok (.istore_n 2, 1) := by decide +kernel
theorem dX6_best_5 : decode cX6_best 5 = .ok (.iload_n 2, 1) := by decide +kernel
theorem dX6_best_6 : decode cX6_best 6 = .ok (.aload_n 0, 1) := by decide +kernel
theorem dX6_best_7 : decode cX6_best 7 = .ok (.getfield 92, 3) := by decide +kernel
theorem dX6_best_10 : decode cX6_best 10 = .ok (.if_icmp .ge 44, 3) := by decide +kernel
theorem dX6_best_13 : decode cX6_best 13 = .ok (.aload_n 0, 1) := by decide +kernel
theorem dX6_best_14 : decode cX6_best 14 = .ok (.getfield 38, 3) := by decide +kernel
theorem dX6_best_17 : decode cX6_best 17 = .ok (.iload_n 2, 1) := by decide +kernel
theorem dX6_best_18 : decode cX6_best 18 = .ok (.iaload, 1) := by decide +kernel
theorem dX6_best_19 : decode cX6_best 19 = .ok (.iconst 1, 1) := by decide +kernel
theorem dX6_best_20 : decode cX6_best 20 = .ok (.if_icmp .ne 26, 3) := by decide +kernel
theorem dX6_best_23 : decode cX6_best 23 = .ok (.iload_n 1, 1) := by decide +kernel
theorem dX6_best_24 : decode cX6_best 24 = .ok (.ifCond .lt 18, 3) := by decide +kernel
theorem dX6_best_27 : decode cX6_best 27 = .ok (.aload_n 0, 1) := by decide +kernel
theorem dX6_best_28 : decode cX6_best 28 = .ok (.getfield 41, 3) := by decide +kernel
theorem dX6_best_31 : decode cX6_best 31 = .ok (.iload_n 2, 1) := by decide +kernel
theorem dX6_best_32 : decode cX6_best 32 = .ok (.iaload, 1) := by decide +kernel
theorem dX6_best_33 : decode cX6_best 33 = .ok (.aload_n 0, 1) := by decide +kernel
theorem dX6_best_34 : decode cX6_best 34 = .ok (.getfield 41, 3) := by decide +kernel
theorem dX6_best_37 : decode cX6_best 37 = .ok (.iload_n 1, 1) := by decide +kernel
theorem dX6_best_38 : decode cX6_best 38 = .ok (.iaload, 1) := by decide +kernel
theorem dX6_best_39 : decode cX6_best 39 = .ok (.if_icmp .le 7, 3) := by decide +kernel
theorem dX6_best_42 : decode cX6_best 42 = .ok (.iload_n 2, 1) := by decide +kernel
theorem dX6_best_43 : decode cX6_best 43 = .ok (.goto 4, 3) := by decide +kernel
theorem dX6_best_46 : decode cX6_best 46 = .ok (.iload_n 1, 1) := by decide +kernel
theorem dX6_best_47 : decode cX6_best 47 = .ok (.istore_n 1, 1) := by decide +kernel
theorem dX6_best_48 : decode cX6_best 48 = .ok (.iinc 2 1, 3) := by decide +kernel
theorem dX6_best_51 : decode cX6_best 51 = .ok (.goto (-46), 3) := by decide +kernel
theorem dX6_best_54 : decode cX6_best 54 = .ok (.iload_n 1, 1) := by decide +kernel
theorem dX6_best_55 : decode cX6_best 55 = .ok (.ireturn, 1) := by decide +kernel
set_option maxRecDepth 20000 in
theorem ggX6_bracket_X6_in : GoodIn wsX6_bracket wsX6_in := goodIn_r _ [16] (by decide +kernel) (by decide +kernel)
set_option maxRecDepth 20000 in
theorem gX6_bracket_X6_in : GoodIn wsX6_bracket (va_wsS RX6 80 yX6_in wsX6_in) := goodIn_app (goodIn_of _ (by decide +kernel)) ggX6_bracket_X6_in
set_option maxRecDepth 20000 in
theorem ggX6_bracket_X6_clear : GoodIn wsX6_bracket wsX6_clear := goodIn_r _ [20, 21, 22, 23, 24, 25, 26, 27, 28, 29, 30, 31, 32, 33, 34, 35, 36, 37, 38, 39, 40, 41, 42, 43, 44, 45, 46, 47, 48, 49, 50, 51, 52, 53, 54] (by decide +kernel) (by decide +kernel)
set_option maxRecDepth 20000 in
theorem gX6_bracket_X6_clear : GoodIn wsX6_bracket (wsV RX6 196 RX6 yX6_clear wsX6_clear) := goodIn_app (goodIn_of _ (by decide +kernel)) ggX6_bracket_X6_clear
theorem dX6_bracket_0 : decode cX6_bracket 0 = .ok (.iload_n 2, 1) := by decide +kernel
theorem dX6_bracket_1 : decode cX6_bracket 1 = .ok (.i2l, 1) := by decide +kernel
theorem dX6_bracket_2 : decode cX6_bracket 2 = .ok (.lconst 1, 1) := by decide +kernel
theorem dX6_bracket_3 : decode cX6_bracket 3 = .ok (.ldc2_w 169, 3) := by decide +kernel
theorem dX6_bracket_6 : decode cX6_bracket 6 = .ok (.invokestatic 80, 3) := by decide +kernel
theorem dX6_bracket_9 : decode cX6_bracket 9 = .ok (.ifCond .eq 46, 3) := by decide +kernel
theorem dX6_bracket_12 : decode cX6_bracket 12 = .ok (.iload_n 1, 1) := by decide +kernel
theorem dX6_bracket_13 : decode cX6_bracket 13 = .ok (.i2l, 1) := by decide +kernel
theorem dX6_bracket_14 : decode cX6_bracket 14 = .ok (.lconst 0, 1) := by decide +kernel
theorem dX6_bracket_15 : decode cX6_bracket 15 = .ok (.aload_n 0, 1) := by decide +kernel
theorem dX6_bracket_16 : decode cX6_bracket 16 = .ok (.getfield 92, 3) := by decide +kernel
theorem dX6_bracket_19 : decode cX6_bracket 19 = .ok (.iload_n 2, 1) := by decide +kernel
theorem dX6_bracket_20 : decode cX6_bracket 20 = .ok (.isub, 1) := by decide +kernel
theorem dX6_bracket_21 : decode cX6_bracket 21 = .ok (.i2l, 1) := by decide +kernel
theorem dX6_bracket_22 : decode cX6_bracket 22 = .ok (.invokestatic 80, 3) := by decide +kernel
theorem dX6_bracket_25 : decode cX6_bracket 25 = .ok (.ifCond .eq 30, 3) := by decide +kernel
theorem dX6_bracket_28 : decode cX6_bracket 28 = .ok (.iload_n 3, 1) := by decide +kernel
theorem dX6_bracket_29 : decode cX6_bracket 29 = .ok (.i2l, 1) := by decide +kernel
theorem dX6_bracket_30 : decode cX6_bracket 30 = .ok (.lconst 1, 1) := by decide +kernel
theorem dX6_bracket_31 : decode cX6_bracket 31 = .ok (.ldc2_w 160, 3) := by decide +kernel
theorem dX6_bracket_34 : decode cX6_bracket 34 = .ok (.invokestatic 80, 3) := by decide +kernel
theorem dX6_bracket_37 : decode cX6_bracket 37 = .ok (.ifCond .eq 18, 3) := by decide +kernel
theorem dX6_bracket_40 : decode cX6_bracket 40 = .ok (.iload 4, 2) := by decide +kernel
theorem dX6_bracket_42 : decode cX6_bracket 42 = .ok (.i2l, 1) := by decide +kernel
theorem dX6_bracket_43 : decode cX6_bracket 43 = .ok (.ldc2_w 129, 3) := by decide +kernel
theorem dX6_bracket_46 : decode cX6_bracket 46 = .ok (.ldc2_w 144, 3) := by decide +kernel
theorem dX6_bracket_49 : decode cX6_bracket 49 = .ok (.invokestatic 80, 3) := by decide +kernel
theorem dX6_bracket_52 : decode cX6_bracket 52 = .ok (.ifCond .ne 5, 3) := by decide +kernel
theorem dX6_bracket_55 : decode cX6_bracket 55 = .ok (.iconst (-1), 1) := by decide +kernel
theorem dX6_bracket_56 : decode cX6_bracket 56 = .ok (.ireturn, 1) := by decide +kernel
theorem dX6_bracket_57 : decode cX6_bracket 57 = .ok (.aload_n 0, 1) := by decide +kernel
theorem dX6_bracket_58 : decode cX6_bracket 58 = .ok (.iconst 1, 1) := by decide +kernel
theorem dX6_bracket_59 : decode cX6_bracket 59 = .ok (.putfield 176, 3) := by decide +kernel
theorem dX6_bracket_62 : decode cX6_bracket 62 = .ok (.aload_n 0, 1) := by decide +kernel
theorem dX6_bracket_63 : decode cX6_bracket 63 = .ok (.iload_n 3, 1) := by decide +kernel
theorem dX6_bracket_64 : decode cX6_bracket 64 = .ok (.putfield 180, 3) := by decide +kernel
theorem dX6_bracket_67 : decode cX6_bracket 67 = .ok (.aload_n 0, 1) := by decide +kernel
theorem dX6_bracket_68 : decode cX6_bracket 68 = .ok (.iload 4, 2) := by decide +kernel
theorem dX6_bracket_70 : decode cX6_bracket 70 = .ok (.putfield 183, 3) := by decide +kernel
theorem dX6_bracket_73 : decode cX6_bracket 73 = .ok (.aload_n 0, 1) := by decide +kernel
theorem dX6_bracket_74 : decode cX6_bracket 74 = .ok (.iconst 0, 1) := by decide +kernel
theorem dX6_bracket_75 : decode cX6_bracket 75 = .ok (.putfield 186, 3) := by decide +kernel
theorem dX6_bracket_78 : decode cX6_bracket 78 = .ok (.aload_n 0, 1) := by decide +kernel
theorem dX6_bracket_79 : decode cX6_bracket 79 = .ok (.iconst 0, 1) := by decide +kernel
theorem dX6_bracket_80 : decode cX6_bracket 80 = .ok (.putfield 189, 3) := by decide +kernel
theorem dX6_bracket_83 : decode cX6_bracket 83 = .ok (.aload_n 0, 1) := by decide +kernel
theorem dX6_bracket_84 : decode cX6_bracket 84 = .ok (.lconst 0, 1) := by decide +kernel
theorem dX6_bracket_85 : decode cX6_bracket 85 = .ok (.putfield 192, 3) := by decide +kernel
theorem dX6_bracket_88 : decode cX6_bracket 88 = .ok (.iconst 0, 1) := by decide +kernel
theorem dX6_bracket_89 : decode cX6_bracket 89 = .ok (.istore 5, 2) := by decide +kernel
theorem dX6_bracket_91 : decode cX6_bracket 91 = .ok (.iload 5, 2) := by decide +kernel
theorem dX6_bracket_93 : decode cX6_bracket 93 = .ok (.bipush 60, 2) := by decide +kernel
theorem dX6_bracket_95 : decode cX6_bracket 95 = .ok (.if_icmp .ge 41, 3) := by decide +kernel
theorem dX6_bracket_98 : decode cX6_bracket 98 = .ok (.aload_n 0, 1) := by decide +kernel
theorem dX6_bracket_99 : decode cX6_bracket 99 = .ok (.getfield 57, 3) := by decide +kernel
theorem dX6_bracket_102 : decode cX6_bracket 102 = .ok (.iload 5, 2) := by decide +kernel
theorem dX6_bracket_104 : decode cX6_bracket 104 = .ok (.iload 5, 2) := by decide +kernel
theorem dX6_bracket_106 : decode cX6_bracket 106 = .ok (.iload_n 1, 1) := by decide +kernel
theorem dX6_bracket_107 : decode cX6_bracket 107 = .ok (.if_icmp .lt 15, 3) := by decide +kernel
theorem dX6_bracket_110 : decode cX6_bracket 110 = .ok (.iload 5, 2) := by decide +kernel
theorem dX6_bracket_112 : decode cX6_bracket 112 = .ok (.iload_n 1, 1) := by decide +kernel
theorem dX6_bracket_113 : decode cX6_bracket 113 = .ok (.iload_n 2, 1) := by decide +kernel
theorem dX6_bracket_114 : decode cX6_bracket 114 = .ok (.iadd, 1) := by decide +kernel
theorem dX6_bracket_115 : decode cX6_bracket 115 = .ok (.if_icmp .ge 7, 3) := by decide +kernel
theorem dX6_bracket_118 : decode cX6_bracket 118 = .ok (.iconst 1, 1) := by decide +kernel
theorem dX6_bracket_119 : decode cX6_bracket 119 = .ok (.goto 4, 3) := by decide +kernel
theorem dX6_bracket_122 : decode cX6_bracket 122 = .ok (.iconst 0, 1) := by decide +kernel
theorem dX6_bracket_123 : decode cX6_bracket 123 = .ok (.bastore, 1) := by decide +kernel
theorem dX6_bracket_124 : decode cX6_bracket 124 = .ok (.aload_n 0, 1) := by decide +kernel
theorem dX6_bracket_125 : decode cX6_bracket 125 = .ok (.iload 5, 2) := by decide +kernel
theorem dX6_bracket_127 : decode cX6_bracket 127 = .ok (.invokevirtual 196, 3) := by decide +kernel
theorem dX6_bracket_130 : decode cX6_bracket 130 = .ok (.iinc 5 1, 3) := by decide +kernel
theorem dX6_bracket_133 : decode cX6_bracket 133 = .ok (.goto (-42), 3) := by decide +kernel
theorem dX6_bracket_136 : decode cX6_bracket 136 = .ok (.iconst 1, 1) := by decide +kernel
theorem dX6_bracket_137 : decode cX6_bracket 137 = .ok (.ireturn, 1) := by decide +kernel
theorem dX6_clear_0 : decode cX6_clear 0 = .ok (.aload_n 0, 1) := by decide +kernel
theorem dX6_clear_1 : decode cX6_clear 1 = .ok (.getfield 60, 3) := by decide +kernel
theorem dX6_clear_4 : decode cX6_clear 4 = .ok (.iload_n 1, 1) := by decide +kernel
theorem dX6_clear_5 : decode cX6_clear 5 = .ok (.iconst 0, 1) := by decide +kernel
theorem dX6_clear_6 : decode cX6_clear 6 = .ok (.bastore, 1) := by decide +kernel
theorem dX6_clear_7 : decode cX6_clear 7 = .ok (.aload_n 0, 1) := by decide +kernel
theorem dX6_clear_8 : decode cX6_clear 8 = .ok (.getfield 63, 3) := by decide +kernel
theorem dX6_clear_11 : decode cX6_clear 11 = .ok (.iload_n 1, 1) := by decide +kernel
theorem dX6_clear_12 : decode cX6_clear 12 = .ok (.iconst 0, 1) := by decide +kernel
theorem dX6_clear_13 : decode cX6_clear 13 = .ok (.bastore, 1) := by decide +kernel
theorem dX6_clear_14 : decode cX6_clear 14 = .ok (.aload_n 0, 1) := by decide +kernel
theorem dX6_clear_15 : decode cX6_clear 15 = .ok (.getfield 66, 3) := by decide +kernel
theorem dX6_clear_18 : decode cX6_clear 18 = .ok (.iload_n 1, 1) := by decide +kernel
theorem dX6_clear_19 : decode cX6_clear 19 = .ok (.iconst 0, 1) := by decide +kernel
theorem dX6_clear_20 : decode cX6_clear 20 = .ok (.iastore, 1) := by decide +kernel
theorem dX6_clear_21 : decode cX6_clear 21 = .ok (.return_, 1) := by decide +kernel
theorem dX6_open_0 : decode cX6_open 0 = .ok (.iconst 0, 1) := by decide +kernel
theorem dX6_open_1 : decode cX6_open 1 = .ok (.istore_n 1, 1) := by decide +kernel
theorem dX6_open_2 : decode cX6_open 2 = .ok (.iconst 0, 1) := by decide +kernel
theorem dX6_open_3 : decode cX6_open 3 = .ok (.istore_n 2, 1) := by decide +kernel
theorem dX6_open_4 : decode cX6_open 4 = .ok (.iload_n 2, 1) := by decide +kernel
theorem dX6_open_5 : decode cX6_open 5 = .ok (.bipush 60, 2) := by decide +kernel
theorem dX6_open_7 : decode cX6_open 7 = .ok (.if_icmp .ge 44, 3) := by decide +kernel
theorem dX6_open_10 : decode cX6_open 10 = .ok (.iload_n 1, 1) := by decide +kernel
theorem dX6_open_11 : decode cX6_open 11 = .ok (.aload_n 0, 1) := by decide +kernel
theorem dX6_open_12 : decode cX6_open 12 = .ok (.getfield 57, 3) := by decide +kernel
theorem dX6_open_15 : decode cX6_open 15 = .ok (.iload_n 2, 1) := by decide +kernel
theorem dX6_open_16 : decode cX6_open 16 = .ok (.baload, 1) := by decide +kernel
theorem dX6_open_17 : decode cX6_open 17 = .ok (.ifCond .eq 25, 3) := by decide +kernel
theorem dX6_open_20 : decode cX6_open 20 = .ok (.aload_n 0, 1) := by decide +kernel
theorem dX6_open_21 : decode cX6_open 21 = .ok (.getfield 60, 3) := by decide +kernel
theorem dX6_open_24 : decode cX6_open 24 = .ok (.iload_n 2, 1) := by decide +kernel
theorem dX6_open_25 : decode cX6_open 25 = .ok (.baload, 1) := by decide +kernel
theorem dX6_open_26 : decode cX6_open 26 = .ok (.ifCond .ne 16, 3) := by decide +kernel
theorem dX6_open_29 : decode cX6_open 29 = .ok (.aload_n 0, 1) := by decide +kernel
theorem dX6_open_30 : decode cX6_open 30 = .ok (.getfield 63, 3) := by decide +kernel
theorem dX6_open_33 : decode cX6_open 33 = .ok (.iload_n 2, 1) := by decide +kernel
theorem dX6_open_34 : decode cX6_open 34 = .ok (.baload, 1) := by decide +kernel
theorem dX6_open_35 : decode cX6_open 35 = .ok (.ifCond .ne 7, 3) := by decide +kernel
theorem dX6_open_38 : decode cX6_open 38 = .ok (.iconst 1, 1) := by decide +kernel
theorem dX6_open_39 : decode cX6_open 39 = .ok (.goto 4, 3) := by decide +kernel
theorem dX6_open_42 : decode cX6_open 42 = .ok (.iconst 0, 1) := by decide +kernel
theorem dX6_open_43 : decode cX6_open 43 = .ok (.iadd, 1) := by decide +kernel
theorem dX6_open_44 : decode cX6_open 44 = .ok (.istore_n 1, 1) := by decide +kernel
theorem dX6_open_45 : decode cX6_open 45 = .ok (.iinc 2 1, 3) := by decide +kernel
theorem dX6_open_48 : decode cX6_open 48 = .ok (.goto (-44), 3) := by decide +kernel
theorem dX6_open_51 : decode cX6_open 51 = .ok (.iload_n 1, 1) := by decide +kernel
theorem dX6_open_52 : decode cX6_open 52 = .ok (.ireturn, 1) := by decide +kernel
theorem dX6_inside_0 : decode cX6_inside 0 = .ok (.iconst 0, 1) := by decide +kernel
theorem dX6_inside_1 : decode cX6_inside 1 = .ok (.istore_n 1, 1) := by decide +kernel
theorem dX6_inside_2 : decode cX6_inside 2 = .ok (.iconst 0, 1) := by decide +kernel
theorem dX6_inside_3 : decode cX6_inside 3 = .ok (.istore_n 2, 1) := by decide +kernel
theorem dX6_inside_4 : decode cX6_inside 4 = .ok (.iload_n 2, 1) := by decide +kernel
theorem dX6_inside_5 : decode cX6_inside 5 = .ok (.bipush 60, 2) := by decide +kernel
theorem dX6_inside_7 : decode cX6_inside 7 = .ok (.if_icmp .ge 26, 3) := by decide +kernel
theorem dX6_inside_10 : decode cX6_inside 10 = .ok (.iload_n 1, 1) := by decide +kernel
theorem dX6_inside_11 : decode cX6_inside 11 = .ok (.aload_n 0, 1) := by decide +kernel
theorem dX6_inside_12 : decode cX6_inside 12 = .ok (.getfield 57, 3) := by decide +kernel
theorem dX6_inside_15 : decode cX6_inside 15 = .ok (.iload_n 2, 1) := by decide +kernel
theorem dX6_inside_16 : decode cX6_inside 16 = .ok (.baload, 1) := by decide +kernel
theorem dX6_inside_17 : decode cX6_inside 17 = .ok (.ifCond .eq 7, 3) := by decide +kernel
theorem dX6_inside_20 : decode cX6_inside 20 = .ok (.iconst 1, 1) := by decide +kernel
theorem dX6_inside_21 : decode cX6_inside 21 = .ok (.goto 4, 3) := by decide +kernel
theorem dX6_inside_24 : decode cX6_inside 24 = .ok (.iconst 0, 1) := by decide +kernel
theorem dX6_inside_25 : decode cX6_inside 25 = .ok (.iadd, 1) := by decide +kernel
theorem dX6_inside_26 : decode cX6_inside 26 = .ok (.istore_n 1, 1) := by decide +kernel
theorem dX6_inside_27 : decode cX6_inside 27 = .ok (.iinc 2 1, 3) := by decide +kernel
theorem dX6_inside_30 : decode cX6_inside 30 = .ok (.goto (-26), 3) := by decide +kernel
theorem dX6_inside_33 : decode cX6_inside 33 = .ok (.iload_n 1, 1) := by decide +kernel
theorem dX6_inside_34 : decode cX6_inside 34 = .ok (.ireturn, 1) := by decide +kernel
set_option maxRecDepth 20000 in
theorem ggX6_result_X6_noTrial : GoodIn wsX6_result wsX6_noTrial := goodIn_r _ [12, 13, 14, 15, 11, 16, 26, 27, 28, 29, 30, 31, 32, 33, 34, 35, 36, 37, 38, 39, 40, 41, 42, 43, 44, 45, 46, 47, 48, 49, 50, 51, 52, 53, 54, 55, 56] (by decide +kernel) (by decide +kernel)
set_option maxRecDepth 20000 in
theorem gX6_result_X6_noTrial : GoodIn wsX6_result (wsV RX6 162 RX6 yX6_noTrial wsX6_noTrial) := goodIn_app (goodIn_of _ (by decide +kernel)) ggX6_result_X6_noTrial
set_option maxRecDepth 20000 in
theorem ggX6_result_X6_isScore : GoodIn wsX6_result wsX6_isScore := goodIn_r _ [19, 20, 21, 14, 15, 11, 16] (by decide +kernel) (by decide +kernel)
set_option maxRecDepth 20000 in
theorem gX6_result_X6_isScore : GoodIn wsX6_result (va_wsS RX6 166 yX6_isScore wsX6_isScore) := goodIn_app (goodIn_of _ (by decide +kernel)) ggX6_result_X6_isScore
set_option maxRecDepth 20000 in
theorem ggX6_result_X6_open : GoodIn wsX6_result wsX6_open := goodIn_r _ [25, 2, 3, 4, 26, 27, 28, 29, 30, 31, 32, 33, 34, 35, 36, 37, 38, 39, 40, 41, 42, 43, 44, 45, 46, 47, 48, 49, 50, 51, 52, 53, 54, 55, 56] (by decide +kernel) (by decide +kernel)
set_option maxRecDepth 20000 in
theorem gX6_result_X6_open : GoodIn wsX6_result (wsV RX6 200 RX6 yX6_open wsX6_open) := goodIn_app (goodIn_of _ (by decide +kernel)) ggX6_result_X6_open
theorem dX6_result_0 : decode cX6_result 0 = .ok (.aload_n 0, 1) := by decide +kernel
theorem dX6_result_1 : decode cX6_result 1 = .ok (.iload_n 1, 1) := by decide +kernel
theorem dX6_result_2 : decode cX6_result 2 = .ok (.invokevirtual 162, 3) := by decide +kernel
theorem dX6_result_5 : decode cX6_result 5 = .ok (.ifCond .ne 14, 3) := by decide +kernel
theorem dX6_result_8 : decode cX6_result 8 = .ok (.iload_n 3, 1) := by decide +kernel
theorem dX6_result_9 : decode cX6_result 9 = .ok (.ifCond .eq 12, 3) := by decide +kernel
theorem dX6_result_12 : decode cX6_result 12 = .ok (.iload_n 2, 1) := by decide +kernel
theorem dX6_result_13 : decode cX6_result 13 = .ok (.invokestatic 166, 3) := by decide +kernel
theorem dX6_result_16 : decode cX6_result 16 = .ok (.ifCond .ne 5, 3) := by decide +kernel
theorem dX6_result_19 : decode cX6_result 19 = .ok (.iconst (-1), 1) := by decide +kernel
theorem dX6_result_20 : decode cX6_result 20 = .ok (.ireturn, 1) := by decide +kernel
theorem dX6_result_21 : decode cX6_result 21 = .ok (.aload_n 0, 1) := by decide +kernel
theorem dX6_result_22 : decode cX6_result 22 = .ok (.getfield 176, 3) := by decide +kernel
theorem dX6_result_25 : decode cX6_result 25 = .ok (.ifCond .eq 30, 3) := by decide +kernel
theorem dX6_result_28 : decode cX6_result 28 = .ok (.aload_n 0, 1) := by decide +kernel
theorem dX6_result_29 : decode cX6_result 29 = .ok (.getfield 57, 3) := by decide +kernel
theorem dX6_result_32 : decode cX6_result 32 = .ok (.iload_n 1, 1) := by decide +kernel
theorem dX6_result_33 : decode cX6_result 33 = .ok (.baload, 1) := by decide +kernel
theorem dX6_result_34 : decode cX6_result 34 = .ok (.ifCond .eq 21, 3) := by decide +kernel
theorem dX6_result_37 : decode cX6_result 37 = .ok (.aload_n 0, 1) := by decide +kernel
theorem dX6_result_38 : decode cX6_result 38 = .ok (.getfield 60, 3) := by decide +kernel
theorem dX6_result_41 : decode cX6_result 41 = .ok (.iload_n 1, 1) := by decide +kernel
theorem dX6_result_42 : decode cX6_result 42 = .ok (.baload, 1) := by decide +kernel
theorem dX6_result_43 : decode cX6_result 43 = .ok (.ifCond .ne 12, 3) := by decide +kernel
theorem dX6_result_46 : decode cX6_result 46 = .ok (.aload_n 0, 1) := by decide +kernel
theorem dX6_result_47 : decode cX6_result 47 = .ok (.getfield 63, 3) := by decide +kernel
theorem dX6_result_50 : decode cX6_result 50 = .ok (.iload_n 1, 1) := by decide +kernel
theorem dX6_result_51 : decode cX6_result 51 = .ok (.baload, 1) := by decide +kernel
theorem dX6_result_52 : decode cX6_result 52 = .ok (.ifCond .eq 6, 3) := by decide +kernel
theorem dX6_result_55 : decode cX6_result 55 = .ok (.bipush (-3), 2) := by decide +kernel
theorem dX6_result_57 : decode cX6_result 57 = .ok (.ireturn, 1) := by decide +kernel
theorem dX6_result_58 : decode cX6_result 58 = .ok (.aload_n 0, 1) := by decide +kernel
theorem dX6_result_59 : decode cX6_result 59 = .ok (.getfield 60, 3) := by decide +kernel
theorem dX6_result_62 : decode cX6_result 62 = .ok (.iload_n 1, 1) := by decide +kernel
theorem dX6_result_63 : decode cX6_result 63 = .ok (.iload_n 3, 1) := by decide +kernel
theorem dX6_result_64 : decode cX6_result 64 = .ok (.bastore, 1) := by decide +kernel
theorem dX6_result_65 : decode cX6_result 65 = .ok (.aload_n 0, 1) := by decide +kernel
theorem dX6_result_66 : decode cX6_result 66 = .ok (.getfield 63, 3) := by decide +kernel
theorem dX6_result_69 : decode cX6_result 69 = .ok (.iload_n 1, 1) := by decide +kernel
theorem dX6_result_70 : decode cX6_result 70 = .ok (.iload_n 3, 1) := by decide +kernel
theorem dX6_result_71 : decode cX6_result 71 = .ok (.ifCond .ne 7, 3) := by decide +kernel
theorem dX6_result_74 : decode cX6_result 74 = .ok (.iconst 1, 1) := by decide +kernel
theorem dX6_result_75 : decode cX6_result 75 = .ok (.goto 4, 3) := by decide +kernel
theorem dX6_result_78 : decode cX6_result 78 = .ok (.iconst 0, 1) := by decide +kernel
theorem dX6_result_79 : decode cX6_result 79 = .ok (.bastore, 1) := by decide +kernel
theorem dX6_result_80 : decode cX6_result 80 = .ok (.aload_n 0, 1) := by decide +kernel
theorem dX6_result_81 : decode cX6_result 81 = .ok (.getfield 66, 3) := by decide +kernel
theorem dX6_result_84 : decode cX6_result 84 = .ok (.iload_n 1, 1) := by decide +kernel
theorem dX6_result_85 : decode cX6_result 85 = .ok (.iload_n 3, 1) := by decide +kernel
theorem dX6_result_86 : decode cX6_result 86 = .ok (.ifCond .eq 7, 3) := by decide +kernel
theorem dX6_result_89 : decode cX6_result 89 = .ok (.iload_n 2, 1) := by decide +kernel
theorem dX6_result_90 : decode cX6_result 90 = .ok (.goto 4, 3) := by decide +kernel
theorem dX6_result_93 : decode cX6_result 93 = .ok (.iconst 0, 1) := by decide +kernel
theorem dX6_result_94 : decode cX6_result 94 = .ok (.iastore, 1) := by decide +kernel
theorem dX6_result_95 : decode cX6_result 95 = .ok (.aload_n 0, 1) := by decide +kernel
theorem dX6_result_96 : decode cX6_result 96 = .ok (.dup, 1) := by decide +kernel
theorem dX6_result_97 : decode cX6_result 97 = .ok (.getfield 192, 3) := by decide +kernel
theorem dX6_result_100 : decode cX6_result 100 = .ok (.aload_n 0, 1) := by decide +kernel
theorem dX6_result_101 : decode cX6_result 101 = .ok (.getfield 180, 3) := by decide +kernel
theorem dX6_result_104 : decode cX6_result 104 = .ok (.i2l, 1) := by decide +kernel
theorem dX6_result_105 : decode cX6_result 105 = .ok (.ladd, 1) := by decide +kernel
theorem dX6_result_106 : decode cX6_result 106 = .ok (.putfield 192, 3) := by decide +kernel
theorem dX6_result_109 : decode cX6_result 109 = .ok (.aload_n 0, 1) := by decide +kernel
theorem dX6_result_110 : decode cX6_result 110 = .ok (.invokevirtual 200, 3) := by decide +kernel
theorem dX6_result_113 : decode cX6_result 113 = .ok (.ireturn, 1) := by decide +kernel
set_option maxRecDepth 20000 in
theorem ggX6_halve_X6_open : GoodIn wsX6_halve wsX6_open := goodIn_r _ [16, 5, 6, 17, 26, 27, 28, 29, 30, 31, 32, 33, 34, 35, 36, 37, 38, 39, 40, 41, 42, 43, 44, 45, 46, 47, 48, 49, 50, 51, 52, 53, 54, 55, 56] (by decide +kernel) (by decide +kernel)
set_option maxRecDepth 20000 in
theorem gX6_halve_X6_open : GoodIn wsX6_halve (wsV RX6 200 RX6 yX6_open wsX6_open) := goodIn_app (goodIn_of _ (by decide +kernel)) ggX6_halve_X6_open
set_option maxRecDepth 20000 in
theorem ggX6_halve_X6_inside : GoodIn wsX6_halve wsX6_inside := goodIn_r _ [21, 5, 26, 27, 28, 29, 30, 31, 32, 33, 34, 35, 36, 37, 38, 39, 40, 41, 42, 43, 44, 45, 46, 47, 48, 49, 50, 51, 52, 53, 54, 55, 56] (by decide +kernel) (by decide +kernel)
set_option maxRecDepth 20000 in
theorem gX6_halve_X6_inside : GoodIn wsX6_halve (wsV RX6 204 RX6 yX6_inside wsX6_inside) := goodIn_app (goodIn_of _ (by decide +kernel)) ggX6_halve_X6_inside
set_option maxRecDepth 20000 in
theorem ggX6_halve_X6_clear : GoodIn wsX6_halve wsX6_clear := goodIn_r _ [25, 6, 17, 7, 26, 27, 28, 29, 30, 31, 32, 33, 34, 35, 36, 37, 38, 39, 40, 41, 42, 43, 44, 45, 46, 47, 48, 49, 50, 51, 52, 53, 54, 55, 56] (by decide +kernel) (by decide +kernel)
set_option maxRecDepth 20000 in
theorem gX6_halve_X6_clear : GoodIn wsX6_halve (wsV RX6 196 RX6 yX6_clear wsX6_clear) := goodIn_app (goodIn_of _ (by decide +kernel)) ggX6_halve_X6_clear
theorem dX6_halve_0 : decode cX6_halve 0 = .ok (.aload_n 0, 1) := by decide +kernel
theorem dX6_halve_1 : decode cX6_halve 1 = .ok (.getfield 176, 3) := by decide +kernel
theorem dX6_halve_4 : decode cX6_halve 4 = .ok (.ifCond .eq 17, 3) := by decide +kernel
theorem dX6_halve_7 : decode cX6_halve 7 = .ok (.aload_n 0, 1) := by decide +kernel
theorem dX6_halve_8 : decode cX6_halve 8 = .ok (.getfield 189, 3) := by decide +kernel
theorem dX6_halve_11 : decode cX6_halve 11 = .ok (.ifCond .ne 10, 3) := by decide +kernel
theorem dX6_halve_14 : decode cX6_halve 14 = .ok (.aload_n 0, 1) := by decide +kernel
theorem dX6_halve_15 : decode cX6_halve 15 = .ok (.invokevirtual 200, 3) := by decide +kernel
theorem dX6_halve_18 : decode cX6_halve 18 = .ok (.ifCond .le 6, 3) := by decide +kernel
theorem dX6_halve_21 : decode cX6_halve 21 = .ok (.bipush (-3), 2) := by decide +kernel
theorem dX6_halve_23 : decode cX6_halve 23 = .ok (.ireturn, 1) := by decide +kernel
theorem dX6_halve_24 : decode cX6_halve 24 = .ok (.aload_n 0, 1) := by decide +kernel
theorem dX6_halve_25 : decode cX6_halve 25 = .ok (.invokevirtual 204, 3) := by decide +kernel
theorem dX6_halve_28 : decode cX6_halve 28 = .ok (.aload_n 0, 1) := by decide +kernel
theorem dX6_halve_29 : decode cX6_halve 29 = .ok (.getfield 183, 3) := by decide +kernel
theorem dX6_halve_32 : decode cX6_halve 32 = .ok (.idiv, 1) := by decide +kernel
theorem dX6_halve_33 : decode cX6_halve 33 = .ok (.istore_n 1, 1) := by decide +kernel
theorem dX6_halve_34 : decode cX6_halve 34 = .ok (.iload_n 1, 1) := by decide +kernel
theorem dX6_halve_35 : decode cX6_halve 35 = .ok (.iconst 1, 1) := by decide +kernel
theorem dX6_halve_36 : decode cX6_halve 36 = .ok (.if_icmp .ge 7, 3) := by decide +kernel
theorem dX6_halve_39 : decode cX6_halve 39 = .ok (.iconst 1, 1) := by decide +kernel
theorem dX6_halve_40 : decode cX6_halve 40 = .ok (.goto 4, 3) := by decide +kernel
theorem dX6_halve_43 : decode cX6_halve 43 = .ok (.iload_n 1, 1) := by decide +kernel
theorem dX6_halve_44 : decode cX6_halve 44 = .ok (.istore_n 1, 1) := by decide +kernel
theorem dX6_halve_45 : decode cX6_halve 45 = .ok (.iconst 0, 1) := by decide +kernel
theorem dX6_halve_46 : decode cX6_halve 46 = .ok (.istore_n 2, 1) := by decide +kernel
theorem dX6_halve_47 : decode cX6_halve 47 = .ok (.iload_n 2, 1) := by decide +kernel
theorem dX6_halve_48 : decode cX6_halve 48 = .ok (.bipush 60, 2) := by decide +kernel
theorem dX6_halve_50 : decode cX6_halve 50 = .ok (.if_icmp .ge 16, 3) := by decide +kernel
theorem dX6_halve_53 : decode cX6_halve 53 = .ok (.aload_n 0, 1) := by decide +kernel
theorem dX6_halve_54 : decode cX6_halve 54 = .ok (.getfield 50, 3) := by decide +kernel
theorem dX6_halve_57 : decode cX6_halve 57 = .ok (.iload_n 2, 1) := by decide +kernel
theorem dX6_halve_58 : decode cX6_halve 58 = .ok (.iconst 0, 1) := by decide +kernel
theorem dX6_halve_59 : decode cX6_halve 59 = .ok (.bastore, 1) := by decide +kernel
theorem dX6_halve_60 : decode cX6_halve 60 = .ok (.iinc 2 1, 3) := by decide +kernel
theorem dX6_halve_63 : decode cX6_halve 63 = .ok (.goto (-16), 3) := by decide +kernel
theorem dX6_halve_66 : decode cX6_halve 66 = .ok (.iconst 0, 1) := by decide +kernel
theorem dX6_halve_67 : decode cX6_halve 67 = .ok (.istore_n 2, 1) := by decide +kernel
theorem dX6_halve_68 : decode cX6_halve 68 = .ok (.iload_n 2, 1) := by decide +kernel
theorem dX6_halve_69 : decode cX6_halve 69 = .ok (.iload_n 1, 1) := by decide +kernel
theorem dX6_halve_70 : decode cX6_halve 70 = .ok (.if_icmp .ge 96, 3) := by decide +kernel
theorem dX6_halve_73 : decode cX6_halve 73 = .ok (.bipush (-2), 2) := by decide +kernel
theorem dX6_halve_75 : decode cX6_halve 75 = .ok (.istore_n 3, 1) := by decide +kernel
theorem dX6_halve_76 : decode cX6_halve 76 = .ok (.iconst 0, 1) := by decide +kernel
theorem dX6_halve_77 : decode cX6_halve 77 = .ok (.istore 4, 2) := by decide +kernel
theorem dX6_halve_79 : decode cX6_halve 79 = .ok (.iload 4, 2) := by decide +kernel
theorem dX6_halve_81 : decode cX6_halve 81 = .ok (.bipush 60, 2) := by decide +kernel
theorem dX6_halve_83 : decode cX6_halve 83 = .ok (.if_icmp .ge 66, 3) := by decide +kernel
theorem dX6_halve_86 : decode cX6_halve 86 = .ok (.aload_n 0, 1) := by decide +kernel
theorem dX6_halve_87 : decode cX6_halve 87 = .ok (.getfield 57, 3) := by decide +kernel
theorem dX6_halve_90 : decode cX6_halve 90 = .ok (.iload 4, 2) := by decide +kernel
theorem dX6_halve_92 : decode cX6_halve 92 = .ok (.baload, 1) := by decide +kernel
theorem dX6_halve_93 : decode cX6_halve 93 = .ok (.ifCond .eq 48, 3) := by decide +kernel
theorem dX6_halve_96 : decode cX6_halve 96 = .ok (.aload_n 0, 1) := by decide +kernel
theorem dX6_halve_97 : decode cX6_halve 97 = .ok (.getfield 60, 3) := by decide +kernel
theorem dX6_halve_100 : decode cX6_halve 100 = .ok (.iload 4, 2) := by decide +kernel
theorem dX6_halve_102 : decode cX6_halve 102 = .ok (.baload, 1) := by decide +kernel
theorem dX6_halve_103 : decode cX6_halve 103 = .ok (.ifCond .eq 38, 3) := by decide +kernel
theorem dX6_halve_106 : decode cX6_halve 106 = .ok (.aload_n 0, 1) := by decide +kernel
theorem dX6_halve_107 : decode cX6_halve 107 = .ok (.getfield 50, 3) := by decide +kernel
theorem dX6_halve_110 : decode cX6_halve 110 = .ok (.iload 4, 2) := by decide +kernel
theorem dX6_halve_112 : decode cX6_halve 112 = .ok (.baload, 1) := by decide +kernel
theorem dX6_halve_113 : decode cX6_halve 113 = .ok (.ifCond .ne 28, 3) := by decide +kernel
theorem dX6_halve_116 : decode cX6_halve 116 = .ok (.iload_n 3, 1) := by decide +kernel
theorem dX6_halve_117 : decode cX6_halve 117 = .ok (.ifCond .lt 19, 3) := by decide +kernel
theorem dX6_halve_120 : decode cX6_halve 120 = .ok (.aload_n 0, 1) := by decide +kernel
theorem dX6_halve_121 : decode cX6_halve 121 = .ok (.getfield 66, 3) := by decide +kernel
theorem dX6_halve_124 : decode cX6_halve 124 = .ok (.iload 4, 2) := by decide +kernel
theorem dX6_halve_126 : decode cX6_halve 126 = .ok (.iaload, 1) := by decide +kernel
theorem dX6_halve_127 : decode cX6_halve 127 = .ok (.aload_n 0, 1) := by decide +kernel
theorem dX6_halve_128 : decode cX6_halve 128 = .ok (.getfield 66, 3) := by decide +kernel
theorem dX6_halve_131 : decode cX6_halve 131 = .ok (.iload_n 3, 1) := by decide +kernel
theorem dX6_halve_132 : decode cX6_halve 132 = .ok (.iaload, 1) := by decide +kernel
theorem dX6_halve_133 : decode cX6_halve 133 = .ok (.if_icmp .le 8, 3) := by decide +kernel
theorem dX6_halve_136 : decode cX6_halve 136 = .ok (.iload 4, 2) := by decide +kernel
theorem dX6_halve_138 : decode cX6_halve 138 = .ok (.goto 4, 3) := by decide +kernel
theorem dX6_halve_141 : decode cX6_halve 141 = .ok (.iload_n 3, 1) := by decide +kernel
theorem dX6_halve_142 : decode cX6_halve 142 = .ok (.istore_n 3, 1) := by decide +kernel
theorem dX6_halve_143 : decode cX6_halve 143 = .ok (.iinc 4 1, 3) := by decide +kernel
theorem dX6_halve_146 : decode cX6_halve 146 = .ok (.goto (-67), 3) := by decide +kernel
theorem dX6_halve_149 : decode cX6_halve 149 = .ok (.iload_n 3, 1) := by decide +kernel
theorem dX6_halve_150 : decode cX6_halve 150 = .ok (.ifCond .lt 10, 3) := by decide +kernel
theorem dX6_halve_153 : decode cX6_halve 153 = .ok (.aload_n 0, 1) := by decide +kernel
theorem dX6_halve_154 : decode cX6_halve 154 = .ok (.getfield 50, 3) := by decide +kernel
theorem dX6_halve_157 : decode cX6_halve 157 = .ok (.iload_n 3, 1) := by decide +kernel
theorem dX6_halve_158 : decode cX6_halve 158 = .ok (.iconst 1, 1) := by decide +kernel
theorem dX6_halve_159 : decode cX6_halve 159 = .ok (.bastore, 1) := by decide +kernel
theorem dX6_halve_160 : decode cX6_halve 160 = .ok (.iinc 2 1, 3) := by decide +kernel
theorem dX6_halve_163 : decode cX6_halve 163 = .ok (.goto (-95), 3) := by decide +kernel
theorem dX6_halve_166 : decode cX6_halve 166 = .ok (.iconst 0, 1) := by decide +kernel
theorem dX6_halve_167 : decode cX6_halve 167 = .ok (.istore_n 2, 1) := by decide +kernel
theorem dX6_halve_168 : decode cX6_halve 168 = .ok (.iload_n 2, 1) := by decide +kernel
theorem dX6_halve_169 : decode cX6_halve 169 = .ok (.bipush 60, 2) := by decide +kernel
theorem dX6_halve_171 : decode cX6_halve 171 = .ok (.if_icmp .ge 26, 3) := by decide +kernel
theorem dX6_halve_174 : decode cX6_halve 174 = .ok (.aload_n 0, 1) := by decide +kernel
theorem dX6_halve_175 : decode cX6_halve 175 = .ok (.getfield 57, 3) := by decide +kernel
theorem dX6_halve_178 : decode cX6_halve 178 = .ok (.iload_n 2, 1) := by decide +kernel
theorem dX6_halve_179 : decode cX6_halve 179 = .ok (.aload_n 0, 1) := by decide +kernel
theorem dX6_halve_180 : decode cX6_halve 180 = .ok (.getfield 50, 3) := by decide +kernel
theorem dX6_halve_183 : decode cX6_halve 183 = .ok (.iload_n 2, 1) := by decide +kernel
theorem dX6_halve_184 : decode cX6_halve 184 = .ok (.baload, 1) := by decide +kernel
theorem dX6_halve_185 : decode cX6_halve 185 = .ok (.bastore, 1) := by decide +kernel
theorem dX6_halve_186 : decode cX6_halve 186 = .ok (.aload_n 0, 1) := by decide +kernel
theorem dX6_halve_187 : decode cX6_halve 187 = .ok (.iload_n 2, 1) := by decide +kernel
theorem dX6_halve_188 : decode cX6_halve 188 = .ok (.invokevirtual 196, 3) := by decide +kernel
theorem dX6_halve_191 : decode cX6_halve 191 = .ok (.iinc 2 1, 3) := by decide +kernel
theorem dX6_halve_194 : decode cX6_halve 194 = .ok (.goto (-26), 3) := by decide +kernel
theorem dX6_halve_197 : decode cX6_halve 197 = .ok (.aload_n 0, 1) := by decide +kernel
theorem dX6_halve_198 : decode cX6_halve 198 = .ok (.getfield 180, 3) := by decide +kernel
theorem dX6_halve_201 : decode cX6_halve 201 = .ok (.i2l, 1) := by decide +kernel
theorem dX6_halve_202 : decode cX6_halve 202 = .ok (.aload_n 0, 1) := by decide +kernel
theorem dX6_halve_203 : decode cX6_halve 203 = .ok (.getfield 183, 3) := by decide +kernel
theorem dX6_halve_206 : decode cX6_halve 206 = .ok (.i2l, 1) := by decide +kernel
theorem dX6_halve_207 : decode cX6_halve 207 = .ok (.lmul, 1) := by decide +kernel
theorem dX6_halve_208 : decode cX6_halve 208 = .ok (.lstore_n 2, 1) := by decide +kernel
theorem dX6_halve_209 : decode cX6_halve 209 = .ok (.aload_n 0, 1) := by decide +kernel
theorem dX6_halve_210 : decode cX6_halve 210 = .ok (.lload_n 2, 1) := by decide +kernel
theorem dX6_halve_211 : decode cX6_halve 211 = .ok (.ldc2_w 207, 3) := by decide +kernel
theorem dX6_halve_214 : decode cX6_halve 214 = .ok (.lcmp, 1) := by decide +kernel
theorem dX6_halve_215 : decode cX6_halve 215 = .ok (.ifCond .le 8, 3) := by decide +kernel
theorem dX6_halve_218 : decode cX6_halve 218 = .ok (.ldc 209, 2) := by decide +kernel
theorem dX6_halve_220 : decode cX6_halve 220 = .ok (.goto 5, 3) := by decide +kernel
theorem dX6_halve_223 : decode cX6_halve 223 = .ok (.lload_n 2, 1) := by decide +kernel
theorem dX6_halve_224 : decode cX6_halve 224 = .ok (.l2i, 1) := by decide +kernel
theorem dX6_halve_225 : decode cX6_halve 225 = .ok (.putfield 180, 3) := by decide +kernel
theorem dX6_halve_228 : decode cX6_halve 228 = .ok (.aload_n 0, 1) := by decide +kernel
theorem dX6_halve_229 : decode cX6_halve 229 = .ok (.dup, 1) := by decide +kernel
theorem dX6_halve_230 : decode cX6_halve 230 = .ok (.getfield 186, 3) := by decide +kernel
theorem dX6_halve_233 : decode cX6_halve 233 = .ok (.iconst 1, 1) := by decide +kernel
theorem dX6_halve_234 : decode cX6_halve 234 = .ok (.iadd, 1) := by decide +kernel
theorem dX6_halve_235 : decode cX6_halve 235 = .ok (.putfield 186, 3) := by decide +kernel
theorem dX6_halve_238 : decode cX6_halve 238 = .ok (.aload_n 0, 1) := by decide +kernel
theorem dX6_halve_239 : decode cX6_halve 239 = .ok (.aload_n 0, 1) := by decide +kernel
theorem dX6_halve_240 : decode cX6_halve 240 = .ok (.invokevirtual 204, 3) := by decide +kernel
theorem dX6_halve_243 : decode cX6_halve 243 = .ok (.iconst 2, 1) := by decide +kernel
theorem dX6_halve_244 : decode cX6_halve 244 = .ok (.if_icmp .ge 7, 3) := by decide +kernel
theorem dX6_halve_247 : decode cX6_halve 247 = .ok (.iconst 1, 1) := by decide +kernel
theorem dX6_halve_248 : decode cX6_halve 248 = .ok (.goto 4, 3) := by decide +kernel
theorem dX6_halve_251 : decode cX6_halve 251 = .ok (.iconst 0, 1) := by decide +kernel
theorem dX6_halve_252 : decode cX6_halve 252 = .ok (.putfield 189, 3) := by decide +kernel
theorem dX6_halve_255 : decode cX6_halve 255 = .ok (.aload_n 0, 1) := by decide +kernel
theorem dX6_halve_256 : decode cX6_halve 256 = .ok (.invokevirtual 204, 3) := by decide +kernel
theorem dX6_halve_259 : decode cX6_halve 259 = .ok (.ireturn, 1) := by decide +kernel
set_option maxRecDepth 20000 in
theorem ggX6_round_X6_in : GoodIn wsX6_round wsX6_in := goodIn_r _ [9] (by decide +kernel) (by decide +kernel)
set_option maxRecDepth 20000 in
theorem gX6_round_X6_in : GoodIn wsX6_round (va_wsS RX6 80 yX6_in wsX6_in) := goodIn_app (goodIn_of _ (by decide +kernel)) ggX6_round_X6_in
set_option maxRecDepth 20000 in
theorem ggX6_round_X6_inside : GoodIn wsX6_round wsX6_inside := goodIn_r _ [13, 14, 15, 16, 17, 18, 19, 20, 21, 22, 23, 24, 25, 26, 27, 28, 29, 30, 31, 32, 33, 34, 35, 36, 37, 38, 39, 40, 41, 42, 43, 44, 45] (by decide +kernel) (by decide +kernel)
set_option maxRecDepth 20000 in
theorem gX6_round_X6_inside : GoodIn wsX6_round (wsV RX6 204 RX6 yX6_inside wsX6_inside) := goodIn_app (goodIn_of _ (by decide +kernel)) ggX6_round_X6_inside
theorem dX6_round_0 : decode cX6_round 0 = .ok (.iload_n 1, 1) := by decide +kernel
theorem dX6_round_1 : decode cX6_round 1 = .ok (.i2l, 1) := by decide +kernel
theorem dX6_round_2 : decode cX6_round 2 = .ok (.lconst 0, 1) := by decide +kernel
theorem dX6_round_3 : decode cX6_round 3 = .ok (.ldc2_w 210, 3) := by decide +kernel
theorem dX6_round_6 : decode cX6_round 6 = .ok (.invokestatic 80, 3) := by decide +kernel
theorem dX6_round_9 : decode cX6_round 9 = .ok (.ifCond .ne 5, 3) := by decide +kernel
theorem dX6_round_12 : decode cX6_round 12 = .ok (.iconst (-1), 1) := by decide +kernel
theorem dX6_round_13 : decode cX6_round 13 = .ok (.ireturn, 1) := by decide +kernel
theorem dX6_round_14 : decode cX6_round 14 = .ok (.aload_n 0, 1) := by decide +kernel
theorem dX6_round_15 : decode cX6_round 15 = .ok (.getfield 176, 3) := by decide +kernel
theorem dX6_round_18 : decode cX6_round 18 = .ok (.ifCond .ne 6, 3) := by decide +kernel
theorem dX6_round_21 : decode cX6_round 21 = .ok (.bipush (-2), 2) := by decide +kernel
theorem dX6_round_23 : decode cX6_round 23 = .ok (.ireturn, 1) := by decide +kernel
theorem dX6_round_24 : decode cX6_round 24 = .ok (.iload_n 1, 1) := by decide +kernel
theorem dX6_round_25 : decode cX6_round 25 = .ok (.ifCond .ne 10, 3) := by decide +kernel
theorem dX6_round_28 : decode cX6_round 28 = .ok (.aload_n 0, 1) := by decide +kernel
theorem dX6_round_29 : decode cX6_round 29 = .ok (.invokevirtual 204, 3) := by decide +kernel
theorem dX6_round_32 : decode cX6_round 32 = .ok (.goto 39, 3) := by decide +kernel
theorem dX6_round_35 : decode cX6_round 35 = .ok (.iload_n 1, 1) := by decide +kernel
theorem dX6_round_36 : decode cX6_round 36 = .ok (.iconst 1, 1) := by decide +kernel
theorem dX6_round_37 : decode cX6_round 37 = .ok (.if_icmp .ne 10, 3) := by decide +kernel
theorem dX6_round_40 : decode cX6_round 40 = .ok (.aload_n 0, 1) := by decide +kernel
theorem dX6_round_41 : decode cX6_round 41 = .ok (.getfield 186, 3) := by decide +kernel
theorem dX6_round_44 : decode cX6_round 44 = .ok (.goto 27, 3) := by decide +kernel
theorem dX6_round_47 : decode cX6_round 47 = .ok (.iload_n 1, 1) := by decide +kernel
theorem dX6_round_48 : decode cX6_round 48 = .ok (.iconst 2, 1) := by decide +kernel
theorem dX6_round_49 : decode cX6_round 49 = .ok (.if_icmp .ne 10, 3) := by decide +kernel
theorem dX6_round_52 : decode cX6_round 52 = .ok (.aload_n 0, 1) := by decide +kernel
theorem dX6_round_53 : decode cX6_round 53 = .ok (.getfield 180, 3) := by decide +kernel
theorem dX6_round_56 : decode cX6_round 56 = .ok (.goto 15, 3) := by decide +kernel
theorem dX6_round_59 : decode cX6_round 59 = .ok (.aload_n 0, 1) := by decide +kernel
theorem dX6_round_60 : decode cX6_round 60 = .ok (.getfield 189, 3) := by decide +kernel
theorem dX6_round_63 : decode cX6_round 63 = .ok (.ifCond .eq 7, 3) := by decide +kernel
theorem dX6_round_66 : decode cX6_round 66 = .ok (.iconst 1, 1) := by decide +kernel
theorem dX6_round_67 : decode cX6_round 67 = .ok (.goto 4, 3) := by decide +kernel
theorem dX6_round_70 : decode cX6_round 70 = .ok (.iconst 0, 1) := by decide +kernel
theorem dX6_round_71 : decode cX6_round 71 = .ok (.ireturn, 1) := by decide +kernel
theorem dX6_cost_0 : decode cX6_cost 0 = .ok (.aload_n 0, 1) := by decide +kernel
theorem dX6_cost_1 : decode cX6_cost 1 = .ok (.getfield 192, 3) := by decide +kernel
theorem dX6_cost_4 : decode cX6_cost 4 = .ok (.lreturn, 1) := by decide +kernel
set_option maxRecDepth 20000 in
theorem ggX6_plan_X6_in : GoodIn wsX6_plan wsX6_in := goodIn_r _ [8] (by decide +kernel) (by decide +kernel)
set_option maxRecDepth 20000 in
theorem gX6_plan_X6_in : GoodIn wsX6_plan (va_wsS RX6 80 yX6_in wsX6_in) := goodIn_app (goodIn_of _ (by decide +kernel)) ggX6_plan_X6_in
theorem dX6_plan_0 : decode cX6_plan 0 = .ok (.iload_n 1, 1) := by decide +kernel
theorem dX6_plan_1 : decode cX6_plan 1 = .ok (.i2l, 1) := by decide +kernel
theorem dX6_plan_2 : decode cX6_plan 2 = .ok (.lconst 1, 1) := by decide +kernel
theorem dX6_plan_3 : decode cX6_plan 3 = .ok (.ldc2_w 160, 3) := by decide +kernel
theorem dX6_plan_6 : decode cX6_plan 6 = .ok (.invokestatic 80, 3) := by decide +kernel
theorem dX6_plan_9 : decode cX6_plan 9 = .ok (.ifCond .eq 37, 3) := by decide +kernel
theorem dX6_plan_12 : decode cX6_plan 12 = .ok (.iload_n 2, 1) := by decide +kernel
theorem dX6_plan_13 : decode cX6_plan 13 = .ok (.i2l, 1) := by decide +kernel
theorem dX6_plan_14 : decode cX6_plan 14 = .ok (.ldc2_w 129, 3) := by decide +kernel
theorem dX6_plan_17 : decode cX6_plan 17 = .ok (.ldc2_w 144, 3) := by decide +kernel
theorem dX6_plan_20 : decode cX6_plan 20 = .ok (.invokestatic 80, 3) := by decide +kernel
theorem dX6_plan_23 : decode cX6_plan 23 = .ok (.ifCond .eq 23, 3) := by decide +kernel
theorem dX6_plan_26 : decode cX6_plan 26 = .ok (.iload 4, 2) := by decide +kernel
theorem dX6_plan_28 : decode cX6_plan 28 = .ok (.i2l, 1) := by decide +kernel
theorem dX6_plan_29 : decode cX6_plan 29 = .ok (.lconst 0, 1) := by decide +kernel
theorem dX6_plan_30 : decode cX6_plan 30 = .ok (.iload_n 3, 1) := by decide +kernel
theorem dX6_plan_31 : decode cX6_plan 31 = .ok (.iconst (-1), 1) := by decide +kernel
theorem dX6_plan_32 : decode cX6_plan 32 = .ok (.if_icmp .ne 7, 3) := by decide +kernel
theorem dX6_plan_35 : decode cX6_plan 35 = .ok (.lconst 0, 1) := by decide +kernel
theorem dX6_plan_36 : decode cX6_plan 36 = .ok (.goto 4, 3) := by decide +kernel
theorem dX6_plan_39 : decode cX6_plan 39 = .ok (.lconst 1, 1) := by decide +kernel
theorem dX6_plan_40 : decode cX6_plan 40 = .ok (.invokestatic 80, 3) := by decide +kernel
theorem dX6_plan_43 : decode cX6_plan 43 = .ok (.ifCond .ne 5, 3) := by decide +kernel
theorem dX6_plan_46 : decode cX6_plan 46 = .ok (.iconst (-1), 1) := by decide +kernel
theorem dX6_plan_47 : decode cX6_plan 47 = .ok (.ireturn, 1) := by decide +kernel
theorem dX6_plan_48 : decode cX6_plan 48 = .ok (.iconst 0, 1) := by decide +kernel
theorem dX6_plan_49 : decode cX6_plan 49 = .ok (.istore 5, 2) := by decide +kernel
theorem dX6_plan_51 : decode cX6_plan 51 = .ok (.iload_n 2, 1) := by decide +kernel
theorem dX6_plan_52 : decode cX6_plan 52 = .ok (.i2l, 1) := by decide +kernel
theorem dX6_plan_53 : decode cX6_plan 53 = .ok (.lstore 6, 2) := by decide +kernel
theorem dX6_plan_55 : decode cX6_plan 55 = .ok (.lload 6, 2) := by decide +kernel
theorem dX6_plan_57 : decode cX6_plan 57 = .ok (.iload_n 1, 1) := by decide +kernel
theorem dX6_plan_58 : decode cX6_plan 58 = .ok (.i2l, 1) := by decide +kernel
theorem dX6_plan_59 : decode cX6_plan 59 = .ok (.lcmp, 1) := by decide +kernel
theorem dX6_plan_60 : decode cX6_plan 60 = .ok (.ifCond .gt 16, 3) := by decide +kernel
theorem dX6_plan_63 : decode cX6_plan 63 = .ok (.lload 6, 2) := by decide +kernel
theorem dX6_plan_65 : decode cX6_plan 65 = .ok (.iload_n 2, 1) := by decide +kernel
theorem dX6_plan_66 : decode cX6_plan 66 = .ok (.i2l, 1) := by decide +kernel
theorem dX6_plan_67 : decode cX6_plan 67 = .ok (.lmul, 1) := by decide +kernel
theorem dX6_plan_68 : decode cX6_plan 68 = .ok (.lstore 6, 2) := by decide +kernel
theorem dX6_plan_70 : decode cX6_plan 70 = .ok (.iinc 5 1, 3) := by decide +kernel
theorem dX6_plan_73 : decode cX6_plan 73 = .ok (.goto (-18), 3) := by decide +kernel
theorem dX6_plan_76 : decode cX6_plan 76 = .ok (.iload_n 3, 1) := by decide +kernel
theorem dX6_plan_77 : decode cX6_plan 77 = .ok (.i2l, 1) := by decide +kernel
theorem dX6_plan_78 : decode cX6_plan 78 = .ok (.ldc2_w 84, 3) := by decide +kernel
theorem dX6_plan_81 : decode cX6_plan 81 = .ok (.iload 5, 2) := by decide +kernel
theorem dX6_plan_83 : decode cX6_plan 83 = .ok (.i2l, 1) := by decide +kernel
theorem dX6_plan_84 : decode cX6_plan 84 = .ok (.invokestatic 80, 3) := by decide +kernel
theorem dX6_plan_87 : decode cX6_plan 87 = .ok (.ifCond .ne 5, 3) := by decide +kernel
theorem dX6_plan_90 : decode cX6_plan 90 = .ok (.iconst (-1), 1) := by decide +kernel
theorem dX6_plan_91 : decode cX6_plan 91 = .ok (.ireturn, 1) := by decide +kernel
theorem dX6_plan_92 : decode cX6_plan 92 = .ok (.lconst 1, 1) := by decide +kernel
theorem dX6_plan_93 : decode cX6_plan 93 = .ok (.lstore 6, 2) := by decide +kernel
theorem dX6_plan_95 : decode cX6_plan 95 = .ok (.iconst 0, 1) := by decide +kernel
theorem dX6_plan_96 : decode cX6_plan 96 = .ok (.istore 8, 2) := by decide +kernel
theorem dX6_plan_98 : decode cX6_plan 98 = .ok (.iload 8, 2) := by decide +kernel
theorem dX6_plan_100 : decode cX6_plan 100 = .ok (.iload_n 3, 1) := by decide +kernel
theorem dX6_plan_101 : decode cX6_plan 101 = .ok (.if_icmp .ge 16, 3) := by decide +kernel
theorem dX6_plan_104 : decode cX6_plan 104 = .ok (.lload 6, 2) := by decide +kernel
theorem dX6_plan_106 : decode cX6_plan 106 = .ok (.iload_n 2, 1) := by decide +kernel
theorem dX6_plan_107 : decode cX6_plan 107 = .ok (.i2l, 1) := by decide +kernel
theorem dX6_plan_108 : decode cX6_plan 108 = .ok (.lmul, 1) := by decide +kernel
theorem dX6_plan_109 : decode cX6_plan 109 = .ok (.lstore 6, 2) := by decide +kernel
theorem dX6_plan_111 : decode cX6_plan 111 = .ok (.iinc 8 1, 3) := by decide +kernel
theorem dX6_plan_114 : decode cX6_plan 114 = .ok (.goto (-16), 3) := by decide +kernel
theorem dX6_plan_117 : decode cX6_plan 117 = .ok (.iload_n 3, 1) := by decide +kernel
theorem dX6_plan_118 : decode cX6_plan 118 = .ok (.ifCond .ge 8, 3) := by decide +kernel
theorem dX6_plan_121 : decode cX6_plan 121 = .ok (.iload 5, 2) := by decide +kernel
theorem dX6_plan_123 : decode cX6_plan 123 = .ok (.goto 34, 3) := by decide +kernel
theorem dX6_plan_126 : decode cX6_plan 126 = .ok (.iload 4, 2) := by decide +kernel
theorem dX6_plan_128 : decode cX6_plan 128 = .ok (.ifCond .ne 23, 3) := by decide +kernel
theorem dX6_plan_131 : decode cX6_plan 131 = .ok (.iload 5, 2) := by decide +kernel
theorem dX6_plan_133 : decode cX6_plan 133 = .ok (.iconst 1, 1) := by decide +kernel
theorem dX6_plan_134 : decode cX6_plan 134 = .ok (.iadd, 1) := by decide +kernel
theorem dX6_plan_135 : decode cX6_plan 135 = .ok (.i2l, 1) := by decide +kernel
theorem dX6_plan_136 : decode cX6_plan 136 = .ok (.lload 6, 2) := by decide +kernel
theorem dX6_plan_138 : decode cX6_plan 138 = .ok (.lmul, 1) := by decide +kernel
theorem dX6_plan_139 : decode cX6_plan 139 = .ok (.iload_n 3, 1) := by decide +kernel
theorem dX6_plan_140 : decode cX6_plan 140 = .ok (.i2l, 1) := by decide +kernel
theorem dX6_plan_141 : decode cX6_plan 141 = .ok (.ladd, 1) := by decide +kernel
theorem dX6_plan_142 : decode cX6_plan 142 = .ok (.iload_n 3, 1) := by decide +kernel
theorem dX6_plan_143 : decode cX6_plan 143 = .ok (.iconst 1, 1) := by decide +kernel
theorem dX6_plan_144 : decode cX6_plan 144 = .ok (.iadd, 1) := by decide +kernel
theorem dX6_plan_145 : decode cX6_plan 145 = .ok (.i2l, 1) := by decide +kernel
theorem dX6_plan_146 : decode cX6_plan 146 = .ok (.ldiv, 1) := by decide +kernel
theorem dX6_plan_147 : decode cX6_plan 147 = .ok (.l2i, 1) := by decide +kernel
theorem dX6_plan_148 : decode cX6_plan 148 = .ok (.goto 9, 3) := by decide +kernel
theorem dX6_plan_151 : decode cX6_plan 151 = .ok (.iload_n 1, 1) := by decide +kernel
theorem dX6_plan_152 : decode cX6_plan 152 = .ok (.i2l, 1) := by decide +kernel
theorem dX6_plan_153 : decode cX6_plan 153 = .ok (.lload 6, 2) := by decide +kernel
theorem dX6_plan_155 : decode cX6_plan 155 = .ok (.ldiv, 1) := by decide +kernel
theorem dX6_plan_156 : decode cX6_plan 156 = .ok (.l2i, 1) := by decide +kernel
theorem dX6_plan_157 : decode cX6_plan 157 = .ok (.ireturn, 1) := by decide +kernel
set_option maxRecDepth 20000 in
theorem ggX6_folds_X6_in : GoodIn wsX6_folds wsX6_in := goodIn_r _ [13] (by decide +kernel) (by decide +kernel)
set_option maxRecDepth 20000 in
theorem gX6_folds_X6_in : GoodIn wsX6_folds (va_wsS RX6 80 yX6_in wsX6_in) := goodIn_app (goodIn_of _ (by decide +kernel)) ggX6_folds_X6_in
set_option maxRecDepth 20000 in
theorem ggX6_folds_X6_hash : GoodIn wsX6_folds wsX6_hash := goodIn_r _ [16, 17, 18, 19] (by decide +kernel) (by decide +kernel)
set_option maxRecDepth 20000 in
theorem gX6_folds_X6_hash : GoodIn wsX6_folds (va_wsS RX6 4 yX6_hash wsX6_hash) := goodIn_app (goodIn_of _ (by decide +kernel)) ggX6_folds_X6_hash
theorem dX6_folds_0 : decode cX6_folds 0 = .ok (.iload_n 1, 1) := by decide +kernel
theorem dX6_folds_1 : decode cX6_folds 1 = .ok (.i2l, 1) := by decide +kernel
theorem dX6_folds_2 : decode cX6_folds 2 = .ok (.lconst 1, 1) := by decide +kernel
theorem dX6_folds_3 : decode cX6_folds 3 = .ok (.ldc2_w 212, 3) := by decide +kernel
theorem dX6_folds_6 : decode cX6_folds 6 = .ok (.invokestatic 80, 3) := by decide +kernel
theorem dX6_folds_9 : decode cX6_folds 9 = .ok (.ifCond .eq 31, 3) := by decide +kernel
theorem dX6_folds_12 : decode cX6_folds 12 = .ok (.iload_n 2, 1) := by decide +kernel
theorem dX6_folds_13 : decode cX6_folds 13 = .ok (.i2l, 1) := by decide +kernel
theorem dX6_folds_14 : decode cX6_folds 14 = .ok (.ldc2_w 129, 3) := by decide +kernel
theorem dX6_folds_17 : decode cX6_folds 17 = .ok (.ldc2_w 214, 3) := by decide +kernel
theorem dX6_folds_20 : decode cX6_folds 20 = .ok (.invokestatic 80, 3) := by decide +kernel
theorem dX6_folds_23 : decode cX6_folds 23 = .ok (.ifCond .eq 17, 3) := by decide +kernel
theorem dX6_folds_26 : decode cX6_folds 26 = .ok (.iload_n 3, 1) := by decide +kernel
theorem dX6_folds_27 : decode cX6_folds 27 = .ok (.i2l, 1) := by decide +kernel
theorem dX6_folds_28 : decode cX6_folds 28 = .ok (.ldc2_w 129, 3) := by decide +kernel
theorem dX6_folds_31 : decode cX6_folds 31 = .ok (.ldc2_w 214, 3) := by decide +kernel
theorem dX6_folds_34 : decode cX6_folds 34 = .ok (.invokestatic 80, 3) := by decide +kernel
theorem dX6_folds_37 : decode cX6_folds 37 = .ok (.ifCond .ne 5, 3) := by decide +kernel
theorem dX6_folds_40 : decode cX6_folds 40 = .ok (.iconst (-1), 1) := by decide +kernel
theorem dX6_folds_41 : decode cX6_folds 41 = .ok (.ireturn, 1) := by decide +kernel
theorem dX6_folds_42 : decode cX6_folds 42 = .ok (.aload_n 0, 1) := by decide +kernel
theorem dX6_folds_43 : decode cX6_folds 43 = .ok (.iload_n 1, 1) := by decide +kernel
theorem dX6_folds_44 : decode cX6_folds 44 = .ok (.putfield 216, 3) := by decide +kernel
theorem dX6_folds_47 : decode cX6_folds 47 = .ok (.aload_n 0, 1) := by decide +kernel
theorem dX6_folds_48 : decode cX6_folds 48 = .ok (.iload_n 2, 1) := by decide +kernel
theorem dX6_folds_49 : decode cX6_folds 49 = .ok (.putfield 219, 3) := by decide +kernel
theorem dX6_folds_52 : decode cX6_folds 52 = .ok (.aload_n 0, 1) := by decide +kernel
theorem dX6_folds_53 : decode cX6_folds 53 = .ok (.iload_n 3, 1) := by decide +kernel
theorem dX6_folds_54 : decode cX6_folds 54 = .ok (.putfield 222, 3) := by decide +kernel
theorem dX6_folds_57 : decode cX6_folds 57 = .ok (.iconst 0, 1) := by decide +kernel
theorem dX6_folds_58 : decode cX6_folds 58 = .ok (.istore 5, 2) := by decide +kernel
theorem dX6_folds_60 : decode cX6_folds 60 = .ok (.iload 5, 2) := by decide +kernel
theorem dX6_folds_62 : decode cX6_folds 62 = .ok (.iload_n 1, 1) := by decide +kernel
theorem dX6_folds_63 : decode cX6_folds 63 = .ok (.if_icmp .ge 86, 3) := by decide +kernel
theorem dX6_folds_66 : decode cX6_folds 66 = .ok (.aload_n 0, 1) := by decide +kernel
theorem dX6_folds_67 : decode cX6_folds 67 = .ok (.getfield 69, 3) := by decide +kernel
theorem dX6_folds_70 : decode cX6_folds 70 = .ok (.iload 5, 2) := by decide +kernel
theorem dX6_folds_72 : decode cX6_folds 72 = .ok (.iconst 0, 1) := by decide +kernel
theorem dX6_folds_73 : decode cX6_folds 73 = .ok (.iastore, 1) := by decide +kernel
theorem dX6_folds_74 : decode cX6_folds 74 = .ok (.iconst 0, 1) := by decide +kernel
theorem dX6_folds_75 : decode cX6_folds 75 = .ok (.istore 6, 2) := by decide +kernel
theorem dX6_folds_77 : decode cX6_folds 77 = .ok (.iload 6, 2) := by decide +kernel
theorem dX6_folds_79 : decode cX6_folds 79 = .ok (.iload_n 1, 1) := by decide +kernel
theorem dX6_folds_80 : decode cX6_folds 80 = .ok (.if_icmp .ge 63, 3) := by decide +kernel
theorem dX6_folds_83 : decode cX6_folds 83 = .ok (.iload 4, 2) := by decide +kernel
theorem dX6_folds_85 : decode cX6_folds 85 = .ok (.iload 5, 2) := by decide +kernel
theorem dX6_folds_87 : decode cX6_folds 87 = .ok (.invokestatic 4, 3) := by decide +kernel
theorem dX6_folds_90 : decode cX6_folds 90 = .ok (.istore 7, 2) := by decide +kernel
theorem dX6_folds_92 : decode cX6_folds 92 = .ok (.iload 4, 2) := by decide +kernel
theorem dX6_folds_94 : decode cX6_folds 94 = .ok (.iload 6, 2) := by decide +kernel
theorem dX6_folds_96 : decode cX6_folds 96 = .ok (.invokestatic 4, 3) := by decide +kernel
theorem dX6_folds_99 : decode cX6_folds 99 = .ok (.istore 8, 2) := by decide +kernel
theorem dX6_folds_101 : decode cX6_folds 101 = .ok (.aload_n 0, 1) := by decide +kernel
theorem dX6_folds_102 : decode cX6_folds 102 = .ok (.getfield 69, 3) := by decide +kernel
theorem dX6_folds_105 : decode cX6_folds 105 = .ok (.iload 5, 2) := by decide +kernel
theorem dX6_folds_107 : decode cX6_folds 107 = .ok (.dup2, 1) := by decide +kernel
theorem dX6_folds_108 : decode cX6_folds 108 = .ok (.iaload, 1) := by decide +kernel
theorem dX6_folds_109 : decode cX6_folds 109 = .ok (.iload 8, 2) := by decide +kernel
theorem dX6_folds_111 : decode cX6_folds 111 = .ok (.iload 7, 2) := by decide +kernel
theorem dX6_folds_113 : decode cX6_folds 113 = .ok (.if_icmp .lt 17, 3) := by decide +kernel
theorem dX6_folds_116 : decode cX6_folds 116 = .ok (.iload 8, 2) := by decide +kernel
theorem dX6_folds_118 : decode cX6_folds 118 = .ok (.iload 7, 2) := by decide +kernel
theorem dX6_folds_120 : decode cX6_folds 120 = .ok (.if_icmp .ne 14, 3) := by decide +kernel
theorem dX6_folds_123 : decode cX6_folds 123 = .ok (.iload 6, 2) := by decide +kernel
theorem dX6_folds_125 : decode cX6_folds 125 = .ok (.iload 5, 2) := by decide +kernel
theorem dX6_folds_127 : decode cX6_folds 127 = .ok (.if_icmp .ge 7, 3) := by decide +kernel
theorem dX6_folds_130 : decode cX6_folds 130 = .ok (.iconst 1, 1) := by decide +kernel
theorem dX6_folds_131 : decode cX6_folds 131 = .ok (.goto 4, 3) := by decide +kernel
theorem dX6_folds_134 : decode cX6_folds 134 = .ok (.iconst 0, 1) := by decide +kernel
theorem dX6_folds_135 : decode cX6_folds 135 = .ok (.iadd, 1) := by decide +kernel
theorem dX6_folds_136 : decode cX6_folds 136 = .ok (.iastore, 1) := by decide +kernel
theorem dX6_folds_137 : decode cX6_folds 137 = .ok (.iinc 6 1, 3) := by decide +kernel
theorem dX6_folds_140 : decode cX6_folds 140 = .ok (.goto (-63), 3) := by decide +kernel
theorem dX6_folds_143 : decode cX6_folds 143 = .ok (.iinc 5 1, 3) := by decide +kernel
theorem dX6_folds_146 : decode cX6_folds 146 = .ok (.goto (-86), 3) := by decide +kernel
theorem dX6_folds_149 : decode cX6_folds 149 = .ok (.iconst 0, 1) := by decide +kernel
theorem dX6_folds_150 : decode cX6_folds 150 = .ok (.istore 5, 2) := by decide +kernel
theorem dX6_folds_152 : decode cX6_folds 152 = .ok (.iload 5, 2) := by decide +kernel
theorem dX6_folds_154 : decode cX6_folds 154 = .ok (.sipush 6000, 3) := by decide +kernel
theorem dX6_folds_157 : decode cX6_folds 157 = .ok (.if_icmp .ge 17, 3) := by decide +kernel
theorem dX6_folds_160 : decode cX6_folds 160 = .ok (.aload_n 0, 1) := by decide +kernel
theorem dX6_folds_161 : decode cX6_folds 161 = .ok (.getfield 75, 3) := by decide +kernel
theorem dX6_folds_164 : decode cX6_folds 164 = .ok (.iload 5, 2) := by decide +kernel
theorem dX6_folds_166 : decode cX6_folds 166 = .ok (.iconst 0, 1) := by decide +kernel
theorem dX6_folds_167 : decode cX6_folds 167 = .ok (.iastore, 1) := by decide +kernel
theorem dX6_folds_168 : decode cX6_folds 168 = .ok (.iinc 5 1, 3) := by decide +kernel
theorem dX6_folds_171 : decode cX6_folds 171 = .ok (.goto (-19), 3) := by decide +kernel
theorem dX6_folds_174 : decode cX6_folds 174 = .ok (.iconst 0, 1) := by decide +kernel
theorem dX6_folds_175 : decode cX6_folds 175 = .ok (.istore 5, 2) := by decide +kernel
theorem dX6_folds_177 : decode cX6_folds 177 = .ok (.iload 5, 2) := by decide +kernel
theorem dX6_folds_179 : decode cX6_folds 179 = .ok (.bipush 10, 2) := by decide +kernel
theorem dX6_folds_181 : decode cX6_folds 181 = .ok (.if_icmp .ge 17, 3) := by decide +kernel
theorem dX6_folds_184 : decode cX6_folds 184 = .ok (.aload_n 0, 1) := by decide +kernel
theorem dX6_folds_185 : decode cX6_folds 185 = .ok (.getfield 72, 3) := by decide +kernel
theorem dX6_folds_188 : decode cX6_folds 188 = .ok (.iload 5, 2) := by decide +kernel
theorem dX6_folds_190 : decode cX6_folds 190 = .ok (.iconst 0, 1) := by decide +kernel
theorem dX6_folds_191 : decode cX6_folds 191 = .ok (.bastore, 1) := by decide +kernel
theorem dX6_folds_192 : decode cX6_folds 192 = .ok (.iinc 5 1, 3) := by decide +kernel
theorem dX6_folds_195 : decode cX6_folds 195 = .ok (.goto (-18), 3) := by decide +kernel
theorem dX6_folds_198 : decode cX6_folds 198 = .ok (.iconst 1, 1) := by decide +kernel
theorem dX6_folds_199 : decode cX6_folds 199 = .ok (.ireturn, 1) := by decide +kernel
theorem dX6_outerOf_0 : decode cX6_outerOf 0 = .ok (.aload_n 0, 1) := by decide +kernel
theorem dX6_outerOf_1 : decode cX6_outerOf 1 = .ok (.getfield 69, 3) := by decide +kernel
theorem dX6_outerOf_4 : decode cX6_outerOf 4 = .ok (.iload_n 1, 1) := by decide +kernel
theorem dX6_outerOf_5 : decode cX6_outerOf 5 = .ok (.iaload, 1) := by decide +kernel
theorem dX6_outerOf_6 : decode cX6_outerOf 6 = .ok (.aload_n 0, 1) := by decide +kernel
theorem dX6_outerOf_7 : decode cX6_outerOf 7 = .ok (.getfield 219, 3) := by decide +kernel
theorem dX6_outerOf_10 : decode cX6_outerOf 10 = .ok (.irem, 1) := by decide +kernel
theorem dX6_outerOf_11 : decode cX6_outerOf 11 = .ok (.ireturn, 1) := by decide +kernel
theorem dX6_innerOf_0 : decode cX6_innerOf 0 = .ok (.aload_n 0, 1) := by decide +kernel
theorem dX6_innerOf_1 : decode cX6_innerOf 1 = .ok (.getfield 69, 3) := by decide +kernel
theorem dX6_innerOf_4 : decode cX6_innerOf 4 = .ok (.iload_n 1, 1) := by decide +kernel
theorem dX6_innerOf_5 : decode cX6_innerOf 5 = .ok (.iaload, 1) := by decide +kernel
theorem dX6_innerOf_6 : decode cX6_innerOf 6 = .ok (.aload_n 0, 1) := by decide +kernel
theorem dX6_innerOf_7 : decode cX6_innerOf 7 = .ok (.getfield 219, 3) := by decide +kernel
theorem dX6_innerOf_10 : decode cX6_innerOf 10 = .ok (.idiv, 1) := by decide +kernel
theorem dX6_innerOf_11 : decode cX6_innerOf 11 = .ok (.aload_n 0, 1) := by decide +kernel
theorem dX6_innerOf_12 : decode cX6_innerOf 12 = .ok (.getfield 222, 3) := by decide +kernel
theorem dX6_innerOf_15 : decode cX6_innerOf 15 = .ok (.irem, 1) := by decide +kernel
theorem dX6_innerOf_16 : decode cX6_innerOf 16 = .ok (.ireturn, 1) := by decide +kernel
set_option maxRecDepth 20000 in
theorem ggX6_fold_X6_in : GoodIn wsX6_fold wsX6_in := goodIn_r _ [5] (by decide +kernel) (by decide +kernel)
set_option maxRecDepth 20000 in
theorem gX6_fold_X6_in : GoodIn wsX6_fold (va_wsS RX6 80 yX6_in wsX6_in) := goodIn_app (goodIn_of _ (by decide +kernel)) ggX6_fold_X6_in
set_option maxRecDepth 20000 in
theorem ggX6_fold_X6_outerOf : GoodIn wsX6_fold wsX6_outerOf := goodIn_r _ [9, 10, 11, 17, 18, 19, 20, 21, 22, 23, 24, 25, 26, 27, 28, 29, 30, 31, 32, 33, 34, 35, 36, 37, 38, 39, 40, 41, 42, 43, 44, 45, 46, 47] (by decide +kernel) (by decide +kernel)
set_option maxRecDepth 20000 in
theorem gX6_fold_X6_outerOf : GoodIn wsX6_fold (wsV RX6 225 RX6 yX6_outerOf wsX6_outerOf) := goodIn_app (goodIn_of _ (by decide +kernel)) ggX6_fold_X6_outerOf
set_option maxRecDepth 20000 in
theorem ggX6_fold_X6_innerOf : GoodIn wsX6_fold wsX6_innerOf := goodIn_r _ [15, 10, 11, 16, 17, 18, 19, 20, 21, 22, 23, 24, 25, 26, 27, 28, 29, 30, 31, 32, 33, 34, 35, 36, 37, 38, 39, 40, 41, 42, 43, 44, 45, 46, 47] (by decide +kernel) (by decide +kernel)
set_option maxRecDepth 20000 in
theorem gX6_fold_X6_innerOf : GoodIn wsX6_fold (wsV RX6 229 RX6 yX6_innerOf wsX6_innerOf) := goodIn_app (goodIn_of _ (by decide +kernel)) ggX6_fold_X6_innerOf
theorem dX6_fold_0 : decode cX6_fold 0 = .ok (.iload_n 1, 1) := by decide +kernel
theorem dX6_fold_1 : decode cX6_fold 1 = .ok (.i2l, 1) := by decide +kernel
theorem dX6_fold_2 : decode cX6_fold 2 = .ok (.lconst 0, 1) := by decide +kernel
theorem dX6_fold_3 : decode cX6_fold 3 = .ok (.aload_n 0, 1) := by decide +kernel
theorem dX6_fold_4 : decode cX6_fold 4 = .ok (.getfield 216, 3) := by decide +kernel
theorem dX6_fold_7 : decode cX6_fold 7 = .ok (.iconst 1, 1) := by decide +kernel
theorem dX6_fold_8 : decode cX6_fold 8 = .ok (.isub, 1) := by decide +kernel
theorem dX6_fold_9 : decode cX6_fold 9 = .ok (.i2l, 1) := by decide +kernel
theorem dX6_fold_10 : decode cX6_fold 10 = .ok (.invokestatic 80, 3) := by decide +kernel
theorem dX6_fold_13 : decode cX6_fold 13 = .ok (.ifCond .eq 13, 3) := by decide +kernel
theorem dX6_fold_16 : decode cX6_fold 16 = .ok (.iload_n 2, 1) := by decide +kernel
theorem dX6_fold_17 : decode cX6_fold 17 = .ok (.i2l, 1) := by decide +kernel
theorem dX6_fold_18 : decode cX6_fold 18 = .ok (.lconst 0, 1) := by decide +kernel
theorem dX6_fold_19 : decode cX6_fold 19 = .ok (.lconst 1, 1) := by decide +kernel
theorem dX6_fold_20 : decode cX6_fold 20 = .ok (.invokestatic 80, 3) := by decide +kernel
theorem dX6_fold_23 : decode cX6_fold 23 = .ok (.ifCond .ne 7, 3) := by decide +kernel
theorem dX6_fold_26 : decode cX6_fold 26 = .ok (.iconst (-1), 1) := by decide +kernel
theorem dX6_fold_27 : decode cX6_fold 27 = .ok (.goto 20, 3) := by decide +kernel
theorem dX6_fold_30 : decode cX6_fold 30 = .ok (.iload_n 2, 1) := by decide +kernel
theorem dX6_fold_31 : decode cX6_fold 31 = .ok (.ifCond .ne 11, 3) := by decide +kernel
theorem dX6_fold_34 : decode cX6_fold 34 = .ok (.aload_n 0, 1) := by decide +kernel
theorem dX6_fold_35 : decode cX6_fold 35 = .ok (.iload_n 1, 1) := by decide +kernel
theorem dX6_fold_36 : decode cX6_fold 36 = .ok (.invokevirtual 225, 3) := by decide +kernel
theorem dX6_fold_39 : decode cX6_fold 39 = .ok (.goto 8, 3) := by decide +kernel
theorem dX6_fold_42 : decode cX6_fold 42 = .ok (.aload_n 0, 1) := by decide +kernel
theorem dX6_fold_43 : decode cX6_fold 43 = .ok (.iload_n 1, 1) := by decide +kernel
theorem dX6_fold_44 : decode cX6_fold 44 = .ok (.invokevirtual 229, 3) := by decide +kernel
theorem dX6_fold_47 : decode cX6_fold 47 = .ok (.ireturn, 1) := by decide +kernel
set_option maxRecDepth 20000 in
theorem ggX6_use_X6_in : GoodIn wsX6_use wsX6_in := goodIn_r _ [10] (by decide +kernel) (by decide +kernel)
set_option maxRecDepth 20000 in
theorem gX6_use_X6_in : GoodIn wsX6_use (va_wsS RX6 80 yX6_in wsX6_in) := goodIn_app (goodIn_of _ (by decide +kernel)) ggX6_use_X6_in
set_option maxRecDepth 20000 in
theorem ggX6_use_X6_outerOf : GoodIn wsX6_use wsX6_outerOf := goodIn_r _ [14, 15, 2, 20, 21, 22, 23, 24, 25, 26, 27, 28, 29, 30, 31, 32, 33, 34, 35, 36, 37, 38, 39, 40, 41, 42, 43, 44, 45, 46, 47, 48, 49, 50] (by decide +kernel) (by decide +kernel)
set_option maxRecDepth 20000 in
theorem gX6_use_X6_outerOf : GoodIn wsX6_use (wsV RX6 225 RX6 yX6_outerOf wsX6_outerOf) := goodIn_app (goodIn_of _ (by decide +kernel)) ggX6_use_X6_outerOf
set_option maxRecDepth 20000 in
theorem ggX6_use_X6_innerOf : GoodIn wsX6_use wsX6_innerOf := goodIn_r _ [19, 15, 2, 4, 20, 21, 22, 23, 24, 25, 26, 27, 28, 29, 30, 31, 32, 33, 34, 35, 36, 37, 38, 39, 40, 41, 42, 43, 44, 45, 46, 47, 48, 49, 50] (by decide +kernel) (by decide +kernel)
set_option maxRecDepth 20000 in
theorem gX6_use_X6_innerOf : GoodIn wsX6_use (wsV RX6 229 RX6 yX6_innerOf wsX6_innerOf) := goodIn_app (goodIn_of _ (by decide +kernel)) ggX6_use_X6_innerOf
theorem dX6_use_0 : decode cX6_use 0 = .ok (.aload_n 0, 1) := by decide +kernel
theorem dX6_use_1 : decode cX6_use 1 = .ok (.getfield 216, 3) := by decide +kernel
theorem dX6_use_4 : decode cX6_use 4 = .ok (.ifCond .eq 37, 3) := by decide +kernel
theorem dX6_use_7 : decode cX6_use 7 = .ok (.iload_n 1, 1) := by decide +kernel
theorem dX6_use_8 : decode cX6_use 8 = .ok (.i2l, 1) := by decide +kernel
theorem dX6_use_9 : decode cX6_use 9 = .ok (.lconst 0, 1) := by decide +kernel
theorem dX6_use_10 : decode cX6_use 10 = .ok (.aload_n 0, 1) := by decide +kernel
theorem dX6_use_11 : decode cX6_use 11 = .ok (.getfield 219, 3) := by decide +kernel
theorem dX6_use_14 : decode cX6_use 14 = .ok (.iconst 1, 1) := by decide +kernel
theorem dX6_use_15 : decode cX6_use 15 = .ok (.isub, 1) := by decide +kernel
theorem dX6_use_16 : decode cX6_use 16 = .ok (.i2l, 1) := by decide +kernel
theorem dX6_use_17 : decode cX6_use 17 = .ok (.invokestatic 80, 3) := by decide +kernel
theorem dX6_use_20 : decode cX6_use 20 = .ok (.ifCond .eq 21, 3) := by decide +kernel
theorem dX6_use_23 : decode cX6_use 23 = .ok (.iload_n 2, 1) := by decide +kernel
theorem dX6_use_24 : decode cX6_use 24 = .ok (.i2l, 1) := by decide +kernel
theorem dX6_use_25 : decode cX6_use 25 = .ok (.ldc2_w 84, 3) := by decide +kernel
theorem dX6_use_28 : decode cX6_use 28 = .ok (.aload_n 0, 1) := by decide +kernel
theorem dX6_use_29 : decode cX6_use 29 = .ok (.getfield 222, 3) := by decide +kernel
theorem dX6_use_32 : decode cX6_use 32 = .ok (.iconst 1, 1) := by decide +kernel
theorem dX6_use_33 : decode cX6_use 33 = .ok (.isub, 1) := by decide +kernel
theorem dX6_use_34 : decode cX6_use 34 = .ok (.i2l, 1) := by decide +kernel
theorem dX6_use_35 : decode cX6_use 35 = .ok (.invokestatic 80, 3) := by decide +kernel
theorem dX6_use_38 : decode cX6_use 38 = .ok (.ifCond .ne 5, 3) := by decide +kernel
theorem dX6_use_41 : decode cX6_use 41 = .ok (.iconst (-1), 1) := by decide +kernel
theorem dX6_use_42 : decode cX6_use 42 = .ok (.ireturn, 1) := by decide +kernel
theorem dX6_use_43 : decode cX6_use 43 = .ok (.aload_n 0, 1) := by decide +kernel
theorem dX6_use_44 : decode cX6_use 44 = .ok (.getfield 72, 3) := by decide +kernel
theorem dX6_use_47 : decode cX6_use 47 = .ok (.iload_n 1, 1) := by decide +kernel
theorem dX6_use_48 : decode cX6_use 48 = .ok (.baload, 1) := by decide +kernel
theorem dX6_use_49 : decode cX6_use 49 = .ok (.ifCond .eq 6, 3) := by decide +kernel
theorem dX6_use_52 : decode cX6_use 52 = .ok (.bipush (-3), 2) := by decide +kernel
theorem dX6_use_54 : decode cX6_use 54 = .ok (.ireturn, 1) := by decide +kernel
theorem dX6_use_55 : decode cX6_use 55 = .ok (.iconst 0, 1) := by decide +kernel
theorem dX6_use_56 : decode cX6_use 56 = .ok (.istore_n 3, 1) := by decide +kernel
theorem dX6_use_57 : decode cX6_use 57 = .ok (.iconst 0, 1) := by decide +kernel
theorem dX6_use_58 : decode cX6_use 58 = .ok (.istore 4, 2) := by decide +kernel
theorem dX6_use_60 : decode cX6_use 60 = .ok (.iload 4, 2) := by decide +kernel
theorem dX6_use_62 : decode cX6_use 62 = .ok (.aload_n 0, 1) := by decide +kernel
theorem dX6_use_63 : decode cX6_use 63 = .ok (.getfield 216, 3) := by decide +kernel
theorem dX6_use_66 : decode cX6_use 66 = .ok (.if_icmp .ge 136, 3) := by decide +kernel
theorem dX6_use_69 : decode cX6_use 69 = .ok (.bipush 30, 2) := by decide +kernel
theorem dX6_use_71 : decode cX6_use 71 = .ok (.iload 4, 2) := by decide +kernel
theorem dX6_use_73 : decode cX6_use 73 = .ok (.imul, 1) := by decide +kernel
theorem dX6_use_74 : decode cX6_use 74 = .ok (.iconst 3, 1) := by decide +kernel
theorem dX6_use_75 : decode cX6_use 75 = .ok (.iload_n 1, 1) := by decide +kernel
theorem dX6_use_76 : decode cX6_use 76 = .ok (.imul, 1) := by decide +kernel
theorem dX6_use_77 : decode cX6_use 77 = .ok (.iadd, 1) := by decide +kernel
theorem dX6_use_78 : decode cX6_use 78 = .ok (.istore 5, 2) := by decide +kernel
theorem dX6_use_80 : decode cX6_use 80 = .ok (.aload_n 0, 1) := by decide +kernel
theorem dX6_use_81 : decode cX6_use 81 = .ok (.iload 4, 2) := by decide +kernel
theorem dX6_use_83 : decode cX6_use 83 = .ok (.invokevirtual 225, 3) := by decide +kernel
theorem dX6_use_86 : decode cX6_use 86 = .ok (.iload_n 1, 1) := by decide +kernel
theorem dX6_use_87 : decode cX6_use 87 = .ok (.if_icmp .ne 7, 3) := by decide +kernel
theorem dX6_use_90 : decode cX6_use 90 = .ok (.iconst 1, 1) := by decide +kernel
theorem dX6_use_91 : decode cX6_use 91 = .ok (.goto 4, 3) := by decide +kernel
theorem dX6_use_94 : decode cX6_use 94 = .ok (.iconst 0, 1) := by decide +kernel
theorem dX6_use_95 : decode cX6_use 95 = .ok (.istore 6, 2) := by decide +kernel
theorem dX6_use_97 : decode cX6_use 97 = .ok (.iload_n 2, 1) := by decide +kernel
theorem dX6_use_98 : decode cX6_use 98 = .ok (.ifCond .ge 41, 3) := by decide +kernel
theorem dX6_use_101 : decode cX6_use 101 = .ok (.aload_n 0, 1) := by decide +kernel
theorem dX6_use_102 : decode cX6_use 102 = .ok (.getfield 75, 3) := by decide +kernel
theorem dX6_use_105 : decode cX6_use 105 = .ok (.iload 5, 2) := by decide +kernel
theorem dX6_use_107 : decode cX6_use 107 = .ok (.iload 6, 2) := by decide +kernel
theorem dX6_use_109 : decode cX6_use 109 = .ok (.ifCond .eq 7, 3) := by decide +kernel
theorem dX6_use_112 : decode cX6_use 112 = .ok (.iconst 2, 1) := by decide +kernel
theorem dX6_use_113 : decode cX6_use 113 = .ok (.goto 4, 3) := by decide +kernel
theorem dX6_use_116 : decode cX6_use 116 = .ok (.iconst 0, 1) := by decide +kernel
theorem dX6_use_117 : decode cX6_use 117 = .ok (.iadd, 1) := by decide +kernel
theorem dX6_use_118 : decode cX6_use 118 = .ok (.dup2, 1) := by decide +kernel
theorem dX6_use_119 : decode cX6_use 119 = .ok (.iaload, 1) := by decide +kernel
theorem dX6_use_120 : decode cX6_use 120 = .ok (.iconst 1, 1) := by decide +kernel
theorem dX6_use_121 : decode cX6_use 121 = .ok (.iadd, 1) := by decide +kernel
theorem dX6_use_122 : decode cX6_use 122 = .ok (.iastore, 1) := by decide +kernel
theorem dX6_use_123 : decode cX6_use 123 = .ok (.iload_n 3, 1) := by decide +kernel
theorem dX6_use_124 : decode cX6_use 124 = .ok (.iload 6, 2) := by decide +kernel
theorem dX6_use_126 : decode cX6_use 126 = .ok (.ifCond .eq 7, 3) := by decide +kernel
theorem dX6_use_129 : decode cX6_use 129 = .ok (.iconst 1, 1) := by decide +kernel
theorem dX6_use_130 : decode cX6_use 130 = .ok (.goto 4, 3) := by decide +kernel
theorem dX6_use_133 : decode cX6_use 133 = .ok (.iconst 0, 1) := by decide +kernel
theorem dX6_use_134 : decode cX6_use 134 = .ok (.iadd, 1) := by decide +kernel
theorem dX6_use_135 : decode cX6_use 135 = .ok (.istore_n 3, 1) := by decide +kernel
theorem dX6_use_136 : decode cX6_use 136 = .ok (.goto 60, 3) := by decide +kernel
theorem dX6_use_139 : decode cX6_use 139 = .ok (.iload 6, 2) := by decide +kernel
theorem dX6_use_141 : decode cX6_use 141 = .ok (.ifCond .ne 55, 3) := by decide +kernel
theorem dX6_use_144 : decode cX6_use 144 = .ok (.aload_n 0, 1) := by decide +kernel
theorem dX6_use_145 : decode cX6_use 145 = .ok (.iload 4, 2) := by decide +kernel
theorem dX6_use_147 : decode cX6_use 147 = .ok (.invokevirtual 229, 3) := by decide +kernel
theorem dX6_use_150 : decode cX6_use 150 = .ok (.iload_n 2, 1) := by decide +kernel
theorem dX6_use_151 : decode cX6_use 151 = .ok (.if_icmp .ne 7, 3) := by decide +kernel
theorem dX6_use_154 : decode cX6_use 154 = .ok (.iconst 1, 1) := by decide +kernel
theorem dX6_use_155 : decode cX6_use 155 = .ok (.goto 4, 3) := by decide +kernel
theorem dX6_use_158 : decode cX6_use 158 = .ok (.iconst 0, 1) := by decide +kernel
theorem dX6_use_159 : decode cX6_use 159 = .ok (.istore 7, 2) := by decide +kernel
theorem dX6_use_161 : decode cX6_use 161 = .ok (.aload_n 0, 1) := by decide +kernel
theorem dX6_use_162 : decode cX6_use 162 = .ok (.getfield 75, 3) := by decide +kernel
theorem dX6_use_165 : decode cX6_use 165 = .ok (.iload 5, 2) := by decide +kernel
theorem dX6_use_167 : decode cX6_use 167 = .ok (.iload 7, 2) := by decide +kernel
theorem dX6_use_169 : decode cX6_use 169 = .ok (.ifCond .eq 7, 3) := by decide +kernel
theorem dX6_use_172 : decode cX6_use 172 = .ok (.iconst 1, 1) := by decide +kernel
theorem dX6_use_173 : decode cX6_use 173 = .ok (.goto 4, 3) := by decide +kernel
theorem dX6_use_176 : decode cX6_use 176 = .ok (.iconst 0, 1) := by decide +kernel
theorem dX6_use_177 : decode cX6_use 177 = .ok (.iadd, 1) := by decide +kernel
theorem dX6_use_178 : decode cX6_use 178 = .ok (.dup2, 1) := by decide +kernel
theorem dX6_use_179 : decode cX6_use 179 = .ok (.iaload, 1) := by decide +kernel
theorem dX6_use_180 : decode cX6_use 180 = .ok (.iconst 1, 1) := by decide +kernel
theorem dX6_use_181 : decode cX6_use 181 = .ok (.iadd, 1) := by decide +kernel
theorem dX6_use_182 : decode cX6_use 182 = .ok (.iastore, 1) := by decide +kernel
theorem dX6_use_183 : decode cX6_use 183 = .ok (.iload_n 3, 1) := by decide +kernel
theorem dX6_use_184 : decode cX6_use 184 = .ok (.iload 7, 2) := by decide +kernel
theorem dX6_use_186 : decode cX6_use 186 = .ok (.ifCond .eq 7, 3) := by decide +kernel
theorem dX6_use_189 : decode cX6_use 189 = .ok (.iconst 1, 1) := by decide +kernel
theorem dX6_use_190 : decode cX6_use 190 = .ok (.goto 4, 3) := by decide +kernel
theorem dX6_use_193 : decode cX6_use 193 = .ok (.iconst 0, 1) := by decide +kernel
theorem dX6_use_194 : decode cX6_use 194 = .ok (.iadd, 1) := by decide +kernel
theorem dX6_use_195 : decode cX6_use 195 = .ok (.istore_n 3, 1) := by decide +kernel
theorem dX6_use_196 : decode cX6_use 196 = .ok (.iinc 4 1, 3) := by decide +kernel
theorem dX6_use_199 : decode cX6_use 199 = .ok (.goto (-139), 3) := by decide +kernel
theorem dX6_use_202 : decode cX6_use 202 = .ok (.aload_n 0, 1) := by decide +kernel
theorem dX6_use_203 : decode cX6_use 203 = .ok (.getfield 72, 3) := by decide +kernel
theorem dX6_use_206 : decode cX6_use 206 = .ok (.iload_n 1, 1) := by decide +kernel
theorem dX6_use_207 : decode cX6_use 207 = .ok (.iload_n 2, 1) := by decide +kernel
theorem dX6_use_208 : decode cX6_use 208 = .ok (.ifCond .ge 7, 3) := by decide +kernel
theorem dX6_use_211 : decode cX6_use 211 = .ok (.iconst 1, 1) := by decide +kernel
theorem dX6_use_212 : decode cX6_use 212 = .ok (.goto 4, 3) := by decide +kernel
theorem dX6_use_215 : decode cX6_use 215 = .ok (.iconst 0, 1) := by decide +kernel
theorem dX6_use_216 : decode cX6_use 216 = .ok (.bastore, 1) := by decide +kernel
theorem dX6_use_217 : decode cX6_use 217 = .ok (.iload_n 3, 1) := by decide +kernel
theorem dX6_use_218 : decode cX6_use 218 = .ok (.ireturn, 1) := by decide +kernel
set_option maxRecDepth 20000 in
theorem ggX6_used_X6_in : GoodIn wsX6_used wsX6_in := goodIn_r _ [8] (by decide +kernel) (by decide +kernel)
set_option maxRecDepth 20000 in
theorem gX6_used_X6_in : GoodIn wsX6_used (va_wsS RX6 80 yX6_in wsX6_in) := goodIn_app (goodIn_of _ (by decide +kernel)) ggX6_used_X6_in
theorem dX6_used_0 : decode cX6_used 0 = .ok (.iload_n 1, 1) := by decide +kernel
theorem dX6_used_1 : decode cX6_used 1 = .ok (.i2l, 1) := by decide +kernel
theorem dX6_used_2 : decode cX6_used 2 = .ok (.lconst 0, 1) := by decide +kernel
theorem dX6_used_3 : decode cX6_used 3 = .ok (.aload_n 0, 1) := by decide +kernel
theorem dX6_used_4 : decode cX6_used 4 = .ok (.getfield 216, 3) := by decide +kernel
theorem dX6_used_7 : decode cX6_used 7 = .ok (.iconst 1, 1) := by decide +kernel
theorem dX6_used_8 : decode cX6_used 8 = .ok (.isub, 1) := by decide +kernel
theorem dX6_used_9 : decode cX6_used 9 = .ok (.i2l, 1) := by decide +kernel
theorem dX6_used_10 : decode cX6_used 10 = .ok (.invokestatic 80, 3) := by decide +kernel
theorem dX6_used_13 : decode cX6_used 13 = .ok (.ifCond .eq 31, 3) := by decide +kernel
theorem dX6_used_16 : decode cX6_used 16 = .ok (.iload_n 2, 1) := by decide +kernel
theorem dX6_used_17 : decode cX6_used 17 = .ok (.i2l, 1) := by decide +kernel
theorem dX6_used_18 : decode cX6_used 18 = .ok (.lconst 0, 1) := by decide +kernel
theorem dX6_used_19 : decode cX6_used 19 = .ok (.aload_n 0, 1) := by decide +kernel
theorem dX6_used_20 : decode cX6_used 20 = .ok (.getfield 219, 3) := by decide +kernel
theorem dX6_used_23 : decode cX6_used 23 = .ok (.iconst 1, 1) := by decide +kernel
theorem dX6_used_24 : decode cX6_used 24 = .ok (.isub, 1) := by decide +kernel
theorem dX6_used_25 : decode cX6_used 25 = .ok (.i2l, 1) := by decide +kernel
theorem dX6_used_26 : decode cX6_used 26 = .ok (.invokestatic 80, 3) := by decide +kernel
theorem dX6_used_29 : decode cX6_used 29 = .ok (.ifCond .eq 15, 3) := by decide +kernel
theorem dX6_used_32 : decode cX6_used 32 = .ok (.iload_n 3, 1) := by decide +kernel
theorem dX6_used_33 : decode cX6_used 33 = .ok (.i2l, 1) := by decide +kernel
theorem dX6_used_34 : decode cX6_used 34 = .ok (.lconst 0, 1) := by decide +kernel
theorem dX6_used_35 : decode cX6_used 35 = .ok (.ldc2_w 129, 3) := by decide +kernel
theorem dX6_used_38 : decode cX6_used 38 = .ok (.invokestatic 80, 3) := by decide +kernel
theorem dX6_used_41 : decode cX6_used 41 = .ok (.ifCond .ne 7, 3) := by decide +kernel
theorem dX6_used_44 : decode cX6_used 44 = .ok (.iconst (-1), 1) := by decide +kernel
theorem dX6_used_45 : decode cX6_used 45 = .ok (.goto 18, 3) := by decide +kernel
theorem dX6_used_48 : decode cX6_used 48 = .ok (.aload_n 0, 1) := by decide +kernel
theorem dX6_used_49 : decode cX6_used 49 = .ok (.getfield 75, 3) := by decide +kernel
theorem dX6_used_52 : decode cX6_used 52 = .ok (.bipush 30, 2) := by decide +kernel
theorem dX6_used_54 : decode cX6_used 54 = .ok (.iload_n 1, 1) := by decide +kernel
theorem dX6_used_55 : decode cX6_used 55 = .ok (.imul, 1) := by decide +kernel
theorem dX6_used_56 : decode cX6_used 56 = .ok (.iconst 3, 1) := by decide +kernel
theorem dX6_used_57 : decode cX6_used 57 = .ok (.iload_n 2, 1) := by decide +kernel
theorem dX6_used_58 : decode cX6_used 58 = .ok (.imul, 1) := by decide +kernel
theorem dX6_used_59 : decode cX6_used 59 = .ok (.iadd, 1) := by decide +kernel
theorem dX6_used_60 : decode cX6_used 60 = .ok (.iload_n 3, 1) := by decide +kernel
theorem dX6_used_61 : decode cX6_used 61 = .ok (.iadd, 1) := by decide +kernel
theorem dX6_used_62 : decode cX6_used 62 = .ok (.iaload, 1) := by decide +kernel
theorem dX6_used_63 : decode cX6_used 63 = .ok (.ireturn, 1) := by decide +kernel
