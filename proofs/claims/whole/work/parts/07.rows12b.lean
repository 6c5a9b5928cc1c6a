theorem dX12_sitting_26 : decode cX12_sitting 26 = .ok (.aload_n 0, 1) := by decide +kernel
theorem dX12_sitting_27 : decode cX12_sitting 27 = .ok (.invokevirtual 266, 3) := by decide +kernel
theorem dX12_sitting_30 : decode cX12_sitting 30 = .ok (.goto 20, 3) := by decide +kernel
theorem dX12_sitting_33 : decode cX12_sitting 33 = .ok (.iload_n 1, 1) := by decide +kernel
theorem dX12_sitting_34 : decode cX12_sitting 34 = .ok (.iconst 1, 1) := by decide +kernel
theorem dX12_sitting_35 : decode cX12_sitting 35 = .ok (.if_icmp .ne 11, 3) := by decide +kernel
theorem dX12_sitting_38 : decode cX12_sitting 38 = .ok (.aload_n 0, 1) := by decide +kernel
theorem dX12_sitting_39 : decode cX12_sitting 39 = .ok (.iconst (-1), 1) := by decide +kernel
theorem dX12_sitting_40 : decode cX12_sitting 40 = .ok (.invokevirtual 269, 3) := by decide +kernel
theorem dX12_sitting_43 : decode cX12_sitting 43 = .ok (.goto 7, 3) := by decide +kernel
theorem dX12_sitting_46 : decode cX12_sitting 46 = .ok (.aload_n 0, 1) := by decide +kernel
theorem dX12_sitting_47 : decode cX12_sitting 47 = .ok (.invokevirtual 272, 3) := by decide +kernel
theorem dX12_sitting_50 : decode cX12_sitting 50 = .ok (.ireturn, 1) := by decide +kernel
theorem dX12_change_0 : decode cX12_change 0 = .ok (.aload_n 0, 1) := by decide +kernel
theorem dX12_change_1 : decode cX12_change 1 = .ok (.getfield 108, 3) := by decide +kernel
theorem dX12_change_4 : decode cX12_change 4 = .ok (.iload_n 1, 1) := by decide +kernel
theorem dX12_change_5 : decode cX12_change 5 = .ok (.iaload, 1) := by decide +kernel
theorem dX12_change_6 : decode cX12_change 6 = .ok (.istore_n 3, 1) := by decide +kernel
theorem dX12_change_7 : decode cX12_change 7 = .ok (.aload_n 0, 1) := by decide +kernel
theorem dX12_change_8 : decode cX12_change 8 = .ok (.getfield 108, 3) := by decide +kernel
theorem dX12_change_11 : decode cX12_change 11 = .ok (.iload_n 1, 1) := by decide +kernel
theorem dX12_change_12 : decode cX12_change 12 = .ok (.aload_n 0, 1) := by decide +kernel
theorem dX12_change_13 : decode cX12_change 13 = .ok (.getfield 108, 3) := by decide +kernel
theorem dX12_change_16 : decode cX12_change 16 = .ok (.iload_n 2, 1) := by decide +kernel
theorem dX12_change_17 : decode cX12_change 17 = .ok (.iaload, 1) := by decide +kernel
theorem dX12_change_18 : decode cX12_change 18 = .ok (.iastore, 1) := by decide +kernel
theorem dX12_change_19 : decode cX12_change 19 = .ok (.aload_n 0, 1) := by decide +kernel
theorem dX12_change_20 : decode cX12_change 20 = .ok (.getfield 108, 3) := by decide +kernel
theorem dX12_change_23 : decode cX12_change 23 = .ok (.iload_n 2, 1) := by decide +kernel
theorem dX12_change_24 : decode cX12_change 24 = .ok (.iload_n 3, 1) := by decide +kernel
theorem dX12_change_25 : decode cX12_change 25 = .ok (.iastore, 1) := by decide +kernel
theorem dX12_change_26 : decode cX12_change 26 = .ok (.return_, 1) := by decide +kernel
set_option maxRecDepth 20000 in
theorem ggX12_swap_X12_layPairs : GoodIn wsX12_swap wsX12_layPairs := goodIn_r _ [6, 7, 8, 9, 10, 11, 12, 5, 13, 14, 15, 16, 17, 18, 19, 20, 21, 22, 23, 24, 25, 26, 27, 28, 29, 30, 31, 32, 33, 34, 35, 36, 37, 38, 39, 40, 41, 42, 43, 44, 45, 46, 47, 48, 49, 50, 51, 52, 53, 54, 55, 78, 79, 80, 81, 82, 83, 84, 85, 86, 87, 88, 89, 90, 91, 92, 93, 94, 95, 96, 97, 98, 99, 100, 101, 102, 103, 104, 105, 106, 107, 108, 109, 110, 111, 112, 113, 114, 115, 116, 117, 118, 119, 120, 121, 122, 123, 124, 125, 126, 127, 128] (by decide +kernel) (by decide +kernel)
set_option maxRecDepth 20000 in
theorem gX12_swap_X12_layPairs : GoodIn wsX12_swap (wsV RX12 263 RX12 yX12_layPairs wsX12_layPairs) := goodIn_app (goodIn_of _ (by decide +kernel)) ggX12_swap_X12_layPairs
set_option maxRecDepth 20000 in
theorem ggX12_swap_X12_asIs : GoodIn wsX12_swap wsX12_asIs := goodIn_r _ [59, 1, 60, 78, 79, 80, 81, 82, 83, 84, 85, 86, 87, 88, 89, 90, 91, 92, 93, 94, 95, 96, 97, 98, 99, 100, 101, 102, 103, 104, 105, 106, 107, 108, 109, 110, 111, 112, 113, 114, 115, 116, 117, 118, 119, 120, 121, 122, 123, 124, 125, 126, 127, 128] (by decide +kernel) (by decide +kernel)
set_option maxRecDepth 20000 in
theorem gX12_swap_X12_asIs : GoodIn wsX12_swap (wsV RX12 260 RX12 yX12_asIs wsX12_asIs) := goodIn_app (goodIn_of _ (by decide +kernel)) ggX12_swap_X12_asIs
set_option maxRecDepth 20000 in
theorem ggX12_swap_X12_breaksThere : GoodIn wsX12_swap wsX12_breaksThere := goodIn_r _ [64, 1, 9, 65, 78, 79, 80, 81, 82, 83, 84, 85, 86, 87, 88, 89, 90, 91, 92, 93, 94, 95, 96, 97, 98, 99, 100, 101, 102, 103, 104, 105, 106, 107, 108, 109, 110, 111, 112, 113, 114, 115, 116, 117, 118, 119, 120, 121, 122, 123, 124, 125, 126, 127, 128] (by decide +kernel) (by decide +kernel)
set_option maxRecDepth 20000 in
theorem gX12_swap_X12_breaksThere : GoodIn wsX12_swap (wsV RX12 269 RX12 yX12_breaksThere wsX12_breaksThere) := goodIn_app (goodIn_of _ (by decide +kernel)) ggX12_swap_X12_breaksThere
set_option maxRecDepth 20000 in
theorem ggX12_swap_X12_worthThere : GoodIn wsX12_swap wsX12_worthThere := goodIn_r _ [69, 1, 8, 14, 16, 70, 71, 72, 5, 73, 78, 79, 80, 81, 82, 83, 84, 85, 86, 87, 88, 89, 90, 91, 92, 93, 94, 95, 96, 97, 98, 99, 100, 101, 102, 103, 104, 105, 106, 107, 108, 109, 110, 111, 112, 113, 114, 115, 116, 117, 118, 119, 120, 121, 122, 123, 124, 125, 126, 127, 128] (by decide +kernel) (by decide +kernel)
set_option maxRecDepth 20000 in
theorem gX12_swap_X12_worthThere : GoodIn wsX12_swap (wsV RX12 266 RX12 yX12_worthThere wsX12_worthThere) := goodIn_app (goodIn_of _ (by decide +kernel)) ggX12_swap_X12_worthThere
set_option maxRecDepth 20000 in
theorem ggX12_swap_X12_change : GoodIn wsX12_swap wsX12_change := goodIn_r _ [77, 1, 78, 79, 80, 81, 82, 83, 84, 85, 86, 87, 88, 89, 90, 91, 92, 93, 94, 95, 96, 97, 98, 99, 100, 101, 102, 103, 104, 105, 106, 107, 108, 109, 110, 111, 112, 113, 114, 115, 116, 117, 118, 119, 120, 121, 122, 123, 124, 125, 126, 127, 128] (by decide +kernel) (by decide +kernel)
set_option maxRecDepth 20000 in
theorem gX12_swap_X12_change : GoodIn wsX12_swap (wsV RX12 275 RX12 yX12_change wsX12_change) := goodIn_app (goodIn_of _ (by decide +kernel)) ggX12_swap_X12_change
theorem dX12_swap_0 : decode cX12_swap 0 = .ok (.aload_n 0, 1) := by decide +kernel
theorem dX12_swap_1 : decode cX12_swap 1 = .ok (.invokevirtual 263, 3) := by decide +kernel
theorem dX12_swap_4 : decode cX12_swap 4 = .ok (.aload_n 0, 1) := by decide +kernel
theorem dX12_swap_5 : decode cX12_swap 5 = .ok (.invokevirtual 260, 3) := by decide +kernel
theorem dX12_swap_8 : decode cX12_swap 8 = .ok (.bipush (-5), 2) := by decide +kernel
theorem dX12_swap_10 : decode cX12_swap 10 = .ok (.istore_n 1, 1) := by decide +kernel
theorem dX12_swap_11 : decode cX12_swap 11 = .ok (.aload_n 0, 1) := by decide +kernel
theorem dX12_swap_12 : decode cX12_swap 12 = .ok (.iconst (-1), 1) := by decide +kernel
theorem dX12_swap_13 : decode cX12_swap 13 = .ok (.invokevirtual 269, 3) := by decide +kernel
theorem dX12_swap_16 : decode cX12_swap 16 = .ok (.istore_n 2, 1) := by decide +kernel
theorem dX12_swap_17 : decode cX12_swap 17 = .ok (.aload_n 0, 1) := by decide +kernel
theorem dX12_swap_18 : decode cX12_swap 18 = .ok (.invokevirtual 266, 3) := by decide +kernel
theorem dX12_swap_21 : decode cX12_swap 21 = .ok (.istore_n 3, 1) := by decide +kernel
theorem dX12_swap_22 : decode cX12_swap 22 = .ok (.iconst 0, 1) := by decide +kernel
theorem dX12_swap_23 : decode cX12_swap 23 = .ok (.istore 4, 2) := by decide +kernel
theorem dX12_swap_25 : decode cX12_swap 25 = .ok (.iload 4, 2) := by decide +kernel
theorem dX12_swap_27 : decode cX12_swap 27 = .ok (.bipush 8, 2) := by decide +kernel
theorem dX12_swap_29 : decode cX12_swap 29 = .ok (.if_icmp .ge 116, 3) := by decide +kernel
theorem dX12_swap_32 : decode cX12_swap 32 = .ok (.iload 4, 2) := by decide +kernel
theorem dX12_swap_34 : decode cX12_swap 34 = .ok (.iconst 1, 1) := by decide +kernel
theorem dX12_swap_35 : decode cX12_swap 35 = .ok (.iadd, 1) := by decide +kernel
theorem dX12_swap_36 : decode cX12_swap 36 = .ok (.istore 5, 2) := by decide +kernel
theorem dX12_swap_38 : decode cX12_swap 38 = .ok (.iload 5, 2) := by decide +kernel
theorem dX12_swap_40 : decode cX12_swap 40 = .ok (.bipush 8, 2) := by decide +kernel
theorem dX12_swap_42 : decode cX12_swap 42 = .ok (.if_icmp .ge 97, 3) := by decide +kernel
theorem dX12_swap_45 : decode cX12_swap 45 = .ok (.aload_n 0, 1) := by decide +kernel
theorem dX12_swap_46 : decode cX12_swap 46 = .ok (.getfield 108, 3) := by decide +kernel
theorem dX12_swap_49 : decode cX12_swap 49 = .ok (.iload 4, 2) := by decide +kernel
theorem dX12_swap_51 : decode cX12_swap 51 = .ok (.iaload, 1) := by decide +kernel
theorem dX12_swap_52 : decode cX12_swap 52 = .ok (.ifCond .ge 16, 3) := by decide +kernel
theorem dX12_swap_55 : decode cX12_swap 55 = .ok (.aload_n 0, 1) := by decide +kernel
theorem dX12_swap_56 : decode cX12_swap 56 = .ok (.getfield 108, 3) := by decide +kernel
theorem dX12_swap_59 : decode cX12_swap 59 = .ok (.iload 5, 2) := by decide +kernel
theorem dX12_swap_61 : decode cX12_swap 61 = .ok (.iaload, 1) := by decide +kernel
theorem dX12_swap_62 : decode cX12_swap 62 = .ok (.ifCond .ge 6, 3) := by decide +kernel
theorem dX12_swap_65 : decode cX12_swap 65 = .ok (.goto 68, 3) := by decide +kernel
theorem dX12_swap_68 : decode cX12_swap 68 = .ok (.aload_n 0, 1) := by decide +kernel
theorem dX12_swap_69 : decode cX12_swap 69 = .ok (.iload 4, 2) := by decide +kernel
theorem dX12_swap_71 : decode cX12_swap 71 = .ok (.iload 5, 2) := by decide +kernel
theorem dX12_swap_73 : decode cX12_swap 73 = .ok (.invokevirtual 275, 3) := by decide +kernel
theorem dX12_swap_76 : decode cX12_swap 76 = .ok (.aload_n 0, 1) := by decide +kernel
theorem dX12_swap_77 : decode cX12_swap 77 = .ok (.iconst (-1), 1) := by decide +kernel
theorem dX12_swap_78 : decode cX12_swap 78 = .ok (.invokevirtual 269, 3) := by decide +kernel
theorem dX12_swap_81 : decode cX12_swap 81 = .ok (.istore 6, 2) := by decide +kernel
theorem dX12_swap_83 : decode cX12_swap 83 = .ok (.aload_n 0, 1) := by decide +kernel
theorem dX12_swap_84 : decode cX12_swap 84 = .ok (.invokevirtual 266, 3) := by decide +kernel
theorem dX12_swap_87 : decode cX12_swap 87 = .ok (.istore 7, 2) := by decide +kernel
theorem dX12_swap_89 : decode cX12_swap 89 = .ok (.aload_n 0, 1) := by decide +kernel
theorem dX12_swap_90 : decode cX12_swap 90 = .ok (.iload 4, 2) := by decide +kernel
theorem dX12_swap_92 : decode cX12_swap 92 = .ok (.iload 5, 2) := by decide +kernel
theorem dX12_swap_94 : decode cX12_swap 94 = .ok (.invokevirtual 275, 3) := by decide +kernel
theorem dX12_swap_97 : decode cX12_swap 97 = .ok (.iload 6, 2) := by decide +kernel
theorem dX12_swap_99 : decode cX12_swap 99 = .ok (.iload_n 2, 1) := by decide +kernel
theorem dX12_swap_100 : decode cX12_swap 100 = .ok (.if_icmp .gt 33, 3) := by decide +kernel
theorem dX12_swap_103 : decode cX12_swap 103 = .ok (.iload 6, 2) := by decide +kernel
theorem dX12_swap_105 : decode cX12_swap 105 = .ok (.iload_n 2, 1) := by decide +kernel
theorem dX12_swap_106 : decode cX12_swap 106 = .ok (.if_icmp .ne 12, 3) := by decide +kernel
theorem dX12_swap_109 : decode cX12_swap 109 = .ok (.iload 7, 2) := by decide +kernel
theorem dX12_swap_111 : decode cX12_swap 111 = .ok (.iload_n 3, 1) := by decide +kernel
theorem dX12_swap_112 : decode cX12_swap 112 = .ok (.if_icmp .gt 6, 3) := by decide +kernel
theorem dX12_swap_115 : decode cX12_swap 115 = .ok (.goto 18, 3) := by decide +kernel
theorem dX12_swap_118 : decode cX12_swap 118 = .ok (.bipush 10, 2) := by decide +kernel
theorem dX12_swap_120 : decode cX12_swap 120 = .ok (.iload 4, 2) := by decide +kernel
theorem dX12_swap_122 : decode cX12_swap 122 = .ok (.imul, 1) := by decide +kernel
theorem dX12_swap_123 : decode cX12_swap 123 = .ok (.iload 5, 2) := by decide +kernel
theorem dX12_swap_125 : decode cX12_swap 125 = .ok (.iadd, 1) := by decide +kernel
theorem dX12_swap_126 : decode cX12_swap 126 = .ok (.istore_n 1, 1) := by decide +kernel
theorem dX12_swap_127 : decode cX12_swap 127 = .ok (.iload 6, 2) := by decide +kernel
theorem dX12_swap_129 : decode cX12_swap 129 = .ok (.istore_n 2, 1) := by decide +kernel
theorem dX12_swap_130 : decode cX12_swap 130 = .ok (.iload 7, 2) := by decide +kernel
theorem dX12_swap_132 : decode cX12_swap 132 = .ok (.istore_n 3, 1) := by decide +kernel
theorem dX12_swap_133 : decode cX12_swap 133 = .ok (.iinc 5 1, 3) := by decide +kernel
theorem dX12_swap_136 : decode cX12_swap 136 = .ok (.goto (-98), 3) := by decide +kernel
theorem dX12_swap_139 : decode cX12_swap 139 = .ok (.iinc 4 1, 3) := by decide +kernel
theorem dX12_swap_142 : decode cX12_swap 142 = .ok (.goto (-117), 3) := by decide +kernel
theorem dX12_swap_145 : decode cX12_swap 145 = .ok (.iload_n 1, 1) := by decide +kernel
theorem dX12_swap_146 : decode cX12_swap 146 = .ok (.ireturn, 1) := by decide +kernel
theorem dX12_layRow_0 : decode cX12_layRow 0 = .ok (.iconst 0, 1) := by decide +kernel
theorem dX12_layRow_1 : decode cX12_layRow 1 = .ok (.istore_n 2, 1) := by decide +kernel
theorem dX12_layRow_2 : decode cX12_layRow 2 = .ok (.iload_n 2, 1) := by decide +kernel
theorem dX12_layRow_3 : decode cX12_layRow 3 = .ok (.bipush 8, 2) := by decide +kernel
theorem dX12_layRow_5 : decode cX12_layRow 5 = .ok (.if_icmp .ge 16, 3) := by decide +kernel
theorem dX12_layRow_8 : decode cX12_layRow 8 = .ok (.aload_n 0, 1) := by decide +kernel
theorem dX12_layRow_9 : decode cX12_layRow 9 = .ok (.getfield 108, 3) := by decide +kernel
theorem dX12_layRow_12 : decode cX12_layRow 12 = .ok (.iload_n 2, 1) := by decide +kernel
theorem dX12_layRow_13 : decode cX12_layRow 13 = .ok (.iconst (-1), 1) := by decide +kernel
theorem dX12_layRow_14 : decode cX12_layRow 14 = .ok (.iastore, 1) := by decide +kernel
theorem dX12_layRow_15 : decode cX12_layRow 15 = .ok (.iinc 2 1, 3) := by decide +kernel
theorem dX12_layRow_18 : decode cX12_layRow 18 = .ok (.goto (-16), 3) := by decide +kernel
theorem dX12_layRow_21 : decode cX12_layRow 21 = .ok (.iload_n 1, 1) := by decide +kernel
theorem dX12_layRow_22 : decode cX12_layRow 22 = .ok (.istore_n 2, 1) := by decide +kernel
theorem dX12_layRow_23 : decode cX12_layRow 23 = .ok (.aload_n 0, 1) := by decide +kernel
theorem dX12_layRow_24 : decode cX12_layRow 24 = .ok (.getfield 7, 3) := by decide +kernel
theorem dX12_layRow_27 : decode cX12_layRow 27 = .ok (.iconst 1, 1) := by decide +kernel
theorem dX12_layRow_28 : decode cX12_layRow 28 = .ok (.isub, 1) := by decide +kernel
theorem dX12_layRow_29 : decode cX12_layRow 29 = .ok (.istore_n 3, 1) := by decide +kernel
theorem dX12_layRow_30 : decode cX12_layRow 30 = .ok (.iload_n 3, 1) := by decide +kernel
theorem dX12_layRow_31 : decode cX12_layRow 31 = .ok (.ifCond .lt 40, 3) := by decide +kernel
theorem dX12_layRow_34 : decode cX12_layRow 34 = .ok (.iload_n 2, 1) := by decide +kernel
theorem dX12_layRow_35 : decode cX12_layRow 35 = .ok (.bipush 8, 2) := by decide +kernel
theorem dX12_layRow_37 : decode cX12_layRow 37 = .ok (.irem, 1) := by decide +kernel
theorem dX12_layRow_38 : decode cX12_layRow 38 = .ok (.istore 4, 2) := by decide +kernel
theorem dX12_layRow_40 : decode cX12_layRow 40 = .ok (.iload_n 2, 1) := by decide +kernel
theorem dX12_layRow_41 : decode cX12_layRow 41 = .ok (.bipush 8, 2) := by decide +kernel
theorem dX12_layRow_43 : decode cX12_layRow 43 = .ok (.idiv, 1) := by decide +kernel
theorem dX12_layRow_44 : decode cX12_layRow 44 = .ok (.istore_n 2, 1) := by decide +kernel
theorem dX12_layRow_45 : decode cX12_layRow 45 = .ok (.aload_n 0, 1) := by decide +kernel
theorem dX12_layRow_46 : decode cX12_layRow 46 = .ok (.getfield 108, 3) := by decide +kernel
theorem dX12_layRow_49 : decode cX12_layRow 49 = .ok (.iload 4, 2) := by decide +kernel
theorem dX12_layRow_51 : decode cX12_layRow 51 = .ok (.iaload, 1) := by decide +kernel
theorem dX12_layRow_52 : decode cX12_layRow 52 = .ok (.ifCond .lt 5, 3) := by decide +kernel
theorem dX12_layRow_55 : decode cX12_layRow 55 = .ok (.iconst 0, 1) := by decide +kernel
theorem dX12_layRow_56 : decode cX12_layRow 56 = .ok (.ireturn, 1) := by decide +kernel
theorem dX12_layRow_57 : decode cX12_layRow 57 = .ok (.aload_n 0, 1) := by decide +kernel
theorem dX12_layRow_58 : decode cX12_layRow 58 = .ok (.getfield 108, 3) := by decide +kernel
theorem dX12_layRow_61 : decode cX12_layRow 61 = .ok (.iload 4, 2) := by decide +kernel
theorem dX12_layRow_63 : decode cX12_layRow 63 = .ok (.iload_n 3, 1) := by decide +kernel
theorem dX12_layRow_64 : decode cX12_layRow 64 = .ok (.iastore, 1) := by decide +kernel
theorem dX12_layRow_65 : decode cX12_layRow 65 = .ok (.iinc 3 (-1), 3) := by decide +kernel
theorem dX12_layRow_68 : decode cX12_layRow 68 = .ok (.goto (-38), 3) := by decide +kernel
theorem dX12_layRow_71 : decode cX12_layRow 71 = .ok (.iconst 1, 1) := by decide +kernel
theorem dX12_layRow_72 : decode cX12_layRow 72 = .ok (.ireturn, 1) := by decide +kernel
theorem dX12_codes_0 : decode cX12_codes 0 = .ok (.iconst 1, 1) := by decide +kernel
theorem dX12_codes_1 : decode cX12_codes 1 = .ok (.istore_n 1, 1) := by decide +kernel
theorem dX12_codes_2 : decode cX12_codes 2 = .ok (.iconst 0, 1) := by decide +kernel
theorem dX12_codes_3 : decode cX12_codes 3 = .ok (.istore_n 2, 1) := by decide +kernel
theorem dX12_codes_4 : decode cX12_codes 4 = .ok (.iload_n 2, 1) := by decide +kernel
theorem dX12_codes_5 : decode cX12_codes 5 = .ok (.aload_n 0, 1) := by decide +kernel
theorem dX12_codes_6 : decode cX12_codes 6 = .ok (.getfield 7, 3) := by decide +kernel
theorem dX12_codes_9 : decode cX12_codes 9 = .ok (.if_icmp .ge 14, 3) := by decide +kernel
theorem dX12_codes_12 : decode cX12_codes 12 = .ok (.iload_n 1, 1) := by decide +kernel
theorem dX12_codes_13 : decode cX12_codes 13 = .ok (.bipush 8, 2) := by decide +kernel
theorem dX12_codes_15 : decode cX12_codes 15 = .ok (.imul, 1) := by decide +kernel
theorem dX12_codes_16 : decode cX12_codes 16 = .ok (.istore_n 1, 1) := by decide +kernel
theorem dX12_codes_17 : decode cX12_codes 17 = .ok (.iinc 2 1, 3) := by decide +kernel
theorem dX12_codes_20 : decode cX12_codes 20 = .ok (.goto (-16), 3) := by decide +kernel
theorem dX12_codes_23 : decode cX12_codes 23 = .ok (.iload_n 1, 1) := by decide +kernel
theorem dX12_codes_24 : decode cX12_codes 24 = .ok (.ireturn, 1) := by decide +kernel
theorem dX12_keepRow_0 : decode cX12_keepRow 0 = .ok (.iconst 0, 1) := by decide +kernel
theorem dX12_keepRow_1 : decode cX12_keepRow 1 = .ok (.istore_n 1, 1) := by decide +kernel
theorem dX12_keepRow_2 : decode cX12_keepRow 2 = .ok (.iload_n 1, 1) := by decide +kernel
theorem dX12_keepRow_3 : decode cX12_keepRow 3 = .ok (.bipush 8, 2) := by decide +kernel
theorem dX12_keepRow_5 : decode cX12_keepRow 5 = .ok (.if_icmp .ge 30, 3) := by decide +kernel
theorem dX12_keepRow_8 : decode cX12_keepRow 8 = .ok (.aload_n 0, 1) := by decide +kernel
theorem dX12_keepRow_9 : decode cX12_keepRow 9 = .ok (.getfield 108, 3) := by decide +kernel
theorem dX12_keepRow_12 : decode cX12_keepRow 12 = .ok (.iload_n 1, 1) := by decide +kernel
theorem dX12_keepRow_13 : decode cX12_keepRow 13 = .ok (.iaload, 1) := by decide +kernel
theorem dX12_keepRow_14 : decode cX12_keepRow 14 = .ok (.ifCond .lt 15, 3) := by decide +kernel
theorem dX12_keepRow_17 : decode cX12_keepRow 17 = .ok (.aload_n 0, 1) := by decide +kernel
theorem dX12_keepRow_18 : decode cX12_keepRow 18 = .ok (.getfield 111, 3) := by decide +kernel
theorem dX12_keepRow_21 : decode cX12_keepRow 21 = .ok (.aload_n 0, 1) := by decide +kernel
theorem dX12_keepRow_22 : decode cX12_keepRow 22 = .ok (.getfield 108, 3) := by decide +kernel
theorem dX12_keepRow_25 : decode cX12_keepRow 25 = .ok (.iload_n 1, 1) := by decide +kernel
theorem dX12_keepRow_26 : decode cX12_keepRow 26 = .ok (.iaload, 1) := by decide +kernel
theorem dX12_keepRow_27 : decode cX12_keepRow 27 = .ok (.iload_n 1, 1) := by decide +kernel
theorem dX12_keepRow_28 : decode cX12_keepRow 28 = .ok (.iastore, 1) := by decide +kernel
theorem dX12_keepRow_29 : decode cX12_keepRow 29 = .ok (.iinc 1 1, 3) := by decide +kernel
theorem dX12_keepRow_32 : decode cX12_keepRow 32 = .ok (.goto (-30), 3) := by decide +kernel
theorem dX12_keepRow_35 : decode cX12_keepRow 35 = .ok (.return_, 1) := by decide +kernel
set_option maxRecDepth 20000 in
theorem ggX12_findBest_X12_layPairs : GoodIn wsX12_findBest wsX12_layPairs := goodIn_r _ [7, 8, 9, 10, 11, 12, 13, 6, 14, 15, 16, 17, 18, 19, 20, 21, 22, 23, 24, 25, 26, 27, 28, 29, 30, 31, 32, 33, 34, 35, 36, 37, 38, 39, 40, 41, 42, 43, 44, 45, 46, 47, 48, 49, 50, 51, 52, 53, 54, 55, 56, 84, 85, 86, 87, 88, 89, 90, 91, 92, 93, 94, 95, 96, 97, 98, 99, 100, 101, 102, 103, 104, 105, 106, 107, 108, 109, 110, 111, 112, 113, 114, 115, 116, 117, 118, 119, 120, 121, 122, 123, 124, 125, 126, 127, 128, 129, 130, 131, 132, 133, 134] (by decide +kernel) (by decide +kernel)
set_option maxRecDepth 20000 in
theorem gX12_findBest_X12_layPairs : GoodIn wsX12_findBest (wsV RX12 263 RX12 yX12_layPairs wsX12_layPairs) := goodIn_app (goodIn_of _ (by decide +kernel)) ggX12_findBest_X12_layPairs
set_option maxRecDepth 20000 in
theorem ggX12_findBest_X12_codes : GoodIn wsX12_findBest wsX12_codes := goodIn_r _ [60, 8, 84, 85, 86, 87, 88, 89, 90, 91, 92, 93, 94, 95, 96, 97, 98, 99, 100, 101, 102, 103, 104, 105, 106, 107, 108, 109, 110, 111, 112, 113, 114, 115, 116, 117, 118, 119, 120, 121, 122, 123, 124, 125, 126, 127, 128, 129, 130, 131, 132, 133, 134] (by decide +kernel) (by decide +kernel)
set_option maxRecDepth 20000 in
theorem gX12_findBest_X12_codes : GoodIn wsX12_findBest (wsV RX12 279 RX12 yX12_codes wsX12_codes) := goodIn_app (goodIn_of _ (by decide +kernel)) ggX12_findBest_X12_codes
set_option maxRecDepth 20000 in
theorem ggX12_findBest_X12_layRow : GoodIn wsX12_findBest wsX12_layRow := goodIn_r _ [64, 65, 8, 84, 85, 86, 87, 88, 89, 90, 91, 92, 93, 94, 95, 96, 97, 98, 99, 100, 101, 102, 103, 104, 105, 106, 107, 108, 109, 110, 111, 112, 113, 114, 115, 116, 117, 118, 119, 120, 121, 122, 123, 124, 125, 126, 127, 128, 129, 130, 131, 132, 133, 134] (by decide +kernel) (by decide +kernel)
set_option maxRecDepth 20000 in
theorem gX12_findBest_X12_layRow : GoodIn wsX12_findBest (wsV RX12 282 RX12 yX12_layRow wsX12_layRow) := goodIn_app (goodIn_of _ (by decide +kernel)) ggX12_findBest_X12_layRow
set_option maxRecDepth 20000 in
theorem ggX12_findBest_X12_breaksThere : GoodIn wsX12_findBest wsX12_breaksThere := goodIn_r _ [69, 65, 10, 70, 84, 85, 86, 87, 88, 89, 90, 91, 92, 93, 94, 95, 96, 97, 98, 99, 100, 101, 102, 103, 104, 105, 106, 107, 108, 109, 110, 111, 112, 113, 114, 115, 116, 117, 118, 119, 120, 121, 122, 123, 124, 125, 126, 127, 128, 129, 130, 131, 132, 133, 134] (by decide +kernel) (by decide +kernel)
set_option maxRecDepth 20000 in
theorem gX12_findBest_X12_breaksThere : GoodIn wsX12_findBest (wsV RX12 269 RX12 yX12_breaksThere wsX12_breaksThere) := goodIn_app (goodIn_of _ (by decide +kernel)) ggX12_findBest_X12_breaksThere
set_option maxRecDepth 20000 in
theorem ggX12_findBest_X12_worthThere : GoodIn wsX12_findBest wsX12_worthThere := goodIn_r _ [74, 65, 9, 15, 17, 75, 76, 77, 6, 78, 84, 85, 86, 87, 88, 89, 90, 91, 92, 93, 94, 95, 96, 97, 98, 99, 100, 101, 102, 103, 104, 105, 106, 107, 108, 109, 110, 111, 112, 113, 114, 115, 116, 117, 118, 119, 120, 121, 122, 123, 124, 125, 126, 127, 128, 129, 130, 131, 132, 133, 134] (by decide +kernel) (by decide +kernel)
set_option maxRecDepth 20000 in
theorem gX12_findBest_X12_worthThere : GoodIn wsX12_findBest (wsV RX12 266 RX12 yX12_worthThere wsX12_worthThere) := goodIn_app (goodIn_of _ (by decide +kernel)) ggX12_findBest_X12_worthThere
set_option maxRecDepth 20000 in
theorem ggX12_findBest_X12_keepRow : GoodIn wsX12_findBest wsX12_keepRow := goodIn_r _ [82, 65, 83, 84, 85, 86, 87, 88, 89, 90, 91, 92, 93, 94, 95, 96, 97, 98, 99, 100, 101, 102, 103, 104, 105, 106, 107, 108, 109, 110, 111, 112, 113, 114, 115, 116, 117, 118, 119, 120, 121, 122, 123, 124, 125, 126, 127, 128, 129, 130, 131, 132, 133, 134] (by decide +kernel) (by decide +kernel)
set_option maxRecDepth 20000 in
theorem gX12_findBest_X12_keepRow : GoodIn wsX12_findBest (wsV RX12 285 RX12 yX12_keepRow wsX12_keepRow) := goodIn_app (goodIn_of _ (by decide +kernel)) ggX12_findBest_X12_keepRow
theorem dX12_findBest_0 : decode cX12_findBest 0 = .ok (.aload_n 0, 1) := by decide +kernel
theorem dX12_findBest_1 : decode cX12_findBest 1 = .ok (.invokevirtual 263, 3) := by decide +kernel
theorem dX12_findBest_4 : decode cX12_findBest 4 = .ok (.iconst 0, 1) := by decide +kernel
theorem dX12_findBest_5 : decode cX12_findBest 5 = .ok (.istore_n 2, 1) := by decide +kernel
theorem dX12_findBest_6 : decode cX12_findBest 6 = .ok (.iconst 0, 1) := by decide +kernel
theorem dX12_findBest_7 : decode cX12_findBest 7 = .ok (.istore_n 3, 1) := by decide +kernel
theorem dX12_findBest_8 : decode cX12_findBest 8 = .ok (.iload_n 3, 1) := by decide +kernel
theorem dX12_findBest_9 : decode cX12_findBest 9 = .ok (.aload_n 0, 1) := by decide +kernel
theorem dX12_findBest_10 : decode cX12_findBest 10 = .ok (.invokevirtual 279, 3) := by decide +kernel
theorem dX12_findBest_13 : decode cX12_findBest 13 = .ok (.if_icmp .ge 92, 3) := by decide +kernel
theorem dX12_findBest_16 : decode cX12_findBest 16 = .ok (.aload_n 0, 1) := by decide +kernel
theorem dX12_findBest_17 : decode cX12_findBest 17 = .ok (.iload_n 3, 1) := by decide +kernel
theorem dX12_findBest_18 : decode cX12_findBest 18 = .ok (.invokevirtual 282, 3) := by decide +kernel
theorem dX12_findBest_21 : decode cX12_findBest 21 = .ok (.ifCond .ne 6, 3) := by decide +kernel
theorem dX12_findBest_24 : decode cX12_findBest 24 = .ok (.goto 75, 3) := by decide +kernel
theorem dX12_findBest_27 : decode cX12_findBest 27 = .ok (.aload_n 0, 1) := by decide +kernel
theorem dX12_findBest_28 : decode cX12_findBest 28 = .ok (.iload_n 1, 1) := by decide +kernel
theorem dX12_findBest_29 : decode cX12_findBest 29 = .ok (.invokevirtual 269, 3) := by decide +kernel
theorem dX12_findBest_32 : decode cX12_findBest 32 = .ok (.istore 4, 2) := by decide +kernel
theorem dX12_findBest_34 : decode cX12_findBest 34 = .ok (.iload_n 2, 1) := by decide +kernel
theorem dX12_findBest_35 : decode cX12_findBest 35 = .ok (.ifCond .eq 15, 3) := by decide +kernel
theorem dX12_findBest_38 : decode cX12_findBest 38 = .ok (.iload 4, 2) := by decide +kernel
theorem dX12_findBest_40 : decode cX12_findBest 40 = .ok (.aload_n 0, 1) := by decide +kernel
theorem dX12_findBest_41 : decode cX12_findBest 41 = .ok (.getfield 114, 3) := by decide +kernel
theorem dX12_findBest_44 : decode cX12_findBest 44 = .ok (.if_icmp .le 6, 3) := by decide +kernel
theorem dX12_findBest_47 : decode cX12_findBest 47 = .ok (.goto 52, 3) := by decide +kernel
theorem dX12_findBest_50 : decode cX12_findBest 50 = .ok (.aload_n 0, 1) := by decide +kernel
theorem dX12_findBest_51 : decode cX12_findBest 51 = .ok (.invokevirtual 266, 3) := by decide +kernel
theorem dX12_findBest_54 : decode cX12_findBest 54 = .ok (.istore 5, 2) := by decide +kernel
theorem dX12_findBest_56 : decode cX12_findBest 56 = .ok (.iload_n 2, 1) := by decide +kernel
theorem dX12_findBest_57 : decode cX12_findBest 57 = .ok (.ifCond .eq 24, 3) := by decide +kernel
theorem dX12_findBest_60 : decode cX12_findBest 60 = .ok (.iload 4, 2) := by decide +kernel
theorem dX12_findBest_62 : decode cX12_findBest 62 = .ok (.aload_n 0, 1) := by decide +kernel
theorem dX12_findBest_63 : decode cX12_findBest 63 = .ok (.getfield 114, 3) := by decide +kernel
theorem dX12_findBest_66 : decode cX12_findBest 66 = .ok (.if_icmp .ne 15, 3) := by decide +kernel
theorem dX12_findBest_69 : decode cX12_findBest 69 = .ok (.iload 5, 2) := by decide +kernel
theorem dX12_findBest_71 : decode cX12_findBest 71 = .ok (.aload_n 0, 1) := by decide +kernel
theorem dX12_findBest_72 : decode cX12_findBest 72 = .ok (.getfield 117, 3) := by decide +kernel
theorem dX12_findBest_75 : decode cX12_findBest 75 = .ok (.if_icmp .gt 6, 3) := by decide +kernel
theorem dX12_findBest_78 : decode cX12_findBest 78 = .ok (.goto 21, 3) := by decide +kernel
theorem dX12_findBest_81 : decode cX12_findBest 81 = .ok (.iconst 1, 1) := by decide +kernel
theorem dX12_findBest_82 : decode cX12_findBest 82 = .ok (.istore_n 2, 1) := by decide +kernel
theorem dX12_findBest_83 : decode cX12_findBest 83 = .ok (.aload_n 0, 1) := by decide +kernel
theorem dX12_findBest_84 : decode cX12_findBest 84 = .ok (.iload 4, 2) := by decide +kernel
theorem dX12_findBest_86 : decode cX12_findBest 86 = .ok (.putfield 114, 3) := by decide +kernel
theorem dX12_findBest_89 : decode cX12_findBest 89 = .ok (.aload_n 0, 1) := by decide +kernel
theorem dX12_findBest_90 : decode cX12_findBest 90 = .ok (.iload 5, 2) := by decide +kernel
theorem dX12_findBest_92 : decode cX12_findBest 92 = .ok (.putfield 117, 3) := by decide +kernel
theorem dX12_findBest_95 : decode cX12_findBest 95 = .ok (.aload_n 0, 1) := by decide +kernel
theorem dX12_findBest_96 : decode cX12_findBest 96 = .ok (.invokevirtual 285, 3) := by decide +kernel
theorem dX12_findBest_99 : decode cX12_findBest 99 = .ok (.iinc 3 1, 3) := by decide +kernel
theorem dX12_findBest_102 : decode cX12_findBest 102 = .ok (.goto (-94), 3) := by decide +kernel
theorem dX12_findBest_105 : decode cX12_findBest 105 = .ok (.return_, 1) := by decide +kernel
set_option maxRecDepth 20000 in
theorem ggX12_best_X12_in : GoodIn wsX12_best wsX12_in := goodIn_r _ [10] (by decide +kernel) (by decide +kernel)
set_option maxRecDepth 20000 in
theorem gX12_best_X12_in : GoodIn wsX12_best (wsV RX12 167 RX12 yX12_in wsX12_in) := goodIn_app (goodIn_of _ (by decide +kernel)) ggX12_best_X12_in
set_option maxRecDepth 20000 in
theorem ggX12_best_X12_findBest : GoodIn wsX12_best wsX12_findBest := goodIn_r _ [14, 4, 3, 15, 16, 17, 9, 18, 1, 19, 20, 21, 22, 23, 24, 25, 26, 27, 28, 29, 30, 31, 32, 33, 34, 35, 36, 37, 38, 39, 40, 41, 42, 43, 44, 45, 46, 47, 48, 49, 50, 51, 52, 53, 54, 55, 56, 57, 58, 59, 60, 61, 62, 63, 64, 65, 66, 67, 68, 69, 70, 71, 72, 73, 74, 75, 76, 77, 78, 79, 80, 81, 82, 83, 84, 85, 86, 87, 88, 89, 90, 91, 92, 5, 93, 94, 95, 96, 97, 98, 99, 100, 101, 102, 103, 104, 105, 106, 107, 108, 109, 110, 111, 112, 113, 114, 115, 116, 117, 118, 119, 120, 121, 122, 123, 124, 125, 126, 127, 128, 129, 130, 131, 132, 133, 134, 135, 136, 137, 138, 139, 140, 141, 142, 143] (by decide +kernel) (by decide +kernel)
set_option maxRecDepth 20000 in
theorem gX12_best_X12_findBest : GoodIn wsX12_best (wsV RX12 288 RX12 yX12_findBest wsX12_findBest) := goodIn_app (goodIn_of _ (by decide +kernel)) ggX12_best_X12_findBest
theorem dX12_best_0 : decode cX12_best 0 = .ok (.aload_n 0, 1) := by decide +kernel
theorem dX12_best_1 : decode cX12_best 1 = .ok (.iload_n 1, 1) := by decide +kernel
theorem dX12_best_2 : decode cX12_best 2 = .ok (.bipush (-2), 2) := by decide +kernel
theorem dX12_best_4 : decode cX12_best 4 = .ok (.aload_n 0, 1) := by decide +kernel
theorem dX12_best_5 : decode cX12_best 5 = .ok (.getfield 7, 3) := by decide +kernel
theorem dX12_best_8 : decode cX12_best 8 = .ok (.iconst 1, 1) := by decide +kernel
theorem dX12_best_9 : decode cX12_best 9 = .ok (.isub, 1) := by decide +kernel
theorem dX12_best_10 : decode cX12_best 10 = .ok (.invokevirtual 167, 3) := by decide +kernel
theorem dX12_best_13 : decode cX12_best 13 = .ok (.ifCond .ne 7, 3) := by decide +kernel
theorem dX12_best_16 : decode cX12_best 16 = .ok (.ldc_w 258, 3) := by decide +kernel
theorem dX12_best_19 : decode cX12_best 19 = .ok (.ireturn, 1) := by decide +kernel
theorem dX12_best_20 : decode cX12_best 20 = .ok (.aload_n 0, 1) := by decide +kernel
theorem dX12_best_21 : decode cX12_best 21 = .ok (.getfield 7, 3) := by decide +kernel
theorem dX12_best_24 : decode cX12_best 24 = .ok (.iconst 5, 1) := by decide +kernel
theorem dX12_best_25 : decode cX12_best 25 = .ok (.if_icmp .le 6, 3) := by decide +kernel
theorem dX12_best_28 : decode cX12_best 28 = .ok (.bipush (-9), 2) := by decide +kernel
theorem dX12_best_30 : decode cX12_best 30 = .ok (.ireturn, 1) := by decide +kernel
theorem dX12_best_31 : decode cX12_best 31 = .ok (.aload_n 0, 1) := by decide +kernel
theorem dX12_best_32 : decode cX12_best 32 = .ok (.iconst (-1), 1) := by decide +kernel
theorem dX12_best_33 : decode cX12_best 33 = .ok (.invokevirtual 288, 3) := by decide +kernel
theorem dX12_best_36 : decode cX12_best 36 = .ok (.iload_n 1, 1) := by decide +kernel
theorem dX12_best_37 : decode cX12_best 37 = .ok (.iconst (-1), 1) := by decide +kernel
theorem dX12_best_38 : decode cX12_best 38 = .ok (.if_icmp .ne 10, 3) := by decide +kernel
theorem dX12_best_41 : decode cX12_best 41 = .ok (.aload_n 0, 1) := by decide +kernel
theorem dX12_best_42 : decode cX12_best 42 = .ok (.getfield 117, 3) := by decide +kernel
theorem dX12_best_45 : decode cX12_best 45 = .ok (.goto 22, 3) := by decide +kernel
theorem dX12_best_48 : decode cX12_best 48 = .ok (.iload_n 1, 1) := by decide +kernel
theorem dX12_best_49 : decode cX12_best 49 = .ok (.bipush (-2), 2) := by decide +kernel
theorem dX12_best_51 : decode cX12_best 51 = .ok (.if_icmp .ne 10, 3) := by decide +kernel
theorem dX12_best_54 : decode cX12_best 54 = .ok (.aload_n 0, 1) := by decide +kernel
theorem dX12_best_55 : decode cX12_best 55 = .ok (.getfield 114, 3) := by decide +kernel
theorem dX12_best_58 : decode cX12_best 58 = .ok (.goto 9, 3) := by decide +kernel
theorem dX12_best_61 : decode cX12_best 61 = .ok (.aload_n 0, 1) := by decide +kernel
theorem dX12_best_62 : decode cX12_best 62 = .ok (.getfield 111, 3) := by decide +kernel
theorem dX12_best_65 : decode cX12_best 65 = .ok (.iload_n 1, 1) := by decide +kernel
theorem dX12_best_66 : decode cX12_best 66 = .ok (.iaload, 1) := by decide +kernel
theorem dX12_best_67 : decode cX12_best 67 = .ok (.ireturn, 1) := by decide +kernel
set_option maxRecDepth 20000 in
theorem ggX12_cost_X12_in : GoodIn wsX12_cost wsX12_in := goodIn_r _ [7] (by decide +kernel) (by decide +kernel)
set_option maxRecDepth 20000 in
theorem gX12_cost_X12_in : GoodIn wsX12_cost (wsV RX12 167 RX12 yX12_in wsX12_in) := goodIn_app (goodIn_of _ (by decide +kernel)) ggX12_cost_X12_in
set_option maxRecDepth 20000 in
theorem ggX12_cost_X12_findBest : GoodIn wsX12_cost wsX12_findBest := goodIn_r _ [11, 12, 2, 13, 14, 15, 6, 16, 1, 17, 18, 19, 20, 21, 22, 23, 24, 25, 26, 27, 28, 29, 30, 31, 32, 33, 34, 35, 36, 37, 38, 39, 40, 41, 42, 43, 44, 45, 46, 47, 48, 49, 50, 51, 52, 53, 54, 55, 56, 57, 58, 59, 60, 61, 62, 63, 64, 65, 66, 67, 68, 69, 70, 71, 72, 73, 74, 75, 76, 77, 78, 79, 80, 81, 82, 83, 84, 85, 86, 87, 88, 89, 90, 91, 92, 93, 94, 95, 96, 97, 98, 99, 100, 101, 102, 103, 104, 105, 106, 107, 108, 109, 110, 111, 112, 113, 114, 115, 116, 117, 118, 119, 120, 121, 122, 123, 124, 125, 126, 127, 128, 129, 130, 131, 132, 133, 134, 135, 136, 137, 138, 139, 140, 141, 142] (by decide +kernel) (by decide +kernel)
set_option maxRecDepth 20000 in
theorem gX12_cost_X12_findBest : GoodIn wsX12_cost (wsV RX12 288 RX12 yX12_findBest wsX12_findBest) := goodIn_app (goodIn_of _ (by decide +kernel)) ggX12_cost_X12_findBest
theorem dX12_cost_0 : decode cX12_cost 0 = .ok (.aload_n 0, 1) := by decide +kernel
theorem dX12_cost_1 : decode cX12_cost 1 = .ok (.iload_n 1, 1) := by decide +kernel
theorem dX12_cost_2 : decode cX12_cost 2 = .ok (.iconst 0, 1) := by decide +kernel
theorem dX12_cost_3 : decode cX12_cost 3 = .ok (.iconst 1, 1) := by decide +kernel
theorem dX12_cost_4 : decode cX12_cost 4 = .ok (.invokevirtual 167, 3) := by decide +kernel
theorem dX12_cost_7 : decode cX12_cost 7 = .ok (.ifCond .ne 5, 3) := by decide +kernel
theorem dX12_cost_10 : decode cX12_cost 10 = .ok (.iconst (-1), 1) := by decide +kernel
theorem dX12_cost_11 : decode cX12_cost 11 = .ok (.ireturn, 1) := by decide +kernel
theorem dX12_cost_12 : decode cX12_cost 12 = .ok (.aload_n 0, 1) := by decide +kernel
theorem dX12_cost_13 : decode cX12_cost 13 = .ok (.getfield 7, 3) := by decide +kernel
theorem dX12_cost_16 : decode cX12_cost 16 = .ok (.iconst 5, 1) := by decide +kernel
theorem dX12_cost_17 : decode cX12_cost 17 = .ok (.if_icmp .le 6, 3) := by decide +kernel
theorem dX12_cost_20 : decode cX12_cost 20 = .ok (.bipush (-9), 2) := by decide +kernel
theorem dX12_cost_22 : decode cX12_cost 22 = .ok (.ireturn, 1) := by decide +kernel
theorem dX12_cost_23 : decode cX12_cost 23 = .ok (.aload_n 0, 1) := by decide +kernel
theorem dX12_cost_24 : decode cX12_cost 24 = .ok (.iconst (-1), 1) := by decide +kernel
theorem dX12_cost_25 : decode cX12_cost 25 = .ok (.invokevirtual 288, 3) := by decide +kernel
theorem dX12_cost_28 : decode cX12_cost 28 = .ok (.aload_n 0, 1) := by decide +kernel
theorem dX12_cost_29 : decode cX12_cost 29 = .ok (.getfield 117, 3) := by decide +kernel
theorem dX12_cost_32 : decode cX12_cost 32 = .ok (.istore_n 2, 1) := by decide +kernel
theorem dX12_cost_33 : decode cX12_cost 33 = .ok (.aload_n 0, 1) := by decide +kernel
theorem dX12_cost_34 : decode cX12_cost 34 = .ok (.iload_n 1, 1) := by decide +kernel
theorem dX12_cost_35 : decode cX12_cost 35 = .ok (.invokevirtual 288, 3) := by decide +kernel
theorem dX12_cost_38 : decode cX12_cost 38 = .ok (.aload_n 0, 1) := by decide +kernel
theorem dX12_cost_39 : decode cX12_cost 39 = .ok (.getfield 117, 3) := by decide +kernel
theorem dX12_cost_42 : decode cX12_cost 42 = .ok (.iload_n 2, 1) := by decide +kernel
theorem dX12_cost_43 : decode cX12_cost 43 = .ok (.isub, 1) := by decide +kernel
theorem dX12_cost_44 : decode cX12_cost 44 = .ok (.ireturn, 1) := by decide +kernel
theorem dX12_areNear_0 : decode cX12_areNear 0 = .ok (.aload_n 0, 1) := by decide +kernel
theorem dX12_areNear_1 : decode cX12_areNear 1 = .ok (.getfield 35, 3) := by decide +kernel
theorem dX12_areNear_4 : decode cX12_areNear 4 = .ok (.iload_n 1, 1) := by decide +kernel
theorem dX12_areNear_5 : decode cX12_areNear 5 = .ok (.iaload, 1) := by decide +kernel
theorem dX12_areNear_6 : decode cX12_areNear 6 = .ok (.iconst 2, 1) := by decide +kernel
theorem dX12_areNear_7 : decode cX12_areNear 7 = .ok (.idiv, 1) := by decide +kernel
theorem dX12_areNear_8 : decode cX12_areNear 8 = .ok (.aload_n 0, 1) := by decide +kernel
theorem dX12_areNear_9 : decode cX12_areNear 9 = .ok (.getfield 35, 3) := by decide +kernel
theorem dX12_areNear_12 : decode cX12_areNear 12 = .ok (.iload_n 2, 1) := by decide +kernel
theorem dX12_areNear_13 : decode cX12_areNear 13 = .ok (.iaload, 1) := by decide +kernel
theorem dX12_areNear_14 : decode cX12_areNear 14 = .ok (.iconst 2, 1) := by decide +kernel
theorem dX12_areNear_15 : decode cX12_areNear 15 = .ok (.idiv, 1) := by decide +kernel
theorem dX12_areNear_16 : decode cX12_areNear 16 = .ok (.ixor, 1) := by decide +kernel
theorem dX12_areNear_17 : decode cX12_areNear 17 = .ok (.istore_n 3, 1) := by decide +kernel
theorem dX12_areNear_18 : decode cX12_areNear 18 = .ok (.iload_n 3, 1) := by decide +kernel
theorem dX12_areNear_19 : decode cX12_areNear 19 = .ok (.iconst 3, 1) := by decide +kernel
theorem dX12_areNear_20 : decode cX12_areNear 20 = .ok (.if_icmp .ge 7, 3) := by decide +kernel
theorem dX12_areNear_23 : decode cX12_areNear 23 = .ok (.iconst 1, 1) := by decide +kernel
theorem dX12_areNear_24 : decode cX12_areNear 24 = .ok (.goto 4, 3) := by decide +kernel
theorem dX12_areNear_27 : decode cX12_areNear 27 = .ok (.iconst 0, 1) := by decide +kernel
theorem dX12_areNear_28 : decode cX12_areNear 28 = .ok (.ireturn, 1) := by decide +kernel
set_option maxRecDepth 20000 in
theorem ggX12_talkBehind_X12_hushNow : GoodIn wsX12_talkBehind wsX12_hushNow := goodIn_r _ [8, 9, 10, 11, 12, 13, 7, 14, 15, 16, 17, 18, 19, 20, 30, 31, 32, 33, 34, 35, 36, 37, 38, 39, 40, 41, 42, 43, 44, 45, 46, 47, 48, 49, 50, 51, 52, 53, 54, 55, 56, 57, 58, 59, 60, 61, 62, 63, 64, 65, 66, 67, 68, 69, 70, 71, 72, 73, 74, 75, 76, 77, 78, 79, 80] (by decide +kernel) (by decide +kernel)
set_option maxRecDepth 20000 in
theorem gX12_talkBehind_X12_hushNow : GoodIn wsX12_talkBehind (wsV RX12 272 RX12 yX12_hushNow wsX12_hushNow) := goodIn_app (goodIn_of _ (by decide +kernel)) ggX12_talkBehind_X12_hushNow
set_option maxRecDepth 20000 in
theorem ggX12_talkBehind_X12_has : GoodIn wsX12_talkBehind wsX12_has := goodIn_r _ [24] (by decide +kernel) (by decide +kernel)
set_option maxRecDepth 20000 in
theorem gX12_talkBehind_X12_has : GoodIn wsX12_talkBehind (wsV RX12 291 RX12 yX12_has wsX12_has) := goodIn_app (goodIn_of _ (by decide +kernel)) ggX12_talkBehind_X12_has
set_option maxRecDepth 20000 in
theorem ggX12_talkBehind_X12_areNear : GoodIn wsX12_talkBehind wsX12_areNear := goodIn_r _ [28, 29, 30, 31, 32, 33, 34, 35, 36, 37, 38, 39, 40, 41, 42, 43, 44, 45, 46, 47, 48, 49, 50, 51, 52, 53, 54, 55, 56, 57, 58, 59, 60, 61, 62, 63, 64, 65, 66, 67, 68, 69, 70, 71, 72, 73, 74, 75, 76, 77, 78, 79, 80] (by decide +kernel) (by decide +kernel)
set_option maxRecDepth 20000 in
theorem gX12_talkBehind_X12_areNear : GoodIn wsX12_talkBehind (wsV RX12 294 RX12 yX12_areNear wsX12_areNear) := goodIn_app (goodIn_of _ (by decide +kernel)) ggX12_talkBehind_X12_areNear
theorem dX12_talkBehind_0 : decode cX12_talkBehind 0 = .ok (.iconst 0, 1) := by decide +kernel
theorem dX12_talkBehind_1 : decode cX12_talkBehind 1 = .ok (.istore_n 3, 1) := by decide +kernel
theorem dX12_talkBehind_2 : decode cX12_talkBehind 2 = .ok (.aload_n 0, 1) := by decide +kernel
theorem dX12_talkBehind_3 : decode cX12_talkBehind 3 = .ok (.invokevirtual 272, 3) := by decide +kernel
theorem dX12_talkBehind_6 : decode cX12_talkBehind 6 = .ok (.istore 4, 2) := by decide +kernel
theorem dX12_talkBehind_8 : decode cX12_talkBehind 8 = .ok (.iconst 0, 1) := by decide +kernel
theorem dX12_talkBehind_9 : decode cX12_talkBehind 9 = .ok (.istore 5, 2) := by decide +kernel
theorem dX12_talkBehind_11 : decode cX12_talkBehind 11 = .ok (.iload 5, 2) := by decide +kernel
theorem dX12_talkBehind_13 : decode cX12_talkBehind 13 = .ok (.aload_n 0, 1) := by decide +kernel
theorem dX12_talkBehind_14 : decode cX12_talkBehind 14 = .ok (.getfield 7, 3) := by decide +kernel
theorem dX12_talkBehind_17 : decode cX12_talkBehind 17 = .ok (.if_icmp .ge 165, 3) := by decide +kernel
theorem dX12_talkBehind_20 : decode cX12_talkBehind 20 = .ok (.iload 5, 2) := by decide +kernel
theorem dX12_talkBehind_22 : decode cX12_talkBehind 22 = .ok (.iload_n 2, 1) := by decide +kernel
theorem dX12_talkBehind_23 : decode cX12_talkBehind 23 = .ok (.if_icmp .ne 6, 3) := by decide +kernel
theorem dX12_talkBehind_26 : decode cX12_talkBehind 26 = .ok (.goto 150, 3) := by decide +kernel
theorem dX12_talkBehind_29 : decode cX12_talkBehind 29 = .ok (.iconst 0, 1) := by decide +kernel
theorem dX12_talkBehind_30 : decode cX12_talkBehind 30 = .ok (.istore 6, 2) := by decide +kernel
theorem dX12_talkBehind_32 : decode cX12_talkBehind 32 = .ok (.iconst 0, 1) := by decide +kernel
theorem dX12_talkBehind_33 : decode cX12_talkBehind 33 = .ok (.istore 7, 2) := by decide +kernel
theorem dX12_talkBehind_35 : decode cX12_talkBehind 35 = .ok (.iconst 0, 1) := by decide +kernel
theorem dX12_talkBehind_36 : decode cX12_talkBehind 36 = .ok (.istore 8, 2) := by decide +kernel
theorem dX12_talkBehind_38 : decode cX12_talkBehind 38 = .ok (.iload 8, 2) := by decide +kernel
theorem dX12_talkBehind_40 : decode cX12_talkBehind 40 = .ok (.aload_n 0, 1) := by decide +kernel
theorem dX12_talkBehind_41 : decode cX12_talkBehind 41 = .ok (.getfield 7, 3) := by decide +kernel
theorem dX12_talkBehind_44 : decode cX12_talkBehind 44 = .ok (.if_icmp .ge 55, 3) := by decide +kernel
theorem dX12_talkBehind_47 : decode cX12_talkBehind 47 = .ok (.iload 8, 2) := by decide +kernel
theorem dX12_talkBehind_49 : decode cX12_talkBehind 49 = .ok (.iload 5, 2) := by decide +kernel
theorem dX12_talkBehind_51 : decode cX12_talkBehind 51 = .ok (.if_icmp .eq 42, 3) := by decide +kernel
theorem dX12_talkBehind_54 : decode cX12_talkBehind 54 = .ok (.aload_n 0, 1) := by decide +kernel
theorem dX12_talkBehind_55 : decode cX12_talkBehind 55 = .ok (.iload_n 1, 1) := by decide +kernel
theorem dX12_talkBehind_56 : decode cX12_talkBehind 56 = .ok (.iload 8, 2) := by decide +kernel
theorem dX12_talkBehind_58 : decode cX12_talkBehind 58 = .ok (.invokevirtual 291, 3) := by decide +kernel
theorem dX12_talkBehind_61 : decode cX12_talkBehind 61 = .ok (.ifCond .eq 32, 3) := by decide +kernel
theorem dX12_talkBehind_64 : decode cX12_talkBehind 64 = .ok (.aload_n 0, 1) := by decide +kernel
theorem dX12_talkBehind_65 : decode cX12_talkBehind 65 = .ok (.iload 5, 2) := by decide +kernel
theorem dX12_talkBehind_67 : decode cX12_talkBehind 67 = .ok (.iload 8, 2) := by decide +kernel
theorem dX12_talkBehind_69 : decode cX12_talkBehind 69 = .ok (.invokevirtual 294, 3) := by decide +kernel
theorem dX12_talkBehind_72 : decode cX12_talkBehind 72 = .ok (.ifCond .ne 6, 3) := by decide +kernel
theorem dX12_talkBehind_75 : decode cX12_talkBehind 75 = .ok (.goto 18, 3) := by decide +kernel
theorem dX12_talkBehind_78 : decode cX12_talkBehind 78 = .ok (.iconst 1, 1) := by decide +kernel
theorem dX12_talkBehind_79 : decode cX12_talkBehind 79 = .ok (.istore 7, 2) := by decide +kernel
theorem dX12_talkBehind_81 : decode cX12_talkBehind 81 = .ok (.iload 6, 2) := by decide +kernel
theorem dX12_talkBehind_83 : decode cX12_talkBehind 83 = .ok (.aload_n 0, 1) := by decide +kernel
theorem dX12_talkBehind_84 : decode cX12_talkBehind 84 = .ok (.getfield 23, 3) := by decide +kernel
theorem dX12_talkBehind_87 : decode cX12_talkBehind 87 = .ok (.iload 8, 2) := by decide +kernel
theorem dX12_talkBehind_89 : decode cX12_talkBehind 89 = .ok (.iaload, 1) := by decide +kernel
theorem dX12_talkBehind_90 : decode cX12_talkBehind 90 = .ok (.iadd, 1) := by decide +kernel
theorem dX12_talkBehind_91 : decode cX12_talkBehind 91 = .ok (.istore 6, 2) := by decide +kernel
theorem dX12_talkBehind_93 : decode cX12_talkBehind 93 = .ok (.iinc 8 1, 3) := by decide +kernel
theorem dX12_talkBehind_96 : decode cX12_talkBehind 96 = .ok (.goto (-58), 3) := by decide +kernel
theorem dX12_talkBehind_99 : decode cX12_talkBehind 99 = .ok (.iload 7, 2) := by decide +kernel
theorem dX12_talkBehind_101 : decode cX12_talkBehind 101 = .ok (.ifCond .eq 20, 3) := by decide +kernel
theorem dX12_talkBehind_104 : decode cX12_talkBehind 104 = .ok (.iload 6, 2) := by decide +kernel
theorem dX12_talkBehind_106 : decode cX12_talkBehind 106 = .ok (.iconst 2, 1) := by decide +kernel
theorem dX12_talkBehind_107 : decode cX12_talkBehind 107 = .ok (.idiv, 1) := by decide +kernel
theorem dX12_talkBehind_108 : decode cX12_talkBehind 108 = .ok (.aload_n 0, 1) := by decide +kernel
theorem dX12_talkBehind_109 : decode cX12_talkBehind 109 = .ok (.getfield 23, 3) := by decide +kernel
theorem dX12_talkBehind_112 : decode cX12_talkBehind 112 = .ok (.iload 5, 2) := by decide +kernel
theorem dX12_talkBehind_114 : decode cX12_talkBehind 114 = .ok (.iaload, 1) := by decide +kernel
theorem dX12_talkBehind_115 : decode cX12_talkBehind 115 = .ok (.iadd, 1) := by decide +kernel
theorem dX12_talkBehind_116 : decode cX12_talkBehind 116 = .ok (.iload 4, 2) := by decide +kernel
theorem dX12_talkBehind_118 : decode cX12_talkBehind 118 = .ok (.if_icmp .gt 35, 3) := by decide +kernel
theorem dX12_talkBehind_121 : decode cX12_talkBehind 121 = .ok (.aload_n 0, 1) := by decide +kernel
theorem dX12_talkBehind_122 : decode cX12_talkBehind 122 = .ok (.iload_n 1, 1) := by decide +kernel
theorem dX12_talkBehind_123 : decode cX12_talkBehind 123 = .ok (.iload 5, 2) := by decide +kernel
theorem dX12_talkBehind_125 : decode cX12_talkBehind 125 = .ok (.invokevirtual 291, 3) := by decide +kernel
theorem dX12_talkBehind_128 : decode cX12_talkBehind 128 = .ok (.ifCond .eq 29, 3) := by decide +kernel
theorem dX12_talkBehind_131 : decode cX12_talkBehind 131 = .ok (.aload_n 0, 1) := by decide +kernel
theorem dX12_talkBehind_132 : decode cX12_talkBehind 132 = .ok (.getfield 16, 3) := by decide +kernel
theorem dX12_talkBehind_135 : decode cX12_talkBehind 135 = .ok (.iload 5, 2) := by decide +kernel
theorem dX12_talkBehind_137 : decode cX12_talkBehind 137 = .ok (.iaload, 1) := by decide +kernel
theorem dX12_talkBehind_138 : decode cX12_talkBehind 138 = .ok (.iconst 2, 1) := by decide +kernel
theorem dX12_talkBehind_139 : decode cX12_talkBehind 139 = .ok (.if_icmp .eq 14, 3) := by decide +kernel
theorem dX12_talkBehind_142 : decode cX12_talkBehind 142 = .ok (.aload_n 0, 1) := by decide +kernel
theorem dX12_talkBehind_143 : decode cX12_talkBehind 143 = .ok (.getfield 16, 3) := by decide +kernel
theorem dX12_talkBehind_146 : decode cX12_talkBehind 146 = .ok (.iload 5, 2) := by decide +kernel
theorem dX12_talkBehind_148 : decode cX12_talkBehind 148 = .ok (.iaload, 1) := by decide +kernel
theorem dX12_talkBehind_149 : decode cX12_talkBehind 149 = .ok (.iconst 5, 1) := by decide +kernel
theorem dX12_talkBehind_150 : decode cX12_talkBehind 150 = .ok (.if_icmp .ne 7, 3) := by decide +kernel
theorem dX12_talkBehind_153 : decode cX12_talkBehind 153 = .ok (.iconst 1, 1) := by decide +kernel
theorem dX12_talkBehind_154 : decode cX12_talkBehind 154 = .ok (.goto 4, 3) := by decide +kernel
theorem dX12_talkBehind_157 : decode cX12_talkBehind 157 = .ok (.iconst 0, 1) := by decide +kernel
theorem dX12_talkBehind_158 : decode cX12_talkBehind 158 = .ok (.istore 8, 2) := by decide +kernel
theorem dX12_talkBehind_160 : decode cX12_talkBehind 160 = .ok (.iload_n 3, 1) := by decide +kernel
theorem dX12_talkBehind_161 : decode cX12_talkBehind 161 = .ok (.iload 8, 2) := by decide +kernel
theorem dX12_talkBehind_163 : decode cX12_talkBehind 163 = .ok (.ifCond .eq 10, 3) := by decide +kernel
theorem dX12_talkBehind_166 : decode cX12_talkBehind 166 = .ok (.iconst 1, 1) := by decide +kernel
theorem dX12_talkBehind_167 : decode cX12_talkBehind 167 = .ok (.iload 5, 2) := by decide +kernel
theorem dX12_talkBehind_169 : decode cX12_talkBehind 169 = .ok (.ishl, 1) := by decide +kernel
theorem dX12_talkBehind_170 : decode cX12_talkBehind 170 = .ok (.goto 4, 3) := by decide +kernel
theorem dX12_talkBehind_173 : decode cX12_talkBehind 173 = .ok (.iconst 0, 1) := by decide +kernel
theorem dX12_talkBehind_174 : decode cX12_talkBehind 174 = .ok (.ior, 1) := by decide +kernel
theorem dX12_talkBehind_175 : decode cX12_talkBehind 175 = .ok (.istore_n 3, 1) := by decide +kernel
theorem dX12_talkBehind_176 : decode cX12_talkBehind 176 = .ok (.iinc 5 1, 3) := by decide +kernel
theorem dX12_talkBehind_179 : decode cX12_talkBehind 179 = .ok (.goto (-168), 3) := by decide +kernel
theorem dX12_talkBehind_182 : decode cX12_talkBehind 182 = .ok (.iload_n 3, 1) := by decide +kernel
theorem dX12_talkBehind_183 : decode cX12_talkBehind 183 = .ok (.ireturn, 1) := by decide +kernel
set_option maxRecDepth 20000 in
theorem ggX12_arePupils_X12_in : GoodIn wsX12_arePupils wsX12_in := goodIn_r _ [6] (by decide +kernel) (by decide +kernel)
set_option maxRecDepth 20000 in
theorem gX12_arePupils_X12_in : GoodIn wsX12_arePupils (wsV RX12 167 RX12 yX12_in wsX12_in) := goodIn_app (goodIn_of _ (by decide +kernel)) ggX12_arePupils_X12_in
theorem dX12_arePupils_0 : decode cX12_arePupils 0 = .ok (.aload_n 0, 1) := by decide +kernel
theorem dX12_arePupils_1 : decode cX12_arePupils 1 = .ok (.iload_n 1, 1) := by decide +kernel
theorem dX12_arePupils_2 : decode cX12_arePupils 2 = .ok (.iconst 0, 1) := by decide +kernel
theorem dX12_arePupils_3 : decode cX12_arePupils 3 = .ok (.iconst 1, 1) := by decide +kernel
theorem dX12_arePupils_4 : decode cX12_arePupils 4 = .ok (.aload_n 0, 1) := by decide +kernel
theorem dX12_arePupils_5 : decode cX12_arePupils 5 = .ok (.getfield 7, 3) := by decide +kernel
theorem dX12_arePupils_8 : decode cX12_arePupils 8 = .ok (.ishl, 1) := by decide +kernel
theorem dX12_arePupils_9 : decode cX12_arePupils 9 = .ok (.iconst 1, 1) := by decide +kernel
theorem dX12_arePupils_10 : decode cX12_arePupils 10 = .ok (.isub, 1) := by decide +kernel
theorem dX12_arePupils_11 : decode cX12_arePupils 11 = .ok (.invokevirtual 167, 3) := by decide +kernel
theorem dX12_arePupils_14 : decode cX12_arePupils 14 = .ok (.ireturn, 1) := by decide +kernel
set_option maxRecDepth 20000 in
theorem ggX12_noiseOf_X12_has : GoodIn wsX12_noiseOf wsX12_has := goodIn_r _ [7] (by decide +kernel) (by decide +kernel)
set_option maxRecDepth 20000 in
theorem gX12_noiseOf_X12_has : GoodIn wsX12_noiseOf (wsV RX12 291 RX12 yX12_has wsX12_has) := goodIn_app (goodIn_of _ (by decide +kernel)) ggX12_noiseOf_X12_has
theorem dX12_noiseOf_0 : decode cX12_noiseOf 0 = .ok (.iconst 0, 1) := by decide +kernel
theorem dX12_noiseOf_1 : decode cX12_noiseOf 1 = .ok (.istore_n 2, 1) := by decide +kernel
theorem dX12_noiseOf_2 : decode cX12_noiseOf 2 = .ok (.iconst 0, 1) := by decide +kernel
theorem dX12_noiseOf_3 : decode cX12_noiseOf 3 = .ok (.istore_n 3, 1) := by decide +kernel
theorem dX12_noiseOf_4 : decode cX12_noiseOf 4 = .ok (.iload_n 3, 1) := by decide +kernel
theorem dX12_noiseOf_5 : decode cX12_noiseOf 5 = .ok (.aload_n 0, 1) := by decide +kernel
theorem dX12_noiseOf_6 : decode cX12_noiseOf 6 = .ok (.getfield 7, 3) := by decide +kernel
theorem dX12_noiseOf_9 : decode cX12_noiseOf 9 = .ok (.if_icmp .ge 31, 3) := by decide +kernel
theorem dX12_noiseOf_12 : decode cX12_noiseOf 12 = .ok (.iload_n 2, 1) := by decide +kernel
theorem dX12_noiseOf_13 : decode cX12_noiseOf 13 = .ok (.aload_n 0, 1) := by decide +kernel
theorem dX12_noiseOf_14 : decode cX12_noiseOf 14 = .ok (.iload_n 1, 1) := by decide +kernel
theorem dX12_noiseOf_15 : decode cX12_noiseOf 15 = .ok (.iload_n 3, 1) := by decide +kernel
theorem dX12_noiseOf_16 : decode cX12_noiseOf 16 = .ok (.invokevirtual 291, 3) := by decide +kernel
theorem dX12_noiseOf_19 : decode cX12_noiseOf 19 = .ok (.ifCond .eq 12, 3) := by decide +kernel
theorem dX12_noiseOf_22 : decode cX12_noiseOf 22 = .ok (.aload_n 0, 1) := by decide +kernel
theorem dX12_noiseOf_23 : decode cX12_noiseOf 23 = .ok (.getfield 23, 3) := by decide +kernel
theorem dX12_noiseOf_26 : decode cX12_noiseOf 26 = .ok (.iload_n 3, 1) := by decide +kernel
theorem dX12_noiseOf_27 : decode cX12_noiseOf 27 = .ok (.iaload, 1) := by decide +kernel
theorem dX12_noiseOf_28 : decode cX12_noiseOf 28 = .ok (.goto 4, 3) := by decide +kernel
theorem dX12_noiseOf_31 : decode cX12_noiseOf 31 = .ok (.iconst 0, 1) := by decide +kernel
theorem dX12_noiseOf_32 : decode cX12_noiseOf 32 = .ok (.iadd, 1) := by decide +kernel
theorem dX12_noiseOf_33 : decode cX12_noiseOf 33 = .ok (.istore_n 2, 1) := by decide +kernel
theorem dX12_noiseOf_34 : decode cX12_noiseOf 34 = .ok (.iinc 3 1, 3) := by decide +kernel
theorem dX12_noiseOf_37 : decode cX12_noiseOf 37 = .ok (.goto (-33), 3) := by decide +kernel
theorem dX12_noiseOf_40 : decode cX12_noiseOf 40 = .ok (.iload_n 2, 1) := by decide +kernel
theorem dX12_noiseOf_41 : decode cX12_noiseOf 41 = .ok (.ireturn, 1) := by decide +kernel
set_option maxRecDepth 20000 in
theorem ggX12_talkIn_X12_talkBehind : GoodIn wsX12_talkIn wsX12_talkBehind := goodIn_r _ [5, 6, 7, 8, 9, 10, 11, 4, 12, 13, 14, 15, 16, 17, 18, 19, 20, 21, 22, 23, 24, 25, 26, 27, 28, 29, 30, 31, 32, 33, 34, 35, 36, 37, 38, 39, 40, 41, 42, 43, 44, 45, 46, 47, 48, 49, 50, 51, 52, 53, 54, 55, 56, 57, 58, 59, 60, 61, 62, 63, 64, 65, 66, 67, 68, 69, 70, 71, 72, 73, 74, 75, 76, 77, 78, 79, 80, 81, 82, 83, 84] (by decide +kernel) (by decide +kernel)
set_option maxRecDepth 20000 in
theorem gX12_talkIn_X12_talkBehind : GoodIn wsX12_talkIn (wsV RX12 297 RX12 yX12_talkBehind wsX12_talkBehind) := goodIn_app (goodIn_of _ (by decide +kernel)) ggX12_talkIn_X12_talkBehind
theorem dX12_talkIn_0 : decode cX12_talkIn 0 = .ok (.iload_n 1, 1) := by decide +kernel
theorem dX12_talkIn_1 : decode cX12_talkIn 1 = .ok (.istore_n 3, 1) := by decide +kernel
theorem dX12_talkIn_2 : decode cX12_talkIn 2 = .ok (.iconst 0, 1) := by decide +kernel
theorem dX12_talkIn_3 : decode cX12_talkIn 3 = .ok (.istore 4, 2) := by decide +kernel
theorem dX12_talkIn_5 : decode cX12_talkIn 5 = .ok (.iload 4, 2) := by decide +kernel
theorem dX12_talkIn_7 : decode cX12_talkIn 7 = .ok (.iload_n 2, 1) := by decide +kernel
theorem dX12_talkIn_8 : decode cX12_talkIn 8 = .ok (.if_icmp .ge 16, 3) := by decide +kernel
theorem dX12_talkIn_11 : decode cX12_talkIn 11 = .ok (.aload_n 0, 1) := by decide +kernel
theorem dX12_talkIn_12 : decode cX12_talkIn 12 = .ok (.iload_n 3, 1) := by decide +kernel
theorem dX12_talkIn_13 : decode cX12_talkIn 13 = .ok (.iconst (-1), 1) := by decide +kernel
theorem dX12_talkIn_14 : decode cX12_talkIn 14 = .ok (.invokevirtual 297, 3) := by decide +kernel
theorem dX12_talkIn_17 : decode cX12_talkIn 17 = .ok (.istore_n 3, 1) := by decide +kernel
theorem dX12_talkIn_18 : decode cX12_talkIn 18 = .ok (.iinc 4 1, 3) := by decide +kernel
theorem dX12_talkIn_21 : decode cX12_talkIn 21 = .ok (.goto (-16), 3) := by decide +kernel
theorem dX12_talkIn_24 : decode cX12_talkIn 24 = .ok (.iload_n 3, 1) := by decide +kernel
theorem dX12_talkIn_25 : decode cX12_talkIn 25 = .ok (.ireturn, 1) := by decide +kernel
set_option maxRecDepth 20000 in
theorem ggX12_talk_X12_arePupils : GoodIn wsX12_talk wsX12_arePupils := goodIn_r _ [5, 6, 7, 8, 9, 4, 10, 46, 47, 48, 49, 50, 51, 52, 53, 54, 55, 56, 57, 58, 59, 60, 61, 62, 63, 64, 65, 66, 67, 68, 69, 70, 71, 72, 73, 74, 75, 76, 77, 78, 79, 80, 81, 82, 83, 84, 85, 86, 87, 88, 89, 90, 91, 92, 93, 94, 95, 96] (by decide +kernel) (by decide +kernel)
set_option maxRecDepth 20000 in
theorem gX12_talk_X12_arePupils : GoodIn wsX12_talk (wsV RX12 301 RX12 yX12_arePupils wsX12_arePupils) := goodIn_app (goodIn_of _ (by decide +kernel)) ggX12_talk_X12_arePupils
set_option maxRecDepth 20000 in
theorem ggX12_talk_X12_in : GoodIn wsX12_talk wsX12_in := goodIn_r _ [10] (by decide +kernel) (by decide +kernel)
set_option maxRecDepth 20000 in
theorem gX12_talk_X12_in : GoodIn wsX12_talk (wsV RX12 167 RX12 yX12_in wsX12_in) := goodIn_app (goodIn_of _ (by decide +kernel)) ggX12_talk_X12_in
set_option maxRecDepth 20000 in
theorem ggX12_talk_X12_talkIn : GoodIn wsX12_talk wsX12_talkIn := goodIn_r _ [14, 15, 16, 17, 4, 18, 6, 19, 20, 21, 22, 23, 24, 25, 26, 27, 28, 29, 30, 31, 32, 33, 34, 35, 36, 37, 38, 39, 40, 41, 42, 43, 44, 45, 46, 47, 48, 49, 50, 51, 52, 53, 54, 55, 56, 57, 58, 59, 60, 61, 62, 63, 64, 65, 66, 67, 68, 69, 70, 71, 72, 73, 74, 75, 76, 77, 78, 79, 80, 81, 82, 83, 84, 85, 86, 87, 88, 89, 90, 91, 92, 93, 94, 95, 96] (by decide +kernel) (by decide +kernel)
set_option maxRecDepth 20000 in
theorem gX12_talk_X12_talkIn : GoodIn wsX12_talk (wsV RX12 304 RX12 yX12_talkIn wsX12_talkIn) := goodIn_app (goodIn_of _ (by decide +kernel)) ggX12_talk_X12_talkIn
theorem dX12_talk_0 : decode cX12_talk 0 = .ok (.aload_n 0, 1) := by decide +kernel
theorem dX12_talk_1 : decode cX12_talk 1 = .ok (.iload_n 1, 1) := by decide +kernel
theorem dX12_talk_2 : decode cX12_talk 2 = .ok (.invokevirtual 301, 3) := by decide +kernel
theorem dX12_talk_5 : decode cX12_talk 5 = .ok (.ifCond .eq 14, 3) := by decide +kernel
theorem dX12_talk_8 : decode cX12_talk 8 = .ok (.aload_n 0, 1) := by decide +kernel
theorem dX12_talk_9 : decode cX12_talk 9 = .ok (.iload_n 2, 1) := by decide +kernel
theorem dX12_talk_10 : decode cX12_talk 10 = .ok (.iconst 0, 1) := by decide +kernel
theorem dX12_talk_11 : decode cX12_talk 11 = .ok (.bipush 60, 2) := by decide +kernel
theorem dX12_talk_13 : decode cX12_talk 13 = .ok (.invokevirtual 167, 3) := by decide +kernel
theorem dX12_talk_16 : decode cX12_talk 16 = .ok (.ifCond .ne 6, 3) := by decide +kernel
theorem dX12_talk_19 : decode cX12_talk 19 = .ok (.bipush (-2), 2) := by decide +kernel
theorem dX12_talk_21 : decode cX12_talk 21 = .ok (.ireturn, 1) := by decide +kernel
theorem dX12_talk_22 : decode cX12_talk 22 = .ok (.aload_n 0, 1) := by decide +kernel
theorem dX12_talk_23 : decode cX12_talk 23 = .ok (.iload_n 1, 1) := by decide +kernel
theorem dX12_talk_24 : decode cX12_talk 24 = .ok (.iload_n 2, 1) := by decide +kernel
theorem dX12_talk_25 : decode cX12_talk 25 = .ok (.invokevirtual 304, 3) := by decide +kernel
theorem dX12_talk_28 : decode cX12_talk 28 = .ok (.ireturn, 1) := by decide +kernel
set_option maxRecDepth 20000 in
theorem ggX12_noise_X12_in : GoodIn wsX12_noise wsX12_in := goodIn_r _ [5] (by decide +kernel) (by decide +kernel)
set_option maxRecDepth 20000 in
theorem gX12_noise_X12_in : GoodIn wsX12_noise (wsV RX12 167 RX12 yX12_in wsX12_in) := goodIn_app (goodIn_of _ (by decide +kernel)) ggX12_noise_X12_in
set_option maxRecDepth 20000 in
theorem ggX12_noise_X12_arePupils : GoodIn wsX12_noise wsX12_arePupils := goodIn_r _ [9, 10, 1, 2, 3, 4, 5, 50, 51, 52, 53, 54, 55, 56, 57, 58, 59, 60, 61, 62, 63, 64, 65, 66, 67, 68, 69, 70, 71, 72, 73, 74, 75, 76, 77, 78, 79, 80, 81, 82, 83, 84, 85, 86, 87, 88, 89, 90, 91, 92, 93, 94, 95, 96, 97, 98, 99, 100] (by decide +kernel) (by decide +kernel)
set_option maxRecDepth 20000 in
theorem gX12_noise_X12_arePupils : GoodIn wsX12_noise (wsV RX12 301 RX12 yX12_arePupils wsX12_arePupils) := goodIn_app (goodIn_of _ (by decide +kernel)) ggX12_noise_X12_arePupils
set_option maxRecDepth 20000 in
theorem ggX12_noise_X12_talkIn : GoodIn wsX12_noise wsX12_talkIn := goodIn_r _ [14, 15, 16, 17, 4, 18, 10, 19, 20, 21, 22, 23, 24, 25, 26, 27, 28, 29, 30, 31, 32, 33, 34, 35, 36, 37, 38, 39, 40, 41, 42, 43, 44, 45, 50, 51, 52, 53, 54, 55, 56, 57, 58, 59, 60, 61, 62, 63, 64, 65, 66, 67, 68, 69, 70, 71, 72, 73, 74, 75, 76, 77, 78, 79, 80, 81, 82, 83, 84, 85, 86, 87, 88, 89, 90, 91, 92, 93, 94, 95, 96, 97, 98, 99, 100] (by decide +kernel) (by decide +kernel)
set_option maxRecDepth 20000 in
theorem gX12_noise_X12_talkIn : GoodIn wsX12_noise (wsV RX12 304 RX12 yX12_talkIn wsX12_talkIn) := goodIn_app (goodIn_of _ (by decide +kernel)) ggX12_noise_X12_talkIn
set_option maxRecDepth 20000 in
theorem ggX12_noise_X12_noiseOf : GoodIn wsX12_noise wsX12_noiseOf := goodIn_r _ [49, 10, 19, 37, 38, 39, 4, 40, 50, 51, 52, 53, 54, 55, 56, 57, 58, 59, 60, 61, 62, 63, 64, 65, 66, 67, 68, 69, 70, 71, 72, 73, 74, 75, 76, 77, 78, 79, 80, 81, 82, 83, 84, 85, 86, 87, 88, 89, 90, 91, 92, 93, 94, 95, 96, 97, 98, 99, 100] (by decide +kernel) (by decide +kernel)
set_option maxRecDepth 20000 in
theorem gX12_noise_X12_noiseOf : GoodIn wsX12_noise (wsV RX12 307 RX12 yX12_noiseOf wsX12_noiseOf) := goodIn_app (goodIn_of _ (by decide +kernel)) ggX12_noise_X12_noiseOf
set_option maxRecDepth 20000 in
theorem ggX12_noise_X12_talkBehind : GoodIn wsX12_noise wsX12_talkBehind := goodIn_r _ [18, 10, 19, 20, 21, 22, 23, 4, 24, 25, 26, 27, 28, 29, 30, 31, 32, 33, 34, 35, 36, 37, 38, 39, 40, 41, 42, 43, 44, 45, 50, 51, 52, 53, 54, 55, 56, 57, 58, 59, 60, 61, 62, 63, 64, 65, 66, 67, 68, 69, 70, 71, 72, 73, 74, 75, 76, 77, 78, 79, 80, 81, 82, 83, 84, 85, 86, 87, 88, 89, 90, 91, 92, 93, 94, 95, 96, 97, 98, 99, 100] (by decide +kernel) (by decide +kernel)
set_option maxRecDepth 20000 in
theorem gX12_noise_X12_talkBehind : GoodIn wsX12_noise (wsV RX12 297 RX12 yX12_talkBehind wsX12_talkBehind) := goodIn_app (goodIn_of _ (by decide +kernel)) ggX12_noise_X12_talkBehind
theorem dX12_noise_0 : decode cX12_noise 0 = .ok (.aload_n 0, 1) := by decide +kernel
theorem dX12_noise_1 : decode cX12_noise 1 = .ok (.iload_n 3, 1) := by decide +kernel
theorem dX12_noise_2 : decode cX12_noise 2 = .ok (.iconst 0, 1) := by decide +kernel
theorem dX12_noise_3 : decode cX12_noise 3 = .ok (.iconst 1, 1) := by decide +kernel
theorem dX12_noise_4 : decode cX12_noise 4 = .ok (.invokevirtual 167, 3) := by decide +kernel
theorem dX12_noise_7 : decode cX12_noise 7 = .ok (.ifCond .ne 5, 3) := by decide +kernel
theorem dX12_noise_10 : decode cX12_noise 10 = .ok (.iconst (-1), 1) := by decide +kernel
theorem dX12_noise_11 : decode cX12_noise 11 = .ok (.ireturn, 1) := by decide +kernel
theorem dX12_noise_12 : decode cX12_noise 12 = .ok (.aload_n 0, 1) := by decide +kernel
theorem dX12_noise_13 : decode cX12_noise 13 = .ok (.iload_n 1, 1) := by decide +kernel
theorem dX12_noise_14 : decode cX12_noise 14 = .ok (.invokevirtual 301, 3) := by decide +kernel
theorem dX12_noise_17 : decode cX12_noise 17 = .ok (.ifCond .eq 14, 3) := by decide +kernel
theorem dX12_noise_20 : decode cX12_noise 20 = .ok (.aload_n 0, 1) := by decide +kernel
theorem dX12_noise_21 : decode cX12_noise 21 = .ok (.iload_n 2, 1) := by decide +kernel
theorem dX12_noise_22 : decode cX12_noise 22 = .ok (.iconst 0, 1) := by decide +kernel
theorem dX12_noise_23 : decode cX12_noise 23 = .ok (.bipush 60, 2) := by decide +kernel
theorem dX12_noise_25 : decode cX12_noise 25 = .ok (.invokevirtual 167, 3) := by decide +kernel
theorem dX12_noise_28 : decode cX12_noise 28 = .ok (.ifCond .ne 6, 3) := by decide +kernel
theorem dX12_noise_31 : decode cX12_noise 31 = .ok (.bipush (-2), 2) := by decide +kernel
theorem dX12_noise_33 : decode cX12_noise 33 = .ok (.ireturn, 1) := by decide +kernel
theorem dX12_noise_34 : decode cX12_noise 34 = .ok (.iload_n 3, 1) := by decide +kernel
theorem dX12_noise_35 : decode cX12_noise 35 = .ok (.ifCond .ne 14, 3) := by decide +kernel
theorem dX12_noise_38 : decode cX12_noise 38 = .ok (.aload_n 0, 1) := by decide +kernel
theorem dX12_noise_39 : decode cX12_noise 39 = .ok (.aload_n 0, 1) := by decide +kernel
theorem dX12_noise_40 : decode cX12_noise 40 = .ok (.iload_n 1, 1) := by decide +kernel
theorem dX12_noise_41 : decode cX12_noise 41 = .ok (.iload_n 2, 1) := by decide +kernel
theorem dX12_noise_42 : decode cX12_noise 42 = .ok (.invokevirtual 304, 3) := by decide +kernel
theorem dX12_noise_45 : decode cX12_noise 45 = .ok (.invokevirtual 307, 3) := by decide +kernel
theorem dX12_noise_48 : decode cX12_noise 48 = .ok (.ireturn, 1) := by decide +kernel
theorem dX12_noise_49 : decode cX12_noise 49 = .ok (.iload_n 1, 1) := by decide +kernel
theorem dX12_noise_50 : decode cX12_noise 50 = .ok (.istore 4, 2) := by decide +kernel
theorem dX12_noise_52 : decode cX12_noise 52 = .ok (.iconst 0, 1) := by decide +kernel
theorem dX12_noise_53 : decode cX12_noise 53 = .ok (.istore 5, 2) := by decide +kernel
theorem dX12_noise_55 : decode cX12_noise 55 = .ok (.iload 5, 2) := by decide +kernel
theorem dX12_noise_57 : decode cX12_noise 57 = .ok (.bipush 61, 2) := by decide +kernel
theorem dX12_noise_59 : decode cX12_noise 59 = .ok (.if_icmp .ge 26, 3) := by decide +kernel
theorem dX12_noise_62 : decode cX12_noise 62 = .ok (.iload 4, 2) := by decide +kernel
theorem dX12_noise_64 : decode cX12_noise 64 = .ok (.ifCond .ne 6, 3) := by decide +kernel
theorem dX12_noise_67 : decode cX12_noise 67 = .ok (.iload 5, 2) := by decide +kernel
theorem dX12_noise_69 : decode cX12_noise 69 = .ok (.ireturn, 1) := by decide +kernel
theorem dX12_noise_70 : decode cX12_noise 70 = .ok (.aload_n 0, 1) := by decide +kernel
theorem dX12_noise_71 : decode cX12_noise 71 = .ok (.iload 4, 2) := by decide +kernel
theorem dX12_noise_73 : decode cX12_noise 73 = .ok (.iconst (-1), 1) := by decide +kernel
theorem dX12_noise_74 : decode cX12_noise 74 = .ok (.invokevirtual 297, 3) := by decide +kernel
theorem dX12_noise_77 : decode cX12_noise 77 = .ok (.istore 4, 2) := by decide +kernel
theorem dX12_noise_79 : decode cX12_noise 79 = .ok (.iinc 5 1, 3) := by decide +kernel
theorem dX12_noise_82 : decode cX12_noise 82 = .ok (.goto (-27), 3) := by decide +kernel
theorem dX12_noise_85 : decode cX12_noise 85 = .ok (.bipush (-5), 2) := by decide +kernel
theorem dX12_noise_87 : decode cX12_noise 87 = .ok (.ireturn, 1) := by decide +kernel
set_option maxRecDepth 20000 in
theorem ggX12_carries_X12_arePupils : GoodIn wsX12_carries wsX12_arePupils := goodIn_r _ [6, 1, 7, 8, 9, 5, 10, 46, 47, 48, 49, 50, 51, 52, 53, 54, 55, 56, 57, 58, 59, 60, 61, 62, 63, 64, 65, 66, 67, 68, 69, 70, 71, 72, 73, 74, 75, 76, 77, 78, 79, 80, 81, 82, 83, 84, 85, 86, 87, 88, 89, 90, 91, 92, 93, 94, 95, 96] (by decide +kernel) (by decide +kernel)
set_option maxRecDepth 20000 in
theorem gX12_carries_X12_arePupils : GoodIn wsX12_carries (wsV RX12 301 RX12 yX12_arePupils wsX12_arePupils) := goodIn_app (goodIn_of _ (by decide +kernel)) ggX12_carries_X12_arePupils
set_option maxRecDepth 20000 in
theorem ggX12_carries_X12_in : GoodIn wsX12_carries wsX12_in := goodIn_r _ [10] (by decide +kernel) (by decide +kernel)
set_option maxRecDepth 20000 in
theorem gX12_carries_X12_in : GoodIn wsX12_carries (wsV RX12 167 RX12 yX12_in wsX12_in) := goodIn_app (goodIn_of _ (by decide +kernel)) ggX12_carries_X12_in
set_option maxRecDepth 20000 in
theorem ggX12_carries_X12_noiseOf : GoodIn wsX12_carries wsX12_noiseOf := goodIn_r _ [14, 1, 15, 16, 17, 18, 5, 19, 46, 47, 48, 49, 50, 51, 52, 53, 54, 55, 56, 57, 58, 59, 60, 61, 62, 63, 64, 65, 66, 67, 68, 69, 70, 71, 72, 73, 74, 75, 76, 77, 78, 79, 80, 81, 82, 83, 84, 85, 86, 87, 88, 89, 90, 91, 92, 93, 94, 95, 96] (by decide +kernel) (by decide +kernel)
set_option maxRecDepth 20000 in
theorem gX12_carries_X12_noiseOf : GoodIn wsX12_carries (wsV RX12 307 RX12 yX12_noiseOf wsX12_noiseOf) := goodIn_app (goodIn_of _ (by decide +kernel)) ggX12_carries_X12_noiseOf
set_option maxRecDepth 20000 in
theorem ggX12_carries_X12_talkBehind : GoodIn wsX12_carries wsX12_talkBehind := goodIn_r _ [23, 1, 15, 24, 25, 26, 27, 5, 28, 29, 30, 31, 32, 33, 34, 35, 36, 37, 38, 39, 40, 16, 17, 18, 19, 41, 42, 43, 44, 45, 46, 47, 48, 49, 50, 51, 52, 53, 54, 55, 56, 57, 58, 59, 60, 61, 62, 63, 64, 65, 66, 67, 68, 69, 70, 71, 72, 73, 74, 75, 76, 77, 78, 79, 80, 81, 82, 83, 84, 85, 86, 87, 88, 89, 90, 91, 92, 93, 94, 95, 96] (by decide +kernel) (by decide +kernel)
set_option maxRecDepth 20000 in
theorem gX12_carries_X12_talkBehind : GoodIn wsX12_carries (wsV RX12 297 RX12 yX12_talkBehind wsX12_talkBehind) := goodIn_app (goodIn_of _ (by decide +kernel)) ggX12_carries_X12_talkBehind
theorem dX12_carries_0 : decode cX12_carries 0 = .ok (.aload_n 0, 1) := by decide +kernel
theorem dX12_carries_1 : decode cX12_carries 1 = .ok (.iload_n 1, 1) := by decide +kernel
theorem dX12_carries_2 : decode cX12_carries 2 = .ok (.invokevirtual 301, 3) := by decide +kernel
theorem dX12_carries_5 : decode cX12_carries 5 = .ok (.ifCond .eq 14, 3) := by decide +kernel
theorem dX12_carries_8 : decode cX12_carries 8 = .ok (.aload_n 0, 1) := by decide +kernel
theorem dX12_carries_9 : decode cX12_carries 9 = .ok (.iload_n 2, 1) := by decide +kernel
theorem dX12_carries_10 : decode cX12_carries 10 = .ok (.iconst 0, 1) := by decide +kernel
theorem dX12_carries_11 : decode cX12_carries 11 = .ok (.bipush 30, 2) := by decide +kernel
theorem dX12_carries_13 : decode cX12_carries 13 = .ok (.invokevirtual 167, 3) := by decide +kernel
theorem dX12_carries_16 : decode cX12_carries 16 = .ok (.ifCond .ne 6, 3) := by decide +kernel
theorem dX12_carries_19 : decode cX12_carries 19 = .ok (.bipush (-2), 2) := by decide +kernel
theorem dX12_carries_21 : decode cX12_carries 21 = .ok (.ireturn, 1) := by decide +kernel
theorem dX12_carries_22 : decode cX12_carries 22 = .ok (.bipush (-5), 2) := by decide +kernel
theorem dX12_carries_24 : decode cX12_carries 24 = .ok (.istore_n 3, 1) := by decide +kernel
theorem dX12_carries_25 : decode cX12_carries 25 = .ok (.iconst 0, 1) := by decide +kernel
theorem dX12_carries_26 : decode cX12_carries 26 = .ok (.istore 4, 2) := by decide +kernel
theorem dX12_carries_28 : decode cX12_carries 28 = .ok (.iconst 0, 1) := by decide +kernel
theorem dX12_carries_29 : decode cX12_carries 29 = .ok (.istore 5, 2) := by decide +kernel
theorem dX12_carries_31 : decode cX12_carries 31 = .ok (.iload 5, 2) := by decide +kernel
theorem dX12_carries_33 : decode cX12_carries 33 = .ok (.aload_n 0, 1) := by decide +kernel
theorem dX12_carries_34 : decode cX12_carries 34 = .ok (.getfield 7, 3) := by decide +kernel
theorem dX12_carries_37 : decode cX12_carries 37 = .ok (.if_icmp .ge 84, 3) := by decide +kernel
theorem dX12_carries_40 : decode cX12_carries 40 = .ok (.iload_n 1, 1) := by decide +kernel
theorem dX12_carries_41 : decode cX12_carries 41 = .ok (.iconst 1, 1) := by decide +kernel
theorem dX12_carries_42 : decode cX12_carries 42 = .ok (.iload 5, 2) := by decide +kernel
theorem dX12_carries_44 : decode cX12_carries 44 = .ok (.ishl, 1) := by decide +kernel
theorem dX12_carries_45 : decode cX12_carries 45 = .ok (.iconst (-1), 1) := by decide +kernel
theorem dX12_carries_46 : decode cX12_carries 46 = .ok (.ixor, 1) := by decide +kernel
theorem dX12_carries_47 : decode cX12_carries 47 = .ok (.iand, 1) := by decide +kernel
theorem dX12_carries_48 : decode cX12_carries 48 = .ok (.istore 6, 2) := by decide +kernel
theorem dX12_carries_50 : decode cX12_carries 50 = .ok (.aload_n 0, 1) := by decide +kernel
theorem dX12_carries_51 : decode cX12_carries 51 = .ok (.iload 6, 2) := by decide +kernel
theorem dX12_carries_53 : decode cX12_carries 53 = .ok (.invokevirtual 307, 3) := by decide +kernel
theorem dX12_carries_56 : decode cX12_carries 56 = .ok (.istore 7, 2) := by decide +kernel
theorem dX12_carries_58 : decode cX12_carries 58 = .ok (.iconst 0, 1) := by decide +kernel
theorem dX12_carries_59 : decode cX12_carries 59 = .ok (.istore 8, 2) := by decide +kernel
theorem dX12_carries_61 : decode cX12_carries 61 = .ok (.iload 8, 2) := by decide +kernel
theorem dX12_carries_63 : decode cX12_carries 63 = .ok (.iload_n 2, 1) := by decide +kernel
theorem dX12_carries_64 : decode cX12_carries 64 = .ok (.if_icmp .ge 30, 3) := by decide +kernel
theorem dX12_carries_67 : decode cX12_carries 67 = .ok (.aload_n 0, 1) := by decide +kernel
theorem dX12_carries_68 : decode cX12_carries 68 = .ok (.iload 6, 2) := by decide +kernel
theorem dX12_carries_70 : decode cX12_carries 70 = .ok (.iload 5, 2) := by decide +kernel
theorem dX12_carries_72 : decode cX12_carries 72 = .ok (.invokevirtual 297, 3) := by decide +kernel
theorem dX12_carries_75 : decode cX12_carries 75 = .ok (.istore 6, 2) := by decide +kernel
theorem dX12_carries_77 : decode cX12_carries 77 = .ok (.iload 7, 2) := by decide +kernel
theorem dX12_carries_79 : decode cX12_carries 79 = .ok (.aload_n 0, 1) := by decide +kernel
theorem dX12_carries_80 : decode cX12_carries 80 = .ok (.iload 6, 2) := by decide +kernel
theorem dX12_carries_82 : decode cX12_carries 82 = .ok (.invokevirtual 307, 3) := by decide +kernel
theorem dX12_carries_85 : decode cX12_carries 85 = .ok (.iadd, 1) := by decide +kernel
theorem dX12_carries_86 : decode cX12_carries 86 = .ok (.istore 7, 2) := by decide +kernel
theorem dX12_carries_88 : decode cX12_carries 88 = .ok (.iinc 8 1, 3) := by decide +kernel
theorem dX12_carries_91 : decode cX12_carries 91 = .ok (.goto (-30), 3) := by decide +kernel
theorem dX12_carries_94 : decode cX12_carries 94 = .ok (.iload_n 3, 1) := by decide +kernel
theorem dX12_carries_95 : decode cX12_carries 95 = .ok (.ifCond .lt 13, 3) := by decide +kernel
theorem dX12_carries_98 : decode cX12_carries 98 = .ok (.iload 7, 2) := by decide +kernel
theorem dX12_carries_100 : decode cX12_carries 100 = .ok (.iload 4, 2) := by decide +kernel
theorem dX12_carries_102 : decode cX12_carries 102 = .ok (.if_icmp .lt 6, 3) := by decide +kernel
theorem dX12_carries_105 : decode cX12_carries 105 = .ok (.goto 10, 3) := by decide +kernel
theorem dX12_carries_108 : decode cX12_carries 108 = .ok (.iload 5, 2) := by decide +kernel
theorem dX12_carries_110 : decode cX12_carries 110 = .ok (.istore_n 3, 1) := by decide +kernel
theorem dX12_carries_111 : decode cX12_carries 111 = .ok (.iload 7, 2) := by decide +kernel
theorem dX12_carries_113 : decode cX12_carries 113 = .ok (.istore 4, 2) := by decide +kernel
theorem dX12_carries_115 : decode cX12_carries 115 = .ok (.iinc 5 1, 3) := by decide +kernel
theorem dX12_carries_118 : decode cX12_carries 118 = .ok (.goto (-87), 3) := by decide +kernel
theorem dX12_carries_121 : decode cX12_carries 121 = .ok (.iload_n 3, 1) := by decide +kernel
theorem dX12_carries_122 : decode cX12_carries 122 = .ok (.ireturn, 1) := by decide +kernel
theorem dX12_namedOf_0 : decode cX12_namedOf 0 = .ok (.iconst 0, 1) := by decide +kernel
theorem dX12_namedOf_1 : decode cX12_namedOf 1 = .ok (.istore_n 2, 1) := by decide +kernel
theorem dX12_namedOf_2 : decode cX12_namedOf 2 = .ok (.iconst 0, 1) := by decide +kernel
theorem dX12_namedOf_3 : decode cX12_namedOf 3 = .ok (.istore_n 3, 1) := by decide +kernel
theorem dX12_namedOf_4 : decode cX12_namedOf 4 = .ok (.iload_n 3, 1) := by decide +kernel
theorem dX12_namedOf_5 : decode cX12_namedOf 5 = .ok (.aload_n 0, 1) := by decide +kernel
theorem dX12_namedOf_6 : decode cX12_namedOf 6 = .ok (.getfield 7, 3) := by decide +kernel
theorem dX12_namedOf_9 : decode cX12_namedOf 9 = .ok (.if_icmp .ge 27, 3) := by decide +kernel
theorem dX12_namedOf_12 : decode cX12_namedOf 12 = .ok (.iload_n 2, 1) := by decide +kernel
theorem dX12_namedOf_13 : decode cX12_namedOf 13 = .ok (.aload_n 0, 1) := by decide +kernel
theorem dX12_namedOf_14 : decode cX12_namedOf 14 = .ok (.getfield 32, 3) := by decide +kernel
theorem dX12_namedOf_17 : decode cX12_namedOf 17 = .ok (.iload_n 3, 1) := by decide +kernel
theorem dX12_namedOf_18 : decode cX12_namedOf 18 = .ok (.iaload, 1) := by decide +kernel
theorem dX12_namedOf_19 : decode cX12_namedOf 19 = .ok (.iload_n 1, 1) := by decide +kernel
theorem dX12_namedOf_20 : decode cX12_namedOf 20 = .ok (.if_icmp .ne 7, 3) := by decide +kernel
theorem dX12_namedOf_23 : decode cX12_namedOf 23 = .ok (.iconst 1, 1) := by decide +kernel
theorem dX12_namedOf_24 : decode cX12_namedOf 24 = .ok (.goto 4, 3) := by decide +kernel
theorem dX12_namedOf_27 : decode cX12_namedOf 27 = .ok (.iconst 0, 1) := by decide +kernel
theorem dX12_namedOf_28 : decode cX12_namedOf 28 = .ok (.iadd, 1) := by decide +kernel
theorem dX12_namedOf_29 : decode cX12_namedOf 29 = .ok (.istore_n 2, 1) := by decide +kernel
theorem dX12_namedOf_30 : decode cX12_namedOf 30 = .ok (.iinc 3 1, 3) := by decide +kernel
theorem dX12_namedOf_33 : decode cX12_namedOf 33 = .ok (.goto (-29), 3) := by decide +kernel
theorem dX12_namedOf_36 : decode cX12_namedOf 36 = .ok (.iload_n 2, 1) := by decide +kernel
theorem dX12_namedOf_37 : decode cX12_namedOf 37 = .ok (.ireturn, 1) := by decide +kernel
set_option maxRecDepth 20000 in
theorem ggX12_named_X12_isPupil : GoodIn wsX12_named wsX12_isPupil := goodIn_r _ [5, 6, 7, 8, 9, 4, 10, 16, 17, 18, 19, 20, 21, 22, 23, 24, 25, 26, 27, 28, 29, 30, 31, 32, 33, 34, 35, 36, 37, 38, 39, 40, 41, 42, 43, 44, 45, 46, 47, 48, 49, 50, 51, 52, 53, 54, 55, 56, 57, 58, 59, 60, 61, 62, 63, 64, 65, 66] (by decide +kernel) (by decide +kernel)
set_option maxRecDepth 20000 in
theorem gX12_named_X12_isPupil : GoodIn wsX12_named (wsV RX12 171 RX12 yX12_isPupil wsX12_isPupil) := goodIn_app (goodIn_of _ (by decide +kernel)) ggX12_named_X12_isPupil
set_option maxRecDepth 20000 in
theorem ggX12_named_X12_namedOf : GoodIn wsX12_named wsX12_namedOf := goodIn_r _ [14, 6, 15, 16, 17, 18, 19, 20, 21, 22, 23, 24, 25, 26, 27, 28, 29, 30, 31, 32, 33, 34, 35, 36, 37, 38, 39, 40, 41, 42, 43, 44, 45, 46, 47, 48, 49, 50, 51, 52, 53, 54, 55, 56, 57, 58, 59, 60, 61, 62, 63, 64, 65, 66] (by decide +kernel) (by decide +kernel)
set_option maxRecDepth 20000 in
theorem gX12_named_X12_namedOf : GoodIn wsX12_named (wsV RX12 310 RX12 yX12_namedOf wsX12_namedOf) := goodIn_app (goodIn_of _ (by decide +kernel)) ggX12_named_X12_namedOf
theorem dX12_named_0 : decode cX12_named 0 = .ok (.aload_n 0, 1) := by decide +kernel
theorem dX12_named_1 : decode cX12_named 1 = .ok (.iload_n 1, 1) := by decide +kernel
theorem dX12_named_2 : decode cX12_named 2 = .ok (.invokevirtual 171, 3) := by decide +kernel
theorem dX12_named_5 : decode cX12_named 5 = .ok (.ifCond .eq 11, 3) := by decide +kernel
theorem dX12_named_8 : decode cX12_named 8 = .ok (.aload_n 0, 1) := by decide +kernel
theorem dX12_named_9 : decode cX12_named 9 = .ok (.iload_n 1, 1) := by decide +kernel
theorem dX12_named_10 : decode cX12_named 10 = .ok (.invokevirtual 310, 3) := by decide +kernel
theorem dX12_named_13 : decode cX12_named 13 = .ok (.goto 4, 3) := by decide +kernel
theorem dX12_named_16 : decode cX12_named 16 = .ok (.iconst (-1), 1) := by decide +kernel
theorem dX12_named_17 : decode cX12_named 17 = .ok (.ireturn, 1) := by decide +kernel
set_option maxRecDepth 20000 in
theorem ggX12_isClosed_X12_has : GoodIn wsX12_isClosed wsX12_has := goodIn_r _ [7] (by decide +kernel) (by decide +kernel)
set_option maxRecDepth 20000 in
theorem gX12_isClosed_X12_has : GoodIn wsX12_isClosed (wsV RX12 291 RX12 yX12_has wsX12_has) := goodIn_app (goodIn_of _ (by decide +kernel)) ggX12_isClosed_X12_has
theorem dX12_isClosed_0 : decode cX12_isClosed 0 = .ok (.iconst 0, 1) := by decide +kernel
theorem dX12_isClosed_1 : decode cX12_isClosed 1 = .ok (.istore_n 2, 1) := by decide +kernel
theorem dX12_isClosed_2 : decode cX12_isClosed 2 = .ok (.iload_n 2, 1) := by decide +kernel
theorem dX12_isClosed_3 : decode cX12_isClosed 3 = .ok (.aload_n 0, 1) := by decide +kernel
theorem dX12_isClosed_4 : decode cX12_isClosed 4 = .ok (.getfield 7, 3) := by decide +kernel
theorem dX12_isClosed_7 : decode cX12_isClosed 7 = .ok (.if_icmp .ge 50, 3) := by decide +kernel
theorem dX12_isClosed_10 : decode cX12_isClosed 10 = .ok (.aload_n 0, 1) := by decide +kernel
theorem dX12_isClosed_11 : decode cX12_isClosed 11 = .ok (.getfield 32, 3) := by decide +kernel
theorem dX12_isClosed_14 : decode cX12_isClosed 14 = .ok (.iload_n 2, 1) := by decide +kernel
theorem dX12_isClosed_15 : decode cX12_isClosed 15 = .ok (.iaload, 1) := by decide +kernel
theorem dX12_isClosed_16 : decode cX12_isClosed 16 = .ok (.ifCond .lt 21, 3) := by decide +kernel
theorem dX12_isClosed_19 : decode cX12_isClosed 19 = .ok (.aload_n 0, 1) := by decide +kernel
theorem dX12_isClosed_20 : decode cX12_isClosed 20 = .ok (.iload_n 1, 1) := by decide +kernel
theorem dX12_isClosed_21 : decode cX12_isClosed 21 = .ok (.aload_n 0, 1) := by decide +kernel
theorem dX12_isClosed_22 : decode cX12_isClosed 22 = .ok (.getfield 32, 3) := by decide +kernel
theorem dX12_isClosed_25 : decode cX12_isClosed 25 = .ok (.iload_n 2, 1) := by decide +kernel
theorem dX12_isClosed_26 : decode cX12_isClosed 26 = .ok (.iaload, 1) := by decide +kernel
theorem dX12_isClosed_27 : decode cX12_isClosed 27 = .ok (.invokevirtual 291, 3) := by decide +kernel
theorem dX12_isClosed_30 : decode cX12_isClosed 30 = .ok (.ifCond .eq 7, 3) := by decide +kernel
theorem dX12_isClosed_33 : decode cX12_isClosed 33 = .ok (.iconst 1, 1) := by decide +kernel
theorem dX12_isClosed_34 : decode cX12_isClosed 34 = .ok (.goto 4, 3) := by decide +kernel
theorem dX12_isClosed_37 : decode cX12_isClosed 37 = .ok (.iconst 0, 1) := by decide +kernel
theorem dX12_isClosed_38 : decode cX12_isClosed 38 = .ok (.istore_n 3, 1) := by decide +kernel
theorem dX12_isClosed_39 : decode cX12_isClosed 39 = .ok (.iload_n 3, 1) := by decide +kernel
theorem dX12_isClosed_40 : decode cX12_isClosed 40 = .ok (.aload_n 0, 1) := by decide +kernel
theorem dX12_isClosed_41 : decode cX12_isClosed 41 = .ok (.iload_n 1, 1) := by decide +kernel
theorem dX12_isClosed_42 : decode cX12_isClosed 42 = .ok (.iload_n 2, 1) := by decide +kernel
theorem dX12_isClosed_43 : decode cX12_isClosed 43 = .ok (.invokevirtual 291, 3) := by decide +kernel
theorem dX12_isClosed_46 : decode cX12_isClosed 46 = .ok (.if_icmp .eq 5, 3) := by decide +kernel
theorem dX12_isClosed_49 : decode cX12_isClosed 49 = .ok (.iconst 0, 1) := by decide +kernel
theorem dX12_isClosed_50 : decode cX12_isClosed 50 = .ok (.ireturn, 1) := by decide +kernel
theorem dX12_isClosed_51 : decode cX12_isClosed 51 = .ok (.iinc 2 1, 3) := by decide +kernel
theorem dX12_isClosed_54 : decode cX12_isClosed 54 = .ok (.goto (-52), 3) := by decide +kernel
theorem dX12_isClosed_57 : decode cX12_isClosed 57 = .ok (.iconst 1, 1) := by decide +kernel
theorem dX12_isClosed_58 : decode cX12_isClosed 58 = .ok (.ireturn, 1) := by decide +kernel
set_option maxRecDepth 20000 in
theorem ggX12_slips_X12_in : GoodIn wsX12_slips wsX12_in := goodIn_r _ [6] (by decide +kernel) (by decide +kernel)
set_option maxRecDepth 20000 in
theorem gX12_slips_X12_in : GoodIn wsX12_slips (wsV RX12 167 RX12 yX12_in wsX12_in) := goodIn_app (goodIn_of _ (by decide +kernel)) ggX12_slips_X12_in
set_option maxRecDepth 20000 in
theorem ggX12_slips_X12_namedOf : GoodIn wsX12_slips wsX12_namedOf := goodIn_r _ [10, 1, 11, 24, 25, 26, 27, 28, 29, 30, 31, 32, 33, 34, 35, 36, 37, 38, 39, 40, 41, 42, 43, 44, 45, 46, 47, 48, 49, 50, 51, 52, 53, 54, 55, 56, 57, 58, 59, 60, 61, 62, 63, 64, 65, 66, 67, 68, 69, 70, 71, 72, 73, 74] (by decide +kernel) (by decide +kernel)
set_option maxRecDepth 20000 in
theorem gX12_slips_X12_namedOf : GoodIn wsX12_slips (wsV RX12 310 RX12 yX12_namedOf wsX12_namedOf) := goodIn_app (goodIn_of _ (by decide +kernel)) ggX12_slips_X12_namedOf
set_option maxRecDepth 20000 in
theorem ggX12_slips_X12_ones : GoodIn wsX12_slips wsX12_ones := goodIn_r _ [15] (by decide +kernel) (by decide +kernel)
set_option maxRecDepth 20000 in
theorem gX12_slips_X12_ones : GoodIn wsX12_slips (wsV RX12 313 RX12 yX12_ones wsX12_ones) := goodIn_app (goodIn_of _ (by decide +kernel)) ggX12_slips_X12_ones
set_option maxRecDepth 20000 in
theorem ggX12_slips_X12_isClosed : GoodIn wsX12_slips wsX12_isClosed := goodIn_r _ [19, 1, 11, 20, 21, 22, 5, 23, 24, 25, 26, 27, 28, 29, 30, 31, 32, 33, 34, 35, 36, 37, 38, 39, 40, 41, 42, 43, 44, 45, 46, 47, 48, 49, 50, 51, 52, 53, 54, 55, 56, 57, 58, 59, 60, 61, 62, 63, 64, 65, 66, 67, 68, 69, 70, 71, 72, 73, 74] (by decide +kernel) (by decide +kernel)
set_option maxRecDepth 20000 in
theorem gX12_slips_X12_isClosed : GoodIn wsX12_slips (wsV RX12 316 RX12 yX12_isClosed wsX12_isClosed) := goodIn_app (goodIn_of _ (by decide +kernel)) ggX12_slips_X12_isClosed
theorem dX12_slips_0 : decode cX12_slips 0 = .ok (.aload_n 0, 1) := by decide +kernel
theorem dX12_slips_1 : decode cX12_slips 1 = .ok (.iload_n 1, 1) := by decide +kernel
theorem dX12_slips_2 : decode cX12_slips 2 = .ok (.iconst 0, 1) := by decide +kernel
theorem dX12_slips_3 : decode cX12_slips 3 = .ok (.iconst 1, 1) := by decide +kernel
theorem dX12_slips_4 : decode cX12_slips 4 = .ok (.invokevirtual 167, 3) := by decide +kernel
theorem dX12_slips_7 : decode cX12_slips 7 = .ok (.ifCond .ne 5, 3) := by decide +kernel
theorem dX12_slips_10 : decode cX12_slips 10 = .ok (.iconst (-1), 1) := by decide +kernel
theorem dX12_slips_11 : decode cX12_slips 11 = .ok (.ireturn, 1) := by decide +kernel
theorem dX12_slips_12 : decode cX12_slips 12 = .ok (.iconst 0, 1) := by decide +kernel
theorem dX12_slips_13 : decode cX12_slips 13 = .ok (.istore_n 2, 1) := by decide +kernel
theorem dX12_slips_14 : decode cX12_slips 14 = .ok (.iconst 0, 1) := by decide +kernel
theorem dX12_slips_15 : decode cX12_slips 15 = .ok (.istore_n 3, 1) := by decide +kernel
theorem dX12_slips_16 : decode cX12_slips 16 = .ok (.iload_n 3, 1) := by decide +kernel
theorem dX12_slips_17 : decode cX12_slips 17 = .ok (.aload_n 0, 1) := by decide +kernel
theorem dX12_slips_18 : decode cX12_slips 18 = .ok (.getfield 7, 3) := by decide +kernel
theorem dX12_slips_21 : decode cX12_slips 21 = .ok (.if_icmp .ge 27, 3) := by decide +kernel
theorem dX12_slips_24 : decode cX12_slips 24 = .ok (.iload_n 2, 1) := by decide +kernel
theorem dX12_slips_25 : decode cX12_slips 25 = .ok (.aload_n 0, 1) := by decide +kernel
theorem dX12_slips_26 : decode cX12_slips 26 = .ok (.iload_n 3, 1) := by decide +kernel
theorem dX12_slips_27 : decode cX12_slips 27 = .ok (.invokevirtual 310, 3) := by decide +kernel
theorem dX12_slips_30 : decode cX12_slips 30 = .ok (.ifCond .ne 9, 3) := by decide +kernel
theorem dX12_slips_33 : decode cX12_slips 33 = .ok (.iconst 1, 1) := by decide +kernel
theorem dX12_slips_34 : decode cX12_slips 34 = .ok (.iload_n 3, 1) := by decide +kernel
theorem dX12_slips_35 : decode cX12_slips 35 = .ok (.ishl, 1) := by decide +kernel
theorem dX12_slips_36 : decode cX12_slips 36 = .ok (.goto 4, 3) := by decide +kernel
theorem dX12_slips_39 : decode cX12_slips 39 = .ok (.iconst 0, 1) := by decide +kernel
theorem dX12_slips_40 : decode cX12_slips 40 = .ok (.ior, 1) := by decide +kernel
theorem dX12_slips_41 : decode cX12_slips 41 = .ok (.istore_n 2, 1) := by decide +kernel
theorem dX12_slips_42 : decode cX12_slips 42 = .ok (.iinc 3 1, 3) := by decide +kernel
theorem dX12_slips_45 : decode cX12_slips 45 = .ok (.goto (-29), 3) := by decide +kernel
theorem dX12_slips_48 : decode cX12_slips 48 = .ok (.iload_n 1, 1) := by decide +kernel
theorem dX12_slips_49 : decode cX12_slips 49 = .ok (.ifCond .ne 5, 3) := by decide +kernel
theorem dX12_slips_52 : decode cX12_slips 52 = .ok (.iload_n 2, 1) := by decide +kernel
theorem dX12_slips_53 : decode cX12_slips 53 = .ok (.ireturn, 1) := by decide +kernel
theorem dX12_slips_54 : decode cX12_slips 54 = .ok (.bipush (-5), 2) := by decide +kernel
theorem dX12_slips_56 : decode cX12_slips 56 = .ok (.istore_n 3, 1) := by decide +kernel
theorem dX12_slips_57 : decode cX12_slips 57 = .ok (.iconst 0, 1) := by decide +kernel
theorem dX12_slips_58 : decode cX12_slips 58 = .ok (.istore 4, 2) := by decide +kernel
theorem dX12_slips_60 : decode cX12_slips 60 = .ok (.iload 4, 2) := by decide +kernel
theorem dX12_slips_62 : decode cX12_slips 62 = .ok (.iconst 1, 1) := by decide +kernel
theorem dX12_slips_63 : decode cX12_slips 63 = .ok (.aload_n 0, 1) := by decide +kernel
theorem dX12_slips_64 : decode cX12_slips 64 = .ok (.getfield 7, 3) := by decide +kernel
theorem dX12_slips_67 : decode cX12_slips 67 = .ok (.ishl, 1) := by decide +kernel
theorem dX12_slips_68 : decode cX12_slips 68 = .ok (.if_icmp .ge 52, 3) := by decide +kernel
theorem dX12_slips_71 : decode cX12_slips 71 = .ok (.aload_n 0, 1) := by decide +kernel
theorem dX12_slips_72 : decode cX12_slips 72 = .ok (.iload 4, 2) := by decide +kernel
theorem dX12_slips_74 : decode cX12_slips 74 = .ok (.invokevirtual 313, 3) := by decide +kernel
theorem dX12_slips_77 : decode cX12_slips 77 = .ok (.iconst 2, 1) := by decide +kernel
theorem dX12_slips_78 : decode cX12_slips 78 = .ok (.if_icmp .lt 36, 3) := by decide +kernel
theorem dX12_slips_81 : decode cX12_slips 81 = .ok (.iload_n 3, 1) := by decide +kernel
theorem dX12_slips_82 : decode cX12_slips 82 = .ok (.ifCond .lt 17, 3) := by decide +kernel
theorem dX12_slips_85 : decode cX12_slips 85 = .ok (.aload_n 0, 1) := by decide +kernel
theorem dX12_slips_86 : decode cX12_slips 86 = .ok (.iload 4, 2) := by decide +kernel
theorem dX12_slips_88 : decode cX12_slips 88 = .ok (.invokevirtual 313, 3) := by decide +kernel
theorem dX12_slips_91 : decode cX12_slips 91 = .ok (.aload_n 0, 1) := by decide +kernel
theorem dX12_slips_92 : decode cX12_slips 92 = .ok (.iload_n 3, 1) := by decide +kernel
theorem dX12_slips_93 : decode cX12_slips 93 = .ok (.invokevirtual 313, 3) := by decide +kernel
theorem dX12_slips_96 : decode cX12_slips 96 = .ok (.if_icmp .ge 18, 3) := by decide +kernel
theorem dX12_slips_99 : decode cX12_slips 99 = .ok (.aload_n 0, 1) := by decide +kernel
theorem dX12_slips_100 : decode cX12_slips 100 = .ok (.iload 4, 2) := by decide +kernel
theorem dX12_slips_102 : decode cX12_slips 102 = .ok (.invokevirtual 316, 3) := by decide +kernel
theorem dX12_slips_105 : decode cX12_slips 105 = .ok (.ifCond .ne 6, 3) := by decide +kernel
theorem dX12_slips_108 : decode cX12_slips 108 = .ok (.goto 6, 3) := by decide +kernel
theorem dX12_slips_111 : decode cX12_slips 111 = .ok (.iload 4, 2) := by decide +kernel
theorem dX12_slips_113 : decode cX12_slips 113 = .ok (.istore_n 3, 1) := by decide +kernel
theorem dX12_slips_114 : decode cX12_slips 114 = .ok (.iinc 4 1, 3) := by decide +kernel
theorem dX12_slips_117 : decode cX12_slips 117 = .ok (.goto (-57), 3) := by decide +kernel
theorem dX12_slips_120 : decode cX12_slips 120 = .ok (.iload_n 3, 1) := by decide +kernel
theorem dX12_slips_121 : decode cX12_slips 121 = .ok (.ireturn, 1) := by decide +kernel
theorem dX12_pairOf_0 : decode cX12_pairOf 0 = .ok (.iload_n 1, 1) := by decide +kernel
theorem dX12_pairOf_1 : decode cX12_pairOf 1 = .ok (.iload_n 2, 1) := by decide +kernel
theorem dX12_pairOf_2 : decode cX12_pairOf 2 = .ok (.if_icmp .ge 12, 3) := by decide +kernel
theorem dX12_pairOf_5 : decode cX12_pairOf 5 = .ok (.bipush 8, 2) := by decide +kernel
theorem dX12_pairOf_7 : decode cX12_pairOf 7 = .ok (.iload_n 1, 1) := by decide +kernel
theorem dX12_pairOf_8 : decode cX12_pairOf 8 = .ok (.imul, 1) := by decide +kernel
theorem dX12_pairOf_9 : decode cX12_pairOf 9 = .ok (.iload_n 2, 1) := by decide +kernel
theorem dX12_pairOf_10 : decode cX12_pairOf 10 = .ok (.iadd, 1) := by decide +kernel
theorem dX12_pairOf_11 : decode cX12_pairOf 11 = .ok (.goto 9, 3) := by decide +kernel
theorem dX12_pairOf_14 : decode cX12_pairOf 14 = .ok (.bipush 8, 2) := by decide +kernel
theorem dX12_pairOf_16 : decode cX12_pairOf 16 = .ok (.iload_n 2, 1) := by decide +kernel
theorem dX12_pairOf_17 : decode cX12_pairOf 17 = .ok (.imul, 1) := by decide +kernel
theorem dX12_pairOf_18 : decode cX12_pairOf 18 = .ok (.iload_n 1, 1) := by decide +kernel
theorem dX12_pairOf_19 : decode cX12_pairOf 19 = .ok (.iadd, 1) := by decide +kernel
theorem dX12_pairOf_20 : decode cX12_pairOf 20 = .ok (.ireturn, 1) := by decide +kernel
set_option maxRecDepth 20000 in
theorem ggX12_month_X12_pairOf : GoodIn wsX12_month wsX12_pairOf := goodIn_r _ [8] (by decide +kernel) (by decide +kernel)
set_option maxRecDepth 20000 in
theorem gX12_month_X12_pairOf : GoodIn wsX12_month (wsV RX12 319 RX12 yX12_pairOf wsX12_pairOf) := goodIn_app (goodIn_of _ (by decide +kernel)) ggX12_month_X12_pairOf
theorem dX12_month_0 : decode cX12_month 0 = .ok (.iconst 0, 1) := by decide +kernel
theorem dX12_month_1 : decode cX12_month 1 = .ok (.istore_n 1, 1) := by decide +kernel
theorem dX12_month_2 : decode cX12_month 2 = .ok (.iconst 0, 1) := by decide +kernel
theorem dX12_month_3 : decode cX12_month 3 = .ok (.istore_n 2, 1) := by decide +kernel
theorem dX12_month_4 : decode cX12_month 4 = .ok (.iload_n 2, 1) := by decide +kernel
theorem dX12_month_5 : decode cX12_month 5 = .ok (.bipush 8, 2) := by decide +kernel
theorem dX12_month_7 : decode cX12_month 7 = .ok (.if_icmp .ge 75, 3) := by decide +kernel
theorem dX12_month_10 : decode cX12_month 10 = .ok (.aload_n 0, 1) := by decide +kernel
theorem dX12_month_11 : decode cX12_month 11 = .ok (.getfield 38, 3) := by decide +kernel
theorem dX12_month_14 : decode cX12_month 14 = .ok (.iload_n 2, 1) := by decide +kernel
theorem dX12_month_15 : decode cX12_month 15 = .ok (.iaload, 1) := by decide +kernel
theorem dX12_month_16 : decode cX12_month 16 = .ok (.ifCond .lt 60, 3) := by decide +kernel
theorem dX12_month_19 : decode cX12_month 19 = .ok (.aload_n 0, 1) := by decide +kernel
theorem dX12_month_20 : decode cX12_month 20 = .ok (.getfield 38, 3) := by decide +kernel
theorem dX12_month_23 : decode cX12_month 23 = .ok (.iload_n 2, 1) := by decide +kernel
theorem dX12_month_24 : decode cX12_month 24 = .ok (.iconst 1, 1) := by decide +kernel
theorem dX12_month_25 : decode cX12_month 25 = .ok (.iadd, 1) := by decide +kernel
theorem dX12_month_26 : decode cX12_month 26 = .ok (.iaload, 1) := by decide +kernel
theorem dX12_month_27 : decode cX12_month 27 = .ok (.ifCond .ge 6, 3) := by decide +kernel
theorem dX12_month_30 : decode cX12_month 30 = .ok (.goto 46, 3) := by decide +kernel
theorem dX12_month_33 : decode cX12_month 33 = .ok (.aload_n 0, 1) := by decide +kernel
theorem dX12_month_34 : decode cX12_month 34 = .ok (.aload_n 0, 1) := by decide +kernel
theorem dX12_month_35 : decode cX12_month 35 = .ok (.getfield 38, 3) := by decide +kernel
theorem dX12_month_38 : decode cX12_month 38 = .ok (.iload_n 2, 1) := by decide +kernel
theorem dX12_month_39 : decode cX12_month 39 = .ok (.iaload, 1) := by decide +kernel
theorem dX12_month_40 : decode cX12_month 40 = .ok (.aload_n 0, 1) := by decide +kernel
theorem dX12_month_41 : decode cX12_month 41 = .ok (.getfield 38, 3) := by decide +kernel
theorem dX12_month_44 : decode cX12_month 44 = .ok (.iload_n 2, 1) := by decide +kernel
theorem dX12_month_45 : decode cX12_month 45 = .ok (.iconst 1, 1) := by decide +kernel
theorem dX12_month_46 : decode cX12_month 46 = .ok (.iadd, 1) := by decide +kernel
theorem dX12_month_47 : decode cX12_month 47 = .ok (.iaload, 1) := by decide +kernel
theorem dX12_month_48 : decode cX12_month 48 = .ok (.invokevirtual 319, 3) := by decide +kernel
theorem dX12_month_51 : decode cX12_month 51 = .ok (.istore_n 3, 1) := by decide +kernel
theorem dX12_month_52 : decode cX12_month 52 = .ok (.iload_n 1, 1) := by decide +kernel
theorem dX12_month_53 : decode cX12_month 53 = .ok (.aload_n 0, 1) := by decide +kernel
theorem dX12_month_54 : decode cX12_month 54 = .ok (.getfield 45, 3) := by decide +kernel
theorem dX12_month_57 : decode cX12_month 57 = .ok (.iload_n 3, 1) := by decide +kernel
theorem dX12_month_58 : decode cX12_month 58 = .ok (.baload, 1) := by decide +kernel
theorem dX12_month_59 : decode cX12_month 59 = .ok (.ifCond .eq 7, 3) := by decide +kernel
theorem dX12_month_62 : decode cX12_month 62 = .ok (.iconst 0, 1) := by decide +kernel
theorem dX12_month_63 : decode cX12_month 63 = .ok (.goto 4, 3) := by decide +kernel
theorem dX12_month_66 : decode cX12_month 66 = .ok (.iconst 1, 1) := by decide +kernel
theorem dX12_month_67 : decode cX12_month 67 = .ok (.iadd, 1) := by decide +kernel
theorem dX12_month_68 : decode cX12_month 68 = .ok (.istore_n 1, 1) := by decide +kernel
theorem dX12_month_69 : decode cX12_month 69 = .ok (.aload_n 0, 1) := by decide +kernel
theorem dX12_month_70 : decode cX12_month 70 = .ok (.getfield 45, 3) := by decide +kernel
theorem dX12_month_73 : decode cX12_month 73 = .ok (.iload_n 3, 1) := by decide +kernel
theorem dX12_month_74 : decode cX12_month 74 = .ok (.iconst 1, 1) := by decide +kernel
theorem dX12_month_75 : decode cX12_month 75 = .ok (.bastore, 1) := by decide +kernel
theorem dX12_month_76 : decode cX12_month 76 = .ok (.iinc 2 2, 3) := by decide +kernel
theorem dX12_month_79 : decode cX12_month 79 = .ok (.goto (-75), 3) := by decide +kernel
theorem dX12_month_82 : decode cX12_month 82 = .ok (.aload_n 0, 1) := by decide +kernel
theorem dX12_month_83 : decode cX12_month 83 = .ok (.dup, 1) := by decide +kernel
theorem dX12_month_84 : decode cX12_month 84 = .ok (.getfield 13, 3) := by decide +kernel
theorem dX12_month_87 : decode cX12_month 87 = .ok (.iload_n 1, 1) := by decide +kernel
theorem dX12_month_88 : decode cX12_month 88 = .ok (.iadd, 1) := by decide +kernel
theorem dX12_month_89 : decode cX12_month 89 = .ok (.putfield 13, 3) := by decide +kernel
theorem dX12_month_92 : decode cX12_month 92 = .ok (.iload_n 1, 1) := by decide +kernel
theorem dX12_month_93 : decode cX12_month 93 = .ok (.ireturn, 1) := by decide +kernel
set_option maxRecDepth 20000 in
theorem ggX12_lacks_X12_in : GoodIn wsX12_lacks wsX12_in := goodIn_r _ [7] (by decide +kernel) (by decide +kernel)
set_option maxRecDepth 20000 in
theorem gX12_lacks_X12_in : GoodIn wsX12_lacks (wsV RX12 167 RX12 yX12_in wsX12_in) := goodIn_app (goodIn_of _ (by decide +kernel)) ggX12_lacks_X12_in
theorem dX12_lacks_0 : decode cX12_lacks 0 = .ok (.aload_n 0, 1) := by decide +kernel
theorem dX12_lacks_1 : decode cX12_lacks 1 = .ok (.iload_n 1, 1) := by decide +kernel
theorem dX12_lacks_2 : decode cX12_lacks 2 = .ok (.iconst 0, 1) := by decide +kernel
theorem dX12_lacks_3 : decode cX12_lacks 3 = .ok (.iconst 1, 1) := by decide +kernel
theorem dX12_lacks_4 : decode cX12_lacks 4 = .ok (.invokevirtual 167, 3) := by decide +kernel
theorem dX12_lacks_7 : decode cX12_lacks 7 = .ok (.ifCond .ne 5, 3) := by decide +kernel
theorem dX12_lacks_10 : decode cX12_lacks 10 = .ok (.iconst (-1), 1) := by decide +kernel
theorem dX12_lacks_11 : decode cX12_lacks 11 = .ok (.ireturn, 1) := by decide +kernel
theorem dX12_lacks_12 : decode cX12_lacks 12 = .ok (.iconst 0, 1) := by decide +kernel
theorem dX12_lacks_13 : decode cX12_lacks 13 = .ok (.istore_n 2, 1) := by decide +kernel
theorem dX12_lacks_14 : decode cX12_lacks 14 = .ok (.iconst 0, 1) := by decide +kernel
theorem dX12_lacks_15 : decode cX12_lacks 15 = .ok (.istore_n 3, 1) := by decide +kernel
theorem dX12_lacks_16 : decode cX12_lacks 16 = .ok (.iload_n 3, 1) := by decide +kernel
theorem dX12_lacks_17 : decode cX12_lacks 17 = .ok (.aload_n 0, 1) := by decide +kernel
theorem dX12_lacks_18 : decode cX12_lacks 18 = .ok (.getfield 7, 3) := by decide +kernel
theorem dX12_lacks_21 : decode cX12_lacks 21 = .ok (.if_icmp .ge 52, 3) := by decide +kernel
theorem dX12_lacks_24 : decode cX12_lacks 24 = .ok (.iload_n 3, 1) := by decide +kernel
theorem dX12_lacks_25 : decode cX12_lacks 25 = .ok (.iconst 1, 1) := by decide +kernel
theorem dX12_lacks_26 : decode cX12_lacks 26 = .ok (.iadd, 1) := by decide +kernel
theorem dX12_lacks_27 : decode cX12_lacks 27 = .ok (.istore 4, 2) := by decide +kernel
theorem dX12_lacks_29 : decode cX12_lacks 29 = .ok (.iload 4, 2) := by decide +kernel
theorem dX12_lacks_31 : decode cX12_lacks 31 = .ok (.aload_n 0, 1) := by decide +kernel
theorem dX12_lacks_32 : decode cX12_lacks 32 = .ok (.getfield 7, 3) := by decide +kernel
theorem dX12_lacks_35 : decode cX12_lacks 35 = .ok (.if_icmp .ge 32, 3) := by decide +kernel
theorem dX12_lacks_38 : decode cX12_lacks 38 = .ok (.iload_n 2, 1) := by decide +kernel
theorem dX12_lacks_39 : decode cX12_lacks 39 = .ok (.aload_n 0, 1) := by decide +kernel
theorem dX12_lacks_40 : decode cX12_lacks 40 = .ok (.getfield 45, 3) := by decide +kernel
theorem dX12_lacks_43 : decode cX12_lacks 43 = .ok (.bipush 8, 2) := by decide +kernel
theorem dX12_lacks_45 : decode cX12_lacks 45 = .ok (.iload_n 3, 1) := by decide +kernel
theorem dX12_lacks_46 : decode cX12_lacks 46 = .ok (.imul, 1) := by decide +kernel
theorem dX12_lacks_47 : decode cX12_lacks 47 = .ok (.iload 4, 2) := by decide +kernel
theorem dX12_lacks_49 : decode cX12_lacks 49 = .ok (.iadd, 1) := by decide +kernel
theorem dX12_lacks_50 : decode cX12_lacks 50 = .ok (.baload, 1) := by decide +kernel
theorem dX12_lacks_51 : decode cX12_lacks 51 = .ok (.ifCond .eq 7, 3) := by decide +kernel
theorem dX12_lacks_54 : decode cX12_lacks 54 = .ok (.iconst 0, 1) := by decide +kernel
theorem dX12_lacks_55 : decode cX12_lacks 55 = .ok (.goto 4, 3) := by decide +kernel
theorem dX12_lacks_58 : decode cX12_lacks 58 = .ok (.iconst 1, 1) := by decide +kernel
theorem dX12_lacks_59 : decode cX12_lacks 59 = .ok (.iadd, 1) := by decide +kernel
theorem dX12_lacks_60 : decode cX12_lacks 60 = .ok (.istore_n 2, 1) := by decide +kernel
theorem dX12_lacks_61 : decode cX12_lacks 61 = .ok (.iinc 4 1, 3) := by decide +kernel
theorem dX12_lacks_64 : decode cX12_lacks 64 = .ok (.goto (-35), 3) := by decide +kernel
theorem dX12_lacks_67 : decode cX12_lacks 67 = .ok (.iinc 3 1, 3) := by decide +kernel
theorem dX12_lacks_70 : decode cX12_lacks 70 = .ok (.goto (-54), 3) := by decide +kernel
theorem dX12_lacks_73 : decode cX12_lacks 73 = .ok (.iload_n 1, 1) := by decide +kernel
theorem dX12_lacks_74 : decode cX12_lacks 74 = .ok (.ifCond .ne 7, 3) := by decide +kernel
theorem dX12_lacks_77 : decode cX12_lacks 77 = .ok (.iload_n 2, 1) := by decide +kernel
theorem dX12_lacks_78 : decode cX12_lacks 78 = .ok (.goto 12, 3) := by decide +kernel
theorem dX12_lacks_81 : decode cX12_lacks 81 = .ok (.iload_n 2, 1) := by decide +kernel
theorem dX12_lacks_82 : decode cX12_lacks 82 = .ok (.ifCond .ne 7, 3) := by decide +kernel
theorem dX12_lacks_85 : decode cX12_lacks 85 = .ok (.iconst 1, 1) := by decide +kernel
theorem dX12_lacks_86 : decode cX12_lacks 86 = .ok (.goto 4, 3) := by decide +kernel
theorem dX12_lacks_89 : decode cX12_lacks 89 = .ok (.iconst 0, 1) := by decide +kernel
theorem dX12_lacks_90 : decode cX12_lacks 90 = .ok (.ireturn, 1) := by decide +kernel
set_option maxRecDepth 20000 in
theorem ggX12_next__X12_in : GoodIn wsX12_next_ wsX12_in := goodIn_r _ [10] (by decide +kernel) (by decide +kernel)
set_option maxRecDepth 20000 in
theorem gX12_next__X12_in : GoodIn wsX12_next_ (wsV RX12 167 RX12 yX12_in wsX12_in) := goodIn_app (goodIn_of _ (by decide +kernel)) ggX12_next__X12_in
set_option maxRecDepth 20000 in
theorem ggX12_next__X12_codes : GoodIn wsX12_next_ wsX12_codes := goodIn_r _ [14, 1, 27, 28, 29, 30, 31, 32, 33, 34, 35, 36, 37, 38, 39, 40, 41, 42, 43, 44, 45, 46, 47, 48, 49, 50, 51, 52, 53, 54, 55, 56, 57, 58, 59, 60, 61, 62, 63, 64, 65, 66, 67, 68, 69, 70, 71, 72, 73, 74, 75, 76, 77] (by decide +kernel) (by decide +kernel)
set_option maxRecDepth 20000 in
theorem gX12_next__X12_codes : GoodIn wsX12_next_ (wsV RX12 279 RX12 yX12_codes wsX12_codes) := goodIn_app (goodIn_of _ (by decide +kernel)) ggX12_next__X12_codes
set_option maxRecDepth 20000 in
theorem ggX12_next__X12_layRow : GoodIn wsX12_next_ wsX12_layRow := goodIn_r _ [18, 3, 1, 27, 28, 29, 30, 31, 32, 33, 34, 35, 36, 37, 38, 39, 40, 41, 42, 43, 44, 45, 46, 47, 48, 49, 50, 51, 52, 53, 54, 55, 56, 57, 58, 59, 60, 61, 62, 63, 64, 65, 66, 67, 68, 69, 70, 71, 72, 73, 74, 75, 76, 77] (by decide +kernel) (by decide +kernel)
set_option maxRecDepth 20000 in
theorem gX12_next__X12_layRow : GoodIn wsX12_next_ (wsV RX12 282 RX12 yX12_layRow wsX12_layRow) := goodIn_app (goodIn_of _ (by decide +kernel)) ggX12_next__X12_layRow
set_option maxRecDepth 20000 in
theorem ggX12_next__X12_pairOf : GoodIn wsX12_next_ wsX12_pairOf := goodIn_r _ [22] (by decide +kernel) (by decide +kernel)
set_option maxRecDepth 20000 in
theorem gX12_next__X12_pairOf : GoodIn wsX12_next_ (wsV RX12 319 RX12 yX12_pairOf wsX12_pairOf) := goodIn_app (goodIn_of _ (by decide +kernel)) ggX12_next__X12_pairOf
set_option maxRecDepth 20000 in
theorem ggX12_next__X12_keepRow : GoodIn wsX12_next_ wsX12_keepRow := goodIn_r _ [26, 3, 5, 27, 28, 29, 30, 31, 32, 33, 34, 35, 36, 37, 38, 39, 40, 41, 42, 43, 44, 45, 46, 47, 48, 49, 50, 51, 52, 53, 54, 55, 56, 57, 58, 59, 60, 61, 62, 63, 64, 65, 66, 67, 68, 69, 70, 71, 72, 73, 74, 75, 76, 77] (by decide +kernel) (by decide +kernel)
set_option maxRecDepth 20000 in
theorem gX12_next__X12_keepRow : GoodIn wsX12_next_ (wsV RX12 285 RX12 yX12_keepRow wsX12_keepRow) := goodIn_app (goodIn_of _ (by decide +kernel)) ggX12_next__X12_keepRow
theorem dX12_next__0 : decode cX12_next_ 0 = .ok (.aload_n 0, 1) := by decide +kernel
theorem dX12_next__1 : decode cX12_next_ 1 = .ok (.iload_n 1, 1) := by decide +kernel
theorem dX12_next__2 : decode cX12_next_ 2 = .ok (.iconst (-1), 1) := by decide +kernel
theorem dX12_next__3 : decode cX12_next_ 3 = .ok (.aload_n 0, 1) := by decide +kernel
theorem dX12_next__4 : decode cX12_next_ 4 = .ok (.getfield 7, 3) := by decide +kernel
theorem dX12_next__7 : decode cX12_next_ 7 = .ok (.iconst 1, 1) := by decide +kernel
theorem dX12_next__8 : decode cX12_next_ 8 = .ok (.isub, 1) := by decide +kernel
theorem dX12_next__9 : decode cX12_next_ 9 = .ok (.invokevirtual 167, 3) := by decide +kernel
theorem dX12_next__12 : decode cX12_next_ 12 = .ok (.ifCond .ne 7, 3) := by decide +kernel
theorem dX12_next__15 : decode cX12_next_ 15 = .ok (.ldc_w 258, 3) := by decide +kernel
theorem dX12_next__18 : decode cX12_next_ 18 = .ok (.ireturn, 1) := by decide +kernel
theorem dX12_next__19 : decode cX12_next_ 19 = .ok (.aload_n 0, 1) := by decide +kernel
theorem dX12_next__20 : decode cX12_next_ 20 = .ok (.getfield 7, 3) := by decide +kernel
theorem dX12_next__23 : decode cX12_next_ 23 = .ok (.bipush 6, 2) := by decide +kernel
theorem dX12_next__25 : decode cX12_next_ 25 = .ok (.if_icmp .le 6, 3) := by decide +kernel
theorem dX12_next__28 : decode cX12_next_ 28 = .ok (.bipush (-9), 2) := by decide +kernel
theorem dX12_next__30 : decode cX12_next_ 30 = .ok (.ireturn, 1) := by decide +kernel
theorem dX12_next__31 : decode cX12_next_ 31 = .ok (.iconst (-1), 1) := by decide +kernel
theorem dX12_next__32 : decode cX12_next_ 32 = .ok (.istore_n 2, 1) := by decide +kernel
theorem dX12_next__33 : decode cX12_next_ 33 = .ok (.iconst 0, 1) := by decide +kernel
theorem dX12_next__34 : decode cX12_next_ 34 = .ok (.istore_n 3, 1) := by decide +kernel
theorem dX12_next__35 : decode cX12_next_ 35 = .ok (.iload_n 3, 1) := by decide +kernel
theorem dX12_next__36 : decode cX12_next_ 36 = .ok (.aload_n 0, 1) := by decide +kernel
theorem dX12_next__37 : decode cX12_next_ 37 = .ok (.invokevirtual 279, 3) := by decide +kernel
theorem dX12_next__40 : decode cX12_next_ 40 = .ok (.if_icmp .ge 115, 3) := by decide +kernel
theorem dX12_next__43 : decode cX12_next_ 43 = .ok (.aload_n 0, 1) := by decide +kernel
theorem dX12_next__44 : decode cX12_next_ 44 = .ok (.iload_n 3, 1) := by decide +kernel
theorem dX12_next__45 : decode cX12_next_ 45 = .ok (.invokevirtual 282, 3) := by decide +kernel
theorem dX12_next__48 : decode cX12_next_ 48 = .ok (.ifCond .ne 6, 3) := by decide +kernel
theorem dX12_next__51 : decode cX12_next_ 51 = .ok (.goto 98, 3) := by decide +kernel
theorem dX12_next__54 : decode cX12_next_ 54 = .ok (.iconst 0, 1) := by decide +kernel
theorem dX12_next__55 : decode cX12_next_ 55 = .ok (.istore 4, 2) := by decide +kernel
theorem dX12_next__57 : decode cX12_next_ 57 = .ok (.iconst 0, 1) := by decide +kernel
theorem dX12_next__58 : decode cX12_next_ 58 = .ok (.istore 5, 2) := by decide +kernel
theorem dX12_next__60 : decode cX12_next_ 60 = .ok (.iload 5, 2) := by decide +kernel
theorem dX12_next__62 : decode cX12_next_ 62 = .ok (.bipush 8, 2) := by decide +kernel
theorem dX12_next__64 : decode cX12_next_ 64 = .ok (.if_icmp .ge 69, 3) := by decide +kernel
theorem dX12_next__67 : decode cX12_next_ 67 = .ok (.iload 4, 2) := by decide +kernel
theorem dX12_next__69 : decode cX12_next_ 69 = .ok (.aload_n 0, 1) := by decide +kernel
theorem dX12_next__70 : decode cX12_next_ 70 = .ok (.getfield 108, 3) := by decide +kernel
theorem dX12_next__73 : decode cX12_next_ 73 = .ok (.iload 5, 2) := by decide +kernel
theorem dX12_next__75 : decode cX12_next_ 75 = .ok (.iaload, 1) := by decide +kernel
theorem dX12_next__76 : decode cX12_next_ 76 = .ok (.ifCond .lt 47, 3) := by decide +kernel
theorem dX12_next__79 : decode cX12_next_ 79 = .ok (.aload_n 0, 1) := by decide +kernel
theorem dX12_next__80 : decode cX12_next_ 80 = .ok (.getfield 108, 3) := by decide +kernel
theorem dX12_next__83 : decode cX12_next_ 83 = .ok (.iload 5, 2) := by decide +kernel
theorem dX12_next__85 : decode cX12_next_ 85 = .ok (.iconst 1, 1) := by decide +kernel
theorem dX12_next__86 : decode cX12_next_ 86 = .ok (.iadd, 1) := by decide +kernel
theorem dX12_next__87 : decode cX12_next_ 87 = .ok (.iaload, 1) := by decide +kernel
theorem dX12_next__88 : decode cX12_next_ 88 = .ok (.ifCond .lt 35, 3) := by decide +kernel
theorem dX12_next__91 : decode cX12_next_ 91 = .ok (.aload_n 0, 1) := by decide +kernel
theorem dX12_next__92 : decode cX12_next_ 92 = .ok (.getfield 45, 3) := by decide +kernel
theorem dX12_next__95 : decode cX12_next_ 95 = .ok (.aload_n 0, 1) := by decide +kernel
theorem dX12_next__96 : decode cX12_next_ 96 = .ok (.aload_n 0, 1) := by decide +kernel
theorem dX12_next__97 : decode cX12_next_ 97 = .ok (.getfield 108, 3) := by decide +kernel
theorem dX12_next__100 : decode cX12_next_ 100 = .ok (.iload 5, 2) := by decide +kernel
theorem dX12_next__102 : decode cX12_next_ 102 = .ok (.iaload, 1) := by decide +kernel
theorem dX12_next__103 : decode cX12_next_ 103 = .ok (.aload_n 0, 1) := by decide +kernel
theorem dX12_next__104 : decode cX12_next_ 104 = .ok (.getfield 108, 3) := by decide +kernel
theorem dX12_next__107 : decode cX12_next_ 107 = .ok (.iload 5, 2) := by decide +kernel
theorem dX12_next__109 : decode cX12_next_ 109 = .ok (.iconst 1, 1) := by decide +kernel
theorem dX12_next__110 : decode cX12_next_ 110 = .ok (.iadd, 1) := by decide +kernel
theorem dX12_next__111 : decode cX12_next_ 111 = .ok (.iaload, 1) := by decide +kernel
theorem dX12_next__112 : decode cX12_next_ 112 = .ok (.invokevirtual 319, 3) := by decide +kernel
theorem dX12_next__115 : decode cX12_next_ 115 = .ok (.baload, 1) := by decide +kernel
theorem dX12_next__116 : decode cX12_next_ 116 = .ok (.ifCond .ne 7, 3) := by decide +kernel
theorem dX12_next__119 : decode cX12_next_ 119 = .ok (.iconst 1, 1) := by decide +kernel
theorem dX12_next__120 : decode cX12_next_ 120 = .ok (.goto 4, 3) := by decide +kernel
theorem dX12_next__123 : decode cX12_next_ 123 = .ok (.iconst 0, 1) := by decide +kernel
theorem dX12_next__124 : decode cX12_next_ 124 = .ok (.iadd, 1) := by decide +kernel
theorem dX12_next__125 : decode cX12_next_ 125 = .ok (.istore 4, 2) := by decide +kernel
theorem dX12_next__127 : decode cX12_next_ 127 = .ok (.iinc 5 2, 3) := by decide +kernel
theorem dX12_next__130 : decode cX12_next_ 130 = .ok (.goto (-70), 3) := by decide +kernel
theorem dX12_next__133 : decode cX12_next_ 133 = .ok (.iload 4, 2) := by decide +kernel
theorem dX12_next__135 : decode cX12_next_ 135 = .ok (.iload_n 2, 1) := by decide +kernel
theorem dX12_next__136 : decode cX12_next_ 136 = .ok (.if_icmp .gt 6, 3) := by decide +kernel
theorem dX12_next__139 : decode cX12_next_ 139 = .ok (.goto 10, 3) := by decide +kernel
theorem dX12_next__142 : decode cX12_next_ 142 = .ok (.iload 4, 2) := by decide +kernel
theorem dX12_next__144 : decode cX12_next_ 144 = .ok (.istore_n 2, 1) := by decide +kernel
theorem dX12_next__145 : decode cX12_next_ 145 = .ok (.aload_n 0, 1) := by decide +kernel
theorem dX12_next__146 : decode cX12_next_ 146 = .ok (.invokevirtual 285, 3) := by decide +kernel
theorem dX12_next__149 : decode cX12_next_ 149 = .ok (.iinc 3 1, 3) := by decide +kernel
theorem dX12_next__152 : decode cX12_next_ 152 = .ok (.goto (-117), 3) := by decide +kernel
theorem dX12_next__155 : decode cX12_next_ 155 = .ok (.iload_n 1, 1) := by decide +kernel
theorem dX12_next__156 : decode cX12_next_ 156 = .ok (.ifCond .ge 7, 3) := by decide +kernel
theorem dX12_next__159 : decode cX12_next_ 159 = .ok (.iload_n 2, 1) := by decide +kernel
theorem dX12_next__160 : decode cX12_next_ 160 = .ok (.goto 9, 3) := by decide +kernel
theorem dX12_next__163 : decode cX12_next_ 163 = .ok (.aload_n 0, 1) := by decide +kernel
theorem dX12_next__164 : decode cX12_next_ 164 = .ok (.getfield 111, 3) := by decide +kernel
theorem dX12_next__167 : decode cX12_next_ 167 = .ok (.iload_n 1, 1) := by decide +kernel
theorem dX12_next__168 : decode cX12_next_ 168 = .ok (.iaload, 1) := by decide +kernel
theorem dX12_next__169 : decode cX12_next_ 169 = .ok (.ireturn, 1) := by decide +kernel
theorem dX12_divisor_0 : decode cX12_divisor 0 = .ok (.lload_n 1, 1) := by decide +kernel
theorem dX12_divisor_1 : decode cX12_divisor 1 = .ok (.lconst 0, 1) := by decide +kernel
theorem dX12_divisor_2 : decode cX12_divisor 2 = .ok (.lcmp, 1) := by decide +kernel
theorem dX12_divisor_3 : decode cX12_divisor 3 = .ok (.ifCond .ge 8, 3) := by decide +kernel
theorem dX12_divisor_6 : decode cX12_divisor 6 = .ok (.lload_n 1, 1) := by decide +kernel
theorem dX12_divisor_7 : decode cX12_divisor 7 = .ok (.lneg, 1) := by decide +kernel
theorem dX12_divisor_8 : decode cX12_divisor 8 = .ok (.goto 4, 3) := by decide +kernel
theorem dX12_divisor_11 : decode cX12_divisor 11 = .ok (.lload_n 1, 1) := by decide +kernel
theorem dX12_divisor_12 : decode cX12_divisor 12 = .ok (.lstore 5, 2) := by decide +kernel
theorem dX12_divisor_14 : decode cX12_divisor 14 = .ok (.lload_n 3, 1) := by decide +kernel
theorem dX12_divisor_15 : decode cX12_divisor 15 = .ok (.lstore 7, 2) := by decide +kernel
theorem dX12_divisor_17 : decode cX12_divisor 17 = .ok (.lload 7, 2) := by decide +kernel
theorem dX12_divisor_19 : decode cX12_divisor 19 = .ok (.lconst 0, 1) := by decide +kernel
theorem dX12_divisor_20 : decode cX12_divisor 20 = .ok (.lcmp, 1) := by decide +kernel
theorem dX12_divisor_21 : decode cX12_divisor 21 = .ok (.ifCond .eq 21, 3) := by decide +kernel
theorem dX12_divisor_24 : decode cX12_divisor 24 = .ok (.lload 5, 2) := by decide +kernel
theorem dX12_divisor_26 : decode cX12_divisor 26 = .ok (.lload 7, 2) := by decide +kernel
theorem dX12_divisor_28 : decode cX12_divisor 28 = .ok (.lrem, 1) := by decide +kernel
theorem dX12_divisor_29 : decode cX12_divisor 29 = .ok (.lstore 9, 2) := by decide +kernel
theorem dX12_divisor_31 : decode cX12_divisor 31 = .ok (.lload 7, 2) := by decide +kernel
theorem dX12_divisor_33 : decode cX12_divisor 33 = .ok (.lstore 5, 2) := by decide +kernel
theorem dX12_divisor_35 : decode cX12_divisor 35 = .ok (.lload 9, 2) := by decide +kernel
theorem dX12_divisor_37 : decode cX12_divisor 37 = .ok (.lstore 7, 2) := by decide +kernel
theorem dX12_divisor_39 : decode cX12_divisor 39 = .ok (.goto (-22), 3) := by decide +kernel
theorem dX12_divisor_42 : decode cX12_divisor 42 = .ok (.lload 5, 2) := by decide +kernel
theorem dX12_divisor_44 : decode cX12_divisor 44 = .ok (.lreturn, 1) := by decide +kernel
set_option maxRecDepth 20000 in
theorem ggX12_mean_X12_in : GoodIn wsX12_mean wsX12_in := goodIn_r _ [8] (by decide +kernel) (by decide +kernel)
set_option maxRecDepth 20000 in
theorem gX12_mean_X12_in : GoodIn wsX12_mean (wsV RX12 167 RX12 yX12_in wsX12_in) := goodIn_app (goodIn_of _ (by decide +kernel)) ggX12_mean_X12_in
set_option maxRecDepth 20000 in
theorem ggX12_mean_X12_plainWorth : GoodIn wsX12_mean wsX12_plainWorth := goodIn_r _ [12, 13, 14, 15, 16, 17, 18, 19, 20, 7, 21, 22, 23, 24, 25, 26, 27, 28, 29, 30, 31, 32, 33, 34, 35, 36, 37, 38, 39, 40, 41, 42, 43, 44, 45, 46, 47, 48, 49, 50, 2, 55, 56, 57, 58, 59, 60, 61, 62, 63, 64, 65, 66, 67, 68, 69, 70, 71, 72, 73, 74, 75, 76, 77, 78, 79, 80, 81, 82, 83, 84, 85, 86, 87, 88, 89, 90, 91, 92, 93, 94, 95, 96, 97, 98, 99, 100, 101, 102, 103, 104, 105] (by decide +kernel) (by decide +kernel)
set_option maxRecDepth 20000 in
theorem gX12_mean_X12_plainWorth : GoodIn wsX12_mean (wsV RX12 248 RX12 yX12_plainWorth wsX12_plainWorth) := goodIn_app (goodIn_of _ (by decide +kernel)) ggX12_mean_X12_plainWorth
set_option maxRecDepth 20000 in
theorem ggX12_mean_X12_divisor : GoodIn wsX12_mean wsX12_divisor := goodIn_r _ [54] (by decide +kernel) (by decide +kernel)
set_option maxRecDepth 20000 in
theorem gX12_mean_X12_divisor : GoodIn wsX12_mean (wsV RX12 326 RX12 yX12_divisor wsX12_divisor) := goodIn_app (goodIn_of _ (by decide +kernel)) ggX12_mean_X12_divisor
theorem dX12_mean_0 : decode cX12_mean 0 = .ok (.aload_n 0, 1) := by decide +kernel
theorem dX12_mean_1 : decode cX12_mean 1 = .ok (.iload_n 1, 1) := by decide +kernel
theorem dX12_mean_2 : decode cX12_mean 2 = .ok (.iconst 0, 1) := by decide +kernel
theorem dX12_mean_3 : decode cX12_mean 3 = .ok (.iconst 1, 1) := by decide +kernel
theorem dX12_mean_4 : decode cX12_mean 4 = .ok (.invokevirtual 167, 3) := by decide +kernel
theorem dX12_mean_7 : decode cX12_mean 7 = .ok (.ifCond .ne 7, 3) := by decide +kernel
theorem dX12_mean_10 : decode cX12_mean 10 = .ok (.ldc2_w 322, 3) := by decide +kernel
theorem dX12_mean_13 : decode cX12_mean 13 = .ok (.lreturn, 1) := by decide +kernel
theorem dX12_mean_14 : decode cX12_mean 14 = .ok (.lconst 0, 1) := by decide +kernel
theorem dX12_mean_15 : decode cX12_mean 15 = .ok (.lstore_n 2, 1) := by decide +kernel
theorem dX12_mean_16 : decode cX12_mean 16 = .ok (.iconst 0, 1) := by decide +kernel
theorem dX12_mean_17 : decode cX12_mean 17 = .ok (.istore 4, 2) := by decide +kernel
theorem dX12_mean_19 : decode cX12_mean 19 = .ok (.iload 4, 2) := by decide +kernel
theorem dX12_mean_21 : decode cX12_mean 21 = .ok (.aload_n 0, 1) := by decide +kernel
theorem dX12_mean_22 : decode cX12_mean 22 = .ok (.getfield 7, 3) := by decide +kernel
theorem dX12_mean_25 : decode cX12_mean 25 = .ok (.if_icmp .ge 63, 3) := by decide +kernel
theorem dX12_mean_28 : decode cX12_mean 28 = .ok (.iconst 0, 1) := by decide +kernel
theorem dX12_mean_29 : decode cX12_mean 29 = .ok (.istore 5, 2) := by decide +kernel
theorem dX12_mean_31 : decode cX12_mean 31 = .ok (.iload 5, 2) := by decide +kernel
theorem dX12_mean_33 : decode cX12_mean 33 = .ok (.aload_n 0, 1) := by decide +kernel
theorem dX12_mean_34 : decode cX12_mean 34 = .ok (.getfield 7, 3) := by decide +kernel
theorem dX12_mean_37 : decode cX12_mean 37 = .ok (.if_icmp .ge 45, 3) := by decide +kernel
theorem dX12_mean_40 : decode cX12_mean 40 = .ok (.iconst 0, 1) := by decide +kernel
theorem dX12_mean_41 : decode cX12_mean 41 = .ok (.istore 6, 2) := by decide +kernel
theorem dX12_mean_43 : decode cX12_mean 43 = .ok (.iload 6, 2) := by decide +kernel
theorem dX12_mean_45 : decode cX12_mean 45 = .ok (.iconst 2, 1) := by decide +kernel
theorem dX12_mean_46 : decode cX12_mean 46 = .ok (.if_icmp .ge 30, 3) := by decide +kernel
theorem dX12_mean_49 : decode cX12_mean 49 = .ok (.iload 4, 2) := by decide +kernel
theorem dX12_mean_51 : decode cX12_mean 51 = .ok (.iload 5, 2) := by decide +kernel
theorem dX12_mean_53 : decode cX12_mean 53 = .ok (.if_icmp .eq 23, 3) := by decide +kernel
theorem dX12_mean_56 : decode cX12_mean 56 = .ok (.lload_n 2, 1) := by decide +kernel
theorem dX12_mean_57 : decode cX12_mean 57 = .ok (.aload_n 0, 1) := by decide +kernel
theorem dX12_mean_58 : decode cX12_mean 58 = .ok (.iload 4, 2) := by decide +kernel
theorem dX12_mean_60 : decode cX12_mean 60 = .ok (.iload 5, 2) := by decide +kernel
theorem dX12_mean_62 : decode cX12_mean 62 = .ok (.iload 6, 2) := by decide +kernel
theorem dX12_mean_64 : decode cX12_mean 64 = .ok (.invokevirtual 248, 3) := by decide +kernel
theorem dX12_mean_67 : decode cX12_mean 67 = .ok (.i2l, 1) := by decide +kernel
theorem dX12_mean_68 : decode cX12_mean 68 = .ok (.ladd, 1) := by decide +kernel
theorem dX12_mean_69 : decode cX12_mean 69 = .ok (.lstore_n 2, 1) := by decide +kernel
theorem dX12_mean_70 : decode cX12_mean 70 = .ok (.iinc 6 1, 3) := by decide +kernel
theorem dX12_mean_73 : decode cX12_mean 73 = .ok (.goto (-30), 3) := by decide +kernel
theorem dX12_mean_76 : decode cX12_mean 76 = .ok (.iinc 5 1, 3) := by decide +kernel
theorem dX12_mean_79 : decode cX12_mean 79 = .ok (.goto (-48), 3) := by decide +kernel
theorem dX12_mean_82 : decode cX12_mean 82 = .ok (.iinc 4 1, 3) := by decide +kernel
theorem dX12_mean_85 : decode cX12_mean 85 = .ok (.goto (-66), 3) := by decide +kernel
theorem dX12_mean_88 : decode cX12_mean 88 = .ok (.aload_n 0, 1) := by decide +kernel
theorem dX12_mean_89 : decode cX12_mean 89 = .ok (.lload_n 2, 1) := by decide +kernel
theorem dX12_mean_90 : decode cX12_mean 90 = .ok (.ldc2_w 324, 3) := by decide +kernel
theorem dX12_mean_93 : decode cX12_mean 93 = .ok (.invokevirtual 326, 3) := by decide +kernel
theorem dX12_mean_96 : decode cX12_mean 96 = .ok (.lstore 4, 2) := by decide +kernel
theorem dX12_mean_98 : decode cX12_mean 98 = .ok (.iload_n 1, 1) := by decide +kernel
theorem dX12_mean_99 : decode cX12_mean 99 = .ok (.ifCond .ne 10, 3) := by decide +kernel
theorem dX12_mean_102 : decode cX12_mean 102 = .ok (.lload_n 2, 1) := by decide +kernel
theorem dX12_mean_103 : decode cX12_mean 103 = .ok (.lload 4, 2) := by decide +kernel
theorem dX12_mean_105 : decode cX12_mean 105 = .ok (.ldiv, 1) := by decide +kernel
theorem dX12_mean_106 : decode cX12_mean 106 = .ok (.goto 9, 3) := by decide +kernel
theorem dX12_mean_109 : decode cX12_mean 109 = .ok (.ldc2_w 324, 3) := by decide +kernel
theorem dX12_mean_112 : decode cX12_mean 112 = .ok (.lload 4, 2) := by decide +kernel
theorem dX12_mean_114 : decode cX12_mean 114 = .ok (.ldiv, 1) := by decide +kernel
theorem dX12_mean_115 : decode cX12_mean 115 = .ok (.lreturn, 1) := by decide +kernel
set_option maxRecDepth 20000 in
theorem ggX12_isPair_X12_isPupil : GoodIn wsX12_isPair wsX12_isPupil := goodIn_r _ [5, 6, 7, 8, 9, 4, 10, 11, 12, 13, 14, 15, 16, 17, 18, 19, 20, 21, 22, 23, 24, 25, 26, 27, 28, 29, 30, 31, 32, 33, 34, 35, 36, 37, 38, 39, 40, 41, 42, 43, 44, 45, 46, 47, 48, 49, 50, 51, 52, 53, 54, 55, 56, 57, 58, 59, 60, 61] (by decide +kernel) (by decide +kernel)
set_option maxRecDepth 20000 in
theorem gX12_isPair_X12_isPupil : GoodIn wsX12_isPair (wsV RX12 171 RX12 yX12_isPupil wsX12_isPupil) := goodIn_app (goodIn_of _ (by decide +kernel)) ggX12_isPair_X12_isPupil
theorem dX12_isPair_0 : decode cX12_isPair 0 = .ok (.iload_n 1, 1) := by decide +kernel
theorem dX12_isPair_1 : decode cX12_isPair 1 = .ok (.ifCond .lt 40, 3) := by decide +kernel
theorem dX12_isPair_4 : decode cX12_isPair 4 = .ok (.aload_n 0, 1) := by decide +kernel
theorem dX12_isPair_5 : decode cX12_isPair 5 = .ok (.iload_n 1, 1) := by decide +kernel
theorem dX12_isPair_6 : decode cX12_isPair 6 = .ok (.bipush 10, 2) := by decide +kernel
theorem dX12_isPair_8 : decode cX12_isPair 8 = .ok (.idiv, 1) := by decide +kernel
theorem dX12_isPair_9 : decode cX12_isPair 9 = .ok (.invokevirtual 171, 3) := by decide +kernel
theorem dX12_isPair_12 : decode cX12_isPair 12 = .ok (.ifCond .eq 29, 3) := by decide +kernel
theorem dX12_isPair_15 : decode cX12_isPair 15 = .ok (.aload_n 0, 1) := by decide +kernel
theorem dX12_isPair_16 : decode cX12_isPair 16 = .ok (.iload_n 1, 1) := by decide +kernel
theorem dX12_isPair_17 : decode cX12_isPair 17 = .ok (.bipush 10, 2) := by decide +kernel
theorem dX12_isPair_19 : decode cX12_isPair 19 = .ok (.irem, 1) := by decide +kernel
theorem dX12_isPair_20 : decode cX12_isPair 20 = .ok (.invokevirtual 171, 3) := by decide +kernel
theorem dX12_isPair_23 : decode cX12_isPair 23 = .ok (.ifCond .eq 18, 3) := by decide +kernel
theorem dX12_isPair_26 : decode cX12_isPair 26 = .ok (.iload_n 1, 1) := by decide +kernel
theorem dX12_isPair_27 : decode cX12_isPair 27 = .ok (.bipush 10, 2) := by decide +kernel
theorem dX12_isPair_29 : decode cX12_isPair 29 = .ok (.idiv, 1) := by decide +kernel
theorem dX12_isPair_30 : decode cX12_isPair 30 = .ok (.iload_n 1, 1) := by decide +kernel
theorem dX12_isPair_31 : decode cX12_isPair 31 = .ok (.bipush 10, 2) := by decide +kernel
theorem dX12_isPair_33 : decode cX12_isPair 33 = .ok (.irem, 1) := by decide +kernel
theorem dX12_isPair_34 : decode cX12_isPair 34 = .ok (.if_icmp .eq 7, 3) := by decide +kernel
theorem dX12_isPair_37 : decode cX12_isPair 37 = .ok (.iconst 1, 1) := by decide +kernel
theorem dX12_isPair_38 : decode cX12_isPair 38 = .ok (.goto 4, 3) := by decide +kernel
theorem dX12_isPair_41 : decode cX12_isPair 41 = .ok (.iconst 0, 1) := by decide +kernel
theorem dX12_isPair_42 : decode cX12_isPair 42 = .ok (.ireturn, 1) := by decide +kernel
set_option maxRecDepth 20000 in
theorem ggX12_both_X12_isPair : GoodIn wsX12_both wsX12_isPair := goodIn_r _ [8, 9, 10, 11, 7, 12, 13, 14, 15, 16, 17, 22, 23, 24, 25, 26, 27, 28, 29, 30, 31, 32, 33, 34, 35, 36, 37, 38, 39, 40, 41, 42, 43, 44, 45, 46, 47, 48, 49, 50, 51, 52, 53, 54, 55, 56, 57, 58, 59, 60, 61, 62, 63, 64, 65, 66, 67, 68, 69, 70, 71, 72] (by decide +kernel) (by decide +kernel)
set_option maxRecDepth 20000 in
theorem gX12_both_X12_isPair : GoodIn wsX12_both (wsV RX12 330 RX12 yX12_isPair wsX12_isPair) := goodIn_app (goodIn_of _ (by decide +kernel)) ggX12_both_X12_isPair
set_option maxRecDepth 20000 in
theorem ggX12_both_X12_in : GoodIn wsX12_both wsX12_in := goodIn_r _ [17] (by decide +kernel) (by decide +kernel)
set_option maxRecDepth 20000 in
theorem gX12_both_X12_in : GoodIn wsX12_both (wsV RX12 167 RX12 yX12_in wsX12_in) := goodIn_app (goodIn_of _ (by decide +kernel)) ggX12_both_X12_in
set_option maxRecDepth 20000 in
theorem ggX12_both_X12_ones : GoodIn wsX12_both wsX12_ones := goodIn_r _ [21] (by decide +kernel) (by decide +kernel)
set_option maxRecDepth 20000 in
theorem gX12_both_X12_ones : GoodIn wsX12_both (wsV RX12 313 RX12 yX12_ones wsX12_ones) := goodIn_app (goodIn_of _ (by decide +kernel)) ggX12_both_X12_ones
theorem dX12_both_0 : decode cX12_both 0 = .ok (.aload_n 0, 1) := by decide +kernel
theorem dX12_both_1 : decode cX12_both 1 = .ok (.iload_n 1, 1) := by decide +kernel
theorem dX12_both_2 : decode cX12_both 2 = .ok (.invokevirtual 330, 3) := by decide +kernel
theorem dX12_both_5 : decode cX12_both 5 = .ok (.ifCond .eq 21, 3) := by decide +kernel
theorem dX12_both_8 : decode cX12_both 8 = .ok (.aload_n 0, 1) := by decide +kernel
theorem dX12_both_9 : decode cX12_both 9 = .ok (.iload_n 2, 1) := by decide +kernel
theorem dX12_both_10 : decode cX12_both 10 = .ok (.invokevirtual 330, 3) := by decide +kernel
theorem dX12_both_13 : decode cX12_both 13 = .ok (.ifCond .eq 13, 3) := by decide +kernel
theorem dX12_both_16 : decode cX12_both 16 = .ok (.aload_n 0, 1) := by decide +kernel
theorem dX12_both_17 : decode cX12_both 17 = .ok (.iload_n 3, 1) := by decide +kernel
theorem dX12_both_18 : decode cX12_both 18 = .ok (.iconst 0, 1) := by decide +kernel
theorem dX12_both_19 : decode cX12_both 19 = .ok (.iconst 1, 1) := by decide +kernel
theorem dX12_both_20 : decode cX12_both 20 = .ok (.invokevirtual 167, 3) := by decide +kernel
theorem dX12_both_23 : decode cX12_both 23 = .ok (.ifCond .ne 7, 3) := by decide +kernel
theorem dX12_both_26 : decode cX12_both 26 = .ok (.ldc2_w 322, 3) := by decide +kernel
theorem dX12_both_29 : decode cX12_both 29 = .ok (.lreturn, 1) := by decide +kernel
theorem dX12_both_30 : decode cX12_both 30 = .ok (.iconst 1, 1) := by decide +kernel
theorem dX12_both_31 : decode cX12_both 31 = .ok (.iload_n 1, 1) := by decide +kernel
theorem dX12_both_32 : decode cX12_both 32 = .ok (.bipush 10, 2) := by decide +kernel
theorem dX12_both_34 : decode cX12_both 34 = .ok (.idiv, 1) := by decide +kernel
theorem dX12_both_35 : decode cX12_both 35 = .ok (.ishl, 1) := by decide +kernel
theorem dX12_both_36 : decode cX12_both 36 = .ok (.iconst 1, 1) := by decide +kernel
theorem dX12_both_37 : decode cX12_both 37 = .ok (.iload_n 1, 1) := by decide +kernel
theorem dX12_both_38 : decode cX12_both 38 = .ok (.bipush 10, 2) := by decide +kernel
theorem dX12_both_40 : decode cX12_both 40 = .ok (.irem, 1) := by decide +kernel
theorem dX12_both_41 : decode cX12_both 41 = .ok (.ishl, 1) := by decide +kernel
theorem dX12_both_42 : decode cX12_both 42 = .ok (.ior, 1) := by decide +kernel
theorem dX12_both_43 : decode cX12_both 43 = .ok (.iconst 1, 1) := by decide +kernel
theorem dX12_both_44 : decode cX12_both 44 = .ok (.iload_n 2, 1) := by decide +kernel
theorem dX12_both_45 : decode cX12_both 45 = .ok (.bipush 10, 2) := by decide +kernel
theorem dX12_both_47 : decode cX12_both 47 = .ok (.idiv, 1) := by decide +kernel
theorem dX12_both_48 : decode cX12_both 48 = .ok (.ishl, 1) := by decide +kernel
theorem dX12_both_49 : decode cX12_both 49 = .ok (.ior, 1) := by decide +kernel
theorem dX12_both_50 : decode cX12_both 50 = .ok (.iconst 1, 1) := by decide +kernel
theorem dX12_both_51 : decode cX12_both 51 = .ok (.iload_n 2, 1) := by decide +kernel
theorem dX12_both_52 : decode cX12_both 52 = .ok (.bipush 10, 2) := by decide +kernel
theorem dX12_both_54 : decode cX12_both 54 = .ok (.irem, 1) := by decide +kernel
theorem dX12_both_55 : decode cX12_both 55 = .ok (.ishl, 1) := by decide +kernel
theorem dX12_both_56 : decode cX12_both 56 = .ok (.ior, 1) := by decide +kernel
theorem dX12_both_57 : decode cX12_both 57 = .ok (.istore 4, 2) := by decide +kernel
theorem dX12_both_59 : decode cX12_both 59 = .ok (.aload_n 0, 1) := by decide +kernel
theorem dX12_both_60 : decode cX12_both 60 = .ok (.iload 4, 2) := by decide +kernel
theorem dX12_both_62 : decode cX12_both 62 = .ok (.invokevirtual 313, 3) := by decide +kernel
theorem dX12_both_65 : decode cX12_both 65 = .ok (.istore 5, 2) := by decide +kernel
theorem dX12_both_67 : decode cX12_both 67 = .ok (.iload_n 3, 1) := by decide +kernel
theorem dX12_both_68 : decode cX12_both 68 = .ok (.ifCond .ne 17, 3) := by decide +kernel
theorem dX12_both_71 : decode cX12_both 71 = .ok (.iload 5, 2) := by decide +kernel
theorem dX12_both_73 : decode cX12_both 73 = .ok (.iconst 3, 1) := by decide +kernel
theorem dX12_both_74 : decode cX12_both 74 = .ok (.if_icmp .ne 7, 3) := by decide +kernel
theorem dX12_both_77 : decode cX12_both 77 = .ok (.lconst 0, 1) := by decide +kernel
theorem dX12_both_78 : decode cX12_both 78 = .ok (.goto 32, 3) := by decide +kernel
theorem dX12_both_81 : decode cX12_both 81 = .ok (.lconst 1, 1) := by decide +kernel
theorem dX12_both_82 : decode cX12_both 82 = .ok (.goto 28, 3) := by decide +kernel
theorem dX12_both_85 : decode cX12_both 85 = .ok (.iload 5, 2) := by decide +kernel
theorem dX12_both_87 : decode cX12_both 87 = .ok (.iconst 2, 1) := by decide +kernel
theorem dX12_both_88 : decode cX12_both 88 = .ok (.if_icmp .ne 9, 3) := by decide +kernel
theorem dX12_both_91 : decode cX12_both 91 = .ok (.ldc2_w 333, 3) := by decide +kernel
theorem dX12_both_94 : decode cX12_both 94 = .ok (.goto 16, 3) := by decide +kernel
theorem dX12_both_97 : decode cX12_both 97 = .ok (.iload 5, 2) := by decide +kernel
theorem dX12_both_99 : decode cX12_both 99 = .ok (.iconst 3, 1) := by decide +kernel
theorem dX12_both_100 : decode cX12_both 100 = .ok (.if_icmp .ne 7, 3) := by decide +kernel
theorem dX12_both_103 : decode cX12_both 103 = .ok (.lconst 1, 1) := by decide +kernel
theorem dX12_both_104 : decode cX12_both 104 = .ok (.goto 6, 3) := by decide +kernel
theorem dX12_both_107 : decode cX12_both 107 = .ok (.ldc2_w 335, 3) := by decide +kernel
theorem dX12_both_110 : decode cX12_both 110 = .ok (.lreturn, 1) := by decide +kernel
set_option maxRecDepth 20000 in
theorem ggX12_judge_X12_isTape : GoodIn wsX12_judge wsX12_isTape := goodIn_r _ [10, 11, 12, 13, 9, 14] (by decide +kernel) (by decide +kernel)
set_option maxRecDepth 20000 in
theorem gX12_judge_X12_isTape : GoodIn wsX12_judge (wsV RX12 337 RX12 yX12_isTape wsX12_isTape) := goodIn_app (goodIn_of _ (by decide +kernel)) ggX12_judge_X12_isTape
theorem dX12_judge_0 : decode cX12_judge 0 = .ok (.aload_n 0, 1) := by decide +kernel
theorem dX12_judge_1 : decode cX12_judge 1 = .ok (.iload_n 1, 1) := by decide +kernel
theorem dX12_judge_2 : decode cX12_judge 2 = .ok (.invokevirtual 337, 3) := by decide +kernel
theorem dX12_judge_5 : decode cX12_judge 5 = .ok (.ifCond .ne 5, 3) := by decide +kernel
theorem dX12_judge_8 : decode cX12_judge 8 = .ok (.iconst (-1), 1) := by decide +kernel
theorem dX12_judge_9 : decode cX12_judge 9 = .ok (.ireturn, 1) := by decide +kernel
theorem dX12_judge_10 : decode cX12_judge 10 = .ok (.aload_n 0, 1) := by decide +kernel
theorem dX12_judge_11 : decode cX12_judge 11 = .ok (.getfield 154, 3) := by decide +kernel
theorem dX12_judge_14 : decode cX12_judge 14 = .ok (.iload_n 1, 1) := by decide +kernel
theorem dX12_judge_15 : decode cX12_judge 15 = .ok (.iaload, 1) := by decide +kernel
theorem dX12_judge_16 : decode cX12_judge 16 = .ok (.ifCond .lt 16, 3) := by decide +kernel
theorem dX12_judge_19 : decode cX12_judge 19 = .ok (.aload_n 0, 1) := by decide +kernel
theorem dX12_judge_20 : decode cX12_judge 20 = .ok (.getfield 154, 3) := by decide +kernel
theorem dX12_judge_23 : decode cX12_judge 23 = .ok (.iload_n 1, 1) := by decide +kernel
theorem dX12_judge_24 : decode cX12_judge 24 = .ok (.iaload, 1) := by decide +kernel
theorem dX12_judge_25 : decode cX12_judge 25 = .ok (.iconst 1, 1) := by decide +kernel
theorem dX12_judge_26 : decode cX12_judge 26 = .ok (.if_icmp .eq 6, 3) := by decide +kernel
theorem dX12_judge_29 : decode cX12_judge 29 = .ok (.bipush (-12), 2) := by decide +kernel
theorem dX12_judge_31 : decode cX12_judge 31 = .ok (.ireturn, 1) := by decide +kernel
theorem dX12_judge_32 : decode cX12_judge 32 = .ok (.iconst 0, 1) := by decide +kernel
theorem dX12_judge_33 : decode cX12_judge 33 = .ok (.istore_n 3, 1) := by decide +kernel
theorem dX12_judge_34 : decode cX12_judge 34 = .ok (.iload_n 3, 1) := by decide +kernel
theorem dX12_judge_35 : decode cX12_judge 35 = .ok (.aload_n 0, 1) := by decide +kernel
theorem dX12_judge_36 : decode cX12_judge 36 = .ok (.getfield 7, 3) := by decide +kernel
theorem dX12_judge_39 : decode cX12_judge 39 = .ok (.if_icmp .ge 67, 3) := by decide +kernel
theorem dX12_judge_42 : decode cX12_judge 42 = .ok (.aload_n 0, 1) := by decide +kernel
theorem dX12_judge_43 : decode cX12_judge 43 = .ok (.getfield 154, 3) := by decide +kernel
theorem dX12_judge_46 : decode cX12_judge 46 = .ok (.iload_n 1, 1) := by decide +kernel
theorem dX12_judge_47 : decode cX12_judge 47 = .ok (.iaload, 1) := by decide +kernel
theorem dX12_judge_48 : decode cX12_judge 48 = .ok (.ifCond .lt 21, 3) := by decide +kernel
theorem dX12_judge_51 : decode cX12_judge 51 = .ok (.iload_n 2, 1) := by decide +kernel
theorem dX12_judge_52 : decode cX12_judge 52 = .ok (.ifCond .lt 17, 3) := by decide +kernel
theorem dX12_judge_55 : decode cX12_judge 55 = .ok (.iload_n 2, 1) := by decide +kernel
theorem dX12_judge_56 : decode cX12_judge 56 = .ok (.aload_n 0, 1) := by decide +kernel
theorem dX12_judge_57 : decode cX12_judge 57 = .ok (.getfield 157, 3) := by decide +kernel
theorem dX12_judge_60 : decode cX12_judge 60 = .ok (.iload_n 1, 1) := by decide +kernel
theorem dX12_judge_61 : decode cX12_judge 61 = .ok (.iaload, 1) := by decide +kernel
theorem dX12_judge_62 : decode cX12_judge 62 = .ok (.iload_n 3, 1) := by decide +kernel
theorem dX12_judge_63 : decode cX12_judge 63 = .ok (.isub, 1) := by decide +kernel
theorem dX12_judge_64 : decode cX12_judge 64 = .ok (.iconst 1, 1) := by decide +kernel
theorem dX12_judge_65 : decode cX12_judge 65 = .ok (.isub, 1) := by decide +kernel
theorem dX12_judge_66 : decode cX12_judge 66 = .ok (.if_icmp .le 8, 3) := by decide +kernel
theorem dX12_judge_69 : decode cX12_judge 69 = .ok (.bipush 100, 2) := by decide +kernel
theorem dX12_judge_71 : decode cX12_judge 71 = .ok (.iload_n 3, 1) := by decide +kernel
theorem dX12_judge_72 : decode cX12_judge 72 = .ok (.iadd, 1) := by decide +kernel
theorem dX12_judge_73 : decode cX12_judge 73 = .ok (.ireturn, 1) := by decide +kernel
theorem dX12_judge_74 : decode cX12_judge 74 = .ok (.aload_n 0, 1) := by decide +kernel
theorem dX12_judge_75 : decode cX12_judge 75 = .ok (.getfield 160, 3) := by decide +kernel
theorem dX12_judge_78 : decode cX12_judge 78 = .ok (.bipush 60, 2) := by decide +kernel
theorem dX12_judge_80 : decode cX12_judge 80 = .ok (.iload_n 1, 1) := by decide +kernel
theorem dX12_judge_81 : decode cX12_judge 81 = .ok (.imul, 1) := by decide +kernel
theorem dX12_judge_82 : decode cX12_judge 82 = .ok (.iload_n 2, 1) := by decide +kernel
theorem dX12_judge_83 : decode cX12_judge 83 = .ok (.iadd, 1) := by decide +kernel
theorem dX12_judge_84 : decode cX12_judge 84 = .ok (.iload_n 3, 1) := by decide +kernel
theorem dX12_judge_85 : decode cX12_judge 85 = .ok (.iadd, 1) := by decide +kernel
theorem dX12_judge_86 : decode cX12_judge 86 = .ok (.laload, 1) := by decide +kernel
theorem dX12_judge_87 : decode cX12_judge 87 = .ok (.aload_n 0, 1) := by decide +kernel
theorem dX12_judge_88 : decode cX12_judge 88 = .ok (.getfield 35, 3) := by decide +kernel
theorem dX12_judge_91 : decode cX12_judge 91 = .ok (.iload_n 3, 1) := by decide +kernel
theorem dX12_judge_92 : decode cX12_judge 92 = .ok (.iaload, 1) := by decide +kernel
theorem dX12_judge_93 : decode cX12_judge 93 = .ok (.i2l, 1) := by decide +kernel
theorem dX12_judge_94 : decode cX12_judge 94 = .ok (.lcmp, 1) := by decide +kernel
theorem dX12_judge_95 : decode cX12_judge 95 = .ok (.ifCond .eq 5, 3) := by decide +kernel
theorem dX12_judge_98 : decode cX12_judge 98 = .ok (.iload_n 3, 1) := by decide +kernel
theorem dX12_judge_99 : decode cX12_judge 99 = .ok (.ireturn, 1) := by decide +kernel
theorem dX12_judge_100 : decode cX12_judge 100 = .ok (.iinc 3 1, 3) := by decide +kernel
theorem dX12_judge_103 : decode cX12_judge 103 = .ok (.goto (-69), 3) := by decide +kernel
theorem dX12_judge_106 : decode cX12_judge 106 = .ok (.bipush (-5), 2) := by decide +kernel
theorem dX12_judge_108 : decode cX12_judge 108 = .ok (.ireturn, 1) := by decide +kernel
theorem dX12_image_0 : decode cX12_image 0 = .ok (.aload_n 0, 1) := by decide +kernel
theorem dX12_image_1 : decode cX12_image 1 = .ok (.iconst 1, 1) := by decide +kernel
theorem dX12_image_2 : decode cX12_image 2 = .ok (.putfield 120, 3) := by decide +kernel
theorem dX12_image_5 : decode cX12_image 5 = .ok (.aload_n 0, 1) := by decide +kernel
theorem dX12_image_6 : decode cX12_image 6 = .ok (.aload_n 0, 1) := by decide +kernel
theorem dX12_image_7 : decode cX12_image 7 = .ok (.getfield 51, 3) := by decide +kernel
theorem dX12_image_10 : decode cX12_image 10 = .ok (.putfield 124, 3) := by decide +kernel
theorem dX12_image_13 : decode cX12_image 13 = .ok (.aload_n 0, 1) := by decide +kernel
theorem dX12_image_14 : decode cX12_image 14 = .ok (.aload_n 0, 1) := by decide +kernel
theorem dX12_image_15 : decode cX12_image 15 = .ok (.getfield 7, 3) := by decide +kernel
theorem dX12_image_18 : decode cX12_image 18 = .ok (.putfield 127, 3) := by decide +kernel
theorem dX12_image_21 : decode cX12_image 21 = .ok (.aload_n 0, 1) := by decide +kernel
theorem dX12_image_22 : decode cX12_image 22 = .ok (.aload_n 0, 1) := by decide +kernel
theorem dX12_image_23 : decode cX12_image 23 = .ok (.getfield 13, 3) := by decide +kernel
theorem dX12_image_26 : decode cX12_image 26 = .ok (.putfield 130, 3) := by decide +kernel
theorem dX12_image_29 : decode cX12_image 29 = .ok (.iconst 0, 1) := by decide +kernel
theorem dX12_image_30 : decode cX12_image 30 = .ok (.istore_n 1, 1) := by decide +kernel
theorem dX12_image_31 : decode cX12_image 31 = .ok (.iload_n 1, 1) := by decide +kernel
theorem dX12_image_32 : decode cX12_image 32 = .ok (.bipush 8, 2) := by decide +kernel
theorem dX12_image_34 : decode cX12_image 34 = .ok (.if_icmp .ge 57, 3) := by decide +kernel
theorem dX12_image_37 : decode cX12_image 37 = .ok (.aload_n 0, 1) := by decide +kernel
theorem dX12_image_38 : decode cX12_image 38 = .ok (.getfield 133, 3) := by decide +kernel
theorem dX12_image_41 : decode cX12_image 41 = .ok (.iload_n 1, 1) := by decide +kernel
theorem dX12_image_42 : decode cX12_image 42 = .ok (.aload_n 0, 1) := by decide +kernel
theorem dX12_image_43 : decode cX12_image 43 = .ok (.getfield 35, 3) := by decide +kernel
theorem dX12_image_46 : decode cX12_image 46 = .ok (.iload_n 1, 1) := by decide +kernel
theorem dX12_image_47 : decode cX12_image 47 = .ok (.iaload, 1) := by decide +kernel
theorem dX12_image_48 : decode cX12_image 48 = .ok (.iastore, 1) := by decide +kernel
theorem dX12_image_49 : decode cX12_image 49 = .ok (.aload_n 0, 1) := by decide +kernel
theorem dX12_image_50 : decode cX12_image 50 = .ok (.getfield 136, 3) := by decide +kernel
theorem dX12_image_53 : decode cX12_image 53 = .ok (.iload_n 1, 1) := by decide +kernel
theorem dX12_image_54 : decode cX12_image 54 = .ok (.aload_n 0, 1) := by decide +kernel
theorem dX12_image_55 : decode cX12_image 55 = .ok (.getfield 38, 3) := by decide +kernel
theorem dX12_image_58 : decode cX12_image 58 = .ok (.iload_n 1, 1) := by decide +kernel
theorem dX12_image_59 : decode cX12_image 59 = .ok (.iaload, 1) := by decide +kernel
theorem dX12_image_60 : decode cX12_image 60 = .ok (.iastore, 1) := by decide +kernel
theorem dX12_image_61 : decode cX12_image 61 = .ok (.aload_n 0, 1) := by decide +kernel
theorem dX12_image_62 : decode cX12_image 62 = .ok (.getfield 139, 3) := by decide +kernel
theorem dX12_image_65 : decode cX12_image 65 = .ok (.iload_n 1, 1) := by decide +kernel
theorem dX12_image_66 : decode cX12_image 66 = .ok (.aload_n 0, 1) := by decide +kernel
theorem dX12_image_67 : decode cX12_image 67 = .ok (.getfield 32, 3) := by decide +kernel
theorem dX12_image_70 : decode cX12_image 70 = .ok (.iload_n 1, 1) := by decide +kernel
theorem dX12_image_71 : decode cX12_image 71 = .ok (.iaload, 1) := by decide +kernel
theorem dX12_image_72 : decode cX12_image 72 = .ok (.iastore, 1) := by decide +kernel
theorem dX12_image_73 : decode cX12_image 73 = .ok (.aload_n 0, 1) := by decide +kernel
theorem dX12_image_74 : decode cX12_image 74 = .ok (.getfield 142, 3) := by decide +kernel
theorem dX12_image_77 : decode cX12_image 77 = .ok (.iload_n 1, 1) := by decide +kernel
theorem dX12_image_78 : decode cX12_image 78 = .ok (.aload_n 0, 1) := by decide +kernel
theorem dX12_image_79 : decode cX12_image 79 = .ok (.getfield 41, 3) := by decide +kernel
theorem dX12_image_82 : decode cX12_image 82 = .ok (.iload_n 1, 1) := by decide +kernel
theorem dX12_image_83 : decode cX12_image 83 = .ok (.baload, 1) := by decide +kernel
theorem dX12_image_84 : decode cX12_image 84 = .ok (.bastore, 1) := by decide +kernel
theorem dX12_image_85 : decode cX12_image 85 = .ok (.iinc 1 1, 3) := by decide +kernel
theorem dX12_image_88 : decode cX12_image 88 = .ok (.goto (-57), 3) := by decide +kernel
theorem dX12_image_91 : decode cX12_image 91 = .ok (.iconst 0, 1) := by decide +kernel
theorem dX12_image_92 : decode cX12_image 92 = .ok (.istore_n 1, 1) := by decide +kernel
theorem dX12_image_93 : decode cX12_image 93 = .ok (.iload_n 1, 1) := by decide +kernel
theorem dX12_image_94 : decode cX12_image 94 = .ok (.bipush 64, 2) := by decide +kernel
theorem dX12_image_96 : decode cX12_image 96 = .ok (.if_icmp .ge 21, 3) := by decide +kernel
theorem dX12_image_99 : decode cX12_image 99 = .ok (.aload_n 0, 1) := by decide +kernel
theorem dX12_image_100 : decode cX12_image 100 = .ok (.getfield 145, 3) := by decide +kernel
theorem dX12_image_103 : decode cX12_image 103 = .ok (.iload_n 1, 1) := by decide +kernel
theorem dX12_image_104 : decode cX12_image 104 = .ok (.aload_n 0, 1) := by decide +kernel
theorem dX12_image_105 : decode cX12_image 105 = .ok (.getfield 45, 3) := by decide +kernel
theorem dX12_image_108 : decode cX12_image 108 = .ok (.iload_n 1, 1) := by decide +kernel
theorem dX12_image_109 : decode cX12_image 109 = .ok (.baload, 1) := by decide +kernel
theorem dX12_image_110 : decode cX12_image 110 = .ok (.bastore, 1) := by decide +kernel
theorem dX12_image_111 : decode cX12_image 111 = .ok (.iinc 1 1, 3) := by decide +kernel
theorem dX12_image_114 : decode cX12_image 114 = .ok (.goto (-21), 3) := by decide +kernel
theorem dX12_image_117 : decode cX12_image 117 = .ok (.aload_n 0, 1) := by decide +kernel
theorem dX12_image_118 : decode cX12_image 118 = .ok (.getfield 7, 3) := by decide +kernel
theorem dX12_image_121 : decode cX12_image 121 = .ok (.ireturn, 1) := by decide +kernel
theorem dX12_undo_0 : decode cX12_undo 0 = .ok (.aload_n 0, 1) := by decide +kernel
theorem dX12_undo_1 : decode cX12_undo 1 = .ok (.getfield 120, 3) := by decide +kernel
theorem dX12_undo_4 : decode cX12_undo 4 = .ok (.ifCond .ne 6, 3) := by decide +kernel
theorem dX12_undo_7 : decode cX12_undo 7 = .ok (.bipush (-3), 2) := by decide +kernel
theorem dX12_undo_9 : decode cX12_undo 9 = .ok (.ireturn, 1) := by decide +kernel
theorem dX12_undo_10 : decode cX12_undo 10 = .ok (.aload_n 0, 1) := by decide +kernel
theorem dX12_undo_11 : decode cX12_undo 11 = .ok (.aload_n 0, 1) := by decide +kernel
theorem dX12_undo_12 : decode cX12_undo 12 = .ok (.getfield 124, 3) := by decide +kernel
theorem dX12_undo_15 : decode cX12_undo 15 = .ok (.putfield 51, 3) := by decide +kernel
theorem dX12_undo_18 : decode cX12_undo 18 = .ok (.aload_n 0, 1) := by decide +kernel
theorem dX12_undo_19 : decode cX12_undo 19 = .ok (.aload_n 0, 1) := by decide +kernel
theorem dX12_undo_20 : decode cX12_undo 20 = .ok (.getfield 127, 3) := by decide +kernel
theorem dX12_undo_23 : decode cX12_undo 23 = .ok (.putfield 7, 3) := by decide +kernel
theorem dX12_undo_26 : decode cX12_undo 26 = .ok (.aload_n 0, 1) := by decide +kernel
theorem dX12_undo_27 : decode cX12_undo 27 = .ok (.aload_n 0, 1) := by decide +kernel
theorem dX12_undo_28 : decode cX12_undo 28 = .ok (.getfield 130, 3) := by decide +kernel
theorem dX12_undo_31 : decode cX12_undo 31 = .ok (.putfield 13, 3) := by decide +kernel
theorem dX12_undo_34 : decode cX12_undo 34 = .ok (.iconst 0, 1) := by decide +kernel
theorem dX12_undo_35 : decode cX12_undo 35 = .ok (.istore_n 1, 1) := by decide +kernel
theorem dX12_undo_36 : decode cX12_undo 36 = .ok (.iload_n 1, 1) := by decide +kernel
theorem dX12_undo_37 : decode cX12_undo 37 = .ok (.bipush 8, 2) := by decide +kernel
theorem dX12_undo_39 : decode cX12_undo 39 = .ok (.if_icmp .ge 57, 3) := by decide +kernel
theorem dX12_undo_42 : decode cX12_undo 42 = .ok (.aload_n 0, 1) := by decide +kernel
theorem dX12_undo_43 : decode cX12_undo 43 = .ok (.getfield 35, 3) := by decide +kernel
theorem dX12_undo_46 : decode cX12_undo 46 = .ok (.iload_n 1, 1) := by decide +kernel
theorem dX12_undo_47 : decode cX12_undo 47 = .ok (.aload_n 0, 1) := by decide +kernel
theorem dX12_undo_48 : decode cX12_undo 48 = .ok (.getfield 133, 3) := by decide +kernel
theorem dX12_undo_51 : decode cX12_undo 51 = .ok (.iload_n 1, 1) := by decide +kernel
theorem dX12_undo_52 : decode cX12_undo 52 = .ok (.iaload, 1) := by decide +kernel
theorem dX12_undo_53 : decode cX12_undo 53 = .ok (.iastore, 1) := by decide +kernel
theorem dX12_undo_54 : decode cX12_undo 54 = .ok (.aload_n 0, 1) := by decide +kernel
theorem dX12_undo_55 : decode cX12_undo 55 = .ok (.getfield 38, 3) := by decide +kernel
theorem dX12_undo_58 : decode cX12_undo 58 = .ok (.iload_n 1, 1) := by decide +kernel
theorem dX12_undo_59 : decode cX12_undo 59 = .ok (.aload_n 0, 1) := by decide +kernel
theorem dX12_undo_60 : decode cX12_undo 60 = .ok (.getfield 136, 3) := by decide +kernel
theorem dX12_undo_63 : decode cX12_undo 63 = .ok (.iload_n 1, 1) := by decide +kernel
theorem dX12_undo_64 : decode cX12_undo 64 = .ok (.iaload, 1) := by decide +kernel
theorem dX12_undo_65 : decode cX12_undo 65 = .ok (.iastore, 1) := by decide +kernel
theorem dX12_undo_66 : decode cX12_undo 66 = .ok (.aload_n 0, 1) := by decide +kernel
theorem dX12_undo_67 : decode cX12_undo 67 = .ok (.getfield 32, 3) := by decide +kernel
theorem dX12_undo_70 : decode cX12_undo 70 = .ok (.iload_n 1, 1) := by decide +kernel
theorem dX12_undo_71 : decode cX12_undo 71 = .ok (.aload_n 0, 1) := by decide +kernel
theorem dX12_undo_72 : decode cX12_undo 72 = .ok (.getfield 139, 3) := by decide +kernel
theorem dX12_undo_75 : decode cX12_undo 75 = .ok (.iload_n 1, 1) := by decide +kernel
theorem dX12_undo_76 : decode cX12_undo 76 = .ok (.iaload, 1) := by decide +kernel
theorem dX12_undo_77 : decode cX12_undo 77 = .ok (.iastore, 1) := by decide +kernel
theorem dX12_undo_78 : decode cX12_undo 78 = .ok (.aload_n 0, 1) := by decide +kernel
theorem dX12_undo_79 : decode cX12_undo 79 = .ok (.getfield 41, 3) := by decide +kernel
theorem dX12_undo_82 : decode cX12_undo 82 = .ok (.iload_n 1, 1) := by decide +kernel
theorem dX12_undo_83 : decode cX12_undo 83 = .ok (.aload_n 0, 1) := by decide +kernel
theorem dX12_undo_84 : decode cX12_undo 84 = .ok (.getfield 142, 3) := by decide +kernel
theorem dX12_undo_87 : decode cX12_undo 87 = .ok (.iload_n 1, 1) := by decide +kernel
theorem dX12_undo_88 : decode cX12_undo 88 = .ok (.baload, 1) := by decide +kernel
theorem dX12_undo_89 : decode cX12_undo 89 = .ok (.bastore, 1) := by decide +kernel
theorem dX12_undo_90 : decode cX12_undo 90 = .ok (.iinc 1 1, 3) := by decide +kernel
theorem dX12_undo_93 : decode cX12_undo 93 = .ok (.goto (-57), 3) := by decide +kernel
theorem dX12_undo_96 : decode cX12_undo 96 = .ok (.iconst 0, 1) := by decide +kernel
theorem dX12_undo_97 : decode cX12_undo 97 = .ok (.istore_n 1, 1) := by decide +kernel
theorem dX12_undo_98 : decode cX12_undo 98 = .ok (.iload_n 1, 1) := by decide +kernel
theorem dX12_undo_99 : decode cX12_undo 99 = .ok (.bipush 64, 2) := by decide +kernel
theorem dX12_undo_101 : decode cX12_undo 101 = .ok (.if_icmp .ge 21, 3) := by decide +kernel
theorem dX12_undo_104 : decode cX12_undo 104 = .ok (.aload_n 0, 1) := by decide +kernel
theorem dX12_undo_105 : decode cX12_undo 105 = .ok (.getfield 45, 3) := by decide +kernel
theorem dX12_undo_108 : decode cX12_undo 108 = .ok (.iload_n 1, 1) := by decide +kernel
theorem dX12_undo_109 : decode cX12_undo 109 = .ok (.aload_n 0, 1) := by decide +kernel
theorem dX12_undo_110 : decode cX12_undo 110 = .ok (.getfield 145, 3) := by decide +kernel
theorem dX12_undo_113 : decode cX12_undo 113 = .ok (.iload_n 1, 1) := by decide +kernel
theorem dX12_undo_114 : decode cX12_undo 114 = .ok (.baload, 1) := by decide +kernel
theorem dX12_undo_115 : decode cX12_undo 115 = .ok (.bastore, 1) := by decide +kernel
theorem dX12_undo_116 : decode cX12_undo 116 = .ok (.iinc 1 1, 3) := by decide +kernel
theorem dX12_undo_119 : decode cX12_undo 119 = .ok (.goto (-21), 3) := by decide +kernel
theorem dX12_undo_122 : decode cX12_undo 122 = .ok (.aload_n 0, 1) := by decide +kernel
theorem dX12_undo_123 : decode cX12_undo 123 = .ok (.getfield 7, 3) := by decide +kernel
theorem dX12_undo_126 : decode cX12_undo 126 = .ok (.ireturn, 1) := by decide +kernel
theorem dX12_body_0 : decode cX12_body 0 = .ok (.aload_n 0, 1) := by decide +kernel
theorem dX12_body_1 : decode cX12_body 1 = .ok (.getfield 148, 3) := by decide +kernel
theorem dX12_body_4 : decode cX12_body 4 = .ok (.bipush 20, 2) := by decide +kernel
theorem dX12_body_6 : decode cX12_body 6 = .ok (.if_icmp .ge 13, 3) := by decide +kernel
theorem dX12_body_9 : decode cX12_body 9 = .ok (.aload_n 0, 1) := by decide +kernel
theorem dX12_body_10 : decode cX12_body 10 = .ok (.getfield 151, 3) := by decide +kernel
theorem dX12_body_13 : decode cX12_body 13 = .ok (.aload_n 0, 1) := by decide +kernel
theorem dX12_body_14 : decode cX12_body 14 = .ok (.getfield 148, 3) := by decide +kernel
theorem dX12_body_17 : decode cX12_body 17 = .ok (.iload_n 1, 1) := by decide +kernel
theorem dX12_body_18 : decode cX12_body 18 = .ok (.iastore, 1) := by decide +kernel
theorem dX12_body_19 : decode cX12_body 19 = .ok (.aload_n 0, 1) := by decide +kernel
theorem dX12_body_20 : decode cX12_body 20 = .ok (.dup, 1) := by decide +kernel
theorem dX12_body_21 : decode cX12_body 21 = .ok (.getfield 148, 3) := by decide +kernel
theorem dX12_body_24 : decode cX12_body 24 = .ok (.iconst 1, 1) := by decide +kernel
theorem dX12_body_25 : decode cX12_body 25 = .ok (.iadd, 1) := by decide +kernel
theorem dX12_body_26 : decode cX12_body 26 = .ok (.putfield 148, 3) := by decide +kernel
theorem dX12_body_29 : decode cX12_body 29 = .ok (.return_, 1) := by decide +kernel
set_option maxRecDepth 20000 in
theorem ggX12_pupilSits_X12_body : GoodIn wsX12_pupilSits wsX12_body := goodIn_r _ [5, 6, 7, 8, 9, 10, 11, 12, 13, 14, 15, 16, 17, 18, 19, 20, 21, 22, 23, 24, 25, 26, 27, 28, 29, 30, 31, 32, 33, 34, 35, 36, 37, 38, 39, 40, 41, 42, 43, 44, 45, 46, 47, 48, 49, 50, 51, 52, 53, 54, 55, 56, 57, 58] (by decide +kernel) (by decide +kernel)
set_option maxRecDepth 20000 in
theorem gX12_pupilSits_X12_body : GoodIn wsX12_pupilSits (wsV RX12 340 RX12 yX12_body wsX12_body) := goodIn_app (goodIn_of _ (by decide +kernel)) ggX12_pupilSits_X12_body
theorem dX12_pupilSits_0 : decode cX12_pupilSits 0 = .ok (.aload_n 0, 1) := by decide +kernel
theorem dX12_pupilSits_1 : decode cX12_pupilSits 1 = .ok (.bipush 10, 2) := by decide +kernel
theorem dX12_pupilSits_3 : decode cX12_pupilSits 3 = .ok (.invokevirtual 340, 3) := by decide +kernel
theorem dX12_pupilSits_6 : decode cX12_pupilSits 6 = .ok (.iload_n 2, 1) := by decide +kernel
theorem dX12_pupilSits_7 : decode cX12_pupilSits 7 = .ok (.iload_n 1, 1) := by decide +kernel
theorem dX12_pupilSits_8 : decode cX12_pupilSits 8 = .ok (.iadd, 1) := by decide +kernel
theorem dX12_pupilSits_9 : decode cX12_pupilSits 9 = .ok (.ireturn, 1) := by decide +kernel
set_option maxRecDepth 20000 in
theorem ggX12_sitsAct_X12_body : GoodIn wsX12_sitsAct wsX12_body := goodIn_r _ [7, 8, 9, 14, 15, 16, 17, 18, 19, 20, 21, 22, 23, 24, 25, 26, 27, 28, 29, 30, 31, 32, 33, 34, 35, 36, 37, 38, 39, 40, 41, 42, 43, 44, 45, 46, 47, 48, 49, 50, 51, 52, 53, 54, 55, 56, 57, 58, 59, 60, 61, 62, 63, 64] (by decide +kernel) (by decide +kernel)
set_option maxRecDepth 20000 in
theorem gX12_sitsAct_X12_body : GoodIn wsX12_sitsAct (wsV RX12 340 RX12 yX12_body wsX12_body) := goodIn_app (goodIn_of _ (by decide +kernel)) ggX12_sitsAct_X12_body
set_option maxRecDepth 20000 in
theorem ggX12_sitsAct_X12_pupilSits : GoodIn wsX12_sitsAct wsX12_pupilSits := goodIn_r _ [13, 3, 4, 5, 6, 7, 8, 9, 14, 15, 16, 17, 18, 19, 20, 21, 22, 23, 24, 25, 26, 27, 28, 29, 30, 31, 32, 33, 34, 35, 36, 37, 38, 39, 40, 41, 42, 43, 44, 45, 46, 47, 48, 49, 50, 51, 52, 53, 54, 55, 56, 57, 58, 59, 60, 61, 62, 63, 64] (by decide +kernel) (by decide +kernel)
set_option maxRecDepth 20000 in
theorem gX12_sitsAct_X12_pupilSits : GoodIn wsX12_sitsAct (wsV RX12 343 RX12 yX12_pupilSits wsX12_pupilSits) := goodIn_app (goodIn_of _ (by decide +kernel)) ggX12_sitsAct_X12_pupilSits
theorem dX12_sitsAct_0 : decode cX12_sitsAct 0 = .ok (.aload_n 0, 1) := by decide +kernel
theorem dX12_sitsAct_1 : decode cX12_sitsAct 1 = .ok (.getfield 16, 3) := by decide +kernel
theorem dX12_sitsAct_4 : decode cX12_sitsAct 4 = .ok (.iload_n 1, 1) := by decide +kernel
theorem dX12_sitsAct_5 : decode cX12_sitsAct 5 = .ok (.iaload, 1) := by decide +kernel
theorem dX12_sitsAct_6 : decode cX12_sitsAct 6 = .ok (.tableswitch 83 2 6 #[34, 83, 49, 34, 63], 34) := by decide +kernel
theorem dX12_sitsAct_40 : decode cX12_sitsAct 40 = .ok (.aload_n 0, 1) := by decide +kernel
theorem dX12_sitsAct_41 : decode cX12_sitsAct 41 = .ok (.bipush 30, 2) := by decide +kernel
theorem dX12_sitsAct_43 : decode cX12_sitsAct 43 = .ok (.invokevirtual 340, 3) := by decide +kernel
theorem dX12_sitsAct_46 : decode cX12_sitsAct 46 = .ok (.aload_n 0, 1) := by decide +kernel
theorem dX12_sitsAct_47 : decode cX12_sitsAct 47 = .ok (.iload_n 1, 1) := by decide +kernel
theorem dX12_sitsAct_48 : decode cX12_sitsAct 48 = .ok (.iload_n 2, 1) := by decide +kernel
theorem dX12_sitsAct_49 : decode cX12_sitsAct 49 = .ok (.iconst 3, 1) := by decide +kernel
theorem dX12_sitsAct_50 : decode cX12_sitsAct 50 = .ok (.imul, 1) := by decide +kernel
theorem dX12_sitsAct_51 : decode cX12_sitsAct 51 = .ok (.invokevirtual 343, 3) := by decide +kernel
theorem dX12_sitsAct_54 : decode cX12_sitsAct 54 = .ok (.ireturn, 1) := by decide +kernel
theorem dX12_sitsAct_55 : decode cX12_sitsAct 55 = .ok (.aload_n 0, 1) := by decide +kernel
theorem dX12_sitsAct_56 : decode cX12_sitsAct 56 = .ok (.bipush 50, 2) := by decide +kernel
theorem dX12_sitsAct_58 : decode cX12_sitsAct 58 = .ok (.invokevirtual 340, 3) := by decide +kernel
theorem dX12_sitsAct_61 : decode cX12_sitsAct 61 = .ok (.aload_n 0, 1) := by decide +kernel
theorem dX12_sitsAct_62 : decode cX12_sitsAct 62 = .ok (.iload_n 1, 1) := by decide +kernel
theorem dX12_sitsAct_63 : decode cX12_sitsAct 63 = .ok (.iload_n 2, 1) := by decide +kernel
theorem dX12_sitsAct_64 : decode cX12_sitsAct 64 = .ok (.invokevirtual 343, 3) := by decide +kernel
theorem dX12_sitsAct_67 : decode cX12_sitsAct 67 = .ok (.ineg, 1) := by decide +kernel
theorem dX12_sitsAct_68 : decode cX12_sitsAct 68 = .ok (.ireturn, 1) := by decide +kernel
theorem dX12_sitsAct_69 : decode cX12_sitsAct 69 = .ok (.aload_n 0, 1) := by decide +kernel
theorem dX12_sitsAct_70 : decode cX12_sitsAct 70 = .ok (.bipush 71, 2) := by decide +kernel
theorem dX12_sitsAct_72 : decode cX12_sitsAct 72 = .ok (.invokevirtual 340, 3) := by decide +kernel
theorem dX12_sitsAct_75 : decode cX12_sitsAct 75 = .ok (.aload_n 0, 1) := by decide +kernel
theorem dX12_sitsAct_76 : decode cX12_sitsAct 76 = .ok (.iload_n 1, 1) := by decide +kernel
theorem dX12_sitsAct_77 : decode cX12_sitsAct 77 = .ok (.iload_n 2, 1) := by decide +kernel
theorem dX12_sitsAct_78 : decode cX12_sitsAct 78 = .ok (.invokevirtual 343, 3) := by decide +kernel
theorem dX12_sitsAct_81 : decode cX12_sitsAct 81 = .ok (.aload_n 0, 1) := by decide +kernel
theorem dX12_sitsAct_82 : decode cX12_sitsAct 82 = .ok (.getfield 20, 3) := by decide +kernel
theorem dX12_sitsAct_85 : decode cX12_sitsAct 85 = .ok (.iload_n 1, 1) := by decide +kernel
theorem dX12_sitsAct_86 : decode cX12_sitsAct 86 = .ok (.iaload, 1) := by decide +kernel
theorem dX12_sitsAct_87 : decode cX12_sitsAct 87 = .ok (.ixor, 1) := by decide +kernel
theorem dX12_sitsAct_88 : decode cX12_sitsAct 88 = .ok (.ireturn, 1) := by decide +kernel
theorem dX12_sitsAct_89 : decode cX12_sitsAct 89 = .ok (.aload_n 0, 1) := by decide +kernel
theorem dX12_sitsAct_90 : decode cX12_sitsAct 90 = .ok (.iload_n 1, 1) := by decide +kernel
theorem dX12_sitsAct_91 : decode cX12_sitsAct 91 = .ok (.iload_n 2, 1) := by decide +kernel
theorem dX12_sitsAct_92 : decode cX12_sitsAct 92 = .ok (.invokevirtual 343, 3) := by decide +kernel
theorem dX12_sitsAct_95 : decode cX12_sitsAct 95 = .ok (.ireturn, 1) := by decide +kernel
set_option maxRecDepth 20000 in
theorem ggX12_pupilTalks_X12_body : GoodIn wsX12_pupilTalks wsX12_body := goodIn_r _ [6, 7, 8, 18, 19, 20, 21, 22, 23, 24, 25, 26, 27, 28, 29, 30, 31, 32, 33, 34, 35, 36, 37, 38, 39, 40, 41, 42, 43, 44, 45, 46, 47, 48, 49, 50, 51, 52, 53, 54, 55, 56, 57, 58, 59, 60, 61, 62, 63, 64, 65, 66, 67, 68] (by decide +kernel) (by decide +kernel)
set_option maxRecDepth 20000 in
theorem gX12_pupilTalks_X12_body : GoodIn wsX12_pupilTalks (wsV RX12 340 RX12 yX12_body wsX12_body) := goodIn_app (goodIn_of _ (by decide +kernel)) ggX12_pupilTalks_X12_body
set_option maxRecDepth 20000 in
theorem ggX12_pupilTalks_X12_sitsAct : GoodIn wsX12_pupilTalks wsX12_sitsAct := goodIn_r _ [12, 13, 1, 2, 3, 4, 5, 6, 7, 8, 14, 15, 16, 17, 18, 19, 20, 21, 22, 23, 24, 25, 26, 27, 28, 29, 30, 31, 32, 33, 34, 35, 36, 37, 38, 39, 40, 41, 42, 43, 44, 45, 46, 47, 48, 49, 50, 51, 52, 53, 54, 55, 56, 57, 58, 59, 60, 61, 62, 63, 64, 65, 66, 67, 68] (by decide +kernel) (by decide +kernel)
set_option maxRecDepth 20000 in
theorem gX12_pupilTalks_X12_sitsAct : GoodIn wsX12_pupilTalks (wsV RX12 346 RX12 yX12_sitsAct wsX12_sitsAct) := goodIn_app (goodIn_of _ (by decide +kernel)) ggX12_pupilTalks_X12_sitsAct
theorem dX12_pupilTalks_0 : decode cX12_pupilTalks 0 = .ok (.aload_n 0, 1) := by decide +kernel
theorem dX12_pupilTalks_1 : decode cX12_pupilTalks 1 = .ok (.bipush 11, 2) := by decide +kernel
theorem dX12_pupilTalks_3 : decode cX12_pupilTalks 3 = .ok (.invokevirtual 340, 3) := by decide +kernel
theorem dX12_pupilTalks_6 : decode cX12_pupilTalks 6 = .ok (.aload_n 0, 1) := by decide +kernel
theorem dX12_pupilTalks_7 : decode cX12_pupilTalks 7 = .ok (.iload_n 1, 1) := by decide +kernel
theorem dX12_pupilTalks_8 : decode cX12_pupilTalks 8 = .ok (.iload_n 2, 1) := by decide +kernel
theorem dX12_pupilTalks_9 : decode cX12_pupilTalks 9 = .ok (.invokevirtual 346, 3) := by decide +kernel
theorem dX12_pupilTalks_12 : decode cX12_pupilTalks 12 = .ok (.aload_n 0, 1) := by decide +kernel
theorem dX12_pupilTalks_13 : decode cX12_pupilTalks 13 = .ok (.getfield 20, 3) := by decide +kernel
theorem dX12_pupilTalks_16 : decode cX12_pupilTalks 16 = .ok (.iload_n 1, 1) := by decide +kernel
theorem dX12_pupilTalks_17 : decode cX12_pupilTalks 17 = .ok (.iaload, 1) := by decide +kernel
theorem dX12_pupilTalks_18 : decode cX12_pupilTalks 18 = .ok (.isub, 1) := by decide +kernel
theorem dX12_pupilTalks_19 : decode cX12_pupilTalks 19 = .ok (.ireturn, 1) := by decide +kernel
set_option maxRecDepth 20000 in
theorem ggX12_helpingTalks_X12_body : GoodIn wsX12_helpingTalks wsX12_body := goodIn_r _ [5, 6, 7, 22, 23, 24, 25, 26, 27, 28, 29, 30, 31, 32, 33, 34, 35, 36, 37, 38, 39, 40, 41, 42, 43, 44, 45, 46, 47, 48, 49, 50, 51, 52, 53, 54, 55, 56, 57, 58, 59, 60, 61, 62, 63, 64, 65, 66, 67, 68, 69, 70, 71, 72] (by decide +kernel) (by decide +kernel)
set_option maxRecDepth 20000 in
theorem gX12_helpingTalks_X12_body : GoodIn wsX12_helpingTalks (wsV RX12 340 RX12 yX12_body wsX12_body) := goodIn_app (goodIn_of _ (by decide +kernel)) ggX12_helpingTalks_X12_body
set_option maxRecDepth 20000 in
theorem ggX12_helpingTalks_X12_pupilTalks : GoodIn wsX12_helpingTalks wsX12_pupilTalks := goodIn_r _ [11, 12, 1, 2, 3, 4, 5, 6, 7, 13, 14, 15, 16, 17, 18, 19, 20, 21, 22, 23, 24, 25, 26, 27, 28, 29, 30, 31, 32, 33, 34, 35, 36, 37, 38, 39, 40, 41, 42, 43, 44, 45, 46, 47, 48, 49, 50, 51, 52, 53, 54, 55, 56, 57, 58, 59, 60, 61, 62, 63, 64, 65, 66, 67, 68, 69, 70, 71, 72] (by decide +kernel) (by decide +kernel)
set_option maxRecDepth 20000 in
theorem gX12_helpingTalks_X12_pupilTalks : GoodIn wsX12_helpingTalks (wsV RX12 349 RX12 yX12_pupilTalks wsX12_pupilTalks) := goodIn_app (goodIn_of _ (by decide +kernel)) ggX12_helpingTalks_X12_pupilTalks
theorem dX12_helpingTalks_0 : decode cX12_helpingTalks 0 = .ok (.aload_n 0, 1) := by decide +kernel
theorem dX12_helpingTalks_1 : decode cX12_helpingTalks 1 = .ok (.bipush 20, 2) := by decide +kernel
theorem dX12_helpingTalks_3 : decode cX12_helpingTalks 3 = .ok (.invokevirtual 340, 3) := by decide +kernel
theorem dX12_helpingTalks_6 : decode cX12_helpingTalks 6 = .ok (.aload_n 0, 1) := by decide +kernel
theorem dX12_helpingTalks_7 : decode cX12_helpingTalks 7 = .ok (.iload_n 1, 1) := by decide +kernel
theorem dX12_helpingTalks_8 : decode cX12_helpingTalks 8 = .ok (.iload_n 2, 1) := by decide +kernel
theorem dX12_helpingTalks_9 : decode cX12_helpingTalks 9 = .ok (.invokevirtual 349, 3) := by decide +kernel
theorem dX12_helpingTalks_12 : decode cX12_helpingTalks 12 = .ok (.bipush 6, 2) := by decide +kernel
theorem dX12_helpingTalks_14 : decode cX12_helpingTalks 14 = .ok (.ixor, 1) := by decide +kernel
theorem dX12_helpingTalks_15 : decode cX12_helpingTalks 15 = .ok (.ireturn, 1) := by decide +kernel
set_option maxRecDepth 20000 in
theorem ggX12_talksAct_X12_helpingTalks : GoodIn wsX12_talksAct wsX12_helpingTalks := goodIn_r _ [6, 7, 8, 9, 5, 10, 11, 12, 13, 14, 15, 16, 17, 18, 19, 20, 21, 1, 22, 23, 24, 25, 26, 27, 28, 29, 30, 31, 32, 33, 34, 35, 36, 37, 38, 39, 40, 41, 42, 43, 44, 45, 46, 47, 48, 49, 50, 51, 52, 53, 54, 55, 56, 57, 58, 59, 60, 61, 62, 63, 64, 65, 66, 67, 68, 69, 70, 71, 72, 73, 74, 75, 76] (by decide +kernel) (by decide +kernel)
set_option maxRecDepth 20000 in
theorem gX12_talksAct_X12_helpingTalks : GoodIn wsX12_talksAct (wsV RX12 352 RX12 yX12_helpingTalks wsX12_helpingTalks) := goodIn_app (goodIn_of _ (by decide +kernel)) ggX12_talksAct_X12_helpingTalks
set_option maxRecDepth 20000 in
theorem ggX12_talksAct_X12_body : GoodIn wsX12_talksAct wsX12_body := goodIn_r _ [10, 11, 12, 26, 27, 28, 29, 30, 31, 32, 33, 34, 35, 36, 37, 38, 39, 40, 41, 42, 43, 44, 45, 46, 47, 48, 49, 50, 51, 52, 53, 54, 55, 56, 57, 58, 59, 60, 61, 62, 63, 64, 65, 66, 67, 68, 69, 70, 71, 72, 73, 74, 75, 76] (by decide +kernel) (by decide +kernel)
set_option maxRecDepth 20000 in
theorem gX12_talksAct_X12_body : GoodIn wsX12_talksAct (wsV RX12 340 RX12 yX12_body wsX12_body) := goodIn_app (goodIn_of _ (by decide +kernel)) ggX12_talksAct_X12_body
set_option maxRecDepth 20000 in
theorem ggX12_talksAct_X12_pupilTalks : GoodIn wsX12_talksAct wsX12_pupilTalks := goodIn_r _ [16, 17, 7, 8, 9, 5, 10, 11, 12, 18, 19, 20, 21, 1, 22, 23, 24, 25, 26, 27, 28, 29, 30, 31, 32, 33, 34, 35, 36, 37, 38, 39, 40, 41, 42, 43, 44, 45, 46, 47, 48, 49, 50, 51, 52, 53, 54, 55, 56, 57, 58, 59, 60, 61, 62, 63, 64, 65, 66, 67, 68, 69, 70, 71, 72, 73, 74, 75, 76] (by decide +kernel) (by decide +kernel)
set_option maxRecDepth 20000 in
theorem gX12_talksAct_X12_pupilTalks : GoodIn wsX12_talksAct (wsV RX12 349 RX12 yX12_pupilTalks wsX12_pupilTalks) := goodIn_app (goodIn_of _ (by decide +kernel)) ggX12_talksAct_X12_pupilTalks
set_option maxRecDepth 20000 in
theorem ggX12_talksAct_X12_pupilSits : GoodIn wsX12_talksAct wsX12_pupilSits := goodIn_r _ [25, 7, 8, 9, 5, 10, 11, 12, 26, 27, 28, 29, 30, 31, 32, 33, 34, 35, 36, 37, 38, 39, 40, 41, 42, 43, 44, 45, 46, 47, 48, 49, 50, 51, 52, 53, 54, 55, 56, 57, 58, 59, 60, 61, 62, 63, 64, 65, 66, 67, 68, 69, 70, 71, 72, 73, 74, 75, 76] (by decide +kernel) (by decide +kernel)
set_option maxRecDepth 20000 in
theorem gX12_talksAct_X12_pupilSits : GoodIn wsX12_talksAct (wsV RX12 343 RX12 yX12_pupilSits wsX12_pupilSits) := goodIn_app (goodIn_of _ (by decide +kernel)) ggX12_talksAct_X12_pupilSits
theorem dX12_talksAct_0 : decode cX12_talksAct 0 = .ok (.aload_n 0, 1) := by decide +kernel
theorem dX12_talksAct_1 : decode cX12_talksAct 1 = .ok (.getfield 16, 3) := by decide +kernel
theorem dX12_talksAct_4 : decode cX12_talksAct 4 = .ok (.iload_n 1, 1) := by decide +kernel
theorem dX12_talksAct_5 : decode cX12_talksAct 5 = .ok (.iaload, 1) := by decide +kernel
theorem dX12_talksAct_6 : decode cX12_talksAct 6 = .ok (.lookupswitch 78 #[(1, 34), (4, 41), (6, 56)], 34) := by decide +kernel
theorem dX12_talksAct_40 : decode cX12_talksAct 40 = .ok (.aload_n 0, 1) := by decide +kernel
theorem dX12_talksAct_41 : decode cX12_talksAct 41 = .ok (.iload_n 1, 1) := by decide +kernel
theorem dX12_talksAct_42 : decode cX12_talksAct 42 = .ok (.iload_n 2, 1) := by decide +kernel
theorem dX12_talksAct_43 : decode cX12_talksAct 43 = .ok (.invokevirtual 352, 3) := by decide +kernel
theorem dX12_talksAct_46 : decode cX12_talksAct 46 = .ok (.ireturn, 1) := by decide +kernel
theorem dX12_talksAct_47 : decode cX12_talksAct 47 = .ok (.aload_n 0, 1) := by decide +kernel
theorem dX12_talksAct_48 : decode cX12_talksAct 48 = .ok (.bipush 51, 2) := by decide +kernel
theorem dX12_talksAct_50 : decode cX12_talksAct 50 = .ok (.invokevirtual 340, 3) := by decide +kernel
theorem dX12_talksAct_53 : decode cX12_talksAct 53 = .ok (.aload_n 0, 1) := by decide +kernel
theorem dX12_talksAct_54 : decode cX12_talksAct 54 = .ok (.iload_n 1, 1) := by decide +kernel
theorem dX12_talksAct_55 : decode cX12_talksAct 55 = .ok (.iload_n 2, 1) := by decide +kernel
theorem dX12_talksAct_56 : decode cX12_talksAct 56 = .ok (.iconst 1, 1) := by decide +kernel
theorem dX12_talksAct_57 : decode cX12_talksAct 57 = .ok (.iadd, 1) := by decide +kernel
theorem dX12_talksAct_58 : decode cX12_talksAct 58 = .ok (.invokevirtual 352, 3) := by decide +kernel
theorem dX12_talksAct_61 : decode cX12_talksAct 61 = .ok (.ireturn, 1) := by decide +kernel
theorem dX12_talksAct_62 : decode cX12_talksAct 62 = .ok (.aload_n 0, 1) := by decide +kernel
theorem dX12_talksAct_63 : decode cX12_talksAct 63 = .ok (.bipush 70, 2) := by decide +kernel
theorem dX12_talksAct_65 : decode cX12_talksAct 65 = .ok (.invokevirtual 340, 3) := by decide +kernel
theorem dX12_talksAct_68 : decode cX12_talksAct 68 = .ok (.aload_n 0, 1) := by decide +kernel
theorem dX12_talksAct_69 : decode cX12_talksAct 69 = .ok (.iload_n 1, 1) := by decide +kernel
theorem dX12_talksAct_70 : decode cX12_talksAct 70 = .ok (.iload_n 2, 1) := by decide +kernel
theorem dX12_talksAct_71 : decode cX12_talksAct 71 = .ok (.invokevirtual 349, 3) := by decide +kernel
theorem dX12_talksAct_74 : decode cX12_talksAct 74 = .ok (.istore_n 3, 1) := by decide +kernel
theorem dX12_talksAct_75 : decode cX12_talksAct 75 = .ok (.iload_n 3, 1) := by decide +kernel
theorem dX12_talksAct_76 : decode cX12_talksAct 76 = .ok (.aload_n 0, 1) := by decide +kernel
theorem dX12_talksAct_77 : decode cX12_talksAct 77 = .ok (.iload_n 1, 1) := by decide +kernel
theorem dX12_talksAct_78 : decode cX12_talksAct 78 = .ok (.iconst 2, 1) := by decide +kernel
theorem dX12_talksAct_79 : decode cX12_talksAct 79 = .ok (.invokevirtual 343, 3) := by decide +kernel
theorem dX12_talksAct_82 : decode cX12_talksAct 82 = .ok (.iadd, 1) := by decide +kernel
theorem dX12_talksAct_83 : decode cX12_talksAct 83 = .ok (.ireturn, 1) := by decide +kernel
theorem dX12_talksAct_84 : decode cX12_talksAct 84 = .ok (.aload_n 0, 1) := by decide +kernel
theorem dX12_talksAct_85 : decode cX12_talksAct 85 = .ok (.iload_n 1, 1) := by decide +kernel
theorem dX12_talksAct_86 : decode cX12_talksAct 86 = .ok (.iload_n 2, 1) := by decide +kernel
theorem dX12_talksAct_87 : decode cX12_talksAct 87 = .ok (.invokevirtual 349, 3) := by decide +kernel
theorem dX12_talksAct_90 : decode cX12_talksAct 90 = .ok (.ireturn, 1) := by decide +kernel
set_option maxRecDepth 20000 in
theorem ggX12_pupilTells_X12_body : GoodIn wsX12_pupilTells wsX12_body := goodIn_r _ [5, 6, 7, 30, 31, 32, 33, 34, 35, 36, 37, 38, 39, 40, 41, 42, 43, 44, 45, 46, 47, 48, 49, 50, 51, 52, 53, 54, 55, 56, 57, 58, 59, 60, 61, 62, 63, 64, 65, 66, 67, 68, 69, 70, 71, 72, 73, 74, 75, 76, 77, 78, 79, 80] (by decide +kernel) (by decide +kernel)
set_option maxRecDepth 20000 in
theorem gX12_pupilTells_X12_body : GoodIn wsX12_pupilTells (wsV RX12 340 RX12 yX12_body wsX12_body) := goodIn_app (goodIn_of _ (by decide +kernel)) ggX12_pupilTells_X12_body
set_option maxRecDepth 20000 in
theorem ggX12_pupilTells_X12_talksAct : GoodIn wsX12_pupilTells wsX12_talksAct := goodIn_r _ [11, 12, 13, 14, 15, 4, 16, 1, 2, 3, 5, 6, 7, 17, 18, 19, 20, 21, 22, 23, 24, 25, 26, 27, 28, 29, 30, 31, 32, 33, 34, 35, 36, 37, 38, 39, 40, 41, 42, 43, 44, 45, 46, 47, 48, 49, 50, 51, 52, 53, 54, 55, 56, 57, 58, 59, 60, 61, 62, 63, 64, 65, 66, 67, 68, 69, 70, 71, 72, 73, 74, 75, 76, 77, 78, 79, 80] (by decide +kernel) (by decide +kernel)
set_option maxRecDepth 20000 in
theorem gX12_pupilTells_X12_talksAct : GoodIn wsX12_pupilTells (wsV RX12 355 RX12 yX12_talksAct wsX12_talksAct) := goodIn_app (goodIn_of _ (by decide +kernel)) ggX12_pupilTells_X12_talksAct
theorem dX12_pupilTells_0 : decode cX12_pupilTells 0 = .ok (.aload_n 0, 1) := by decide +kernel
theorem dX12_pupilTells_1 : decode cX12_pupilTells 1 = .ok (.bipush 12, 2) := by decide +kernel
theorem dX12_pupilTells_3 : decode cX12_pupilTells 3 = .ok (.invokevirtual 340, 3) := by decide +kernel
theorem dX12_pupilTells_6 : decode cX12_pupilTells 6 = .ok (.aload_n 0, 1) := by decide +kernel
theorem dX12_pupilTells_7 : decode cX12_pupilTells 7 = .ok (.iload_n 1, 1) := by decide +kernel
theorem dX12_pupilTells_8 : decode cX12_pupilTells 8 = .ok (.iload_n 2, 1) := by decide +kernel
theorem dX12_pupilTells_9 : decode cX12_pupilTells 9 = .ok (.invokevirtual 355, 3) := by decide +kernel
theorem dX12_pupilTells_12 : decode cX12_pupilTells 12 = .ok (.iconst 2, 1) := by decide +kernel
theorem dX12_pupilTells_13 : decode cX12_pupilTells 13 = .ok (.imul, 1) := by decide +kernel
theorem dX12_pupilTells_14 : decode cX12_pupilTells 14 = .ok (.ireturn, 1) := by decide +kernel
set_option maxRecDepth 20000 in
theorem ggX12_tellsAct_X12_body : GoodIn wsX12_tellsAct wsX12_body := goodIn_r _ [6, 7, 8, 34, 35, 36, 37, 38, 39, 40, 41, 42, 43, 44, 45, 46, 47, 48, 49, 50, 51, 52, 53, 54, 55, 56, 57, 58, 59, 60, 61, 62, 63, 64, 65, 66, 67, 68, 69, 70, 71, 72, 73, 74, 75, 76, 77, 78, 79, 80, 81, 82, 83, 84] (by decide +kernel) (by decide +kernel)
set_option maxRecDepth 20000 in
theorem gX12_tellsAct_X12_body : GoodIn wsX12_tellsAct (wsV RX12 340 RX12 yX12_body wsX12_body) := goodIn_app (goodIn_of _ (by decide +kernel)) ggX12_tellsAct_X12_body
set_option maxRecDepth 20000 in
theorem ggX12_tellsAct_X12_pupilTells : GoodIn wsX12_tellsAct wsX12_pupilTells := goodIn_r _ [12, 2, 3, 4, 5, 6, 7, 8, 13, 14, 15, 16, 1, 17, 18, 19, 20, 21, 22, 23, 24, 25, 26, 27, 28, 29, 30, 31, 32, 33, 34, 35, 36, 37, 38, 39, 40, 41, 42, 43, 44, 45, 46, 47, 48, 49, 50, 51, 52, 53, 54, 55, 56, 57, 58, 59, 60, 61, 62, 63, 64, 65, 66, 67, 68, 69, 70, 71, 72, 73, 74, 75, 76, 77, 78, 79, 80, 81, 82, 83, 84] (by decide +kernel) (by decide +kernel)
set_option maxRecDepth 20000 in
theorem gX12_tellsAct_X12_pupilTells : GoodIn wsX12_tellsAct (wsV RX12 358 RX12 yX12_pupilTells wsX12_pupilTells) := goodIn_app (goodIn_of _ (by decide +kernel)) ggX12_tellsAct_X12_pupilTells
set_option maxRecDepth 20000 in
theorem ggX12_tellsAct_X12_talksAct : GoodIn wsX12_tellsAct wsX12_talksAct := goodIn_r _ [16, 1, 17, 18, 19, 5, 20, 2, 3, 4, 6, 7, 8, 21, 22, 23, 24, 25, 26, 27, 28, 29, 30, 31, 32, 33, 34, 35, 36, 37, 38, 39, 40, 41, 42, 43, 44, 45, 46, 47, 48, 49, 50, 51, 52, 53, 54, 55, 56, 57, 58, 59, 60, 61, 62, 63, 64, 65, 66, 67, 68, 69, 70, 71, 72, 73, 74, 75, 76, 77, 78, 79, 80, 81, 82, 83, 84] (by decide +kernel) (by decide +kernel)
set_option maxRecDepth 20000 in
theorem gX12_tellsAct_X12_talksAct : GoodIn wsX12_tellsAct (wsV RX12 355 RX12 yX12_talksAct wsX12_talksAct) := goodIn_app (goodIn_of _ (by decide +kernel)) ggX12_tellsAct_X12_talksAct
theorem dX12_tellsAct_0 : decode cX12_tellsAct 0 = .ok (.aload_n 0, 1) := by decide +kernel
theorem dX12_tellsAct_1 : decode cX12_tellsAct 1 = .ok (.getfield 16, 3) := by decide +kernel
theorem dX12_tellsAct_4 : decode cX12_tellsAct 4 = .ok (.iload_n 1, 1) := by decide +kernel
theorem dX12_tellsAct_5 : decode cX12_tellsAct 5 = .ok (.iaload, 1) := by decide +kernel
theorem dX12_tellsAct_6 : decode cX12_tellsAct 6 = .ok (.tableswitch 67 3 6 #[30, 67, 52, 30], 30) := by decide +kernel
theorem dX12_tellsAct_36 : decode cX12_tellsAct 36 = .ok (.aload_n 0, 1) := by decide +kernel
theorem dX12_tellsAct_37 : decode cX12_tellsAct 37 = .ok (.bipush 40, 2) := by decide +kernel
theorem dX12_tellsAct_39 : decode cX12_tellsAct 39 = .ok (.invokevirtual 340, 3) := by decide +kernel
theorem dX12_tellsAct_42 : decode cX12_tellsAct 42 = .ok (.aload_n 0, 1) := by decide +kernel
theorem dX12_tellsAct_43 : decode cX12_tellsAct 43 = .ok (.iload_n 1, 1) := by decide +kernel
theorem dX12_tellsAct_44 : decode cX12_tellsAct 44 = .ok (.iload_n 2, 1) := by decide +kernel
theorem dX12_tellsAct_45 : decode cX12_tellsAct 45 = .ok (.invokevirtual 358, 3) := by decide +kernel
theorem dX12_tellsAct_48 : decode cX12_tellsAct 48 = .ok (.istore_n 3, 1) := by decide +kernel
theorem dX12_tellsAct_49 : decode cX12_tellsAct 49 = .ok (.iload_n 3, 1) := by decide +kernel
theorem dX12_tellsAct_50 : decode cX12_tellsAct 50 = .ok (.aload_n 0, 1) := by decide +kernel
theorem dX12_tellsAct_51 : decode cX12_tellsAct 51 = .ok (.iload_n 1, 1) := by decide +kernel
theorem dX12_tellsAct_52 : decode cX12_tellsAct 52 = .ok (.iconst 1, 1) := by decide +kernel
theorem dX12_tellsAct_53 : decode cX12_tellsAct 53 = .ok (.invokevirtual 355, 3) := by decide +kernel
theorem dX12_tellsAct_56 : decode cX12_tellsAct 56 = .ok (.iadd, 1) := by decide +kernel
theorem dX12_tellsAct_57 : decode cX12_tellsAct 57 = .ok (.ireturn, 1) := by decide +kernel
theorem dX12_tellsAct_58 : decode cX12_tellsAct 58 = .ok (.aload_n 0, 1) := by decide +kernel
theorem dX12_tellsAct_59 : decode cX12_tellsAct 59 = .ok (.bipush 60, 2) := by decide +kernel
theorem dX12_tellsAct_61 : decode cX12_tellsAct 61 = .ok (.invokevirtual 340, 3) := by decide +kernel
theorem dX12_tellsAct_64 : decode cX12_tellsAct 64 = .ok (.aload_n 0, 1) := by decide +kernel
theorem dX12_tellsAct_65 : decode cX12_tellsAct 65 = .ok (.iload_n 1, 1) := by decide +kernel
theorem dX12_tellsAct_66 : decode cX12_tellsAct 66 = .ok (.iload_n 2, 1) := by decide +kernel
theorem dX12_tellsAct_67 : decode cX12_tellsAct 67 = .ok (.iload_n 1, 1) := by decide +kernel
theorem dX12_tellsAct_68 : decode cX12_tellsAct 68 = .ok (.isub, 1) := by decide +kernel
theorem dX12_tellsAct_69 : decode cX12_tellsAct 69 = .ok (.invokevirtual 358, 3) := by decide +kernel
theorem dX12_tellsAct_72 : decode cX12_tellsAct 72 = .ok (.ireturn, 1) := by decide +kernel
theorem dX12_tellsAct_73 : decode cX12_tellsAct 73 = .ok (.aload_n 0, 1) := by decide +kernel
theorem dX12_tellsAct_74 : decode cX12_tellsAct 74 = .ok (.iload_n 1, 1) := by decide +kernel
theorem dX12_tellsAct_75 : decode cX12_tellsAct 75 = .ok (.iload_n 2, 1) := by decide +kernel
theorem dX12_tellsAct_76 : decode cX12_tellsAct 76 = .ok (.invokevirtual 358, 3) := by decide +kernel
theorem dX12_tellsAct_79 : decode cX12_tellsAct 79 = .ok (.ireturn, 1) := by decide +kernel
set_option maxRecDepth 20000 in
theorem ggX12_act_X12_isPupil : GoodIn wsX12_act wsX12_isPupil := goodIn_r _ [6, 7, 8, 9, 10, 5, 11, 47, 48, 49, 50, 51, 52, 53, 54, 55, 56, 57, 58, 59, 60, 61, 62, 63, 64, 65, 66, 67, 68, 69, 70, 71, 72, 73, 74, 75, 76, 77, 78, 79, 80, 81, 82, 83, 84, 85, 86, 87, 88, 89, 90, 91, 92, 93, 94, 95, 96, 97] (by decide +kernel) (by decide +kernel)
set_option maxRecDepth 20000 in
theorem gX12_act_X12_isPupil : GoodIn wsX12_act (wsV RX12 171 RX12 yX12_isPupil wsX12_isPupil) := goodIn_app (goodIn_of _ (by decide +kernel)) ggX12_act_X12_isPupil
set_option maxRecDepth 20000 in
theorem ggX12_act_X12_in : GoodIn wsX12_act wsX12_in := goodIn_r _ [11] (by decide +kernel) (by decide +kernel)
set_option maxRecDepth 20000 in
theorem gX12_act_X12_in : GoodIn wsX12_act (wsV RX12 167 RX12 yX12_in wsX12_in) := goodIn_app (goodIn_of _ (by decide +kernel)) ggX12_act_X12_in
set_option maxRecDepth 20000 in
theorem ggX12_act_X12_sitsAct : GoodIn wsX12_act wsX12_sitsAct := goodIn_r _ [15, 16, 17, 18, 19, 20, 5, 21, 1, 22, 23, 24, 25, 26, 47, 48, 49, 50, 51, 52, 53, 54, 55, 56, 57, 58, 59, 60, 61, 62, 63, 64, 65, 66, 67, 68, 69, 70, 71, 72, 73, 74, 75, 76, 77, 78, 79, 80, 81, 82, 83, 84, 85, 86, 87, 88, 89, 90, 91, 92, 93, 94, 95, 96, 97] (by decide +kernel) (by decide +kernel)
set_option maxRecDepth 20000 in
theorem gX12_act_X12_sitsAct : GoodIn wsX12_act (wsV RX12 346 RX12 yX12_sitsAct wsX12_sitsAct) := goodIn_app (goodIn_of _ (by decide +kernel)) ggX12_act_X12_sitsAct
set_option maxRecDepth 20000 in
theorem ggX12_act_X12_talksAct : GoodIn wsX12_act wsX12_talksAct := goodIn_r _ [30, 16, 31, 32, 33, 5, 34, 18, 19, 20, 21, 1, 22, 35, 36, 37, 38, 17, 12, 13, 14, 15, 23, 24, 25, 26, 47, 48, 49, 50, 51, 52, 53, 54, 55, 56, 57, 58, 59, 60, 61, 62, 63, 64, 65, 66, 67, 68, 69, 70, 71, 72, 73, 74, 75, 76, 77, 78, 79, 80, 81, 82, 83, 84, 85, 86, 87, 88, 89, 90, 91, 92, 93, 94, 95, 96, 97] (by decide +kernel) (by decide +kernel)
set_option maxRecDepth 20000 in
theorem gX12_act_X12_talksAct : GoodIn wsX12_act (wsV RX12 355 RX12 yX12_talksAct wsX12_talksAct) := goodIn_app (goodIn_of _ (by decide +kernel)) ggX12_act_X12_talksAct
set_option maxRecDepth 20000 in
theorem ggX12_act_X12_tellsAct : GoodIn wsX12_act wsX12_tellsAct := goodIn_r _ [42, 16, 18, 19, 20, 5, 21, 1, 22, 43, 44, 45, 46, 27, 28, 29, 30, 31, 32, 33, 34, 35, 36, 37, 38, 17, 12, 13, 14, 15, 23, 24, 25, 26, 47, 48, 49, 50, 51, 52, 53, 54, 55, 56, 57, 58, 59, 60, 61, 62, 63, 64, 65, 66, 67, 68, 69, 70, 71, 72, 73, 74, 75, 76, 77, 78, 79, 80, 81, 82, 83, 84, 85, 86, 87, 88, 89, 90, 91, 92, 93, 94, 95, 96, 97] (by decide +kernel) (by decide +kernel)
set_option maxRecDepth 20000 in
theorem gX12_act_X12_tellsAct : GoodIn wsX12_act (wsV RX12 361 RX12 yX12_tellsAct wsX12_tellsAct) := goodIn_app (goodIn_of _ (by decide +kernel)) ggX12_act_X12_tellsAct
theorem dX12_act_0 : decode cX12_act 0 = .ok (.aload_n 0, 1) := by decide +kernel
theorem dX12_act_1 : decode cX12_act 1 = .ok (.iconst 0, 1) := by decide +kernel
theorem dX12_act_2 : decode cX12_act 2 = .ok (.putfield 148, 3) := by decide +kernel
theorem dX12_act_5 : decode cX12_act 5 = .ok (.aload_n 0, 1) := by decide +kernel
theorem dX12_act_6 : decode cX12_act 6 = .ok (.iload_n 1, 1) := by decide +kernel
theorem dX12_act_7 : decode cX12_act 7 = .ok (.invokevirtual 171, 3) := by decide +kernel
theorem dX12_act_10 : decode cX12_act 10 = .ok (.ifCond .eq 13, 3) := by decide +kernel
theorem dX12_act_13 : decode cX12_act 13 = .ok (.aload_n 0, 1) := by decide +kernel
theorem dX12_act_14 : decode cX12_act 14 = .ok (.iload_n 2, 1) := by decide +kernel
theorem dX12_act_15 : decode cX12_act 15 = .ok (.iconst 0, 1) := by decide +kernel
theorem dX12_act_16 : decode cX12_act 16 = .ok (.iconst 2, 1) := by decide +kernel
theorem dX12_act_17 : decode cX12_act 17 = .ok (.invokevirtual 167, 3) := by decide +kernel
theorem dX12_act_20 : decode cX12_act 20 = .ok (.ifCond .ne 5, 3) := by decide +kernel
theorem dX12_act_23 : decode cX12_act 23 = .ok (.iconst 0, 1) := by decide +kernel
theorem dX12_act_24 : decode cX12_act 24 = .ok (.ireturn, 1) := by decide +kernel
theorem dX12_act_25 : decode cX12_act 25 = .ok (.iload_n 2, 1) := by decide +kernel
theorem dX12_act_26 : decode cX12_act 26 = .ok (.ifCond .ne 12, 3) := by decide +kernel
theorem dX12_act_29 : decode cX12_act 29 = .ok (.aload_n 0, 1) := by decide +kernel
theorem dX12_act_30 : decode cX12_act 30 = .ok (.iload_n 1, 1) := by decide +kernel
theorem dX12_act_31 : decode cX12_act 31 = .ok (.iload_n 3, 1) := by decide +kernel
theorem dX12_act_32 : decode cX12_act 32 = .ok (.invokevirtual 346, 3) := by decide +kernel
theorem dX12_act_35 : decode cX12_act 35 = .ok (.goto 23, 3) := by decide +kernel
theorem dX12_act_38 : decode cX12_act 38 = .ok (.iload_n 2, 1) := by decide +kernel
theorem dX12_act_39 : decode cX12_act 39 = .ok (.iconst 1, 1) := by decide +kernel
theorem dX12_act_40 : decode cX12_act 40 = .ok (.if_icmp .ne 12, 3) := by decide +kernel
theorem dX12_act_43 : decode cX12_act 43 = .ok (.aload_n 0, 1) := by decide +kernel
theorem dX12_act_44 : decode cX12_act 44 = .ok (.iload_n 1, 1) := by decide +kernel
theorem dX12_act_45 : decode cX12_act 45 = .ok (.iload_n 3, 1) := by decide +kernel
theorem dX12_act_46 : decode cX12_act 46 = .ok (.invokevirtual 355, 3) := by decide +kernel
theorem dX12_act_49 : decode cX12_act 49 = .ok (.goto 9, 3) := by decide +kernel
theorem dX12_act_52 : decode cX12_act 52 = .ok (.aload_n 0, 1) := by decide +kernel
theorem dX12_act_53 : decode cX12_act 53 = .ok (.iload_n 1, 1) := by decide +kernel
theorem dX12_act_54 : decode cX12_act 54 = .ok (.iload_n 3, 1) := by decide +kernel
theorem dX12_act_55 : decode cX12_act 55 = .ok (.invokevirtual 361, 3) := by decide +kernel
theorem dX12_act_58 : decode cX12_act 58 = .ok (.ireturn, 1) := by decide +kernel
set_option maxRecDepth 20000 in
theorem ggX12_trace_X12_in : GoodIn wsX12_trace wsX12_in := goodIn_r _ [7] (by decide +kernel) (by decide +kernel)
set_option maxRecDepth 20000 in
theorem gX12_trace_X12_in : GoodIn wsX12_trace (wsV RX12 167 RX12 yX12_in wsX12_in) := goodIn_app (goodIn_of _ (by decide +kernel)) ggX12_trace_X12_in
theorem dX12_trace_0 : decode cX12_trace 0 = .ok (.aload_n 0, 1) := by decide +kernel
theorem dX12_trace_1 : decode cX12_trace 1 = .ok (.iload_n 1, 1) := by decide +kernel
theorem dX12_trace_2 : decode cX12_trace 2 = .ok (.iconst 0, 1) := by decide +kernel
theorem dX12_trace_3 : decode cX12_trace 3 = .ok (.bipush 19, 2) := by decide +kernel
theorem dX12_trace_5 : decode cX12_trace 5 = .ok (.invokevirtual 167, 3) := by decide +kernel
theorem dX12_trace_8 : decode cX12_trace 8 = .ok (.ifCond .eq 20, 3) := by decide +kernel
theorem dX12_trace_11 : decode cX12_trace 11 = .ok (.iload_n 1, 1) := by decide +kernel
theorem dX12_trace_12 : decode cX12_trace 12 = .ok (.aload_n 0, 1) := by decide +kernel
theorem dX12_trace_13 : decode cX12_trace 13 = .ok (.getfield 148, 3) := by decide +kernel
theorem dX12_trace_16 : decode cX12_trace 16 = .ok (.if_icmp .ge 12, 3) := by decide +kernel
theorem dX12_trace_19 : decode cX12_trace 19 = .ok (.aload_n 0, 1) := by decide +kernel
theorem dX12_trace_20 : decode cX12_trace 20 = .ok (.getfield 151, 3) := by decide +kernel
theorem dX12_trace_23 : decode cX12_trace 23 = .ok (.iload_n 1, 1) := by decide +kernel
theorem dX12_trace_24 : decode cX12_trace 24 = .ok (.iaload, 1) := by decide +kernel
theorem dX12_trace_25 : decode cX12_trace 25 = .ok (.goto 4, 3) := by decide +kernel
theorem dX12_trace_28 : decode cX12_trace 28 = .ok (.iconst (-1), 1) := by decide +kernel
theorem dX12_trace_29 : decode cX12_trace 29 = .ok (.ireturn, 1) := by decide +kernel
set_option maxRecDepth 20000 in
theorem ggX12_taken_X12_in : GoodIn wsX12_taken wsX12_in := goodIn_r _ [6] (by decide +kernel) (by decide +kernel)
set_option maxRecDepth 20000 in
theorem gX12_taken_X12_in : GoodIn wsX12_taken (wsV RX12 167 RX12 yX12_in wsX12_in) := goodIn_app (goodIn_of _ (by decide +kernel)) ggX12_taken_X12_in
set_option maxRecDepth 20000 in
theorem ggX12_taken_X12_isPupil : GoodIn wsX12_taken wsX12_isPupil := goodIn_r _ [10, 11, 2, 3, 4, 5, 6, 12, 13, 14, 15, 16, 17, 18, 19, 20, 21, 22, 23, 24, 25, 26, 27, 28, 29, 30, 31, 32, 33, 34, 35, 36, 37, 38, 39, 40, 41, 42, 43, 44, 45, 46, 47, 48, 49, 50, 51, 52, 53, 54, 55, 56, 57, 58, 59, 60, 61, 62] (by decide +kernel) (by decide +kernel)
set_option maxRecDepth 20000 in
theorem gX12_taken_X12_isPupil : GoodIn wsX12_taken (wsV RX12 171 RX12 yX12_isPupil wsX12_isPupil) := goodIn_app (goodIn_of _ (by decide +kernel)) ggX12_taken_X12_isPupil
theorem dX12_taken_0 : decode cX12_taken 0 = .ok (.aload_n 0, 1) := by decide +kernel
theorem dX12_taken_1 : decode cX12_taken 1 = .ok (.iload_n 2, 1) := by decide +kernel
theorem dX12_taken_2 : decode cX12_taken 2 = .ok (.iconst 0, 1) := by decide +kernel
theorem dX12_taken_3 : decode cX12_taken 3 = .ok (.bipush 6, 2) := by decide +kernel
theorem dX12_taken_5 : decode cX12_taken 5 = .ok (.invokevirtual 167, 3) := by decide +kernel
theorem dX12_taken_8 : decode cX12_taken 8 = .ok (.ifCond .ne 6, 3) := by decide +kernel
theorem dX12_taken_11 : decode cX12_taken 11 = .ok (.bipush (-2), 2) := by decide +kernel
theorem dX12_taken_13 : decode cX12_taken 13 = .ok (.ireturn, 1) := by decide +kernel
theorem dX12_taken_14 : decode cX12_taken 14 = .ok (.aload_n 0, 1) := by decide +kernel
theorem dX12_taken_15 : decode cX12_taken 15 = .ok (.iload_n 1, 1) := by decide +kernel
theorem dX12_taken_16 : decode cX12_taken 16 = .ok (.invokevirtual 171, 3) := by decide +kernel
theorem dX12_taken_19 : decode cX12_taken 19 = .ok (.ifCond .ne 6, 3) := by decide +kernel
theorem dX12_taken_22 : decode cX12_taken 22 = .ok (.bipush (-11), 2) := by decide +kernel
theorem dX12_taken_24 : decode cX12_taken 24 = .ok (.ireturn, 1) := by decide +kernel
theorem dX12_taken_25 : decode cX12_taken 25 = .ok (.aload_n 0, 1) := by decide +kernel
theorem dX12_taken_26 : decode cX12_taken 26 = .ok (.getfield 16, 3) := by decide +kernel
theorem dX12_taken_29 : decode cX12_taken 29 = .ok (.iload_n 1, 1) := by decide +kernel
theorem dX12_taken_30 : decode cX12_taken 30 = .ok (.iaload, 1) := by decide +kernel
theorem dX12_taken_31 : decode cX12_taken 31 = .ok (.istore_n 3, 1) := by decide +kernel
theorem dX12_taken_32 : decode cX12_taken 32 = .ok (.iload_n 2, 1) := by decide +kernel
theorem dX12_taken_33 : decode cX12_taken 33 = .ok (.ifCond .eq 39, 3) := by decide +kernel
theorem dX12_taken_36 : decode cX12_taken 36 = .ok (.iload_n 3, 1) := by decide +kernel
theorem dX12_taken_37 : decode cX12_taken 37 = .ok (.iload_n 2, 1) := by decide +kernel
theorem dX12_taken_38 : decode cX12_taken 38 = .ok (.if_icmp .eq 34, 3) := by decide +kernel
theorem dX12_taken_41 : decode cX12_taken 41 = .ok (.iload_n 2, 1) := by decide +kernel
theorem dX12_taken_42 : decode cX12_taken 42 = .ok (.iconst 1, 1) := by decide +kernel
theorem dX12_taken_43 : decode cX12_taken 43 = .ok (.if_icmp .ne 8, 3) := by decide +kernel
theorem dX12_taken_46 : decode cX12_taken 46 = .ok (.iload_n 3, 1) := by decide +kernel
theorem dX12_taken_47 : decode cX12_taken 47 = .ok (.iconst 4, 1) := by decide +kernel
theorem dX12_taken_48 : decode cX12_taken 48 = .ok (.if_icmp .eq 24, 3) := by decide +kernel
theorem dX12_taken_51 : decode cX12_taken 51 = .ok (.iload_n 2, 1) := by decide +kernel
theorem dX12_taken_52 : decode cX12_taken 52 = .ok (.iconst 2, 1) := by decide +kernel
theorem dX12_taken_53 : decode cX12_taken 53 = .ok (.if_icmp .ne 8, 3) := by decide +kernel
theorem dX12_taken_56 : decode cX12_taken 56 = .ok (.iload_n 3, 1) := by decide +kernel
theorem dX12_taken_57 : decode cX12_taken 57 = .ok (.iconst 5, 1) := by decide +kernel
theorem dX12_taken_58 : decode cX12_taken 58 = .ok (.if_icmp .eq 14, 3) := by decide +kernel
theorem dX12_taken_61 : decode cX12_taken 61 = .ok (.iload_n 2, 1) := by decide +kernel
theorem dX12_taken_62 : decode cX12_taken 62 = .ok (.iconst 3, 1) := by decide +kernel
theorem dX12_taken_63 : decode cX12_taken 63 = .ok (.if_icmp .ne 13, 3) := by decide +kernel
theorem dX12_taken_66 : decode cX12_taken 66 = .ok (.iload_n 3, 1) := by decide +kernel
theorem dX12_taken_67 : decode cX12_taken 67 = .ok (.bipush 6, 2) := by decide +kernel
theorem dX12_taken_69 : decode cX12_taken 69 = .ok (.if_icmp .ne 7, 3) := by decide +kernel
theorem dX12_taken_72 : decode cX12_taken 72 = .ok (.iload_n 3, 1) := by decide +kernel
theorem dX12_taken_73 : decode cX12_taken 73 = .ok (.goto 5, 3) := by decide +kernel
theorem dX12_taken_76 : decode cX12_taken 76 = .ok (.bipush (-12), 2) := by decide +kernel
theorem dX12_taken_78 : decode cX12_taken 78 = .ok (.ireturn, 1) := by decide +kernel
theorem dX12_count_0 : decode cX12_count 0 = .ok (.iload_n 1, 1) := by decide +kernel
theorem dX12_count_1 : decode cX12_count 1 = .ok (.tableswitch 60 0 4 #[35, 40, 45, 50, 55], 35) := by decide +kernel
theorem dX12_count_36 : decode cX12_count 36 = .ok (.aload_n 0, 1) := by decide +kernel
theorem dX12_count_37 : decode cX12_count 37 = .ok (.getfield 7, 3) := by decide +kernel
theorem dX12_count_40 : decode cX12_count 40 = .ok (.ireturn, 1) := by decide +kernel
theorem dX12_count_41 : decode cX12_count 41 = .ok (.aload_n 0, 1) := by decide +kernel
theorem dX12_count_42 : decode cX12_count 42 = .ok (.getfield 48, 3) := by decide +kernel
theorem dX12_count_45 : decode cX12_count 45 = .ok (.ireturn, 1) := by decide +kernel
theorem dX12_count_46 : decode cX12_count 46 = .ok (.aload_n 0, 1) := by decide +kernel
theorem dX12_count_47 : decode cX12_count 47 = .ok (.getfield 13, 3) := by decide +kernel
theorem dX12_count_50 : decode cX12_count 50 = .ok (.ireturn, 1) := by decide +kernel
theorem dX12_count_51 : decode cX12_count 51 = .ok (.aload_n 0, 1) := by decide +kernel
theorem dX12_count_52 : decode cX12_count 52 = .ok (.getfield 54, 3) := by decide +kernel
theorem dX12_count_55 : decode cX12_count 55 = .ok (.ireturn, 1) := by decide +kernel
theorem dX12_count_56 : decode cX12_count 56 = .ok (.aload_n 0, 1) := by decide +kernel
theorem dX12_count_57 : decode cX12_count 57 = .ok (.getfield 148, 3) := by decide +kernel
theorem dX12_count_60 : decode cX12_count 60 = .ok (.ireturn, 1) := by decide +kernel
theorem dX12_count_61 : decode cX12_count 61 = .ok (.bipush (-2), 2) := by decide +kernel
theorem dX12_count_63 : decode cX12_count 63 = .ok (.ireturn, 1) := by decide +kernel
set_option maxRecDepth 20000 in
theorem ggX12_isTape_X12_in : GoodIn wsX12_isTape wsX12_in := goodIn_r _ [5] (by decide +kernel) (by decide +kernel)
set_option maxRecDepth 20000 in
theorem gX12_isTape_X12_in : GoodIn wsX12_isTape (wsV RX12 167 RX12 yX12_in wsX12_in) := goodIn_app (goodIn_of _ (by decide +kernel)) ggX12_isTape_X12_in
theorem dX12_isTape_0 : decode cX12_isTape 0 = .ok (.aload_n 0, 1) := by decide +kernel
theorem dX12_isTape_1 : decode cX12_isTape 1 = .ok (.iload_n 1, 1) := by decide +kernel
theorem dX12_isTape_2 : decode cX12_isTape 2 = .ok (.iconst 0, 1) := by decide +kernel
theorem dX12_isTape_3 : decode cX12_isTape 3 = .ok (.iconst 5, 1) := by decide +kernel
theorem dX12_isTape_4 : decode cX12_isTape 4 = .ok (.invokevirtual 167, 3) := by decide +kernel
theorem dX12_isTape_7 : decode cX12_isTape 7 = .ok (.ireturn, 1) := by decide +kernel
set_option maxRecDepth 20000 in
theorem ggX12_tape_X12_isTape : GoodIn wsX12_tape wsX12_isTape := goodIn_r _ [8, 9, 10, 11, 7, 12] (by decide +kernel) (by decide +kernel)
set_option maxRecDepth 20000 in
theorem gX12_tape_X12_isTape : GoodIn wsX12_tape (wsV RX12 337 RX12 yX12_isTape wsX12_isTape) := goodIn_app (goodIn_of _ (by decide +kernel)) ggX12_tape_X12_isTape
set_option maxRecDepth 20000 in
theorem ggX12_tape_X12_in : GoodIn wsX12_tape wsX12_in := goodIn_r _ [12] (by decide +kernel) (by decide +kernel)
set_option maxRecDepth 20000 in
theorem gX12_tape_X12_in : GoodIn wsX12_tape (wsV RX12 167 RX12 yX12_in wsX12_in) := goodIn_app (goodIn_of _ (by decide +kernel)) ggX12_tape_X12_in
theorem dX12_tape_0 : decode cX12_tape 0 = .ok (.aload_n 0, 1) := by decide +kernel
theorem dX12_tape_1 : decode cX12_tape 1 = .ok (.iload_n 1, 1) := by decide +kernel
theorem dX12_tape_2 : decode cX12_tape 2 = .ok (.invokevirtual 337, 3) := by decide +kernel
theorem dX12_tape_5 : decode cX12_tape 5 = .ok (.ifCond .ne 5, 3) := by decide +kernel
theorem dX12_tape_8 : decode cX12_tape 8 = .ok (.iconst (-1), 1) := by decide +kernel
theorem dX12_tape_9 : decode cX12_tape 9 = .ok (.ireturn, 1) := by decide +kernel
theorem dX12_tape_10 : decode cX12_tape 10 = .ok (.aload_n 0, 1) := by decide +kernel
theorem dX12_tape_11 : decode cX12_tape 11 = .ok (.iload_n 2, 1) := by decide +kernel
theorem dX12_tape_12 : decode cX12_tape 12 = .ok (.iconst (-1), 1) := by decide +kernel
theorem dX12_tape_13 : decode cX12_tape 13 = .ok (.iconst 4, 1) := by decide +kernel
theorem dX12_tape_14 : decode cX12_tape 14 = .ok (.invokevirtual 167, 3) := by decide +kernel
theorem dX12_tape_17 : decode cX12_tape 17 = .ok (.ifCond .eq 13, 3) := by decide +kernel
theorem dX12_tape_20 : decode cX12_tape 20 = .ok (.iload_n 2, 1) := by decide +kernel
theorem dX12_tape_21 : decode cX12_tape 21 = .ok (.ifCond .lt 12, 3) := by decide +kernel
theorem dX12_tape_24 : decode cX12_tape 24 = .ok (.iload_n 3, 1) := by decide +kernel
theorem dX12_tape_25 : decode cX12_tape 25 = .ok (.bipush 60, 2) := by decide +kernel
theorem dX12_tape_27 : decode cX12_tape 27 = .ok (.if_icmp .le 6, 3) := by decide +kernel
theorem dX12_tape_30 : decode cX12_tape 30 = .ok (.bipush (-2), 2) := by decide +kernel
theorem dX12_tape_32 : decode cX12_tape 32 = .ok (.ireturn, 1) := by decide +kernel
theorem dX12_tape_33 : decode cX12_tape 33 = .ok (.iload_n 2, 1) := by decide +kernel
theorem dX12_tape_34 : decode cX12_tape 34 = .ok (.ifCond .lt 10, 3) := by decide +kernel
theorem dX12_tape_37 : decode cX12_tape 37 = .ok (.iload_n 3, 1) := by decide +kernel
theorem dX12_tape_38 : decode cX12_tape 38 = .ok (.ifCond .ge 6, 3) := by decide +kernel
theorem dX12_tape_41 : decode cX12_tape 41 = .ok (.bipush (-14), 2) := by decide +kernel
theorem dX12_tape_43 : decode cX12_tape 43 = .ok (.ireturn, 1) := by decide +kernel
theorem dX12_tape_44 : decode cX12_tape 44 = .ok (.aload_n 0, 1) := by decide +kernel
theorem dX12_tape_45 : decode cX12_tape 45 = .ok (.getfield 154, 3) := by decide +kernel
theorem dX12_tape_48 : decode cX12_tape 48 = .ok (.iload_n 1, 1) := by decide +kernel
theorem dX12_tape_49 : decode cX12_tape 49 = .ok (.iload_n 2, 1) := by decide +kernel
theorem dX12_tape_50 : decode cX12_tape 50 = .ok (.iastore, 1) := by decide +kernel
theorem dX12_tape_51 : decode cX12_tape 51 = .ok (.aload_n 0, 1) := by decide +kernel
theorem dX12_tape_52 : decode cX12_tape 52 = .ok (.getfield 157, 3) := by decide +kernel
theorem dX12_tape_55 : decode cX12_tape 55 = .ok (.iload_n 1, 1) := by decide +kernel
theorem dX12_tape_56 : decode cX12_tape 56 = .ok (.iload_n 2, 1) := by decide +kernel
theorem dX12_tape_57 : decode cX12_tape 57 = .ok (.ifCond .ge 7, 3) := by decide +kernel
theorem dX12_tape_60 : decode cX12_tape 60 = .ok (.iconst 0, 1) := by decide +kernel
theorem dX12_tape_61 : decode cX12_tape 61 = .ok (.goto 4, 3) := by decide +kernel
theorem dX12_tape_64 : decode cX12_tape 64 = .ok (.iload_n 3, 1) := by decide +kernel
theorem dX12_tape_65 : decode cX12_tape 65 = .ok (.iastore, 1) := by decide +kernel
theorem dX12_tape_66 : decode cX12_tape 66 = .ok (.iconst 0, 1) := by decide +kernel
theorem dX12_tape_67 : decode cX12_tape 67 = .ok (.istore 4, 2) := by decide +kernel
theorem dX12_tape_69 : decode cX12_tape 69 = .ok (.iload 4, 2) := by decide +kernel
theorem dX12_tape_71 : decode cX12_tape 71 = .ok (.bipush 60, 2) := by decide +kernel
theorem dX12_tape_73 : decode cX12_tape 73 = .ok (.if_icmp .ge 22, 3) := by decide +kernel
theorem dX12_tape_76 : decode cX12_tape 76 = .ok (.aload_n 0, 1) := by decide +kernel
theorem dX12_tape_77 : decode cX12_tape 77 = .ok (.getfield 160, 3) := by decide +kernel
theorem dX12_tape_80 : decode cX12_tape 80 = .ok (.bipush 60, 2) := by decide +kernel
theorem dX12_tape_82 : decode cX12_tape 82 = .ok (.iload_n 1, 1) := by decide +kernel
theorem dX12_tape_83 : decode cX12_tape 83 = .ok (.imul, 1) := by decide +kernel
theorem dX12_tape_84 : decode cX12_tape 84 = .ok (.iload 4, 2) := by decide +kernel
theorem dX12_tape_86 : decode cX12_tape 86 = .ok (.iadd, 1) := by decide +kernel
theorem dX12_tape_87 : decode cX12_tape 87 = .ok (.lconst 0, 1) := by decide +kernel
theorem dX12_tape_88 : decode cX12_tape 88 = .ok (.lastore, 1) := by decide +kernel
theorem dX12_tape_89 : decode cX12_tape 89 = .ok (.iinc 4 1, 3) := by decide +kernel
theorem dX12_tape_92 : decode cX12_tape 92 = .ok (.goto (-23), 3) := by decide +kernel
theorem dX12_tape_95 : decode cX12_tape 95 = .ok (.iconst 1, 1) := by decide +kernel
theorem dX12_tape_96 : decode cX12_tape 96 = .ok (.ireturn, 1) := by decide +kernel
theorem dX12_narrow_0 : decode cX12_narrow 0 = .ok (.iload_n 1, 1) := by decide +kernel
theorem dX12_narrow_1 : decode cX12_narrow 1 = .ok (.ifCond .ne 10, 3) := by decide +kernel
theorem dX12_narrow_4 : decode cX12_narrow 4 = .ok (.lload_n 2, 1) := by decide +kernel
theorem dX12_narrow_5 : decode cX12_narrow 5 = .ok (.l2i, 1) := by decide +kernel
theorem dX12_narrow_6 : decode cX12_narrow 6 = .ok (.i2b, 1) := by decide +kernel
theorem dX12_narrow_7 : decode cX12_narrow 7 = .ok (.i2l, 1) := by decide +kernel
theorem dX12_narrow_8 : decode cX12_narrow 8 = .ok (.goto 46, 3) := by decide +kernel
theorem dX12_narrow_11 : decode cX12_narrow 11 = .ok (.iload_n 1, 1) := by decide +kernel
theorem dX12_narrow_12 : decode cX12_narrow 12 = .ok (.iconst 1, 1) := by decide +kernel
theorem dX12_narrow_13 : decode cX12_narrow 13 = .ok (.if_icmp .ne 10, 3) := by decide +kernel
theorem dX12_narrow_16 : decode cX12_narrow 16 = .ok (.lload_n 2, 1) := by decide +kernel
theorem dX12_narrow_17 : decode cX12_narrow 17 = .ok (.l2i, 1) := by decide +kernel
theorem dX12_narrow_18 : decode cX12_narrow 18 = .ok (.i2s, 1) := by decide +kernel
theorem dX12_narrow_19 : decode cX12_narrow 19 = .ok (.i2l, 1) := by decide +kernel
theorem dX12_narrow_20 : decode cX12_narrow 20 = .ok (.goto 34, 3) := by decide +kernel
theorem dX12_narrow_23 : decode cX12_narrow 23 = .ok (.iload_n 1, 1) := by decide +kernel
theorem dX12_narrow_24 : decode cX12_narrow 24 = .ok (.iconst 2, 1) := by decide +kernel
theorem dX12_narrow_25 : decode cX12_narrow 25 = .ok (.if_icmp .ne 9, 3) := by decide +kernel
theorem dX12_narrow_28 : decode cX12_narrow 28 = .ok (.lload_n 2, 1) := by decide +kernel
theorem dX12_narrow_29 : decode cX12_narrow 29 = .ok (.l2i, 1) := by decide +kernel
theorem dX12_narrow_30 : decode cX12_narrow 30 = .ok (.i2l, 1) := by decide +kernel
theorem dX12_narrow_31 : decode cX12_narrow 31 = .ok (.goto 23, 3) := by decide +kernel
theorem dX12_narrow_34 : decode cX12_narrow 34 = .ok (.iload_n 1, 1) := by decide +kernel
theorem dX12_narrow_35 : decode cX12_narrow 35 = .ok (.iconst 4, 1) := by decide +kernel
theorem dX12_narrow_36 : decode cX12_narrow 36 = .ok (.if_icmp .ne 17, 3) := by decide +kernel
theorem dX12_narrow_39 : decode cX12_narrow 39 = .ok (.lload_n 2, 1) := by decide +kernel
theorem dX12_narrow_40 : decode cX12_narrow 40 = .ok (.lconst 0, 1) := by decide +kernel
theorem dX12_narrow_41 : decode cX12_narrow 41 = .ok (.lcmp, 1) := by decide +kernel
theorem dX12_narrow_42 : decode cX12_narrow 42 = .ok (.ifCond .eq 7, 3) := by decide +kernel
theorem dX12_narrow_45 : decode cX12_narrow 45 = .ok (.lconst 1, 1) := by decide +kernel
theorem dX12_narrow_46 : decode cX12_narrow 46 = .ok (.goto 8, 3) := by decide +kernel
theorem dX12_narrow_49 : decode cX12_narrow 49 = .ok (.lconst 0, 1) := by decide +kernel
theorem dX12_narrow_50 : decode cX12_narrow 50 = .ok (.goto 4, 3) := by decide +kernel
theorem dX12_narrow_53 : decode cX12_narrow 53 = .ok (.lload_n 2, 1) := by decide +kernel
theorem dX12_narrow_54 : decode cX12_narrow 54 = .ok (.lreturn, 1) := by decide +kernel
set_option maxRecDepth 20000 in
theorem ggX12_item_X12_isTape : GoodIn wsX12_item wsX12_isTape := goodIn_r _ [8, 9, 10, 11, 7, 12] (by decide +kernel) (by decide +kernel)
set_option maxRecDepth 20000 in
theorem gX12_item_X12_isTape : GoodIn wsX12_item (wsV RX12 337 RX12 yX12_isTape wsX12_isTape) := goodIn_app (goodIn_of _ (by decide +kernel)) ggX12_item_X12_isTape
set_option maxRecDepth 20000 in
theorem ggX12_item_X12_in : GoodIn wsX12_item wsX12_in := goodIn_r _ [12] (by decide +kernel) (by decide +kernel)
set_option maxRecDepth 20000 in
theorem gX12_item_X12_in : GoodIn wsX12_item (wsV RX12 167 RX12 yX12_in wsX12_in) := goodIn_app (goodIn_of _ (by decide +kernel)) ggX12_item_X12_in
set_option maxRecDepth 20000 in
theorem ggX12_item_X12_narrow : GoodIn wsX12_item wsX12_narrow := goodIn_r _ [16] (by decide +kernel) (by decide +kernel)
set_option maxRecDepth 20000 in
theorem gX12_item_X12_narrow : GoodIn wsX12_item (wsV RX12 364 RX12 yX12_narrow wsX12_narrow) := goodIn_app (goodIn_of _ (by decide +kernel)) ggX12_item_X12_narrow
theorem dX12_item_0 : decode cX12_item 0 = .ok (.aload_n 0, 1) := by decide +kernel
theorem dX12_item_1 : decode cX12_item 1 = .ok (.iload_n 1, 1) := by decide +kernel
theorem dX12_item_2 : decode cX12_item 2 = .ok (.invokevirtual 337, 3) := by decide +kernel
theorem dX12_item_5 : decode cX12_item 5 = .ok (.ifCond .ne 5, 3) := by decide +kernel
theorem dX12_item_8 : decode cX12_item 8 = .ok (.iconst (-1), 1) := by decide +kernel
theorem dX12_item_9 : decode cX12_item 9 = .ok (.ireturn, 1) := by decide +kernel
theorem dX12_item_10 : decode cX12_item 10 = .ok (.aload_n 0, 1) := by decide +kernel
theorem dX12_item_11 : decode cX12_item 11 = .ok (.getfield 154, 3) := by decide +kernel
theorem dX12_item_14 : decode cX12_item 14 = .ok (.iload_n 1, 1) := by decide +kernel
theorem dX12_item_15 : decode cX12_item 15 = .ok (.iaload, 1) := by decide +kernel
theorem dX12_item_16 : decode cX12_item 16 = .ok (.ifCond .ge 6, 3) := by decide +kernel
theorem dX12_item_19 : decode cX12_item 19 = .ok (.bipush (-11), 2) := by decide +kernel
theorem dX12_item_21 : decode cX12_item 21 = .ok (.ireturn, 1) := by decide +kernel
theorem dX12_item_22 : decode cX12_item 22 = .ok (.aload_n 0, 1) := by decide +kernel
theorem dX12_item_23 : decode cX12_item 23 = .ok (.iload_n 2, 1) := by decide +kernel
theorem dX12_item_24 : decode cX12_item 24 = .ok (.iconst 0, 1) := by decide +kernel
theorem dX12_item_25 : decode cX12_item 25 = .ok (.aload_n 0, 1) := by decide +kernel
theorem dX12_item_26 : decode cX12_item 26 = .ok (.getfield 157, 3) := by decide +kernel
theorem dX12_item_29 : decode cX12_item 29 = .ok (.iload_n 1, 1) := by decide +kernel
theorem dX12_item_30 : decode cX12_item 30 = .ok (.iaload, 1) := by decide +kernel
theorem dX12_item_31 : decode cX12_item 31 = .ok (.iconst 1, 1) := by decide +kernel
theorem dX12_item_32 : decode cX12_item 32 = .ok (.isub, 1) := by decide +kernel
theorem dX12_item_33 : decode cX12_item 33 = .ok (.invokevirtual 167, 3) := by decide +kernel
theorem dX12_item_36 : decode cX12_item 36 = .ok (.ifCond .ne 6, 3) := by decide +kernel
theorem dX12_item_39 : decode cX12_item 39 = .ok (.bipush (-13), 2) := by decide +kernel
theorem dX12_item_41 : decode cX12_item 41 = .ok (.ireturn, 1) := by decide +kernel
theorem dX12_item_42 : decode cX12_item 42 = .ok (.aload_n 0, 1) := by decide +kernel
theorem dX12_item_43 : decode cX12_item 43 = .ok (.getfield 160, 3) := by decide +kernel
theorem dX12_item_46 : decode cX12_item 46 = .ok (.bipush 60, 2) := by decide +kernel
theorem dX12_item_48 : decode cX12_item 48 = .ok (.iload_n 1, 1) := by decide +kernel
theorem dX12_item_49 : decode cX12_item 49 = .ok (.imul, 1) := by decide +kernel
theorem dX12_item_50 : decode cX12_item 50 = .ok (.iload_n 2, 1) := by decide +kernel
theorem dX12_item_51 : decode cX12_item 51 = .ok (.iadd, 1) := by decide +kernel
theorem dX12_item_52 : decode cX12_item 52 = .ok (.aload_n 0, 1) := by decide +kernel
theorem dX12_item_53 : decode cX12_item 53 = .ok (.aload_n 0, 1) := by decide +kernel
theorem dX12_item_54 : decode cX12_item 54 = .ok (.getfield 154, 3) := by decide +kernel
theorem dX12_item_57 : decode cX12_item 57 = .ok (.iload_n 1, 1) := by decide +kernel
theorem dX12_item_58 : decode cX12_item 58 = .ok (.iaload, 1) := by decide +kernel
theorem dX12_item_59 : decode cX12_item 59 = .ok (.lload_n 3, 1) := by decide +kernel
theorem dX12_item_60 : decode cX12_item 60 = .ok (.invokevirtual 364, 3) := by decide +kernel
theorem dX12_item_63 : decode cX12_item 63 = .ok (.lastore, 1) := by decide +kernel
theorem dX12_item_64 : decode cX12_item 64 = .ok (.iconst 1, 1) := by decide +kernel
theorem dX12_item_65 : decode cX12_item 65 = .ok (.ireturn, 1) := by decide +kernel
set_option maxRecDepth 20000 in
theorem ggX12_read_X12_isTape : GoodIn wsX12_read wsX12_isTape := goodIn_r _ [9, 10, 11, 12, 8, 13] (by decide +kernel) (by decide +kernel)
set_option maxRecDepth 20000 in
theorem gX12_read_X12_isTape : GoodIn wsX12_read (wsV RX12 337 RX12 yX12_isTape wsX12_isTape) := goodIn_app (goodIn_of _ (by decide +kernel)) ggX12_read_X12_isTape
set_option maxRecDepth 20000 in
theorem ggX12_read_X12_in : GoodIn wsX12_read wsX12_in := goodIn_r _ [13] (by decide +kernel) (by decide +kernel)
set_option maxRecDepth 20000 in
theorem gX12_read_X12_in : GoodIn wsX12_read (wsV RX12 167 RX12 yX12_in wsX12_in) := goodIn_app (goodIn_of _ (by decide +kernel)) ggX12_read_X12_in
theorem dX12_read_0 : decode cX12_read 0 = .ok (.aload_n 0, 1) := by decide +kernel
theorem dX12_read_1 : decode cX12_read 1 = .ok (.iload_n 1, 1) := by decide +kernel
theorem dX12_read_2 : decode cX12_read 2 = .ok (.invokevirtual 337, 3) := by decide +kernel
theorem dX12_read_5 : decode cX12_read 5 = .ok (.ifCond .eq 29, 3) := by decide +kernel
theorem dX12_read_8 : decode cX12_read 8 = .ok (.aload_n 0, 1) := by decide +kernel
theorem dX12_read_9 : decode cX12_read 9 = .ok (.getfield 154, 3) := by decide +kernel
theorem dX12_read_12 : decode cX12_read 12 = .ok (.iload_n 1, 1) := by decide +kernel
theorem dX12_read_13 : decode cX12_read 13 = .ok (.iaload, 1) := by decide +kernel
theorem dX12_read_14 : decode cX12_read 14 = .ok (.ifCond .lt 20, 3) := by decide +kernel
theorem dX12_read_17 : decode cX12_read 17 = .ok (.aload_n 0, 1) := by decide +kernel
theorem dX12_read_18 : decode cX12_read 18 = .ok (.iload_n 2, 1) := by decide +kernel
theorem dX12_read_19 : decode cX12_read 19 = .ok (.iconst 0, 1) := by decide +kernel
theorem dX12_read_20 : decode cX12_read 20 = .ok (.aload_n 0, 1) := by decide +kernel
theorem dX12_read_21 : decode cX12_read 21 = .ok (.getfield 157, 3) := by decide +kernel
theorem dX12_read_24 : decode cX12_read 24 = .ok (.iload_n 1, 1) := by decide +kernel
theorem dX12_read_25 : decode cX12_read 25 = .ok (.iaload, 1) := by decide +kernel
theorem dX12_read_26 : decode cX12_read 26 = .ok (.iconst 1, 1) := by decide +kernel
theorem dX12_read_27 : decode cX12_read 27 = .ok (.isub, 1) := by decide +kernel
theorem dX12_read_28 : decode cX12_read 28 = .ok (.invokevirtual 167, 3) := by decide +kernel
theorem dX12_read_31 : decode cX12_read 31 = .ok (.ifCond .ne 9, 3) := by decide +kernel
theorem dX12_read_34 : decode cX12_read 34 = .ok (.ldc2_w 322, 3) := by decide +kernel
theorem dX12_read_37 : decode cX12_read 37 = .ok (.goto 14, 3) := by decide +kernel
theorem dX12_read_40 : decode cX12_read 40 = .ok (.aload_n 0, 1) := by decide +kernel
theorem dX12_read_41 : decode cX12_read 41 = .ok (.getfield 160, 3) := by decide +kernel
theorem dX12_read_44 : decode cX12_read 44 = .ok (.bipush 60, 2) := by decide +kernel
theorem dX12_read_46 : decode cX12_read 46 = .ok (.iload_n 1, 1) := by decide +kernel
theorem dX12_read_47 : decode cX12_read 47 = .ok (.imul, 1) := by decide +kernel
theorem dX12_read_48 : decode cX12_read 48 = .ok (.iload_n 2, 1) := by decide +kernel
theorem dX12_read_49 : decode cX12_read 49 = .ok (.iadd, 1) := by decide +kernel
theorem dX12_read_50 : decode cX12_read 50 = .ok (.laload, 1) := by decide +kernel
theorem dX12_read_51 : decode cX12_read 51 = .ok (.lreturn, 1) := by decide +kernel
set_option maxRecDepth 20000 in
theorem ggX12_shift_X12_isTape : GoodIn wsX12_shift wsX12_isTape := goodIn_r _ [9, 10, 11, 12, 8, 13] (by decide +kernel) (by decide +kernel)
set_option maxRecDepth 20000 in
theorem gX12_shift_X12_isTape : GoodIn wsX12_shift (wsV RX12 337 RX12 yX12_isTape wsX12_isTape) := goodIn_app (goodIn_of _ (by decide +kernel)) ggX12_shift_X12_isTape
theorem dX12_shift_0 : decode cX12_shift 0 = .ok (.aload_n 0, 1) := by decide +kernel
theorem dX12_shift_1 : decode cX12_shift 1 = .ok (.iload_n 1, 1) := by decide +kernel
theorem dX12_shift_2 : decode cX12_shift 2 = .ok (.invokevirtual 337, 3) := by decide +kernel
theorem dX12_shift_5 : decode cX12_shift 5 = .ok (.ifCond .eq 11, 3) := by decide +kernel
theorem dX12_shift_8 : decode cX12_shift 8 = .ok (.aload_n 0, 1) := by decide +kernel
theorem dX12_shift_9 : decode cX12_shift 9 = .ok (.iload_n 3, 1) := by decide +kernel
theorem dX12_shift_10 : decode cX12_shift 10 = .ok (.invokevirtual 337, 3) := by decide +kernel
theorem dX12_shift_13 : decode cX12_shift 13 = .ok (.ifCond .ne 5, 3) := by decide +kernel
theorem dX12_shift_16 : decode cX12_shift 16 = .ok (.iconst (-1), 1) := by decide +kernel
theorem dX12_shift_17 : decode cX12_shift 17 = .ok (.ireturn, 1) := by decide +kernel
theorem dX12_shift_18 : decode cX12_shift 18 = .ok (.aload_n 0, 1) := by decide +kernel
theorem dX12_shift_19 : decode cX12_shift 19 = .ok (.getfield 154, 3) := by decide +kernel
theorem dX12_shift_22 : decode cX12_shift 22 = .ok (.iload_n 1, 1) := by decide +kernel
theorem dX12_shift_23 : decode cX12_shift 23 = .ok (.iaload, 1) := by decide +kernel
theorem dX12_shift_24 : decode cX12_shift 24 = .ok (.ifCond .lt 12, 3) := by decide +kernel
theorem dX12_shift_27 : decode cX12_shift 27 = .ok (.aload_n 0, 1) := by decide +kernel
theorem dX12_shift_28 : decode cX12_shift 28 = .ok (.getfield 154, 3) := by decide +kernel
theorem dX12_shift_31 : decode cX12_shift 31 = .ok (.iload_n 3, 1) := by decide +kernel
theorem dX12_shift_32 : decode cX12_shift 32 = .ok (.iaload, 1) := by decide +kernel
theorem dX12_shift_33 : decode cX12_shift 33 = .ok (.ifCond .ge 6, 3) := by decide +kernel
theorem dX12_shift_36 : decode cX12_shift 36 = .ok (.bipush (-11), 2) := by decide +kernel
theorem dX12_shift_38 : decode cX12_shift 38 = .ok (.ireturn, 1) := by decide +kernel
theorem dX12_shift_39 : decode cX12_shift 39 = .ok (.aload_n 0, 1) := by decide +kernel
theorem dX12_shift_40 : decode cX12_shift 40 = .ok (.getfield 154, 3) := by decide +kernel
theorem dX12_shift_43 : decode cX12_shift 43 = .ok (.iload_n 1, 1) := by decide +kernel
theorem dX12_shift_44 : decode cX12_shift 44 = .ok (.iaload, 1) := by decide +kernel
theorem dX12_shift_45 : decode cX12_shift 45 = .ok (.aload_n 0, 1) := by decide +kernel
theorem dX12_shift_46 : decode cX12_shift 46 = .ok (.getfield 154, 3) := by decide +kernel
theorem dX12_shift_49 : decode cX12_shift 49 = .ok (.iload_n 3, 1) := by decide +kernel
theorem dX12_shift_50 : decode cX12_shift 50 = .ok (.iaload, 1) := by decide +kernel
theorem dX12_shift_51 : decode cX12_shift 51 = .ok (.if_icmp .eq 6, 3) := by decide +kernel
theorem dX12_shift_54 : decode cX12_shift 54 = .ok (.bipush (-12), 2) := by decide +kernel
theorem dX12_shift_56 : decode cX12_shift 56 = .ok (.ireturn, 1) := by decide +kernel
theorem dX12_shift_57 : decode cX12_shift 57 = .ok (.iload 5, 2) := by decide +kernel
theorem dX12_shift_59 : decode cX12_shift 59 = .ok (.ifCond .lt 39, 3) := by decide +kernel
theorem dX12_shift_62 : decode cX12_shift 62 = .ok (.iload_n 2, 1) := by decide +kernel
theorem dX12_shift_63 : decode cX12_shift 63 = .ok (.ifCond .lt 35, 3) := by decide +kernel
theorem dX12_shift_66 : decode cX12_shift 66 = .ok (.iload 4, 2) := by decide +kernel
theorem dX12_shift_68 : decode cX12_shift 68 = .ok (.ifCond .lt 30, 3) := by decide +kernel
theorem dX12_shift_71 : decode cX12_shift 71 = .ok (.iload_n 2, 1) := by decide +kernel
theorem dX12_shift_72 : decode cX12_shift 72 = .ok (.aload_n 0, 1) := by decide +kernel
theorem dX12_shift_73 : decode cX12_shift 73 = .ok (.getfield 157, 3) := by decide +kernel
theorem dX12_shift_76 : decode cX12_shift 76 = .ok (.iload_n 1, 1) := by decide +kernel
theorem dX12_shift_77 : decode cX12_shift 77 = .ok (.iaload, 1) := by decide +kernel
theorem dX12_shift_78 : decode cX12_shift 78 = .ok (.iload 5, 2) := by decide +kernel
theorem dX12_shift_80 : decode cX12_shift 80 = .ok (.isub, 1) := by decide +kernel
theorem dX12_shift_81 : decode cX12_shift 81 = .ok (.if_icmp .gt 17, 3) := by decide +kernel
theorem dX12_shift_84 : decode cX12_shift 84 = .ok (.iload 4, 2) := by decide +kernel
theorem dX12_shift_86 : decode cX12_shift 86 = .ok (.aload_n 0, 1) := by decide +kernel
theorem dX12_shift_87 : decode cX12_shift 87 = .ok (.getfield 157, 3) := by decide +kernel
theorem dX12_shift_90 : decode cX12_shift 90 = .ok (.iload_n 3, 1) := by decide +kernel
theorem dX12_shift_91 : decode cX12_shift 91 = .ok (.iaload, 1) := by decide +kernel
theorem dX12_shift_92 : decode cX12_shift 92 = .ok (.iload 5, 2) := by decide +kernel
theorem dX12_shift_94 : decode cX12_shift 94 = .ok (.isub, 1) := by decide +kernel
theorem dX12_shift_95 : decode cX12_shift 95 = .ok (.if_icmp .le 6, 3) := by decide +kernel
theorem dX12_shift_98 : decode cX12_shift 98 = .ok (.bipush (-13), 2) := by decide +kernel
theorem dX12_shift_100 : decode cX12_shift 100 = .ok (.ireturn, 1) := by decide +kernel
theorem dX12_shift_101 : decode cX12_shift 101 = .ok (.iconst 0, 1) := by decide +kernel
theorem dX12_shift_102 : decode cX12_shift 102 = .ok (.istore 6, 2) := by decide +kernel
theorem dX12_shift_104 : decode cX12_shift 104 = .ok (.iload 6, 2) := by decide +kernel
theorem dX12_shift_106 : decode cX12_shift 106 = .ok (.iload 5, 2) := by decide +kernel
theorem dX12_shift_108 : decode cX12_shift 108 = .ok (.if_icmp .ge 30, 3) := by decide +kernel
theorem dX12_shift_111 : decode cX12_shift 111 = .ok (.aload_n 0, 1) := by decide +kernel
theorem dX12_shift_112 : decode cX12_shift 112 = .ok (.getfield 164, 3) := by decide +kernel
theorem dX12_shift_115 : decode cX12_shift 115 = .ok (.iload 6, 2) := by decide +kernel
theorem dX12_shift_117 : decode cX12_shift 117 = .ok (.aload_n 0, 1) := by decide +kernel
theorem dX12_shift_118 : decode cX12_shift 118 = .ok (.getfield 160, 3) := by decide +kernel
theorem dX12_shift_121 : decode cX12_shift 121 = .ok (.bipush 60, 2) := by decide +kernel
theorem dX12_shift_123 : decode cX12_shift 123 = .ok (.iload_n 1, 1) := by decide +kernel
theorem dX12_shift_124 : decode cX12_shift 124 = .ok (.imul, 1) := by decide +kernel
theorem dX12_shift_125 : decode cX12_shift 125 = .ok (.iload_n 2, 1) := by decide +kernel
theorem dX12_shift_126 : decode cX12_shift 126 = .ok (.iadd, 1) := by decide +kernel
theorem dX12_shift_127 : decode cX12_shift 127 = .ok (.iload 6, 2) := by decide +kernel
theorem dX12_shift_129 : decode cX12_shift 129 = .ok (.iadd, 1) := by decide +kernel
theorem dX12_shift_130 : decode cX12_shift 130 = .ok (.laload, 1) := by decide +kernel
theorem dX12_shift_131 : decode cX12_shift 131 = .ok (.lastore, 1) := by decide +kernel
theorem dX12_shift_132 : decode cX12_shift 132 = .ok (.iinc 6 1, 3) := by decide +kernel
theorem dX12_shift_135 : decode cX12_shift 135 = .ok (.goto (-31), 3) := by decide +kernel
theorem dX12_shift_138 : decode cX12_shift 138 = .ok (.iconst 0, 1) := by decide +kernel
theorem dX12_shift_139 : decode cX12_shift 139 = .ok (.istore 6, 2) := by decide +kernel
theorem dX12_shift_141 : decode cX12_shift 141 = .ok (.iload 6, 2) := by decide +kernel
theorem dX12_shift_143 : decode cX12_shift 143 = .ok (.iload 5, 2) := by decide +kernel
theorem dX12_shift_145 : decode cX12_shift 145 = .ok (.if_icmp .ge 31, 3) := by decide +kernel
theorem dX12_shift_148 : decode cX12_shift 148 = .ok (.aload_n 0, 1) := by decide +kernel
theorem dX12_shift_149 : decode cX12_shift 149 = .ok (.getfield 160, 3) := by decide +kernel
theorem dX12_shift_152 : decode cX12_shift 152 = .ok (.bipush 60, 2) := by decide +kernel
theorem dX12_shift_154 : decode cX12_shift 154 = .ok (.iload_n 3, 1) := by decide +kernel
theorem dX12_shift_155 : decode cX12_shift 155 = .ok (.imul, 1) := by decide +kernel
theorem dX12_shift_156 : decode cX12_shift 156 = .ok (.iload 4, 2) := by decide +kernel
theorem dX12_shift_158 : decode cX12_shift 158 = .ok (.iadd, 1) := by decide +kernel
theorem dX12_shift_159 : decode cX12_shift 159 = .ok (.iload 6, 2) := by decide +kernel
theorem dX12_shift_161 : decode cX12_shift 161 = .ok (.iadd, 1) := by decide +kernel
theorem dX12_shift_162 : decode cX12_shift 162 = .ok (.aload_n 0, 1) := by decide +kernel
theorem dX12_shift_163 : decode cX12_shift 163 = .ok (.getfield 164, 3) := by decide +kernel
theorem dX12_shift_166 : decode cX12_shift 166 = .ok (.iload 6, 2) := by decide +kernel
theorem dX12_shift_168 : decode cX12_shift 168 = .ok (.laload, 1) := by decide +kernel
theorem dX12_shift_169 : decode cX12_shift 169 = .ok (.lastore, 1) := by decide +kernel
theorem dX12_shift_170 : decode cX12_shift 170 = .ok (.iinc 6 1, 3) := by decide +kernel
theorem dX12_shift_173 : decode cX12_shift 173 = .ok (.goto (-32), 3) := by decide +kernel
theorem dX12_shift_176 : decode cX12_shift 176 = .ok (.iload 5, 2) := by decide +kernel
theorem dX12_shift_178 : decode cX12_shift 178 = .ok (.ireturn, 1) := by decide +kernel
