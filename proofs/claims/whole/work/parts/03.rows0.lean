set_option maxRecDepth 20000 in
theorem ggX0_init_X8_init : GoodIn wsX0_init wsX8_init := goodIn_r _ [4, 5, 6, 7, 8, 9, 10, 11, 12, 13, 14, 15, 16, 17, 18, 19, 20, 21, 22, 23, 24, 25, 26, 27, 28, 29, 30, 31, 32, 33, 34, 35, 36, 37, 38, 39, 40, 41, 42, 43, 44, 45, 46, 47, 48, 49, 50, 51] (by decide +kernel) (by decide +kernel)
set_option maxRecDepth 20000 in
theorem gX0_init_X8_init : GoodIn wsX0_init (wsX8_init) := ggX0_init_X8_init
theorem dX0_init_0 : decode cX0_init 0 = .ok (.aload_n 0, 1) := by decide +kernel
theorem dX0_init_1 : decode cX0_init 1 = .ok (.iload_n 1, 1) := by decide +kernel
theorem dX0_init_2 : decode cX0_init 2 = .ok (.iload_n 2, 1) := by decide +kernel
theorem dX0_init_3 : decode cX0_init 3 = .ok (.iload_n 3, 1) := by decide +kernel
theorem dX0_init_4 : decode cX0_init 4 = .ok (.iload 4, 2) := by decide +kernel
theorem dX0_init_6 : decode cX0_init 6 = .ok (.iload 5, 2) := by decide +kernel
theorem dX0_init_8 : decode cX0_init 8 = .ok (.invokespecial 1, 3) := by decide +kernel
theorem dX0_init_11 : decode cX0_init 11 = .ok (.return_, 1) := by decide +kernel
theorem dX0_kind_0 : decode cX0_kind 0 = .ok (.iconst 5, 1) := by decide +kernel
theorem dX0_kind_1 : decode cX0_kind 1 = .ok (.ireturn, 1) := by decide +kernel
theorem dX0_burden_0 : decode cX0_burden 0 = .ok (.aload_n 0, 1) := by decide +kernel
theorem dX0_burden_1 : decode cX0_burden 1 = .ok (.getfield 7, 3) := by decide +kernel
theorem dX0_burden_4 : decode cX0_burden 4 = .ok (.ireturn, 1) := by decide +kernel
set_option maxRecDepth 20000 in
theorem ggX0_tells_X9_begin : GoodIn wsX0_tells wsX9_begin := goodIn_r _ [7, 8, 9, 45, 46] (by decide +kernel) (by decide +kernel)
set_option maxRecDepth 20000 in
theorem gX0_tells_X9_begin : GoodIn wsX0_tells (wsV RX0 13 RX9 yX9_begin wsX9_begin) := goodIn_app (goodIn_of _ (by decide +kernel)) ggX0_tells_X9_begin
theorem dX0_tells_0 : decode cX0_tells 0 = .ok (.aload_n 2, 1) := by decide +kernel
theorem dX0_tells_1 : decode cX0_tells 1 = .ok (.bipush 60, 2) := by decide +kernel
theorem dX0_tells_3 : decode cX0_tells 3 = .ok (.invokevirtual 13, 3) := by decide +kernel
theorem dX0_tells_6 : decode cX0_tells 6 = .ok (.aload_n 0, 1) := by decide +kernel
theorem dX0_tells_7 : decode cX0_tells 7 = .ok (.iload_n 1, 1) := by decide +kernel
theorem dX0_tells_8 : decode cX0_tells 8 = .ok (.aload_n 0, 1) := by decide +kernel
theorem dX0_tells_9 : decode cX0_tells 9 = .ok (.getfield 19, 3) := by decide +kernel
theorem dX0_tells_12 : decode cX0_tells 12 = .ok (.isub, 1) := by decide +kernel
theorem dX0_tells_13 : decode cX0_tells 13 = .ok (.aload_n 2, 1) := by decide +kernel
theorem dX0_tells_14 : decode cX0_tells 14 = .ok (.invokespecial 22, 3) := by decide +kernel
theorem dX0_tells_17 : decode cX0_tells 17 = .ok (.ireturn, 1) := by decide +kernel
set_option maxRecDepth 20000 in
theorem ggX1_init_X4_init : GoodIn wsX1_init wsX4_init := goodIn_r _ [4, 5, 6, 7, 8, 9, 10, 11, 12, 13, 14, 15, 16, 17, 18, 19, 20, 21, 22, 23, 24, 25, 26, 27, 28, 29, 30, 31, 32, 33, 34, 35, 36, 37, 38, 39, 40, 41, 42, 43, 44, 45, 46, 47] (by decide +kernel) (by decide +kernel)
set_option maxRecDepth 20000 in
theorem gX1_init_X4_init : GoodIn wsX1_init (wsX4_init) := ggX1_init_X4_init
theorem dX1_init_0 : decode cX1_init 0 = .ok (.aload_n 0, 1) := by decide +kernel
theorem dX1_init_1 : decode cX1_init 1 = .ok (.iload_n 1, 1) := by decide +kernel
theorem dX1_init_2 : decode cX1_init 2 = .ok (.iload_n 2, 1) := by decide +kernel
theorem dX1_init_3 : decode cX1_init 3 = .ok (.iload_n 3, 1) := by decide +kernel
theorem dX1_init_4 : decode cX1_init 4 = .ok (.iload 4, 2) := by decide +kernel
theorem dX1_init_6 : decode cX1_init 6 = .ok (.iload 5, 2) := by decide +kernel
theorem dX1_init_8 : decode cX1_init 8 = .ok (.invokespecial 1, 3) := by decide +kernel
theorem dX1_init_11 : decode cX1_init 11 = .ok (.return_, 1) := by decide +kernel
theorem dX1_kind_0 : decode cX1_kind 0 = .ok (.iconst 1, 1) := by decide +kernel
theorem dX1_kind_1 : decode cX1_kind 1 = .ok (.ireturn, 1) := by decide +kernel
set_option maxRecDepth 20000 in
theorem ggX1_worthBy_X4_worthBy : GoodIn wsX1_worthBy wsX4_worthBy := goodIn_r _ [11] (by decide +kernel) (by decide +kernel)
set_option maxRecDepth 20000 in
theorem gX1_worthBy_X4_worthBy_s7 : GoodIn wsX1_worthBy (va_wsSU RX1 7 yX4_worthBy wsX4_worthBy) := goodIn_app (goodIn_of _ (by decide +kernel)) ggX1_worthBy_X4_worthBy
theorem dX1_worthBy_0 : decode cX1_worthBy 0 = .ok (.aload_n 0, 1) := by decide +kernel
theorem dX1_worthBy_1 : decode cX1_worthBy 1 = .ok (.aload_n 1, 1) := by decide +kernel
theorem dX1_worthBy_2 : decode cX1_worthBy 2 = .ok (.iload_n 2, 1) := by decide +kernel
theorem dX1_worthBy_3 : decode cX1_worthBy 3 = .ok (.aload_n 3, 1) := by decide +kernel
theorem dX1_worthBy_4 : decode cX1_worthBy 4 = .ok (.invokespecial 7, 3) := by decide +kernel
theorem dX1_worthBy_7 : decode cX1_worthBy 7 = .ok (.aload_n 1, 1) := by decide +kernel
theorem dX1_worthBy_8 : decode cX1_worthBy 8 = .ok (.getfield 11, 3) := by decide +kernel
theorem dX1_worthBy_11 : decode cX1_worthBy 11 = .ok (.aload_n 0, 1) := by decide +kernel
theorem dX1_worthBy_12 : decode cX1_worthBy 12 = .ok (.getfield 15, 3) := by decide +kernel
theorem dX1_worthBy_15 : decode cX1_worthBy 15 = .ok (.if_icmp .ge 10, 3) := by decide +kernel
theorem dX1_worthBy_18 : decode cX1_worthBy 18 = .ok (.aload_n 0, 1) := by decide +kernel
theorem dX1_worthBy_19 : decode cX1_worthBy 19 = .ok (.getfield 18, 3) := by decide +kernel
theorem dX1_worthBy_22 : decode cX1_worthBy 22 = .ok (.goto 4, 3) := by decide +kernel
theorem dX1_worthBy_25 : decode cX1_worthBy 25 = .ok (.iconst 0, 1) := by decide +kernel
theorem dX1_worthBy_26 : decode cX1_worthBy 26 = .ok (.iadd, 1) := by decide +kernel
theorem dX1_worthBy_27 : decode cX1_worthBy 27 = .ok (.ireturn, 1) := by decide +kernel
set_option maxRecDepth 20000 in
theorem ggX1_talks_X9_begin : GoodIn wsX1_talks wsX9_begin := goodIn_r _ [5, 6, 7, 46, 47] (by decide +kernel) (by decide +kernel)
set_option maxRecDepth 20000 in
theorem gX1_talks_X9_begin : GoodIn wsX1_talks (wsV RX1 21 RX9 yX9_begin wsX9_begin) := goodIn_app (goodIn_of _ (by decide +kernel)) ggX1_talks_X9_begin
set_option maxRecDepth 20000 in
theorem ggX1_talks_X4_talks : GoodIn wsX1_talks wsX4_talks := goodIn_r _ [13, 14, 15, 2, 3, 4, 5, 6, 7, 16, 17, 18, 19, 20, 21, 22, 23, 24, 25, 26, 12, 27, 28, 29, 30, 31, 32, 33, 34, 35, 36, 37, 38, 39, 40, 41, 42, 43, 44, 45, 48, 49, 50, 51, 52, 53, 54, 55, 56, 57, 58, 59, 60, 61, 62, 63, 64, 65, 66, 67, 68, 69, 70, 71, 72, 73, 74, 75, 76, 77, 78, 79, 80, 81, 82, 46, 47] (by decide +kernel) (by decide +kernel)
set_option maxRecDepth 20000 in
theorem gX1_talks_X4_talks_s27 : GoodIn wsX1_talks (va_wsSU RX1 27 yX4_talks wsX4_talks) := goodIn_app (goodIn_of _ (by decide +kernel)) ggX1_talks_X4_talks
theorem dX1_talks_0 : decode cX1_talks 0 = .ok (.aload_n 2, 1) := by decide +kernel
theorem dX1_talks_1 : decode cX1_talks 1 = .ok (.bipush 20, 2) := by decide +kernel
theorem dX1_talks_3 : decode cX1_talks 3 = .ok (.invokevirtual 21, 3) := by decide +kernel
theorem dX1_talks_6 : decode cX1_talks 6 = .ok (.aload_n 0, 1) := by decide +kernel
theorem dX1_talks_7 : decode cX1_talks 7 = .ok (.iload_n 1, 1) := by decide +kernel
theorem dX1_talks_8 : decode cX1_talks 8 = .ok (.aload_n 2, 1) := by decide +kernel
theorem dX1_talks_9 : decode cX1_talks 9 = .ok (.invokespecial 27, 3) := by decide +kernel
theorem dX1_talks_12 : decode cX1_talks 12 = .ok (.bipush 6, 2) := by decide +kernel
theorem dX1_talks_14 : decode cX1_talks 14 = .ok (.ixor, 1) := by decide +kernel
theorem dX1_talks_15 : decode cX1_talks 15 = .ok (.ireturn, 1) := by decide +kernel
set_option maxRecDepth 20000 in
theorem ggX2_init_X10_init : GoodIn wsX2_init wsX10_init := goodIn_r _ [4, 5, 6, 7, 8, 9, 10, 11, 12, 13, 14, 15, 16, 17, 18, 19, 20, 21, 22, 23, 24, 25, 26, 27, 28, 29, 30, 31, 32, 33, 34, 35, 36, 37, 38, 39, 40, 41, 42, 43, 44, 45, 46, 47, 48, 49, 50, 51] (by decide +kernel) (by decide +kernel)
set_option maxRecDepth 20000 in
theorem gX2_init_X10_init : GoodIn wsX2_init (wsX10_init) := ggX2_init_X10_init
theorem dX2_init_0 : decode cX2_init 0 = .ok (.aload_n 0, 1) := by decide +kernel
theorem dX2_init_1 : decode cX2_init 1 = .ok (.iload_n 1, 1) := by decide +kernel
theorem dX2_init_2 : decode cX2_init 2 = .ok (.iload_n 2, 1) := by decide +kernel
theorem dX2_init_3 : decode cX2_init 3 = .ok (.iload_n 3, 1) := by decide +kernel
theorem dX2_init_4 : decode cX2_init 4 = .ok (.iload 4, 2) := by decide +kernel
theorem dX2_init_6 : decode cX2_init 6 = .ok (.iload 5, 2) := by decide +kernel
theorem dX2_init_8 : decode cX2_init 8 = .ok (.invokespecial 1, 3) := by decide +kernel
theorem dX2_init_11 : decode cX2_init 11 = .ok (.return_, 1) := by decide +kernel
theorem dX2_kind_0 : decode cX2_kind 0 = .ok (.bipush 6, 2) := by decide +kernel
theorem dX2_kind_2 : decode cX2_kind 2 = .ok (.ireturn, 1) := by decide +kernel
set_option maxRecDepth 20000 in
theorem ggX2_worthBy_X10_worthBy : GoodIn wsX2_worthBy wsX10_worthBy := goodIn_r _ [11, 12, 13, 14, 15, 16, 17, 18, 19, 20, 21, 22, 23, 24, 25, 26, 27, 28, 29, 31, 32, 33, 34, 35, 36, 37, 38, 39, 40, 41, 42, 43, 44, 45, 46, 47, 48, 49, 50, 51, 52, 53, 54, 55, 56, 57, 58, 59, 60, 61, 62, 63, 64, 65, 66, 67, 68, 69, 70, 71, 72] (by decide +kernel) (by decide +kernel)
set_option maxRecDepth 20000 in
theorem gX2_worthBy_X10_worthBy_s7 : GoodIn wsX2_worthBy (va_wsSU RX2 7 yX10_worthBy wsX10_worthBy) := goodIn_app (goodIn_of _ (by decide +kernel)) ggX2_worthBy_X10_worthBy
set_option maxRecDepth 20000 in
theorem ggX2_worthBy_X7_isNaming : GoodIn wsX2_worthBy wsX7_isNaming := goodIn_r _ [27, 28, 29, 66, 67, 68, 69, 70, 71, 72] (by decide +kernel) (by decide +kernel)
set_option maxRecDepth 20000 in
theorem gX2_worthBy_X7_isNaming : GoodIn wsX2_worthBy (wsV RX2 20 RX7 yX7_isNaming wsX7_isNaming) := goodIn_app (goodIn_of _ (by decide +kernel)) ggX2_worthBy_X7_isNaming
theorem dX2_worthBy_0 : decode cX2_worthBy 0 = .ok (.aload_n 0, 1) := by decide +kernel
theorem dX2_worthBy_1 : decode cX2_worthBy 1 = .ok (.aload_n 1, 1) := by decide +kernel
theorem dX2_worthBy_2 : decode cX2_worthBy 2 = .ok (.iload_n 2, 1) := by decide +kernel
theorem dX2_worthBy_3 : decode cX2_worthBy 3 = .ok (.aload_n 3, 1) := by decide +kernel
theorem dX2_worthBy_4 : decode cX2_worthBy 4 = .ok (.invokespecial 7, 3) := by decide +kernel
theorem dX2_worthBy_7 : decode cX2_worthBy 7 = .ok (.aload_n 3, 1) := by decide +kernel
theorem dX2_worthBy_8 : decode cX2_worthBy 8 = .ok (.aload_n 0, 1) := by decide +kernel
theorem dX2_worthBy_9 : decode cX2_worthBy 9 = .ok (.getfield 11, 3) := by decide +kernel
theorem dX2_worthBy_12 : decode cX2_worthBy 12 = .ok (.aload_n 1, 1) := by decide +kernel
theorem dX2_worthBy_13 : decode cX2_worthBy 13 = .ok (.getfield 17, 3) := by decide +kernel
theorem dX2_worthBy_16 : decode cX2_worthBy 16 = .ok (.invokevirtual 20, 3) := by decide +kernel
theorem dX2_worthBy_19 : decode cX2_worthBy 19 = .ok (.ifCond .eq 10, 3) := by decide +kernel
theorem dX2_worthBy_22 : decode cX2_worthBy 22 = .ok (.aload_n 0, 1) := by decide +kernel
theorem dX2_worthBy_23 : decode cX2_worthBy 23 = .ok (.getfield 26, 3) := by decide +kernel
theorem dX2_worthBy_26 : decode cX2_worthBy 26 = .ok (.goto 4, 3) := by decide +kernel
theorem dX2_worthBy_29 : decode cX2_worthBy 29 = .ok (.iconst 0, 1) := by decide +kernel
theorem dX2_worthBy_30 : decode cX2_worthBy 30 = .ok (.iadd, 1) := by decide +kernel
theorem dX2_worthBy_31 : decode cX2_worthBy 31 = .ok (.ireturn, 1) := by decide +kernel
set_option maxRecDepth 20000 in
theorem ggX2_talks_X9_begin : GoodIn wsX2_talks wsX9_begin := goodIn_r _ [5, 6, 7, 8, 9] (by decide +kernel) (by decide +kernel)
set_option maxRecDepth 20000 in
theorem gX2_talks_X9_begin : GoodIn wsX2_talks (wsV RX2 29 RX9 yX9_begin wsX9_begin) := goodIn_app (goodIn_of _ (by decide +kernel)) ggX2_talks_X9_begin
theorem dX2_talks_0 : decode cX2_talks 0 = .ok (.aload_n 2, 1) := by decide +kernel
theorem dX2_talks_1 : decode cX2_talks 1 = .ok (.bipush 70, 2) := by decide +kernel
theorem dX2_talks_3 : decode cX2_talks 3 = .ok (.invokevirtual 29, 3) := by decide +kernel
theorem dX2_talks_6 : decode cX2_talks 6 = .ok (.aload_n 0, 1) := by decide +kernel
theorem dX2_talks_7 : decode cX2_talks 7 = .ok (.iload_n 1, 1) := by decide +kernel
theorem dX2_talks_8 : decode cX2_talks 8 = .ok (.aload_n 2, 1) := by decide +kernel
theorem dX2_talks_9 : decode cX2_talks 9 = .ok (.invokespecial 35, 3) := by decide +kernel
theorem dX2_talks_12 : decode cX2_talks 12 = .ok (.aload_n 0, 1) := by decide +kernel
theorem dX2_talks_13 : decode cX2_talks 13 = .ok (.iconst 2, 1) := by decide +kernel
theorem dX2_talks_14 : decode cX2_talks 14 = .ok (.aload_n 2, 1) := by decide +kernel
theorem dX2_talks_15 : decode cX2_talks 15 = .ok (.invokespecial 39, 3) := by decide +kernel
theorem dX2_talks_18 : decode cX2_talks 18 = .ok (.iadd, 1) := by decide +kernel
theorem dX2_talks_19 : decode cX2_talks 19 = .ok (.ireturn, 1) := by decide +kernel
set_option maxRecDepth 20000 in
theorem ggX2_sits_X9_begin : GoodIn wsX2_sits wsX9_begin := goodIn_r _ [7, 8, 9, 45, 46] (by decide +kernel) (by decide +kernel)
set_option maxRecDepth 20000 in
theorem gX2_sits_X9_begin : GoodIn wsX2_sits (wsV RX2 29 RX9 yX9_begin wsX9_begin) := goodIn_app (goodIn_of _ (by decide +kernel)) ggX2_sits_X9_begin
theorem dX2_sits_0 : decode cX2_sits 0 = .ok (.aload_n 2, 1) := by decide +kernel
theorem dX2_sits_1 : decode cX2_sits 1 = .ok (.bipush 71, 2) := by decide +kernel
theorem dX2_sits_3 : decode cX2_sits 3 = .ok (.invokevirtual 29, 3) := by decide +kernel
theorem dX2_sits_6 : decode cX2_sits 6 = .ok (.aload_n 0, 1) := by decide +kernel
theorem dX2_sits_7 : decode cX2_sits 7 = .ok (.iload_n 1, 1) := by decide +kernel
theorem dX2_sits_8 : decode cX2_sits 8 = .ok (.aload_n 2, 1) := by decide +kernel
theorem dX2_sits_9 : decode cX2_sits 9 = .ok (.invokespecial 39, 3) := by decide +kernel
theorem dX2_sits_12 : decode cX2_sits 12 = .ok (.aload_n 0, 1) := by decide +kernel
theorem dX2_sits_13 : decode cX2_sits 13 = .ok (.getfield 26, 3) := by decide +kernel
theorem dX2_sits_16 : decode cX2_sits 16 = .ok (.ixor, 1) := by decide +kernel
theorem dX2_sits_17 : decode cX2_sits 17 = .ok (.ireturn, 1) := by decide +kernel
set_option maxRecDepth 20000 in
theorem ggX3_init_X1_init : GoodIn wsX3_init wsX1_init := goodIn_r _ [4, 5, 6, 7, 8, 9, 10, 11, 12, 13, 14, 15, 16, 17, 18, 19, 20, 21, 22, 23, 24, 25, 26, 27, 28, 29, 30, 31, 32, 33, 34, 35, 36, 37, 38, 39, 40, 41, 42, 43, 44, 45, 46, 47, 48, 49, 50, 51] (by decide +kernel) (by decide +kernel)
set_option maxRecDepth 20000 in
theorem gX3_init_X1_init : GoodIn wsX3_init (wsX1_init) := ggX3_init_X1_init
theorem dX3_init_0 : decode cX3_init 0 = .ok (.aload_n 0, 1) := by decide +kernel
theorem dX3_init_1 : decode cX3_init 1 = .ok (.iload_n 1, 1) := by decide +kernel
theorem dX3_init_2 : decode cX3_init 2 = .ok (.iload_n 2, 1) := by decide +kernel
theorem dX3_init_3 : decode cX3_init 3 = .ok (.iload_n 3, 1) := by decide +kernel
theorem dX3_init_4 : decode cX3_init 4 = .ok (.iload 4, 2) := by decide +kernel
theorem dX3_init_6 : decode cX3_init 6 = .ok (.iload 5, 2) := by decide +kernel
theorem dX3_init_8 : decode cX3_init 8 = .ok (.invokespecial 1, 3) := by decide +kernel
theorem dX3_init_11 : decode cX3_init 11 = .ok (.return_, 1) := by decide +kernel
theorem dX3_kind_0 : decode cX3_kind 0 = .ok (.iconst 4, 1) := by decide +kernel
theorem dX3_kind_1 : decode cX3_kind 1 = .ok (.ireturn, 1) := by decide +kernel
set_option maxRecDepth 20000 in
theorem ggX3_worthBy_X7_namersOf : GoodIn wsX3_worthBy wsX7_namersOf := goodIn_r _ [10, 11, 12, 13, 14, 9, 15, 16, 70, 71, 72, 73, 74, 75, 76] (by decide +kernel) (by decide +kernel)
set_option maxRecDepth 20000 in
theorem gX3_worthBy_X7_namersOf : GoodIn wsX3_worthBy (wsV RX3 13 RX7 yX7_namersOf wsX7_namersOf) := goodIn_app (goodIn_of _ (by decide +kernel)) ggX3_worthBy_X7_namersOf
set_option maxRecDepth 20000 in
theorem ggX3_worthBy_X7_isNaming : GoodIn wsX3_worthBy wsX7_isNaming := goodIn_r _ [15, 11, 16, 70, 71, 72, 73, 74, 75, 76] (by decide +kernel) (by decide +kernel)
set_option maxRecDepth 20000 in
theorem gX3_worthBy_X7_isNaming : GoodIn wsX3_worthBy (wsV RX3 22 RX7 yX7_isNaming wsX7_isNaming) := goodIn_app (goodIn_of _ (by decide +kernel)) ggX3_worthBy_X7_isNaming
set_option maxRecDepth 20000 in
theorem ggX3_worthBy_X1_worthBy : GoodIn wsX3_worthBy wsX1_worthBy := goodIn_r _ [23, 24, 25, 26, 27, 28, 29, 30, 31, 32, 33, 34, 35, 36, 37, 38, 39, 40, 41, 42, 43, 44, 45, 46, 47, 48, 49, 50, 51, 52, 53, 54, 55, 56, 57, 58, 59, 60, 61, 62, 63, 64, 65, 66, 67, 68, 69] (by decide +kernel) (by decide +kernel)
set_option maxRecDepth 20000 in
theorem gX3_worthBy_X1_worthBy_s26 : GoodIn wsX3_worthBy (va_wsSU RX3 26 yX1_worthBy wsX1_worthBy) := goodIn_app (goodIn_of _ (by decide +kernel)) ggX3_worthBy_X1_worthBy
theorem dX3_worthBy_0 : decode cX3_worthBy 0 = .ok (.aload_n 3, 1) := by decide +kernel
theorem dX3_worthBy_1 : decode cX3_worthBy 1 = .ok (.aload_n 0, 1) := by decide +kernel
theorem dX3_worthBy_2 : decode cX3_worthBy 2 = .ok (.getfield 7, 3) := by decide +kernel
theorem dX3_worthBy_5 : decode cX3_worthBy 5 = .ok (.invokevirtual 13, 3) := by decide +kernel
theorem dX3_worthBy_8 : decode cX3_worthBy 8 = .ok (.aload_n 3, 1) := by decide +kernel
theorem dX3_worthBy_9 : decode cX3_worthBy 9 = .ok (.aload_n 1, 1) := by decide +kernel
theorem dX3_worthBy_10 : decode cX3_worthBy 10 = .ok (.getfield 19, 3) := by decide +kernel
theorem dX3_worthBy_13 : decode cX3_worthBy 13 = .ok (.aload_n 0, 1) := by decide +kernel
theorem dX3_worthBy_14 : decode cX3_worthBy 14 = .ok (.getfield 7, 3) := by decide +kernel
theorem dX3_worthBy_17 : decode cX3_worthBy 17 = .ok (.invokevirtual 22, 3) := by decide +kernel
theorem dX3_worthBy_20 : decode cX3_worthBy 20 = .ok (.ifCond .eq 7, 3) := by decide +kernel
theorem dX3_worthBy_23 : decode cX3_worthBy 23 = .ok (.iconst 1, 1) := by decide +kernel
theorem dX3_worthBy_24 : decode cX3_worthBy 24 = .ok (.goto 4, 3) := by decide +kernel
theorem dX3_worthBy_27 : decode cX3_worthBy 27 = .ok (.iconst 0, 1) := by decide +kernel
theorem dX3_worthBy_28 : decode cX3_worthBy 28 = .ok (.isub, 1) := by decide +kernel
theorem dX3_worthBy_29 : decode cX3_worthBy 29 = .ok (.istore 4, 2) := by decide +kernel
theorem dX3_worthBy_31 : decode cX3_worthBy 31 = .ok (.aload_n 0, 1) := by decide +kernel
theorem dX3_worthBy_32 : decode cX3_worthBy 32 = .ok (.aload_n 1, 1) := by decide +kernel
theorem dX3_worthBy_33 : decode cX3_worthBy 33 = .ok (.iload_n 2, 1) := by decide +kernel
theorem dX3_worthBy_34 : decode cX3_worthBy 34 = .ok (.aload_n 3, 1) := by decide +kernel
theorem dX3_worthBy_35 : decode cX3_worthBy 35 = .ok (.invokespecial 26, 3) := by decide +kernel
theorem dX3_worthBy_38 : decode cX3_worthBy 38 = .ok (.iload 4, 2) := by decide +kernel
theorem dX3_worthBy_40 : decode cX3_worthBy 40 = .ok (.ifCond .ne 10, 3) := by decide +kernel
theorem dX3_worthBy_43 : decode cX3_worthBy 43 = .ok (.aload_n 0, 1) := by decide +kernel
theorem dX3_worthBy_44 : decode cX3_worthBy 44 = .ok (.getfield 30, 3) := by decide +kernel
theorem dX3_worthBy_47 : decode cX3_worthBy 47 = .ok (.goto 4, 3) := by decide +kernel
theorem dX3_worthBy_50 : decode cX3_worthBy 50 = .ok (.iconst 0, 1) := by decide +kernel
theorem dX3_worthBy_51 : decode cX3_worthBy 51 = .ok (.iadd, 1) := by decide +kernel
theorem dX3_worthBy_52 : decode cX3_worthBy 52 = .ok (.ireturn, 1) := by decide +kernel
set_option maxRecDepth 20000 in
theorem ggX3_sits_X9_begin : GoodIn wsX3_sits wsX9_begin := goodIn_r _ [5, 6, 7, 8, 9] (by decide +kernel) (by decide +kernel)
set_option maxRecDepth 20000 in
theorem gX3_sits_X9_begin : GoodIn wsX3_sits (wsV RX3 33 RX9 yX9_begin wsX9_begin) := goodIn_app (goodIn_of _ (by decide +kernel)) ggX3_sits_X9_begin
theorem dX3_sits_0 : decode cX3_sits 0 = .ok (.aload_n 2, 1) := by decide +kernel
theorem dX3_sits_1 : decode cX3_sits 1 = .ok (.bipush 50, 2) := by decide +kernel
theorem dX3_sits_3 : decode cX3_sits 3 = .ok (.invokevirtual 33, 3) := by decide +kernel
theorem dX3_sits_6 : decode cX3_sits 6 = .ok (.aload_n 0, 1) := by decide +kernel
theorem dX3_sits_7 : decode cX3_sits 7 = .ok (.iload_n 1, 1) := by decide +kernel
theorem dX3_sits_8 : decode cX3_sits 8 = .ok (.aload_n 2, 1) := by decide +kernel
theorem dX3_sits_9 : decode cX3_sits 9 = .ok (.invokespecial 39, 3) := by decide +kernel
theorem dX3_sits_12 : decode cX3_sits 12 = .ok (.ineg, 1) := by decide +kernel
theorem dX3_sits_13 : decode cX3_sits 13 = .ok (.ireturn, 1) := by decide +kernel
set_option maxRecDepth 20000 in
theorem ggX3_talks_X9_begin : GoodIn wsX3_talks wsX9_begin := goodIn_r _ [5, 6, 7, 52, 53] (by decide +kernel) (by decide +kernel)
set_option maxRecDepth 20000 in
theorem gX3_talks_X9_begin : GoodIn wsX3_talks (wsV RX3 33 RX9 yX9_begin wsX9_begin) := goodIn_app (goodIn_of _ (by decide +kernel)) ggX3_talks_X9_begin
set_option maxRecDepth 20000 in
theorem ggX3_talks_X1_talks : GoodIn wsX3_talks wsX1_talks := goodIn_r _ [13, 14, 2, 3, 4, 5, 6, 7, 15, 16, 17, 18, 19, 20, 21, 22, 23, 24, 25, 26, 27, 28, 29, 30, 31, 32, 33, 34, 35, 36, 37, 38, 39, 40, 41, 42, 43, 44, 45, 46, 47, 1, 48, 49, 50, 51, 52, 53, 54, 55, 56, 57, 58, 59, 60, 61, 62, 63, 64, 65, 66, 67, 68, 69, 70, 71, 72, 73, 74, 75, 76, 77, 78, 79, 80, 81, 82, 83, 84, 85, 86, 87, 88] (by decide +kernel) (by decide +kernel)
set_option maxRecDepth 20000 in
theorem gX3_talks_X1_talks_s43 : GoodIn wsX3_talks (va_wsSU RX3 43 yX1_talks wsX1_talks) := goodIn_app (goodIn_of _ (by decide +kernel)) ggX3_talks_X1_talks
theorem dX3_talks_0 : decode cX3_talks 0 = .ok (.aload_n 2, 1) := by decide +kernel
theorem dX3_talks_1 : decode cX3_talks 1 = .ok (.bipush 51, 2) := by decide +kernel
theorem dX3_talks_3 : decode cX3_talks 3 = .ok (.invokevirtual 33, 3) := by decide +kernel
theorem dX3_talks_6 : decode cX3_talks 6 = .ok (.aload_n 0, 1) := by decide +kernel
theorem dX3_talks_7 : decode cX3_talks 7 = .ok (.iload_n 1, 1) := by decide +kernel
theorem dX3_talks_8 : decode cX3_talks 8 = .ok (.iconst 1, 1) := by decide +kernel
theorem dX3_talks_9 : decode cX3_talks 9 = .ok (.iadd, 1) := by decide +kernel
theorem dX3_talks_10 : decode cX3_talks 10 = .ok (.aload_n 2, 1) := by decide +kernel
theorem dX3_talks_11 : decode cX3_talks 11 = .ok (.invokespecial 43, 3) := by decide +kernel
theorem dX3_talks_14 : decode cX3_talks 14 = .ok (.ireturn, 1) := by decide +kernel
theorem dX4_init_0 : decode cX4_init 0 = .ok (.aload_n 0, 1) := by decide +kernel
theorem dX4_init_1 : decode cX4_init 1 = .ok (.invokespecial 1, 3) := by decide +kernel
theorem dX4_init_4 : decode cX4_init 4 = .ok (.aload_n 0, 1) := by decide +kernel
theorem dX4_init_5 : decode cX4_init 5 = .ok (.iload_n 1, 1) := by decide +kernel
theorem dX4_init_6 : decode cX4_init 6 = .ok (.putfield 7, 3) := by decide +kernel
theorem dX4_init_9 : decode cX4_init 9 = .ok (.aload_n 0, 1) := by decide +kernel
theorem dX4_init_10 : decode cX4_init 10 = .ok (.iload_n 2, 1) := by decide +kernel
theorem dX4_init_11 : decode cX4_init 11 = .ok (.putfield 13, 3) := by decide +kernel
theorem dX4_init_14 : decode cX4_init 14 = .ok (.aload_n 0, 1) := by decide +kernel
theorem dX4_init_15 : decode cX4_init 15 = .ok (.iload_n 3, 1) := by decide +kernel
theorem dX4_init_16 : decode cX4_init 16 = .ok (.putfield 16, 3) := by decide +kernel
theorem dX4_init_19 : decode cX4_init 19 = .ok (.aload_n 0, 1) := by decide +kernel
theorem dX4_init_20 : decode cX4_init 20 = .ok (.iload 4, 2) := by decide +kernel
theorem dX4_init_22 : decode cX4_init 22 = .ok (.putfield 19, 3) := by decide +kernel
theorem dX4_init_25 : decode cX4_init 25 = .ok (.aload_n 0, 1) := by decide +kernel
theorem dX4_init_26 : decode cX4_init 26 = .ok (.iload 5, 2) := by decide +kernel
theorem dX4_init_28 : decode cX4_init 28 = .ok (.putfield 22, 3) := by decide +kernel
theorem dX4_init_31 : decode cX4_init 31 = .ok (.return_, 1) := by decide +kernel
theorem dX4_kind_0 : decode cX4_kind 0 = .ok (.iconst 0, 1) := by decide +kernel
theorem dX4_kind_1 : decode cX4_kind 1 = .ok (.ireturn, 1) := by decide +kernel
theorem dX4_worthBy_0 : decode cX4_worthBy 0 = .ok (.iload_n 2, 1) := by decide +kernel
theorem dX4_worthBy_1 : decode cX4_worthBy 1 = .ok (.ireturn, 1) := by decide +kernel
theorem dX4_burden_0 : decode cX4_burden 0 = .ok (.iconst 0, 1) := by decide +kernel
theorem dX4_burden_1 : decode cX4_burden 1 = .ok (.ireturn, 1) := by decide +kernel
theorem dX4_goesOn_0 : decode cX4_goesOn 0 = .ok (.iconst 0, 1) := by decide +kernel
theorem dX4_goesOn_1 : decode cX4_goesOn 1 = .ok (.ireturn, 1) := by decide +kernel
set_option maxRecDepth 20000 in
theorem ggX4_sits_X9_begin : GoodIn wsX4_sits wsX9_begin := goodIn_r _ [6, 7, 8, 44, 45] (by decide +kernel) (by decide +kernel)
set_option maxRecDepth 20000 in
theorem gX4_sits_X9_begin : GoodIn wsX4_sits (wsV RX4 25 RX9 yX9_begin wsX9_begin) := goodIn_app (goodIn_of _ (by decide +kernel)) ggX4_sits_X9_begin
theorem dX4_sits_0 : decode cX4_sits 0 = .ok (.aload_n 2, 1) := by decide +kernel
theorem dX4_sits_1 : decode cX4_sits 1 = .ok (.bipush 10, 2) := by decide +kernel
theorem dX4_sits_3 : decode cX4_sits 3 = .ok (.invokevirtual 25, 3) := by decide +kernel
theorem dX4_sits_6 : decode cX4_sits 6 = .ok (.iload_n 1, 1) := by decide +kernel
theorem dX4_sits_7 : decode cX4_sits 7 = .ok (.aload_n 0, 1) := by decide +kernel
theorem dX4_sits_8 : decode cX4_sits 8 = .ok (.getfield 7, 3) := by decide +kernel
theorem dX4_sits_11 : decode cX4_sits 11 = .ok (.iadd, 1) := by decide +kernel
theorem dX4_sits_12 : decode cX4_sits 12 = .ok (.ireturn, 1) := by decide +kernel
set_option maxRecDepth 20000 in
theorem ggX4_talks_X9_begin : GoodIn wsX4_talks wsX9_begin := goodIn_r _ [6, 7, 8, 75, 76] (by decide +kernel) (by decide +kernel)
set_option maxRecDepth 20000 in
theorem gX4_talks_X9_begin : GoodIn wsX4_talks (wsV RX4 25 RX9 yX9_begin wsX9_begin) := goodIn_app (goodIn_of _ (by decide +kernel)) ggX4_talks_X9_begin
set_option maxRecDepth 20000 in
theorem ggX4_talks_X8_sits : GoodIn wsX4_talks wsX8_sits := goodIn_r _ [15, 16, 3, 4, 5, 6, 7, 8, 17, 10, 18, 19, 20, 21, 22, 2, 75, 76, 40, 41, 42, 43, 44, 45, 46, 47, 48, 49, 50, 51, 52, 53, 54, 55, 56, 57, 58, 59, 60, 61, 62, 63, 64, 65, 66, 67, 68, 69, 70, 71, 72, 73, 74] (by decide +kernel) (by decide +kernel)
set_option maxRecDepth 20000 in
theorem gX4_talks_X8_sits_u31X0 : GoodIn wsX4_talks (va_wsO RX4 31 RX0 "WhoSitsBy$Pupil" ⟨"WhoSitsBy$Pupil", "sits", "(ILWhoSitsBy$Trace;)I"⟩ yX8_sits wsX8_sits) := goodIn_app (goodIn_of _ (by decide +kernel)) ggX4_talks_X8_sits
set_option maxRecDepth 20000 in
theorem ggX4_talks_X4_sits : GoodIn wsX4_talks wsX4_sits := goodIn_r _ [21, 22, 2, 3, 4, 5, 6, 7, 8, 40, 41, 42, 43, 44, 45, 46, 47, 48, 49, 50, 51, 52, 53, 54, 55, 56, 57, 58, 59, 60, 61, 62, 63, 64, 65, 66, 67, 68, 69, 70, 71, 72, 73, 74, 75, 76] (by decide +kernel) (by decide +kernel)
set_option maxRecDepth 20000 in
theorem gX4_talks_X4_sits_u31X1 : GoodIn wsX4_talks (va_wsU RX4 31 RX1 "WhoSitsBy$Pupil" ⟨"WhoSitsBy$Pupil", "sits", "(ILWhoSitsBy$Trace;)I"⟩ yX4_sits wsX4_sits) := goodIn_app (goodIn_of _ (by decide +kernel)) ggX4_talks_X4_sits
set_option maxRecDepth 20000 in
theorem ggX4_talks_X2_sits : GoodIn wsX4_talks wsX2_sits := goodIn_r _ [27, 28, 29, 30, 3, 4, 5, 6, 7, 8, 40, 41, 42, 43, 44, 45, 46, 47, 48, 49, 50, 51, 52, 53, 54, 55, 56, 57, 58, 59, 60, 61, 62, 63, 64, 65, 66, 67, 68, 69, 70, 71, 72, 73, 74, 75, 76] (by decide +kernel) (by decide +kernel)
set_option maxRecDepth 20000 in
theorem gX4_talks_X2_sits_u31X2 : GoodIn wsX4_talks (va_wsO RX4 31 RX2 "WhoSitsBy$Pupil" ⟨"WhoSitsBy$Pupil", "sits", "(ILWhoSitsBy$Trace;)I"⟩ yX2_sits wsX2_sits) := goodIn_app (goodIn_of _ (by decide +kernel)) ggX4_talks_X2_sits
set_option maxRecDepth 20000 in
theorem ggX4_talks_X3_sits : GoodIn wsX4_talks wsX3_sits := goodIn_r _ [34, 35, 3, 4, 5, 6, 7, 8, 75, 76] (by decide +kernel) (by decide +kernel)
set_option maxRecDepth 20000 in
theorem gX4_talks_X3_sits_u31X3 : GoodIn wsX4_talks (va_wsO RX4 31 RX3 "WhoSitsBy$Pupil" ⟨"WhoSitsBy$Pupil", "sits", "(ILWhoSitsBy$Trace;)I"⟩ yX3_sits wsX3_sits) := goodIn_app (goodIn_of _ (by decide +kernel)) ggX4_talks_X3_sits
set_option maxRecDepth 20000 in
theorem gX4_talks_X4_sits : GoodIn wsX4_talks (wsV RX4 31 RX4 yX4_sits wsX4_sits) := goodIn_app (goodIn_of _ (by decide +kernel)) ggX4_talks_X4_sits
set_option maxRecDepth 20000 in
theorem gX4_talks_X8_sits_u31X8 : GoodIn wsX4_talks (va_wsO RX4 31 RX8 "WhoSitsBy$Pupil" ⟨"WhoSitsBy$Pupil", "sits", "(ILWhoSitsBy$Trace;)I"⟩ yX8_sits wsX8_sits) := goodIn_app (goodIn_of _ (by decide +kernel)) ggX4_talks_X8_sits
set_option maxRecDepth 20000 in
theorem gX4_talks_X4_sits_u31X10 : GoodIn wsX4_talks (va_wsU RX4 31 RX10 "WhoSitsBy$Pupil" ⟨"WhoSitsBy$Pupil", "sits", "(ILWhoSitsBy$Trace;)I"⟩ yX4_sits wsX4_sits) := goodIn_app (goodIn_of _ (by decide +kernel)) ggX4_talks_X4_sits
theorem dX4_talks_0 : decode cX4_talks 0 = .ok (.aload_n 2, 1) := by decide +kernel
theorem dX4_talks_1 : decode cX4_talks 1 = .ok (.bipush 11, 2) := by decide +kernel
theorem dX4_talks_3 : decode cX4_talks 3 = .ok (.invokevirtual 25, 3) := by decide +kernel
theorem dX4_talks_6 : decode cX4_talks 6 = .ok (.aload_n 0, 1) := by decide +kernel
theorem dX4_talks_7 : decode cX4_talks 7 = .ok (.iload_n 1, 1) := by decide +kernel
theorem dX4_talks_8 : decode cX4_talks 8 = .ok (.aload_n 2, 1) := by decide +kernel
theorem dX4_talks_9 : decode cX4_talks 9 = .ok (.invokevirtual 31, 3) := by decide +kernel
theorem dX4_talks_12 : decode cX4_talks 12 = .ok (.aload_n 0, 1) := by decide +kernel
theorem dX4_talks_13 : decode cX4_talks 13 = .ok (.getfield 13, 3) := by decide +kernel
theorem dX4_talks_16 : decode cX4_talks 16 = .ok (.isub, 1) := by decide +kernel
theorem dX4_talks_17 : decode cX4_talks 17 = .ok (.ireturn, 1) := by decide +kernel
set_option maxRecDepth 20000 in
theorem ggX4_tells_X9_begin : GoodIn wsX4_tells wsX9_begin := goodIn_r _ [5, 6, 7, 66, 67] (by decide +kernel) (by decide +kernel)
set_option maxRecDepth 20000 in
theorem gX4_tells_X9_begin : GoodIn wsX4_tells (wsV RX4 25 RX9 yX9_begin wsX9_begin) := goodIn_app (goodIn_of _ (by decide +kernel)) ggX4_tells_X9_begin
set_option maxRecDepth 20000 in
theorem ggX4_tells_X4_talks : GoodIn wsX4_tells wsX4_talks := goodIn_r _ [13, 14, 1, 2, 3, 4, 5, 6, 7, 15, 16, 17, 18, 19, 20, 21, 22, 23, 24, 25, 12, 26, 27, 28, 29, 30, 31, 32, 33, 34, 35, 36, 37, 38, 39, 40, 41, 42, 43, 44, 68, 69, 70, 71, 72, 73, 74, 75, 76, 77, 78, 79, 80, 81, 82, 83, 84, 85, 86, 87, 88, 89, 90, 91, 92, 93, 94, 95, 96, 97, 98, 99, 100, 101, 102, 66, 67] (by decide +kernel) (by decide +kernel)
set_option maxRecDepth 20000 in
theorem gX4_tells_X4_talks_u35X0 : GoodIn wsX4_tells (va_wsU RX4 35 RX0 "WhoSitsBy$Pupil" ⟨"WhoSitsBy$Pupil", "talks", "(ILWhoSitsBy$Trace;)I"⟩ yX4_talks wsX4_talks) := goodIn_app (goodIn_of _ (by decide +kernel)) ggX4_tells_X4_talks
set_option maxRecDepth 20000 in
theorem ggX4_tells_X1_talks : GoodIn wsX4_tells wsX1_talks := goodIn_r _ [49, 50, 2, 3, 4, 5, 6, 7, 51, 9, 52, 11, 12, 13, 14, 1, 15, 16, 17, 18, 19, 20, 21, 22, 23, 24, 25, 26, 27, 28, 29, 30, 31, 32, 33, 34, 35, 36, 37, 38, 39, 40, 41, 42, 43, 44, 66, 67, 68, 69, 70, 71, 72, 73, 74, 75, 76, 77, 78, 79, 80, 81, 82, 83, 84, 85, 86, 87, 88, 89, 90, 91, 92, 93, 94, 95, 96, 97, 98, 99, 100, 101, 102] (by decide +kernel) (by decide +kernel)
set_option maxRecDepth 20000 in
theorem gX4_tells_X1_talks_u35X1 : GoodIn wsX4_tells (va_wsO RX4 35 RX1 "WhoSitsBy$Pupil" ⟨"WhoSitsBy$Pupil", "talks", "(ILWhoSitsBy$Trace;)I"⟩ yX1_talks wsX1_talks) := goodIn_app (goodIn_of _ (by decide +kernel)) ggX4_tells_X1_talks
set_option maxRecDepth 20000 in
theorem ggX4_tells_X2_talks : GoodIn wsX4_tells wsX2_talks := goodIn_r _ [55, 35, 2, 3, 4, 5, 6, 7, 66, 67] (by decide +kernel) (by decide +kernel)
set_option maxRecDepth 20000 in
theorem gX4_tells_X2_talks_u35X2 : GoodIn wsX4_tells (va_wsO RX4 35 RX2 "WhoSitsBy$Pupil" ⟨"WhoSitsBy$Pupil", "talks", "(ILWhoSitsBy$Trace;)I"⟩ yX2_talks wsX2_talks) := goodIn_app (goodIn_of _ (by decide +kernel)) ggX4_tells_X2_talks
set_option maxRecDepth 20000 in
theorem ggX4_tells_X3_talks : GoodIn wsX4_tells wsX3_talks := goodIn_r _ [58, 40, 2, 3, 4, 5, 6, 7, 59, 60, 61, 47, 48, 49, 50, 51, 9, 52, 11, 12, 13, 14, 1, 15, 16, 17, 18, 19, 20, 21, 22, 23, 24, 25, 26, 27, 28, 29, 30, 31, 32, 33, 34, 35, 36, 37, 38, 39, 41, 42, 43, 44, 66, 67, 68, 69, 70, 71, 72, 73, 74, 75, 76, 77, 78, 79, 80, 81, 82, 83, 84, 85, 86, 87, 88, 89, 90, 91, 92, 93, 94, 95, 96, 97, 98, 99, 100, 101, 102] (by decide +kernel) (by decide +kernel)
set_option maxRecDepth 20000 in
theorem gX4_tells_X3_talks_u35X3 : GoodIn wsX4_tells (va_wsO RX4 35 RX3 "WhoSitsBy$Pupil" ⟨"WhoSitsBy$Pupil", "talks", "(ILWhoSitsBy$Trace;)I"⟩ yX3_talks wsX3_talks) := goodIn_app (goodIn_of _ (by decide +kernel)) ggX4_tells_X3_talks
set_option maxRecDepth 20000 in
theorem gX4_tells_X4_talks : GoodIn wsX4_tells (wsV RX4 35 RX4 yX4_talks wsX4_talks) := goodIn_app (goodIn_of _ (by decide +kernel)) ggX4_tells_X4_talks
set_option maxRecDepth 20000 in
theorem gX4_tells_X4_talks_u35X8 : GoodIn wsX4_tells (va_wsU RX4 35 RX8 "WhoSitsBy$Pupil" ⟨"WhoSitsBy$Pupil", "talks", "(ILWhoSitsBy$Trace;)I"⟩ yX4_talks wsX4_talks) := goodIn_app (goodIn_of _ (by decide +kernel)) ggX4_tells_X4_talks
set_option maxRecDepth 20000 in
theorem gX4_tells_X4_talks_u35X10 : GoodIn wsX4_tells (va_wsU RX4 35 RX10 "WhoSitsBy$Pupil" ⟨"WhoSitsBy$Pupil", "talks", "(ILWhoSitsBy$Trace;)I"⟩ yX4_talks wsX4_talks) := goodIn_app (goodIn_of _ (by decide +kernel)) ggX4_tells_X4_talks
theorem dX4_tells_0 : decode cX4_tells 0 = .ok (.aload_n 2, 1) := by decide +kernel
theorem dX4_tells_1 : decode cX4_tells 1 = .ok (.bipush 12, 2) := by decide +kernel
theorem dX4_tells_3 : decode cX4_tells 3 = .ok (.invokevirtual 25, 3) := by decide +kernel
theorem dX4_tells_6 : decode cX4_tells 6 = .ok (.aload_n 0, 1) := by decide +kernel
theorem dX4_tells_7 : decode cX4_tells 7 = .ok (.iload_n 1, 1) := by decide +kernel
theorem dX4_tells_8 : decode cX4_tells 8 = .ok (.aload_n 2, 1) := by decide +kernel
theorem dX4_tells_9 : decode cX4_tells 9 = .ok (.invokevirtual 35, 3) := by decide +kernel
theorem dX4_tells_12 : decode cX4_tells 12 = .ok (.iconst 2, 1) := by decide +kernel
theorem dX4_tells_13 : decode cX4_tells 13 = .ok (.imul, 1) := by decide +kernel
theorem dX4_tells_14 : decode cX4_tells 14 = .ok (.ireturn, 1) := by decide +kernel
theorem dX5_init_0 : decode cX5_init 0 = .ok (.aload_n 0, 1) := by decide +kernel
theorem dX5_init_1 : decode cX5_init 1 = .ok (.invokespecial 3, 3) := by decide +kernel
theorem dX5_init_4 : decode cX5_init 4 = .ok (.aload_n 0, 1) := by decide +kernel
theorem dX5_init_5 : decode cX5_init 5 = .ok (.bipush 10, 2) := by decide +kernel
theorem dX5_init_7 : decode cX5_init 7 = .ok (.newarray .int, 2) := by decide +kernel
theorem dX5_init_9 : decode cX5_init 9 = .ok (.putfield 11, 3) := by decide +kernel
theorem dX5_init_12 : decode cX5_init 12 = .ok (.aload_n 0, 1) := by decide +kernel
theorem dX5_init_13 : decode cX5_init 13 = .ok (.bipush 10, 2) := by decide +kernel
theorem dX5_init_15 : decode cX5_init 15 = .ok (.newarray .int, 2) := by decide +kernel
theorem dX5_init_17 : decode cX5_init 17 = .ok (.putfield 15, 3) := by decide +kernel
theorem dX5_init_20 : decode cX5_init 20 = .ok (.aload_n 0, 1) := by decide +kernel
theorem dX5_init_21 : decode cX5_init 21 = .ok (.bipush 10, 2) := by decide +kernel
theorem dX5_init_23 : decode cX5_init 23 = .ok (.newarray .int, 2) := by decide +kernel
theorem dX5_init_25 : decode cX5_init 25 = .ok (.putfield 18, 3) := by decide +kernel
theorem dX5_init_28 : decode cX5_init 28 = .ok (.aload_n 0, 1) := by decide +kernel
theorem dX5_init_29 : decode cX5_init 29 = .ok (.bipush 100, 2) := by decide +kernel
theorem dX5_init_31 : decode cX5_init 31 = .ok (.newarray .int, 2) := by decide +kernel
theorem dX5_init_33 : decode cX5_init 33 = .ok (.putfield 21, 3) := by decide +kernel
theorem dX5_init_36 : decode cX5_init 36 = .ok (.aload_n 0, 1) := by decide +kernel
theorem dX5_init_37 : decode cX5_init 37 = .ok (.iconst 5, 1) := by decide +kernel
theorem dX5_init_38 : decode cX5_init 38 = .ok (.putfield 24, 3) := by decide +kernel
theorem dX5_init_41 : decode cX5_init 41 = .ok (.aload_n 0, 1) := by decide +kernel
theorem dX5_init_42 : decode cX5_init 42 = .ok (.bipush 100, 2) := by decide +kernel
theorem dX5_init_44 : decode cX5_init 44 = .ok (.newarray .byte, 2) := by decide +kernel
theorem dX5_init_46 : decode cX5_init 46 = .ok (.putfield 28, 3) := by decide +kernel
theorem dX5_init_49 : decode cX5_init 49 = .ok (.aload_n 0, 1) := by decide +kernel
theorem dX5_init_50 : decode cX5_init 50 = .ok (.bipush 7, 2) := by decide +kernel
theorem dX5_init_52 : decode cX5_init 52 = .ok (.newarray .int, 2) := by decide +kernel
theorem dX5_init_54 : decode cX5_init 54 = .ok (.putfield 32, 3) := by decide +kernel
theorem dX5_init_57 : decode cX5_init 57 = .ok (.return_, 1) := by decide +kernel
theorem dX5_hush_0 : decode cX5_hush 0 = .ok (.aload_n 0, 1) := by decide +kernel
theorem dX5_hush_1 : decode cX5_hush 1 = .ok (.getfield 24, 3) := by decide +kernel
theorem dX5_hush_4 : decode cX5_hush 4 = .ok (.ireturn, 1) := by decide +kernel
set_option maxRecDepth 20000 in
theorem ggX5_take_X5_takeClause : GoodIn wsX5_take wsX5_takeClause := goodIn_r _ [22, 23, 24, 25, 21, 26, 14, 27, 28, 29, 30, 9, 1, 31, 32, 33, 34, 35, 36, 37, 38, 39, 40, 41, 42, 43, 44, 45, 46, 47, 48, 49, 50, 51, 52, 53, 54, 55, 56, 57, 58, 59, 60, 61, 62, 63, 64, 65, 66, 67, 68, 69, 70, 71, 72, 73, 74, 75, 76, 77, 78, 79, 80, 81, 82, 83, 84, 85, 86, 87, 88, 89, 90, 91, 92, 93, 94, 95, 96, 97, 98, 99, 100, 101, 102, 103, 104, 105, 106, 107, 108, 16, 109, 110, 111, 112, 113, 114, 115, 116, 117, 118, 119, 120, 121, 122, 123, 124, 125, 126, 127, 128, 129, 130, 131, 132, 133, 134, 135, 7, 4, 8, 136, 3, 5, 137, 138, 139, 140, 141, 142, 143, 144, 145, 146, 147, 148, 149, 150, 151, 152, 153, 154, 155, 156, 157, 158, 159, 160, 161, 162, 163, 164, 165, 166, 167, 168, 169, 170, 171, 172, 173, 174, 175, 176, 177, 178, 179, 180, 181, 182, 17, 15, 183, 184, 185, 186, 187, 188, 189, 190, 191, 192, 193, 194, 195, 196] (by decide +kernel) (by decide +kernel)
set_option maxRecDepth 20000 in
theorem gX5_take_X5_takeClause : GoodIn wsX5_take (wsV RX5 62 RX5 yX5_takeClause wsX5_takeClause) := goodIn_app (goodIn_of _ (by decide +kernel)) ggX5_take_X5_takeClause
set_option maxRecDepth 20000 in
theorem ggX5_take_X5_takes : GoodIn wsX5_take wsX5_takes := goodIn_r _ [90, 14, 27, 28, 29, 21, 30, 9, 1, 186, 187, 188, 189, 190, 191, 192, 193, 194, 195, 196] (by decide +kernel) (by decide +kernel)
set_option maxRecDepth 20000 in
theorem gX5_take_X5_takes : GoodIn wsX5_take (wsV RX5 66 RX5 yX5_takes wsX5_takes) := goodIn_app (goodIn_of _ (by decide +kernel)) ggX5_take_X5_takes
theorem dX5_take_0 : decode cX5_take 0 = .ok (.aload_n 0, 1) := by decide +kernel
theorem dX5_take_1 : decode cX5_take 1 = .ok (.iconst 0, 1) := by decide +kernel
theorem dX5_take_2 : decode cX5_take 2 = .ok (.iload_n 2, 1) := by decide +kernel
theorem dX5_take_3 : decode cX5_take 3 = .ok (.aload_n 1, 1) := by decide +kernel
theorem dX5_take_4 : decode cX5_take 4 = .ok (.arraylength, 1) := by decide +kernel
theorem dX5_take_5 : decode cX5_take 5 = .ok (.aload_n 0, 1) := by decide +kernel
theorem dX5_take_6 : decode cX5_take 6 = .ok (.getfield 28, 3) := by decide +kernel
theorem dX5_take_9 : decode cX5_take 9 = .ok (.arraylength, 1) := by decide +kernel
theorem dX5_take_10 : decode cX5_take 10 = .ok (.invokestatic 35, 3) := by decide +kernel
theorem dX5_take_13 : decode cX5_take 13 = .ok (.invokestatic 35, 3) := by decide +kernel
theorem dX5_take_16 : decode cX5_take 16 = .ok (.invokestatic 41, 3) := by decide +kernel
theorem dX5_take_19 : decode cX5_take 19 = .ok (.putfield 44, 3) := by decide +kernel
theorem dX5_take_22 : decode cX5_take 22 = .ok (.aload_n 1, 1) := by decide +kernel
theorem dX5_take_23 : decode cX5_take 23 = .ok (.iconst 0, 1) := by decide +kernel
theorem dX5_take_24 : decode cX5_take 24 = .ok (.aload_n 0, 1) := by decide +kernel
theorem dX5_take_25 : decode cX5_take 25 = .ok (.getfield 28, 3) := by decide +kernel
theorem dX5_take_28 : decode cX5_take 28 = .ok (.iconst 0, 1) := by decide +kernel
theorem dX5_take_29 : decode cX5_take 29 = .ok (.aload_n 0, 1) := by decide +kernel
theorem dX5_take_30 : decode cX5_take 30 = .ok (.getfield 44, 3) := by decide +kernel
theorem dX5_take_33 : decode cX5_take 33 = .ok (.invokestatic 47, 3) := by decide +kernel
theorem dX5_take_36 : decode cX5_take 36 = .ok (.aload_n 0, 1) := by decide +kernel
theorem dX5_take_37 : decode cX5_take 37 = .ok (.iconst 0, 1) := by decide +kernel
theorem dX5_take_38 : decode cX5_take 38 = .ok (.putfield 53, 3) := by decide +kernel
theorem dX5_take_41 : decode cX5_take 41 = .ok (.aload_n 0, 1) := by decide +kernel
theorem dX5_take_42 : decode cX5_take 42 = .ok (.iconst 0, 1) := by decide +kernel
theorem dX5_take_43 : decode cX5_take 43 = .ok (.putfield 56, 3) := by decide +kernel
theorem dX5_take_46 : decode cX5_take 46 = .ok (.aload_n 0, 1) := by decide +kernel
theorem dX5_take_47 : decode cX5_take 47 = .ok (.iconst 0, 1) := by decide +kernel
theorem dX5_take_48 : decode cX5_take 48 = .ok (.putfield 59, 3) := by decide +kernel
theorem dX5_take_51 : decode cX5_take 51 = .ok (.aload_n 0, 1) := by decide +kernel
theorem dX5_take_52 : decode cX5_take 52 = .ok (.iconst 5, 1) := by decide +kernel
theorem dX5_take_53 : decode cX5_take 53 = .ok (.putfield 24, 3) := by decide +kernel
theorem dX5_take_56 : decode cX5_take 56 = .ok (.iconst 0, 1) := by decide +kernel
theorem dX5_take_57 : decode cX5_take 57 = .ok (.istore_n 3, 1) := by decide +kernel
theorem dX5_take_58 : decode cX5_take 58 = .ok (.iload_n 3, 1) := by decide +kernel
theorem dX5_take_59 : decode cX5_take 59 = .ok (.bipush 10, 2) := by decide +kernel
theorem dX5_take_61 : decode cX5_take 61 = .ok (.if_icmp .ge 54, 3) := by decide +kernel
theorem dX5_take_64 : decode cX5_take 64 = .ok (.aload_n 0, 1) := by decide +kernel
theorem dX5_take_65 : decode cX5_take 65 = .ok (.invokevirtual 62, 3) := by decide +kernel
theorem dX5_take_68 : decode cX5_take 68 = .ok (.ifCond .ne 8, 3) := by decide +kernel
theorem dX5_take_71 : decode cX5_take 71 = .ok (.aload_n 0, 1) := by decide +kernel
theorem dX5_take_72 : decode cX5_take 72 = .ok (.getfield 53, 3) := by decide +kernel
theorem dX5_take_75 : decode cX5_take 75 = .ok (.ireturn, 1) := by decide +kernel
theorem dX5_take_76 : decode cX5_take 76 = .ok (.aload_n 0, 1) := by decide +kernel
theorem dX5_take_77 : decode cX5_take 77 = .ok (.getfield 53, 3) := by decide +kernel
theorem dX5_take_80 : decode cX5_take 80 = .ok (.aload_n 0, 1) := by decide +kernel
theorem dX5_take_81 : decode cX5_take 81 = .ok (.getfield 44, 3) := by decide +kernel
theorem dX5_take_84 : decode cX5_take 84 = .ok (.if_icmp .lt 5, 3) := by decide +kernel
theorem dX5_take_87 : decode cX5_take 87 = .ok (.iconst (-1), 1) := by decide +kernel
theorem dX5_take_88 : decode cX5_take 88 = .ok (.ireturn, 1) := by decide +kernel
theorem dX5_take_89 : decode cX5_take 89 = .ok (.iload_n 3, 1) := by decide +kernel
theorem dX5_take_90 : decode cX5_take 90 = .ok (.bipush 9, 2) := by decide +kernel
theorem dX5_take_92 : decode cX5_take 92 = .ok (.if_icmp .eq 12, 3) := by decide +kernel
theorem dX5_take_95 : decode cX5_take 95 = .ok (.aload_n 0, 1) := by decide +kernel
theorem dX5_take_96 : decode cX5_take 96 = .ok (.bipush 59, 2) := by decide +kernel
theorem dX5_take_98 : decode cX5_take 98 = .ok (.invokevirtual 66, 3) := by decide +kernel
theorem dX5_take_101 : decode cX5_take 101 = .ok (.ifCond .ne 8, 3) := by decide +kernel
theorem dX5_take_104 : decode cX5_take 104 = .ok (.aload_n 0, 1) := by decide +kernel
theorem dX5_take_105 : decode cX5_take 105 = .ok (.getfield 53, 3) := by decide +kernel
theorem dX5_take_108 : decode cX5_take 108 = .ok (.ireturn, 1) := by decide +kernel
theorem dX5_take_109 : decode cX5_take 109 = .ok (.iinc 3 1, 3) := by decide +kernel
theorem dX5_take_112 : decode cX5_take 112 = .ok (.goto (-54), 3) := by decide +kernel
theorem dX5_take_115 : decode cX5_take 115 = .ok (.aload_n 0, 1) := by decide +kernel
theorem dX5_take_116 : decode cX5_take 116 = .ok (.getfield 53, 3) := by decide +kernel
theorem dX5_take_119 : decode cX5_take 119 = .ok (.ireturn, 1) := by decide +kernel
set_option maxRecDepth 20000 in
theorem ggX5_takeClause_X5_wordAhead : GoodIn wsX5_takeClause wsX5_wordAhead := goodIn_r _ [5, 6, 7, 8, 9, 4, 10, 11, 12, 176, 177, 178, 179, 180, 181, 182, 183, 184, 185, 186] (by decide +kernel) (by decide +kernel)
set_option maxRecDepth 20000 in
theorem gX5_takeClause_X5_wordAhead : GoodIn wsX5_takeClause (wsV RX5 70 RX5 yX5_wordAhead wsX5_wordAhead) := goodIn_app (goodIn_of _ (by decide +kernel)) ggX5_takeClause_X5_wordAhead
set_option maxRecDepth 20000 in
theorem ggX5_takeClause_X5_spelled : GoodIn wsX5_takeClause wsX5_spelled := goodIn_r _ [15] (by decide +kernel) (by decide +kernel)
set_option maxRecDepth 20000 in
theorem gX5_takeClause_X5_spelled : GoodIn wsX5_takeClause (va_wsS RX5 74 yX5_spelled wsX5_spelled) := goodIn_app (goodIn_of _ (by decide +kernel)) ggX5_takeClause_X5_spelled
set_option maxRecDepth 20000 in
theorem ggX5_takeClause_X5_takesAll : GoodIn wsX5_takeClause wsX5_takesAll := goodIn_r _ [19, 20, 21, 22, 23, 24, 25, 26, 27, 28, 29, 30, 31, 32, 33, 34, 35, 36, 37, 38, 39, 40, 41, 42, 43, 44, 45, 46, 47, 48, 49, 50, 51, 52, 53, 54, 55, 56, 57, 58, 59, 60, 61, 62, 63, 64, 65, 66, 67, 68, 69, 70, 71, 4, 72, 6, 7, 8, 9, 10, 11, 12, 176, 177, 178, 179, 180, 181, 182, 183, 184, 185, 186] (by decide +kernel) (by decide +kernel)
set_option maxRecDepth 20000 in
theorem gX5_takeClause_X5_takesAll : GoodIn wsX5_takeClause (wsV RX5 78 RX5 yX5_takesAll wsX5_takesAll) := goodIn_app (goodIn_of _ (by decide +kernel)) ggX5_takeClause_X5_takesAll
set_option maxRecDepth 20000 in
theorem ggX5_takeClause_X5_takes : GoodIn wsX5_takeClause wsX5_takes := goodIn_r _ [72, 6, 7, 8, 9, 4, 10, 11, 12, 176, 177, 178, 179, 180, 181, 182, 183, 184, 185, 186] (by decide +kernel) (by decide +kernel)
set_option maxRecDepth 20000 in
theorem gX5_takeClause_X5_takes : GoodIn wsX5_takeClause (wsV RX5 66 RX5 yX5_takes wsX5_takes) := goodIn_app (goodIn_of _ (by decide +kernel)) ggX5_takeClause_X5_takes
set_option maxRecDepth 20000 in
theorem ggX5_takeClause_X5_takeNumber : GoodIn wsX5_takeClause wsX5_takeNumber := goodIn_r _ [76, 6, 7, 8, 9, 4, 10, 11, 12, 77, 78, 79, 176, 177, 178, 179, 180, 181, 182, 183, 184, 185, 186] (by decide +kernel) (by decide +kernel)
set_option maxRecDepth 20000 in
theorem gX5_takeClause_X5_takeNumber : GoodIn wsX5_takeClause (wsV RX5 82 RX5 yX5_takeNumber wsX5_takeNumber) := goodIn_app (goodIn_of _ (by decide +kernel)) ggX5_takeClause_X5_takeNumber
set_option maxRecDepth 20000 in
theorem ggX5_takeClause_X5_takeEither : GoodIn wsX5_takeClause wsX5_takeEither := goodIn_r _ [83, 84, 85, 86, 4, 69, 70, 71, 72, 6, 7, 8, 9, 10, 11, 12, 87, 88, 89, 90, 91, 92, 93, 94, 95, 96, 97, 98, 99, 100, 101, 80, 81, 82, 102, 103, 104, 105, 106, 107, 108, 23, 109, 110, 111, 112, 113, 25, 36, 37, 38, 39, 30, 31, 114, 21, 22, 24, 26, 27, 28, 29, 115, 116, 42, 117, 118, 119, 120, 121, 122, 123, 124, 125, 126, 127, 128, 129, 130, 131, 132, 54, 133, 134, 135, 136, 137, 138, 139, 140, 141, 142, 59, 60, 61, 143, 144, 145, 47, 146, 147, 50, 148, 149, 150, 151, 63, 64, 65, 66, 67, 68, 152, 153, 154, 155, 156, 157, 158, 159, 160, 161, 162, 163, 164, 165, 166, 73, 74, 75, 76, 77, 78, 79, 176, 177, 178, 179, 180, 181, 182, 183, 184, 185, 186] (by decide +kernel) (by decide +kernel)
set_option maxRecDepth 20000 in
theorem gX5_takeClause_X5_takeEither : GoodIn wsX5_takeClause (wsV RX5 85 RX5 yX5_takeEither wsX5_takeEither) := goodIn_app (goodIn_of _ (by decide +kernel)) ggX5_takeClause_X5_takeEither
set_option maxRecDepth 20000 in
theorem ggX5_takeClause_X5_keep : GoodIn wsX5_takeClause wsX5_keep := goodIn_r _ [170, 171, 172, 173, 174, 175, 91, 176, 177, 178, 179, 180, 181, 182, 183, 184, 185, 186] (by decide +kernel) (by decide +kernel)
set_option maxRecDepth 20000 in
theorem gX5_takeClause_X5_keep : GoodIn wsX5_takeClause (wsV RX5 89 RX5 yX5_keep wsX5_keep) := goodIn_app (goodIn_of _ (by decide +kernel)) ggX5_takeClause_X5_keep
theorem dX5_takeClause_0 : decode cX5_takeClause 0 = .ok (.aload_n 0, 1) := by decide +kernel
theorem dX5_takeClause_1 : decode cX5_takeClause 1 = .ok (.invokevirtual 70, 3) := by decide +kernel
theorem dX5_takeClause_4 : decode cX5_takeClause 4 = .ok (.istore_n 1, 1) := by decide +kernel
theorem dX5_takeClause_5 : decode cX5_takeClause 5 = .ok (.iload_n 1, 1) := by decide +kernel
theorem dX5_takeClause_6 : decode cX5_takeClause 6 = .ok (.ifCond .lt 14, 3) := by decide +kernel
theorem dX5_takeClause_9 : decode cX5_takeClause 9 = .ok (.aload_n 0, 1) := by decide +kernel
theorem dX5_takeClause_10 : decode cX5_takeClause 10 = .ok (.iload_n 1, 1) := by decide +kernel
theorem dX5_takeClause_11 : decode cX5_takeClause 11 = .ok (.invokestatic 74, 3) := by decide +kernel
theorem dX5_takeClause_14 : decode cX5_takeClause 14 = .ok (.invokevirtual 78, 3) := by decide +kernel
theorem dX5_takeClause_17 : decode cX5_takeClause 17 = .ok (.ifCond .ne 5, 3) := by decide +kernel
theorem dX5_takeClause_20 : decode cX5_takeClause 20 = .ok (.iconst 0, 1) := by decide +kernel
theorem dX5_takeClause_21 : decode cX5_takeClause 21 = .ok (.ireturn, 1) := by decide +kernel
theorem dX5_takeClause_22 : decode cX5_takeClause 22 = .ok (.iconst 1, 1) := by decide +kernel
theorem dX5_takeClause_23 : decode cX5_takeClause 23 = .ok (.istore_n 2, 1) := by decide +kernel
theorem dX5_takeClause_24 : decode cX5_takeClause 24 = .ok (.iload_n 1, 1) := by decide +kernel
theorem dX5_takeClause_25 : decode cX5_takeClause 25 = .ok (.iconst 2, 1) := by decide +kernel
theorem dX5_takeClause_26 : decode cX5_takeClause 26 = .ok (.if_icmp .eq 21, 3) := by decide +kernel
theorem dX5_takeClause_29 : decode cX5_takeClause 29 = .ok (.aload_n 0, 1) := by decide +kernel
theorem dX5_takeClause_30 : decode cX5_takeClause 30 = .ok (.bipush 32, 2) := by decide +kernel
theorem dX5_takeClause_32 : decode cX5_takeClause 32 = .ok (.invokevirtual 66, 3) := by decide +kernel
theorem dX5_takeClause_35 : decode cX5_takeClause 35 = .ok (.ifCond .eq 10, 3) := by decide +kernel
theorem dX5_takeClause_38 : decode cX5_takeClause 38 = .ok (.aload_n 0, 1) := by decide +kernel
theorem dX5_takeClause_39 : decode cX5_takeClause 39 = .ok (.invokevirtual 82, 3) := by decide +kernel
theorem dX5_takeClause_42 : decode cX5_takeClause 42 = .ok (.goto 4, 3) := by decide +kernel
theorem dX5_takeClause_45 : decode cX5_takeClause 45 = .ok (.iconst (-1), 1) := by decide +kernel
theorem dX5_takeClause_46 : decode cX5_takeClause 46 = .ok (.istore_n 2, 1) := by decide +kernel
theorem dX5_takeClause_47 : decode cX5_takeClause 47 = .ok (.iload_n 2, 1) := by decide +kernel
theorem dX5_takeClause_48 : decode cX5_takeClause 48 = .ok (.ifCond .ge 5, 3) := by decide +kernel
theorem dX5_takeClause_51 : decode cX5_takeClause 51 = .ok (.iconst 0, 1) := by decide +kernel
theorem dX5_takeClause_52 : decode cX5_takeClause 52 = .ok (.ireturn, 1) := by decide +kernel
theorem dX5_takeClause_53 : decode cX5_takeClause 53 = .ok (.iload_n 1, 1) := by decide +kernel
theorem dX5_takeClause_54 : decode cX5_takeClause 54 = .ok (.iconst 3, 1) := by decide +kernel
theorem dX5_takeClause_55 : decode cX5_takeClause 55 = .ok (.if_icmp .eq 22, 3) := by decide +kernel
theorem dX5_takeClause_58 : decode cX5_takeClause 58 = .ok (.aload_n 0, 1) := by decide +kernel
theorem dX5_takeClause_59 : decode cX5_takeClause 59 = .ok (.bipush 32, 2) := by decide +kernel
theorem dX5_takeClause_61 : decode cX5_takeClause 61 = .ok (.invokevirtual 66, 3) := by decide +kernel
theorem dX5_takeClause_64 : decode cX5_takeClause 64 = .ok (.ifCond .eq 11, 3) := by decide +kernel
theorem dX5_takeClause_67 : decode cX5_takeClause 67 = .ok (.aload_n 0, 1) := by decide +kernel
theorem dX5_takeClause_68 : decode cX5_takeClause 68 = .ok (.iconst 0, 1) := by decide +kernel
theorem dX5_takeClause_69 : decode cX5_takeClause 69 = .ok (.invokevirtual 85, 3) := by decide +kernel
theorem dX5_takeClause_72 : decode cX5_takeClause 72 = .ok (.ifCond .ne 5, 3) := by decide +kernel
theorem dX5_takeClause_75 : decode cX5_takeClause 75 = .ok (.iconst 0, 1) := by decide +kernel
theorem dX5_takeClause_76 : decode cX5_takeClause 76 = .ok (.ireturn, 1) := by decide +kernel
theorem dX5_takeClause_77 : decode cX5_takeClause 77 = .ok (.aload_n 0, 1) := by decide +kernel
theorem dX5_takeClause_78 : decode cX5_takeClause 78 = .ok (.iload_n 1, 1) := by decide +kernel
theorem dX5_takeClause_79 : decode cX5_takeClause 79 = .ok (.iload_n 2, 1) := by decide +kernel
theorem dX5_takeClause_80 : decode cX5_takeClause 80 = .ok (.invokevirtual 89, 3) := by decide +kernel
theorem dX5_takeClause_83 : decode cX5_takeClause 83 = .ok (.iconst 1, 1) := by decide +kernel
theorem dX5_takeClause_84 : decode cX5_takeClause 84 = .ok (.ireturn, 1) := by decide +kernel
theorem dX5_keep_0 : decode cX5_keep 0 = .ok (.iload_n 1, 1) := by decide +kernel
theorem dX5_keep_1 : decode cX5_keep 1 = .ok (.iconst 3, 1) := by decide +kernel
theorem dX5_keep_2 : decode cX5_keep 2 = .ok (.if_icmp .ne 8, 3) := by decide +kernel
theorem dX5_keep_5 : decode cX5_keep 5 = .ok (.aload_n 0, 1) := by decide +kernel
theorem dX5_keep_6 : decode cX5_keep 6 = .ok (.iload_n 2, 1) := by decide +kernel
theorem dX5_keep_7 : decode cX5_keep 7 = .ok (.putfield 24, 3) := by decide +kernel
theorem dX5_keep_10 : decode cX5_keep 10 = .ok (.aload_n 0, 1) := by decide +kernel
theorem dX5_keep_11 : decode cX5_keep 11 = .ok (.getfield 56, 3) := by decide +kernel
theorem dX5_keep_14 : decode cX5_keep 14 = .ok (.ifCond .lt 12, 3) := by decide +kernel
theorem dX5_keep_17 : decode cX5_keep 17 = .ok (.aload_n 0, 1) := by decide +kernel
theorem dX5_keep_18 : decode cX5_keep 18 = .ok (.getfield 56, 3) := by decide +kernel
theorem dX5_keep_21 : decode cX5_keep 21 = .ok (.bipush 10, 2) := by decide +kernel
theorem dX5_keep_23 : decode cX5_keep 23 = .ok (.if_icmp .lt 4, 3) := by decide +kernel
theorem dX5_keep_26 : decode cX5_keep 26 = .ok (.return_, 1) := by decide +kernel
theorem dX5_keep_27 : decode cX5_keep 27 = .ok (.aload_n 0, 1) := by decide +kernel
theorem dX5_keep_28 : decode cX5_keep 28 = .ok (.getfield 11, 3) := by decide +kernel
theorem dX5_keep_31 : decode cX5_keep 31 = .ok (.aload_n 0, 1) := by decide +kernel
theorem dX5_keep_32 : decode cX5_keep 32 = .ok (.getfield 56, 3) := by decide +kernel
theorem dX5_keep_35 : decode cX5_keep 35 = .ok (.iload_n 1, 1) := by decide +kernel
theorem dX5_keep_36 : decode cX5_keep 36 = .ok (.iastore, 1) := by decide +kernel
theorem dX5_keep_37 : decode cX5_keep 37 = .ok (.aload_n 0, 1) := by decide +kernel
theorem dX5_keep_38 : decode cX5_keep 38 = .ok (.getfield 15, 3) := by decide +kernel
theorem dX5_keep_41 : decode cX5_keep 41 = .ok (.aload_n 0, 1) := by decide +kernel
theorem dX5_keep_42 : decode cX5_keep 42 = .ok (.getfield 56, 3) := by decide +kernel
theorem dX5_keep_45 : decode cX5_keep 45 = .ok (.iload_n 2, 1) := by decide +kernel
theorem dX5_keep_46 : decode cX5_keep 46 = .ok (.iastore, 1) := by decide +kernel
theorem dX5_keep_47 : decode cX5_keep 47 = .ok (.aload_n 0, 1) := by decide +kernel
theorem dX5_keep_48 : decode cX5_keep 48 = .ok (.getfield 18, 3) := by decide +kernel
theorem dX5_keep_51 : decode cX5_keep 51 = .ok (.aload_n 0, 1) := by decide +kernel
theorem dX5_keep_52 : decode cX5_keep 52 = .ok (.getfield 56, 3) := by decide +kernel
theorem dX5_keep_55 : decode cX5_keep 55 = .ok (.aload_n 0, 1) := by decide +kernel
theorem dX5_keep_56 : decode cX5_keep 56 = .ok (.getfield 59, 3) := by decide +kernel
theorem dX5_keep_59 : decode cX5_keep 59 = .ok (.iastore, 1) := by decide +kernel
theorem dX5_keep_60 : decode cX5_keep 60 = .ok (.aload_n 0, 1) := by decide +kernel
theorem dX5_keep_61 : decode cX5_keep 61 = .ok (.dup, 1) := by decide +kernel
theorem dX5_keep_62 : decode cX5_keep 62 = .ok (.getfield 56, 3) := by decide +kernel
theorem dX5_keep_65 : decode cX5_keep 65 = .ok (.iconst 1, 1) := by decide +kernel
theorem dX5_keep_66 : decode cX5_keep 66 = .ok (.iadd, 1) := by decide +kernel
theorem dX5_keep_67 : decode cX5_keep 67 = .ok (.putfield 56, 3) := by decide +kernel
theorem dX5_keep_70 : decode cX5_keep 70 = .ok (.return_, 1) := by decide +kernel
set_option maxRecDepth 20000 in
theorem ggX5_wordAhead_X5_byteAt : GoodIn wsX5_wordAhead wsX5_byteAt := goodIn_r _ [6, 7, 8, 9, 10, 11, 12, 13, 14, 15, 16, 17, 18, 19] (by decide +kernel) (by decide +kernel)
set_option maxRecDepth 20000 in
theorem gX5_wordAhead_X5_byteAt : GoodIn wsX5_wordAhead (wsV RX5 93 RX5 yX5_byteAt wsX5_byteAt) := goodIn_app (goodIn_of _ (by decide +kernel)) ggX5_wordAhead_X5_byteAt
theorem dX5_wordAhead_0 : decode cX5_wordAhead 0 = .ok (.aload_n 0, 1) := by decide +kernel
theorem dX5_wordAhead_1 : decode cX5_wordAhead 1 = .ok (.aload_n 0, 1) := by decide +kernel
theorem dX5_wordAhead_2 : decode cX5_wordAhead 2 = .ok (.getfield 53, 3) := by decide +kernel
theorem dX5_wordAhead_5 : decode cX5_wordAhead 5 = .ok (.invokevirtual 93, 3) := by decide +kernel
theorem dX5_wordAhead_8 : decode cX5_wordAhead 8 = .ok (.lookupswitch 61 #[(98, 36), (104, 38), (108, 40)], 36) := by decide +kernel
theorem dX5_wordAhead_44 : decode cX5_wordAhead 44 = .ok (.iconst 2, 1) := by decide +kernel
theorem dX5_wordAhead_45 : decode cX5_wordAhead 45 = .ok (.ireturn, 1) := by decide +kernel
theorem dX5_wordAhead_46 : decode cX5_wordAhead 46 = .ok (.iconst 3, 1) := by decide +kernel
theorem dX5_wordAhead_47 : decode cX5_wordAhead 47 = .ok (.ireturn, 1) := by decide +kernel
theorem dX5_wordAhead_48 : decode cX5_wordAhead 48 = .ok (.aload_n 0, 1) := by decide +kernel
theorem dX5_wordAhead_49 : decode cX5_wordAhead 49 = .ok (.aload_n 0, 1) := by decide +kernel
theorem dX5_wordAhead_50 : decode cX5_wordAhead 50 = .ok (.getfield 53, 3) := by decide +kernel
theorem dX5_wordAhead_53 : decode cX5_wordAhead 53 = .ok (.iconst 1, 1) := by decide +kernel
theorem dX5_wordAhead_54 : decode cX5_wordAhead 54 = .ok (.iadd, 1) := by decide +kernel
theorem dX5_wordAhead_55 : decode cX5_wordAhead 55 = .ok (.invokevirtual 93, 3) := by decide +kernel
theorem dX5_wordAhead_58 : decode cX5_wordAhead 58 = .ok (.bipush 111, 2) := by decide +kernel
theorem dX5_wordAhead_60 : decode cX5_wordAhead 60 = .ok (.if_icmp .ne 7, 3) := by decide +kernel
theorem dX5_wordAhead_63 : decode cX5_wordAhead 63 = .ok (.iconst 1, 1) := by decide +kernel
theorem dX5_wordAhead_64 : decode cX5_wordAhead 64 = .ok (.goto 4, 3) := by decide +kernel
theorem dX5_wordAhead_67 : decode cX5_wordAhead 67 = .ok (.iconst 0, 1) := by decide +kernel
theorem dX5_wordAhead_68 : decode cX5_wordAhead 68 = .ok (.ireturn, 1) := by decide +kernel
theorem dX5_wordAhead_69 : decode cX5_wordAhead 69 = .ok (.iconst (-1), 1) := by decide +kernel
theorem dX5_wordAhead_70 : decode cX5_wordAhead 70 = .ok (.ireturn, 1) := by decide +kernel
theorem dX5_spelled_0 : decode cX5_spelled 0 = .ok (.iload_n 0, 1) := by decide +kernel
theorem dX5_spelled_1 : decode cX5_spelled 1 = .ok (.tableswitch 36 0 2 #[27, 30, 33], 27) := by decide +kernel
theorem dX5_spelled_28 : decode cX5_spelled 28 = .ok (.ldc 97, 2) := by decide +kernel
theorem dX5_spelled_30 : decode cX5_spelled 30 = .ok (.areturn, 1) := by decide +kernel
theorem dX5_spelled_31 : decode cX5_spelled 31 = .ok (.ldc 99, 2) := by decide +kernel
theorem dX5_spelled_33 : decode cX5_spelled 33 = .ok (.areturn, 1) := by decide +kernel
theorem dX5_spelled_34 : decode cX5_spelled 34 = .ok (.ldc 101, 2) := by decide +kernel
theorem dX5_spelled_36 : decode cX5_spelled 36 = .ok (.areturn, 1) := by decide +kernel
theorem dX5_spelled_37 : decode cX5_spelled 37 = .ok (.ldc 103, 2) := by decide +kernel
theorem dX5_spelled_39 : decode cX5_spelled 39 = .ok (.areturn, 1) := by decide +kernel
theorem dX5_byteAt_0 : decode cX5_byteAt 0 = .ok (.iload_n 1, 1) := by decide +kernel
theorem dX5_byteAt_1 : decode cX5_byteAt 1 = .ok (.ifCond .lt 29, 3) := by decide +kernel
theorem dX5_byteAt_4 : decode cX5_byteAt 4 = .ok (.iload_n 1, 1) := by decide +kernel
theorem dX5_byteAt_5 : decode cX5_byteAt 5 = .ok (.aload_n 0, 1) := by decide +kernel
theorem dX5_byteAt_6 : decode cX5_byteAt 6 = .ok (.getfield 44, 3) := by decide +kernel
theorem dX5_byteAt_9 : decode cX5_byteAt 9 = .ok (.if_icmp .ge 21, 3) := by decide +kernel
theorem dX5_byteAt_12 : decode cX5_byteAt 12 = .ok (.iload_n 1, 1) := by decide +kernel
theorem dX5_byteAt_13 : decode cX5_byteAt 13 = .ok (.aload_n 0, 1) := by decide +kernel
theorem dX5_byteAt_14 : decode cX5_byteAt 14 = .ok (.getfield 28, 3) := by decide +kernel
theorem dX5_byteAt_17 : decode cX5_byteAt 17 = .ok (.arraylength, 1) := by decide +kernel
theorem dX5_byteAt_18 : decode cX5_byteAt 18 = .ok (.if_icmp .ge 12, 3) := by decide +kernel
theorem dX5_byteAt_21 : decode cX5_byteAt 21 = .ok (.aload_n 0, 1) := by decide +kernel
theorem dX5_byteAt_22 : decode cX5_byteAt 22 = .ok (.getfield 28, 3) := by decide +kernel
theorem dX5_byteAt_25 : decode cX5_byteAt 25 = .ok (.iload_n 1, 1) := by decide +kernel
theorem dX5_byteAt_26 : decode cX5_byteAt 26 = .ok (.baload, 1) := by decide +kernel
theorem dX5_byteAt_27 : decode cX5_byteAt 27 = .ok (.goto 4, 3) := by decide +kernel
theorem dX5_byteAt_30 : decode cX5_byteAt 30 = .ok (.iconst (-1), 1) := by decide +kernel
theorem dX5_byteAt_31 : decode cX5_byteAt 31 = .ok (.ireturn, 1) := by decide +kernel
set_option maxRecDepth 20000 in
theorem ggX5_takes_X5_byteAt : GoodIn wsX5_takes wsX5_byteAt := goodIn_r _ [6, 7, 8, 9, 10, 11, 12, 13, 14, 15, 16, 17, 18, 19] (by decide +kernel) (by decide +kernel)
set_option maxRecDepth 20000 in
theorem gX5_takes_X5_byteAt : GoodIn wsX5_takes (wsV RX5 93 RX5 yX5_byteAt wsX5_byteAt) := goodIn_app (goodIn_of _ (by decide +kernel)) ggX5_takes_X5_byteAt
theorem dX5_takes_0 : decode cX5_takes 0 = .ok (.aload_n 0, 1) := by decide +kernel
theorem dX5_takes_1 : decode cX5_takes 1 = .ok (.aload_n 0, 1) := by decide +kernel
theorem dX5_takes_2 : decode cX5_takes 2 = .ok (.getfield 53, 3) := by decide +kernel
theorem dX5_takes_5 : decode cX5_takes 5 = .ok (.invokevirtual 93, 3) := by decide +kernel
theorem dX5_takes_8 : decode cX5_takes 8 = .ok (.iload_n 1, 1) := by decide +kernel
theorem dX5_takes_9 : decode cX5_takes 9 = .ok (.if_icmp .eq 5, 3) := by decide +kernel
theorem dX5_takes_12 : decode cX5_takes 12 = .ok (.iconst 0, 1) := by decide +kernel
theorem dX5_takes_13 : decode cX5_takes 13 = .ok (.ireturn, 1) := by decide +kernel
theorem dX5_takes_14 : decode cX5_takes 14 = .ok (.aload_n 0, 1) := by decide +kernel
theorem dX5_takes_15 : decode cX5_takes 15 = .ok (.dup, 1) := by decide +kernel
theorem dX5_takes_16 : decode cX5_takes 16 = .ok (.getfield 53, 3) := by decide +kernel
theorem dX5_takes_19 : decode cX5_takes 19 = .ok (.iconst 1, 1) := by decide +kernel
theorem dX5_takes_20 : decode cX5_takes 20 = .ok (.iadd, 1) := by decide +kernel
theorem dX5_takes_21 : decode cX5_takes 21 = .ok (.putfield 53, 3) := by decide +kernel
theorem dX5_takes_24 : decode cX5_takes 24 = .ok (.iconst 1, 1) := by decide +kernel
theorem dX5_takes_25 : decode cX5_takes 25 = .ok (.ireturn, 1) := by decide +kernel
set_option maxRecDepth 20000 in
theorem ggX5_takesAll_J0_length_8abf5 : GoodIn wsX5_takesAll wsJ0_length_8abf5 := goodIn_r _ [5, 6, 7, 8, 9, 4, 10, 11, 12] (by decide +kernel) (by decide +kernel)
set_option maxRecDepth 20000 in
theorem gX5_takesAll_J0_length_8abf5 : GoodIn wsX5_takesAll (wsV RX5 105 RJ0 yJ0_length_8abf5 wsJ0_length_8abf5) := goodIn_app (goodIn_of _ (by decide +kernel)) ggX5_takesAll_J0_length_8abf5
set_option maxRecDepth 20000 in
theorem ggX5_takesAll_J0_charAt_5068e : GoodIn wsX5_takesAll wsJ0_charAt_5068e := goodIn_r _ [16, 6, 17, 18, 19, 4, 20, 11, 12, 21, 22, 23, 24, 25, 26, 27, 28, 29, 30, 31, 32, 33, 34, 35, 36, 37, 38, 39, 40, 41, 42, 43, 44, 45, 46, 47, 48, 49] (by decide +kernel) (by decide +kernel)
set_option maxRecDepth 20000 in
theorem gX5_takesAll_J0_charAt_5068e : GoodIn wsX5_takesAll (wsV RX5 109 RJ0 yJ0_charAt_5068e wsJ0_charAt_5068e) := goodIn_app (goodIn_of _ (by decide +kernel)) ggX5_takesAll_J0_charAt_5068e
set_option maxRecDepth 20000 in
theorem ggX5_takesAll_X5_takes : GoodIn wsX5_takesAll wsX5_takes := goodIn_r _ [54, 55, 56, 57, 58, 53, 59, 60, 61, 62, 63, 64, 65, 66, 67, 68, 69, 70, 71, 72] (by decide +kernel) (by decide +kernel)
set_option maxRecDepth 20000 in
theorem gX5_takesAll_X5_takes : GoodIn wsX5_takesAll (wsV RX5 66 RX5 yX5_takes wsX5_takes) := goodIn_app (goodIn_of _ (by decide +kernel)) ggX5_takesAll_X5_takes
theorem dX5_takesAll_0 : decode cX5_takesAll 0 = .ok (.iconst 0, 1) := by decide +kernel
theorem dX5_takesAll_1 : decode cX5_takesAll 1 = .ok (.istore_n 2, 1) := by decide +kernel
theorem dX5_takesAll_2 : decode cX5_takesAll 2 = .ok (.iload_n 2, 1) := by decide +kernel
theorem dX5_takesAll_3 : decode cX5_takesAll 3 = .ok (.aload_n 1, 1) := by decide +kernel
theorem dX5_takesAll_4 : decode cX5_takesAll 4 = .ok (.invokevirtual 105, 3) := by decide +kernel
theorem dX5_takesAll_7 : decode cX5_takesAll 7 = .ok (.if_icmp .ge 23, 3) := by decide +kernel
theorem dX5_takesAll_10 : decode cX5_takesAll 10 = .ok (.aload_n 0, 1) := by decide +kernel
theorem dX5_takesAll_11 : decode cX5_takesAll 11 = .ok (.aload_n 1, 1) := by decide +kernel
theorem dX5_takesAll_12 : decode cX5_takesAll 12 = .ok (.iload_n 2, 1) := by decide +kernel
theorem dX5_takesAll_13 : decode cX5_takesAll 13 = .ok (.invokevirtual 109, 3) := by decide +kernel
theorem dX5_takesAll_16 : decode cX5_takesAll 16 = .ok (.invokevirtual 66, 3) := by decide +kernel
theorem dX5_takesAll_19 : decode cX5_takesAll 19 = .ok (.ifCond .ne 5, 3) := by decide +kernel
theorem dX5_takesAll_22 : decode cX5_takesAll 22 = .ok (.iconst 0, 1) := by decide +kernel
theorem dX5_takesAll_23 : decode cX5_takesAll 23 = .ok (.ireturn, 1) := by decide +kernel
theorem dX5_takesAll_24 : decode cX5_takesAll 24 = .ok (.iinc 2 1, 3) := by decide +kernel
theorem dX5_takesAll_27 : decode cX5_takesAll 27 = .ok (.goto (-25), 3) := by decide +kernel
theorem dX5_takesAll_30 : decode cX5_takesAll 30 = .ok (.iconst 1, 1) := by decide +kernel
theorem dX5_takesAll_31 : decode cX5_takesAll 31 = .ok (.ireturn, 1) := by decide +kernel
set_option maxRecDepth 20000 in
theorem ggX5_takeNumber_X5_byteAt : GoodIn wsX5_takeNumber wsX5_byteAt := goodIn_r _ [6, 7, 8, 12, 13, 14, 15, 16, 17, 18, 19, 20, 21, 22] (by decide +kernel) (by decide +kernel)
set_option maxRecDepth 20000 in
theorem gX5_takeNumber_X5_byteAt : GoodIn wsX5_takeNumber (wsV RX5 93 RX5 yX5_byteAt wsX5_byteAt) := goodIn_app (goodIn_of _ (by decide +kernel)) ggX5_takeNumber_X5_byteAt
set_option maxRecDepth 20000 in
theorem ggX5_takeNumber_X11_isDigit : GoodIn wsX5_takeNumber wsX11_isDigit := goodIn_r _ [11] (by decide +kernel) (by decide +kernel)
set_option maxRecDepth 20000 in
theorem gX5_takeNumber_X11_isDigit_n113 : GoodIn wsX5_takeNumber (wsX11_isDigit) := ggX5_takeNumber_X11_isDigit
theorem dX5_takeNumber_0 : decode cX5_takeNumber 0 = .ok (.aload_n 0, 1) := by decide +kernel
theorem dX5_takeNumber_1 : decode cX5_takeNumber 1 = .ok (.aload_n 0, 1) := by decide +kernel
theorem dX5_takeNumber_2 : decode cX5_takeNumber 2 = .ok (.getfield 53, 3) := by decide +kernel
theorem dX5_takeNumber_5 : decode cX5_takeNumber 5 = .ok (.invokevirtual 93, 3) := by decide +kernel
theorem dX5_takeNumber_8 : decode cX5_takeNumber 8 = .ok (.bipush 48, 2) := by decide +kernel
theorem dX5_takeNumber_10 : decode cX5_takeNumber 10 = .ok (.isub, 1) := by decide +kernel
theorem dX5_takeNumber_11 : decode cX5_takeNumber 11 = .ok (.istore_n 1, 1) := by decide +kernel
theorem dX5_takeNumber_12 : decode cX5_takeNumber 12 = .ok (.iload_n 1, 1) := by decide +kernel
theorem dX5_takeNumber_13 : decode cX5_takeNumber 13 = .ok (.invokestatic 113, 3) := by decide +kernel
theorem dX5_takeNumber_16 : decode cX5_takeNumber 16 = .ok (.ifCond .ne 5, 3) := by decide +kernel
theorem dX5_takeNumber_19 : decode cX5_takeNumber 19 = .ok (.iconst (-1), 1) := by decide +kernel
theorem dX5_takeNumber_20 : decode cX5_takeNumber 20 = .ok (.ireturn, 1) := by decide +kernel
theorem dX5_takeNumber_21 : decode cX5_takeNumber 21 = .ok (.aload_n 0, 1) := by decide +kernel
theorem dX5_takeNumber_22 : decode cX5_takeNumber 22 = .ok (.dup, 1) := by decide +kernel
theorem dX5_takeNumber_23 : decode cX5_takeNumber 23 = .ok (.getfield 53, 3) := by decide +kernel
theorem dX5_takeNumber_26 : decode cX5_takeNumber 26 = .ok (.iconst 1, 1) := by decide +kernel
theorem dX5_takeNumber_27 : decode cX5_takeNumber 27 = .ok (.iadd, 1) := by decide +kernel
theorem dX5_takeNumber_28 : decode cX5_takeNumber 28 = .ok (.putfield 53, 3) := by decide +kernel
theorem dX5_takeNumber_31 : decode cX5_takeNumber 31 = .ok (.aload_n 0, 1) := by decide +kernel
theorem dX5_takeNumber_32 : decode cX5_takeNumber 32 = .ok (.aload_n 0, 1) := by decide +kernel
theorem dX5_takeNumber_33 : decode cX5_takeNumber 33 = .ok (.getfield 53, 3) := by decide +kernel
theorem dX5_takeNumber_36 : decode cX5_takeNumber 36 = .ok (.invokevirtual 93, 3) := by decide +kernel
theorem dX5_takeNumber_39 : decode cX5_takeNumber 39 = .ok (.bipush 48, 2) := by decide +kernel
theorem dX5_takeNumber_41 : decode cX5_takeNumber 41 = .ok (.isub, 1) := by decide +kernel
theorem dX5_takeNumber_42 : decode cX5_takeNumber 42 = .ok (.istore_n 2, 1) := by decide +kernel
theorem dX5_takeNumber_43 : decode cX5_takeNumber 43 = .ok (.iload_n 2, 1) := by decide +kernel
theorem dX5_takeNumber_44 : decode cX5_takeNumber 44 = .ok (.invokestatic 113, 3) := by decide +kernel
theorem dX5_takeNumber_47 : decode cX5_takeNumber 47 = .ok (.ifCond .ne 5, 3) := by decide +kernel
theorem dX5_takeNumber_50 : decode cX5_takeNumber 50 = .ok (.iload_n 1, 1) := by decide +kernel
theorem dX5_takeNumber_51 : decode cX5_takeNumber 51 = .ok (.ireturn, 1) := by decide +kernel
theorem dX5_takeNumber_52 : decode cX5_takeNumber 52 = .ok (.aload_n 0, 1) := by decide +kernel
theorem dX5_takeNumber_53 : decode cX5_takeNumber 53 = .ok (.dup, 1) := by decide +kernel
theorem dX5_takeNumber_54 : decode cX5_takeNumber 54 = .ok (.getfield 53, 3) := by decide +kernel
theorem dX5_takeNumber_57 : decode cX5_takeNumber 57 = .ok (.iconst 1, 1) := by decide +kernel
theorem dX5_takeNumber_58 : decode cX5_takeNumber 58 = .ok (.iadd, 1) := by decide +kernel
theorem dX5_takeNumber_59 : decode cX5_takeNumber 59 = .ok (.putfield 53, 3) := by decide +kernel
theorem dX5_takeNumber_62 : decode cX5_takeNumber 62 = .ok (.bipush 10, 2) := by decide +kernel
theorem dX5_takeNumber_64 : decode cX5_takeNumber 64 = .ok (.iload_n 1, 1) := by decide +kernel
theorem dX5_takeNumber_65 : decode cX5_takeNumber 65 = .ok (.imul, 1) := by decide +kernel
theorem dX5_takeNumber_66 : decode cX5_takeNumber 66 = .ok (.iload_n 2, 1) := by decide +kernel
theorem dX5_takeNumber_67 : decode cX5_takeNumber 67 = .ok (.iadd, 1) := by decide +kernel
theorem dX5_takeNumber_68 : decode cX5_takeNumber 68 = .ok (.ireturn, 1) := by decide +kernel
set_option maxRecDepth 20000 in
theorem ggX5_takeOneOf_X5_byteAt : GoodIn wsX5_takeOneOf wsX5_byteAt := goodIn_r _ [6, 7, 8, 98, 99, 100, 101, 102, 103, 104, 105, 106, 107, 108] (by decide +kernel) (by decide +kernel)
set_option maxRecDepth 20000 in
theorem gX5_takeOneOf_X5_byteAt : GoodIn wsX5_takeOneOf (wsV RX5 93 RX5 yX5_byteAt wsX5_byteAt) := goodIn_app (goodIn_of _ (by decide +kernel)) ggX5_takeOneOf_X5_byteAt
set_option maxRecDepth 20000 in
theorem ggX5_takeOneOf_J0_indexOf_0f7a4 : GoodIn wsX5_takeOneOf wsJ0_indexOf_0f7a4 := goodIn_r _ [13, 14, 15, 16, 12, 17, 18, 19, 20, 21, 22, 23, 24, 25, 26, 27, 28, 29, 30, 31, 32, 33, 34, 35, 36, 37, 38, 39, 40, 41, 42, 43, 44, 45, 46, 47, 48, 49, 50, 51, 52, 53, 54, 55, 56, 57, 58, 59, 60, 61, 62, 63, 64, 65, 66, 67, 68, 69, 70, 71, 72, 73, 74, 75, 76, 77, 78, 79, 80, 81, 82, 83, 84, 85, 86, 87, 88, 89, 90, 91, 92, 93, 94, 95, 96, 97] (by decide +kernel) (by decide +kernel)
set_option maxRecDepth 20000 in
theorem gX5_takeOneOf_J0_indexOf_0f7a4 : GoodIn wsX5_takeOneOf (wsV RX5 116 RJ0 yJ0_indexOf_0f7a4 wsJ0_indexOf_0f7a4) := goodIn_app (goodIn_of _ (by decide +kernel)) ggX5_takeOneOf_J0_indexOf_0f7a4
theorem dX5_takeOneOf_0 : decode cX5_takeOneOf 0 = .ok (.aload_n 0, 1) := by decide +kernel
theorem dX5_takeOneOf_1 : decode cX5_takeOneOf 1 = .ok (.aload_n 0, 1) := by decide +kernel
theorem dX5_takeOneOf_2 : decode cX5_takeOneOf 2 = .ok (.getfield 53, 3) := by decide +kernel
theorem dX5_takeOneOf_5 : decode cX5_takeOneOf 5 = .ok (.invokevirtual 93, 3) := by decide +kernel
theorem dX5_takeOneOf_8 : decode cX5_takeOneOf 8 = .ok (.istore_n 2, 1) := by decide +kernel
theorem dX5_takeOneOf_9 : decode cX5_takeOneOf 9 = .ok (.iload_n 2, 1) := by decide +kernel
theorem dX5_takeOneOf_10 : decode cX5_takeOneOf 10 = .ok (.ifCond .ge 7, 3) := by decide +kernel
theorem dX5_takeOneOf_13 : decode cX5_takeOneOf 13 = .ok (.iconst (-1), 1) := by decide +kernel
theorem dX5_takeOneOf_14 : decode cX5_takeOneOf 14 = .ok (.goto 9, 3) := by decide +kernel
theorem dX5_takeOneOf_17 : decode cX5_takeOneOf 17 = .ok (.aload_n 1, 1) := by decide +kernel
theorem dX5_takeOneOf_18 : decode cX5_takeOneOf 18 = .ok (.iload_n 2, 1) := by decide +kernel
theorem dX5_takeOneOf_19 : decode cX5_takeOneOf 19 = .ok (.i2c, 1) := by decide +kernel
theorem dX5_takeOneOf_20 : decode cX5_takeOneOf 20 = .ok (.invokevirtual 116, 3) := by decide +kernel
theorem dX5_takeOneOf_23 : decode cX5_takeOneOf 23 = .ok (.istore_n 3, 1) := by decide +kernel
theorem dX5_takeOneOf_24 : decode cX5_takeOneOf 24 = .ok (.iload_n 3, 1) := by decide +kernel
theorem dX5_takeOneOf_25 : decode cX5_takeOneOf 25 = .ok (.ifCond .lt 13, 3) := by decide +kernel
theorem dX5_takeOneOf_28 : decode cX5_takeOneOf 28 = .ok (.aload_n 0, 1) := by decide +kernel
theorem dX5_takeOneOf_29 : decode cX5_takeOneOf 29 = .ok (.dup, 1) := by decide +kernel
theorem dX5_takeOneOf_30 : decode cX5_takeOneOf 30 = .ok (.getfield 53, 3) := by decide +kernel
theorem dX5_takeOneOf_33 : decode cX5_takeOneOf 33 = .ok (.iconst 1, 1) := by decide +kernel
theorem dX5_takeOneOf_34 : decode cX5_takeOneOf 34 = .ok (.iadd, 1) := by decide +kernel
theorem dX5_takeOneOf_35 : decode cX5_takeOneOf 35 = .ok (.putfield 53, 3) := by decide +kernel
theorem dX5_takeOneOf_38 : decode cX5_takeOneOf 38 = .ok (.iload_n 3, 1) := by decide +kernel
theorem dX5_takeOneOf_39 : decode cX5_takeOneOf 39 = .ok (.ireturn, 1) := by decide +kernel
set_option maxRecDepth 20000 in
theorem ggX5_takeEither_X5_takeEach : GoodIn wsX5_takeEither wsX5_takeEach := goodIn_r _ [22, 23, 24, 25, 4, 5, 6, 7, 8, 9, 10, 11, 12, 13, 14, 15, 16, 17, 18, 19, 20, 21, 0, 1, 2, 3, 26, 27, 28, 29, 30, 31, 32, 33, 34, 35, 36, 37, 38, 39, 40, 41, 42, 43, 44, 45, 46, 47, 48, 49, 50, 51, 52, 53, 54, 55, 56, 57, 58, 59, 60, 61, 62, 63, 64, 65, 66, 67, 68, 69, 70, 71, 72, 73, 74, 75, 76, 77, 78, 79, 80, 81, 82, 83, 84, 85, 86, 87, 88, 89, 90, 91, 92, 93, 94, 95, 96, 97, 98, 99, 100, 101, 102, 103, 104, 105, 106, 107, 108, 109, 110, 111, 112, 113, 114, 115, 116, 117, 118, 119, 120, 121, 122, 123, 124, 125, 126, 127, 128, 129, 130, 131, 132, 133, 134, 135, 136, 137, 138, 139, 140, 141, 142, 143, 144] (by decide +kernel) (by decide +kernel)
set_option maxRecDepth 20000 in
theorem gX5_takeEither_X5_takeEach : GoodIn wsX5_takeEither (wsV RX5 119 RX5 yX5_takeEach wsX5_takeEach) := goodIn_app (goodIn_of _ (by decide +kernel)) ggX5_takeEither_X5_takeEach
set_option maxRecDepth 20000 in
theorem ggX5_takeEither_X5_takes : GoodIn wsX5_takeEither wsX5_takes := goodIn_r _ [8, 9, 10, 11, 12, 4, 13, 14, 15, 134, 135, 136, 137, 138, 139, 140, 141, 142, 143, 144] (by decide +kernel) (by decide +kernel)
set_option maxRecDepth 20000 in
theorem gX5_takeEither_X5_takes : GoodIn wsX5_takeEither (wsV RX5 66 RX5 yX5_takes wsX5_takes) := goodIn_app (goodIn_of _ (by decide +kernel)) ggX5_takeEither_X5_takes
set_option maxRecDepth 20000 in
theorem ggX5_takeEither_X5_puts : GoodIn wsX5_takeEither wsX5_puts := goodIn_r _ [19, 20, 21, 134, 135, 136, 137, 138, 139, 140, 141, 142, 143, 144] (by decide +kernel) (by decide +kernel)
set_option maxRecDepth 20000 in
theorem gX5_takeEither_X5_puts : GoodIn wsX5_takeEither (wsV RX5 122 RX5 yX5_puts wsX5_puts) := goodIn_app (goodIn_of _ (by decide +kernel)) ggX5_takeEither_X5_puts
theorem dX5_takeEither_0 : decode cX5_takeEither 0 = .ok (.aload_n 0, 1) := by decide +kernel
theorem dX5_takeEither_1 : decode cX5_takeEither 1 = .ok (.iload_n 1, 1) := by decide +kernel
theorem dX5_takeEither_2 : decode cX5_takeEither 2 = .ok (.invokevirtual 119, 3) := by decide +kernel
theorem dX5_takeEither_5 : decode cX5_takeEither 5 = .ok (.istore_n 2, 1) := by decide +kernel
theorem dX5_takeEither_6 : decode cX5_takeEither 6 = .ok (.iconst 0, 1) := by decide +kernel
theorem dX5_takeEither_7 : decode cX5_takeEither 7 = .ok (.istore_n 3, 1) := by decide +kernel
theorem dX5_takeEither_8 : decode cX5_takeEither 8 = .ok (.iload_n 3, 1) := by decide +kernel
theorem dX5_takeEither_9 : decode cX5_takeEither 9 = .ok (.bipush 100, 2) := by decide +kernel
theorem dX5_takeEither_11 : decode cX5_takeEither 11 = .ok (.if_icmp .ge 45, 3) := by decide +kernel
theorem dX5_takeEither_14 : decode cX5_takeEither 14 = .ok (.iload_n 2, 1) := by decide +kernel
theorem dX5_takeEither_15 : decode cX5_takeEither 15 = .ok (.ifCond .eq 41, 3) := by decide +kernel
theorem dX5_takeEither_18 : decode cX5_takeEither 18 = .ok (.aload_n 0, 1) := by decide +kernel
theorem dX5_takeEither_19 : decode cX5_takeEither 19 = .ok (.bipush 124, 2) := by decide +kernel
theorem dX5_takeEither_21 : decode cX5_takeEither 21 = .ok (.invokevirtual 66, 3) := by decide +kernel
theorem dX5_takeEither_24 : decode cX5_takeEither 24 = .ok (.ifCond .eq 32, 3) := by decide +kernel
theorem dX5_takeEither_27 : decode cX5_takeEither 27 = .ok (.aload_n 0, 1) := by decide +kernel
theorem dX5_takeEither_28 : decode cX5_takeEither 28 = .ok (.iload_n 1, 1) := by decide +kernel
theorem dX5_takeEither_29 : decode cX5_takeEither 29 = .ok (.invokevirtual 119, 3) := by decide +kernel
theorem dX5_takeEither_32 : decode cX5_takeEither 32 = .ok (.ifCond .eq 16, 3) := by decide +kernel
theorem dX5_takeEither_35 : decode cX5_takeEither 35 = .ok (.aload_n 0, 1) := by decide +kernel
theorem dX5_takeEither_36 : decode cX5_takeEither 36 = .ok (.bipush (-3), 2) := by decide +kernel
theorem dX5_takeEither_38 : decode cX5_takeEither 38 = .ok (.invokevirtual 122, 3) := by decide +kernel
theorem dX5_takeEither_41 : decode cX5_takeEither 41 = .ok (.ifCond .eq 7, 3) := by decide +kernel
theorem dX5_takeEither_44 : decode cX5_takeEither 44 = .ok (.iconst 1, 1) := by decide +kernel
theorem dX5_takeEither_45 : decode cX5_takeEither 45 = .ok (.goto 4, 3) := by decide +kernel
theorem dX5_takeEither_48 : decode cX5_takeEither 48 = .ok (.iconst 0, 1) := by decide +kernel
theorem dX5_takeEither_49 : decode cX5_takeEither 49 = .ok (.istore_n 2, 1) := by decide +kernel
theorem dX5_takeEither_50 : decode cX5_takeEither 50 = .ok (.iinc 3 1, 3) := by decide +kernel
theorem dX5_takeEither_53 : decode cX5_takeEither 53 = .ok (.goto (-45), 3) := by decide +kernel
theorem dX5_takeEither_56 : decode cX5_takeEither 56 = .ok (.iload_n 2, 1) := by decide +kernel
theorem dX5_takeEither_57 : decode cX5_takeEither 57 = .ok (.ireturn, 1) := by decide +kernel
set_option maxRecDepth 20000 in
theorem ggX5_takeEach_X5_takePart : GoodIn wsX5_takeEach wsX5_takePart := goodIn_r _ [27, 5, 6, 7, 4, 8, 9, 10, 11, 12, 13, 14, 15, 28, 29, 30, 31, 32, 33, 34, 35, 36, 37, 38, 39, 40, 41, 42, 43, 44, 45, 46, 47, 48, 49, 50, 51, 52, 53, 54, 55, 56, 57, 58, 59, 60, 61, 62, 63, 64, 65, 66, 67, 68, 69, 70, 71, 72, 73, 74, 75, 76, 77, 78, 79, 80, 81, 82, 83, 84, 85, 86, 87, 88, 89, 90, 91, 92, 93, 94, 95, 96, 97, 98, 99, 100, 101, 102, 103, 104, 105, 106, 107, 108, 109, 110, 111, 112, 113, 114, 115, 116, 117, 118, 119, 120, 121, 122, 123, 124, 125, 126, 127, 128, 129, 130, 131, 132, 133, 16, 17, 18, 19, 20, 21, 0, 1, 2, 3, 22, 23, 24, 25, 26, 134, 135, 136, 137, 138, 139, 140, 141, 142, 143, 144] (by decide +kernel) (by decide +kernel)
set_option maxRecDepth 20000 in
theorem gX5_takeEach_X5_takePart : GoodIn wsX5_takeEach (wsV RX5 125 RX5 yX5_takePart wsX5_takePart) := goodIn_app (goodIn_of _ (by decide +kernel)) ggX5_takeEach_X5_takePart
set_option maxRecDepth 20000 in
theorem ggX5_takeEach_X5_takes : GoodIn wsX5_takeEach wsX5_takes := goodIn_r _ [8, 9, 10, 11, 12, 4, 13, 14, 15, 134, 135, 136, 137, 138, 139, 140, 141, 142, 143, 144] (by decide +kernel) (by decide +kernel)
set_option maxRecDepth 20000 in
theorem gX5_takeEach_X5_takes : GoodIn wsX5_takeEach (wsV RX5 66 RX5 yX5_takes wsX5_takes) := goodIn_app (goodIn_of _ (by decide +kernel)) ggX5_takeEach_X5_takes
set_option maxRecDepth 20000 in
theorem ggX5_takeEach_X5_puts : GoodIn wsX5_takeEach wsX5_puts := goodIn_r _ [19, 20, 21, 134, 135, 136, 137, 138, 139, 140, 141, 142, 143, 144] (by decide +kernel) (by decide +kernel)
set_option maxRecDepth 20000 in
theorem gX5_takeEach_X5_puts : GoodIn wsX5_takeEach (wsV RX5 122 RX5 yX5_puts wsX5_puts) := goodIn_app (goodIn_of _ (by decide +kernel)) ggX5_takeEach_X5_puts
theorem dX5_takeEach_0 : decode cX5_takeEach 0 = .ok (.aload_n 0, 1) := by decide +kernel
theorem dX5_takeEach_1 : decode cX5_takeEach 1 = .ok (.iload_n 1, 1) := by decide +kernel
theorem dX5_takeEach_2 : decode cX5_takeEach 2 = .ok (.invokevirtual 125, 3) := by decide +kernel
theorem dX5_takeEach_5 : decode cX5_takeEach 5 = .ok (.istore_n 2, 1) := by decide +kernel
theorem dX5_takeEach_6 : decode cX5_takeEach 6 = .ok (.iconst 0, 1) := by decide +kernel
theorem dX5_takeEach_7 : decode cX5_takeEach 7 = .ok (.istore_n 3, 1) := by decide +kernel
theorem dX5_takeEach_8 : decode cX5_takeEach 8 = .ok (.iload_n 3, 1) := by decide +kernel
theorem dX5_takeEach_9 : decode cX5_takeEach 9 = .ok (.bipush 100, 2) := by decide +kernel
theorem dX5_takeEach_11 : decode cX5_takeEach 11 = .ok (.if_icmp .ge 45, 3) := by decide +kernel
theorem dX5_takeEach_14 : decode cX5_takeEach 14 = .ok (.iload_n 2, 1) := by decide +kernel
theorem dX5_takeEach_15 : decode cX5_takeEach 15 = .ok (.ifCond .eq 41, 3) := by decide +kernel
theorem dX5_takeEach_18 : decode cX5_takeEach 18 = .ok (.aload_n 0, 1) := by decide +kernel
theorem dX5_takeEach_19 : decode cX5_takeEach 19 = .ok (.bipush 38, 2) := by decide +kernel
theorem dX5_takeEach_21 : decode cX5_takeEach 21 = .ok (.invokevirtual 66, 3) := by decide +kernel
theorem dX5_takeEach_24 : decode cX5_takeEach 24 = .ok (.ifCond .eq 32, 3) := by decide +kernel
theorem dX5_takeEach_27 : decode cX5_takeEach 27 = .ok (.aload_n 0, 1) := by decide +kernel
theorem dX5_takeEach_28 : decode cX5_takeEach 28 = .ok (.iload_n 1, 1) := by decide +kernel
theorem dX5_takeEach_29 : decode cX5_takeEach 29 = .ok (.invokevirtual 125, 3) := by decide +kernel
theorem dX5_takeEach_32 : decode cX5_takeEach 32 = .ok (.ifCond .eq 16, 3) := by decide +kernel
theorem dX5_takeEach_35 : decode cX5_takeEach 35 = .ok (.aload_n 0, 1) := by decide +kernel
theorem dX5_takeEach_36 : decode cX5_takeEach 36 = .ok (.bipush (-2), 2) := by decide +kernel
theorem dX5_takeEach_38 : decode cX5_takeEach 38 = .ok (.invokevirtual 122, 3) := by decide +kernel
theorem dX5_takeEach_41 : decode cX5_takeEach 41 = .ok (.ifCond .eq 7, 3) := by decide +kernel
theorem dX5_takeEach_44 : decode cX5_takeEach 44 = .ok (.iconst 1, 1) := by decide +kernel
theorem dX5_takeEach_45 : decode cX5_takeEach 45 = .ok (.goto 4, 3) := by decide +kernel
theorem dX5_takeEach_48 : decode cX5_takeEach 48 = .ok (.iconst 0, 1) := by decide +kernel
theorem dX5_takeEach_49 : decode cX5_takeEach 49 = .ok (.istore_n 2, 1) := by decide +kernel
theorem dX5_takeEach_50 : decode cX5_takeEach 50 = .ok (.iinc 3 1, 3) := by decide +kernel
theorem dX5_takeEach_53 : decode cX5_takeEach 53 = .ok (.goto (-45), 3) := by decide +kernel
theorem dX5_takeEach_56 : decode cX5_takeEach 56 = .ok (.iload_n 2, 1) := by decide +kernel
theorem dX5_takeEach_57 : decode cX5_takeEach 57 = .ok (.ireturn, 1) := by decide +kernel
set_option maxRecDepth 20000 in
theorem ggX5_takePart_X5_takes : GoodIn wsX5_takePart wsX5_takes := goodIn_r _ [5, 6, 7, 8, 9, 4, 10, 11, 12, 134, 135, 136, 137, 138, 139, 140, 141, 142, 143, 144] (by decide +kernel) (by decide +kernel)
set_option maxRecDepth 20000 in
theorem gX5_takePart_X5_takes : GoodIn wsX5_takePart (wsV RX5 66 RX5 yX5_takes wsX5_takes) := goodIn_app (goodIn_of _ (by decide +kernel)) ggX5_takePart_X5_takes
set_option maxRecDepth 20000 in
theorem ggX5_takePart_X5_takeNot : GoodIn wsX5_takePart wsX5_takeNot := goodIn_r _ [133, 126, 127, 128, 4, 119, 120, 121, 122, 123, 124, 125, 1, 2, 3, 5, 6, 7, 8, 9, 10, 11, 12, 129, 130, 131, 132, 0, 13, 14, 15, 16, 17, 18, 19, 20, 21, 22, 23, 24, 25, 26, 27, 28, 29, 30, 31, 32, 33, 34, 35, 36, 37, 38, 39, 40, 41, 42, 43, 44, 45, 46, 47, 48, 49, 50, 51, 52, 53, 54, 55, 56, 57, 58, 59, 60, 61, 62, 63, 64, 65, 66, 67, 68, 69, 70, 71, 72, 73, 74, 75, 76, 77, 78, 79, 80, 81, 82, 83, 84, 85, 86, 87, 88, 89, 90, 91, 92, 93, 94, 95, 96, 97, 98, 99, 100, 101, 102, 103, 104, 105, 106, 107, 108, 109, 110, 111, 112, 113, 114, 115, 116, 117, 118, 134, 135, 136, 137, 138, 139, 140, 141, 142, 143, 144] (by decide +kernel) (by decide +kernel)
set_option maxRecDepth 20000 in
theorem gX5_takePart_X5_takeNot : GoodIn wsX5_takePart (wsV RX5 128 RX5 yX5_takeNot wsX5_takeNot) := goodIn_app (goodIn_of _ (by decide +kernel)) ggX5_takePart_X5_takeNot
set_option maxRecDepth 20000 in
theorem ggX5_takePart_X5_takeEither : GoodIn wsX5_takePart wsX5_takeEither := goodIn_r _ [129, 130, 131, 132, 4, 1, 2, 3, 5, 6, 7, 8, 9, 10, 11, 12, 119, 120, 121, 122, 123, 124, 125, 126, 127, 128, 133, 0, 13, 14, 15, 16, 17, 18, 19, 20, 21, 22, 23, 24, 25, 26, 27, 28, 29, 30, 31, 32, 33, 34, 35, 36, 37, 38, 39, 40, 41, 42, 43, 44, 45, 46, 47, 48, 49, 50, 51, 52, 53, 54, 55, 56, 57, 58, 59, 60, 61, 62, 63, 64, 65, 66, 67, 68, 69, 70, 71, 72, 73, 74, 75, 76, 77, 78, 79, 80, 81, 82, 83, 84, 85, 86, 87, 88, 89, 90, 91, 92, 93, 94, 95, 96, 97, 98, 99, 100, 101, 102, 103, 104, 105, 106, 107, 108, 109, 110, 111, 112, 113, 114, 115, 116, 117, 118, 134, 135, 136, 137, 138, 139, 140, 141, 142, 143, 144] (by decide +kernel) (by decide +kernel)
set_option maxRecDepth 20000 in
theorem gX5_takePart_X5_takeEither : GoodIn wsX5_takePart (wsV RX5 85 RX5 yX5_takeEither wsX5_takeEither) := goodIn_app (goodIn_of _ (by decide +kernel)) ggX5_takePart_X5_takeEither
set_option maxRecDepth 20000 in
theorem ggX5_takePart_X5_takeOneOf : GoodIn wsX5_takePart wsX5_takeOneOf := goodIn_r _ [22, 6, 7, 8, 9, 4, 10, 11, 12, 23, 24, 25, 26, 27, 28, 29, 30, 31, 32, 33, 34, 35, 36, 37, 38, 39, 40, 41, 42, 43, 44, 45, 46, 47, 48, 49, 50, 51, 52, 53, 54, 55, 56, 57, 58, 59, 60, 61, 62, 63, 64, 65, 66, 67, 68, 69, 70, 71, 72, 73, 74, 75, 76, 77, 78, 79, 80, 81, 82, 83, 84, 85, 86, 87, 88, 89, 90, 91, 92, 93, 94, 95, 96, 97, 98, 99, 100, 101, 102, 103, 104, 105, 106, 107, 108, 109, 110, 111, 134, 135, 136, 137, 138, 139, 140, 141, 142, 143, 144] (by decide +kernel) (by decide +kernel)
set_option maxRecDepth 20000 in
theorem gX5_takePart_X5_takeOneOf : GoodIn wsX5_takePart (wsV RX5 133 RX5 yX5_takeOneOf wsX5_takeOneOf) := goodIn_app (goodIn_of _ (by decide +kernel)) ggX5_takePart_X5_takeOneOf
set_option maxRecDepth 20000 in
theorem ggX5_takePart_X5_takeNumber : GoodIn wsX5_takePart wsX5_takeNumber := goodIn_r _ [115, 6, 7, 8, 9, 4, 10, 11, 12, 116, 117, 118, 134, 135, 136, 137, 138, 139, 140, 141, 142, 143, 144] (by decide +kernel) (by decide +kernel)
set_option maxRecDepth 20000 in
theorem gX5_takePart_X5_takeNumber : GoodIn wsX5_takePart (wsV RX5 82 RX5 yX5_takeNumber wsX5_takeNumber) := goodIn_app (goodIn_of _ (by decide +kernel)) ggX5_takePart_X5_takeNumber
set_option maxRecDepth 20000 in
theorem ggX5_takePart_X5_puts : GoodIn wsX5_takePart wsX5_puts := goodIn_r _ [122, 123, 124, 134, 135, 136, 137, 138, 139, 140, 141, 142, 143, 144] (by decide +kernel) (by decide +kernel)
set_option maxRecDepth 20000 in
theorem gX5_takePart_X5_puts : GoodIn wsX5_takePart (wsV RX5 122 RX5 yX5_puts wsX5_puts) := goodIn_app (goodIn_of _ (by decide +kernel)) ggX5_takePart_X5_puts
theorem dX5_takePart_0 : decode cX5_takePart 0 = .ok (.iload_n 1, 1) := by decide +kernel
theorem dX5_takePart_1 : decode cX5_takePart 1 = .ok (.iconst 4, 1) := by decide +kernel
theorem dX5_takePart_2 : decode cX5_takePart 2 = .ok (.if_icmp .ge 20, 3) := by decide +kernel
theorem dX5_takePart_5 : decode cX5_takePart 5 = .ok (.aload_n 0, 1) := by decide +kernel
theorem dX5_takePart_6 : decode cX5_takePart 6 = .ok (.bipush 33, 2) := by decide +kernel
theorem dX5_takePart_8 : decode cX5_takePart 8 = .ok (.invokevirtual 66, 3) := by decide +kernel
theorem dX5_takePart_11 : decode cX5_takePart 11 = .ok (.ifCond .eq 11, 3) := by decide +kernel
theorem dX5_takePart_14 : decode cX5_takePart 14 = .ok (.aload_n 0, 1) := by decide +kernel
theorem dX5_takePart_15 : decode cX5_takePart 15 = .ok (.iload_n 1, 1) := by decide +kernel
theorem dX5_takePart_16 : decode cX5_takePart 16 = .ok (.iconst 1, 1) := by decide +kernel
theorem dX5_takePart_17 : decode cX5_takePart 17 = .ok (.iadd, 1) := by decide +kernel
theorem dX5_takePart_18 : decode cX5_takePart 18 = .ok (.invokevirtual 128, 3) := by decide +kernel
theorem dX5_takePart_21 : decode cX5_takePart 21 = .ok (.ireturn, 1) := by decide +kernel
theorem dX5_takePart_22 : decode cX5_takePart 22 = .ok (.iload_n 1, 1) := by decide +kernel
theorem dX5_takePart_23 : decode cX5_takePart 23 = .ok (.iconst 4, 1) := by decide +kernel
theorem dX5_takePart_24 : decode cX5_takePart 24 = .ok (.if_icmp .ge 37, 3) := by decide +kernel
theorem dX5_takePart_27 : decode cX5_takePart 27 = .ok (.aload_n 0, 1) := by decide +kernel
theorem dX5_takePart_28 : decode cX5_takePart 28 = .ok (.bipush 40, 2) := by decide +kernel
theorem dX5_takePart_30 : decode cX5_takePart 30 = .ok (.invokevirtual 66, 3) := by decide +kernel
theorem dX5_takePart_33 : decode cX5_takePart 33 = .ok (.ifCond .eq 28, 3) := by decide +kernel
theorem dX5_takePart_36 : decode cX5_takePart 36 = .ok (.aload_n 0, 1) := by decide +kernel
theorem dX5_takePart_37 : decode cX5_takePart 37 = .ok (.iload_n 1, 1) := by decide +kernel
theorem dX5_takePart_38 : decode cX5_takePart 38 = .ok (.iconst 1, 1) := by decide +kernel
theorem dX5_takePart_39 : decode cX5_takePart 39 = .ok (.iadd, 1) := by decide +kernel
theorem dX5_takePart_40 : decode cX5_takePart 40 = .ok (.invokevirtual 85, 3) := by decide +kernel
theorem dX5_takePart_43 : decode cX5_takePart 43 = .ok (.ifCond .eq 16, 3) := by decide +kernel
theorem dX5_takePart_46 : decode cX5_takePart 46 = .ok (.aload_n 0, 1) := by decide +kernel
theorem dX5_takePart_47 : decode cX5_takePart 47 = .ok (.bipush 41, 2) := by decide +kernel
theorem dX5_takePart_49 : decode cX5_takePart 49 = .ok (.invokevirtual 66, 3) := by decide +kernel
theorem dX5_takePart_52 : decode cX5_takePart 52 = .ok (.ifCond .eq 7, 3) := by decide +kernel
theorem dX5_takePart_55 : decode cX5_takePart 55 = .ok (.iconst 1, 1) := by decide +kernel
theorem dX5_takePart_56 : decode cX5_takePart 56 = .ok (.goto 4, 3) := by decide +kernel
theorem dX5_takePart_59 : decode cX5_takePart 59 = .ok (.iconst 0, 1) := by decide +kernel
theorem dX5_takePart_60 : decode cX5_takePart 60 = .ok (.ireturn, 1) := by decide +kernel
theorem dX5_takePart_61 : decode cX5_takePart 61 = .ok (.aload_n 0, 1) := by decide +kernel
theorem dX5_takePart_62 : decode cX5_takePart 62 = .ok (.ldc 131, 2) := by decide +kernel
theorem dX5_takePart_64 : decode cX5_takePart 64 = .ok (.invokevirtual 133, 3) := by decide +kernel
theorem dX5_takePart_67 : decode cX5_takePart 67 = .ok (.istore_n 2, 1) := by decide +kernel
theorem dX5_takePart_68 : decode cX5_takePart 68 = .ok (.iload_n 2, 1) := by decide +kernel
theorem dX5_takePart_69 : decode cX5_takePart 69 = .ok (.ifCond .ge 7, 3) := by decide +kernel
theorem dX5_takePart_72 : decode cX5_takePart 72 = .ok (.iconst (-1), 1) := by decide +kernel
theorem dX5_takePart_73 : decode cX5_takePart 73 = .ok (.goto 9, 3) := by decide +kernel
theorem dX5_takePart_76 : decode cX5_takePart 76 = .ok (.aload_n 0, 1) := by decide +kernel
theorem dX5_takePart_77 : decode cX5_takePart 77 = .ok (.ldc 137, 2) := by decide +kernel
theorem dX5_takePart_79 : decode cX5_takePart 79 = .ok (.invokevirtual 133, 3) := by decide +kernel
theorem dX5_takePart_82 : decode cX5_takePart 82 = .ok (.istore_n 3, 1) := by decide +kernel
theorem dX5_takePart_83 : decode cX5_takePart 83 = .ok (.iload_n 3, 1) := by decide +kernel
theorem dX5_takePart_84 : decode cX5_takePart 84 = .ok (.ifCond .ge 7, 3) := by decide +kernel
theorem dX5_takePart_87 : decode cX5_takePart 87 = .ok (.iconst (-1), 1) := by decide +kernel
theorem dX5_takePart_88 : decode cX5_takePart 88 = .ok (.goto 7, 3) := by decide +kernel
theorem dX5_takePart_91 : decode cX5_takePart 91 = .ok (.aload_n 0, 1) := by decide +kernel
theorem dX5_takePart_92 : decode cX5_takePart 92 = .ok (.invokevirtual 82, 3) := by decide +kernel
theorem dX5_takePart_95 : decode cX5_takePart 95 = .ok (.istore 4, 2) := by decide +kernel
theorem dX5_takePart_97 : decode cX5_takePart 97 = .ok (.iload 4, 2) := by decide +kernel
theorem dX5_takePart_99 : decode cX5_takePart 99 = .ok (.ifCond .lt 25, 3) := by decide +kernel
theorem dX5_takePart_102 : decode cX5_takePart 102 = .ok (.aload_n 0, 1) := by decide +kernel
theorem dX5_takePart_103 : decode cX5_takePart 103 = .ok (.iload_n 2, 1) := by decide +kernel
theorem dX5_takePart_104 : decode cX5_takePart 104 = .ok (.iconst 3, 1) := by decide +kernel
theorem dX5_takePart_105 : decode cX5_takePart 105 = .ok (.imul, 1) := by decide +kernel
theorem dX5_takePart_106 : decode cX5_takePart 106 = .ok (.iload_n 3, 1) := by decide +kernel
theorem dX5_takePart_107 : decode cX5_takePart 107 = .ok (.iadd, 1) := by decide +kernel
theorem dX5_takePart_108 : decode cX5_takePart 108 = .ok (.bipush 100, 2) := by decide +kernel
theorem dX5_takePart_110 : decode cX5_takePart 110 = .ok (.imul, 1) := by decide +kernel
theorem dX5_takePart_111 : decode cX5_takePart 111 = .ok (.iload 4, 2) := by decide +kernel
theorem dX5_takePart_113 : decode cX5_takePart 113 = .ok (.iadd, 1) := by decide +kernel
theorem dX5_takePart_114 : decode cX5_takePart 114 = .ok (.invokevirtual 122, 3) := by decide +kernel
theorem dX5_takePart_117 : decode cX5_takePart 117 = .ok (.ifCond .eq 7, 3) := by decide +kernel
theorem dX5_takePart_120 : decode cX5_takePart 120 = .ok (.iconst 1, 1) := by decide +kernel
theorem dX5_takePart_121 : decode cX5_takePart 121 = .ok (.goto 4, 3) := by decide +kernel
theorem dX5_takePart_124 : decode cX5_takePart 124 = .ok (.iconst 0, 1) := by decide +kernel
theorem dX5_takePart_125 : decode cX5_takePart 125 = .ok (.ireturn, 1) := by decide +kernel
set_option maxRecDepth 20000 in
theorem ggX5_takeNot_X5_takePart : GoodIn wsX5_takeNot wsX5_takePart := goodIn_r _ [27, 12, 13, 14, 4, 15, 16, 17, 18, 19, 20, 21, 22, 28, 29, 30, 31, 32, 33, 34, 35, 36, 37, 38, 39, 40, 41, 42, 43, 44, 45, 46, 47, 48, 49, 50, 51, 52, 53, 54, 55, 56, 57, 58, 59, 60, 61, 62, 63, 64, 65, 66, 67, 68, 69, 70, 71, 72, 73, 74, 75, 76, 77, 78, 79, 80, 81, 82, 83, 84, 85, 86, 87, 88, 89, 90, 91, 92, 93, 94, 95, 96, 97, 98, 99, 100, 101, 102, 103, 104, 105, 106, 107, 108, 109, 110, 111, 112, 113, 114, 115, 116, 117, 118, 119, 120, 121, 122, 123, 124, 125, 126, 127, 128, 129, 130, 131, 132, 133, 5, 6, 7, 8, 9, 10, 11, 1, 2, 3, 23, 24, 25, 26, 0, 134, 135, 136, 137, 138, 139, 140, 141, 142, 143, 144] (by decide +kernel) (by decide +kernel)
set_option maxRecDepth 20000 in
theorem gX5_takeNot_X5_takePart : GoodIn wsX5_takeNot (wsV RX5 125 RX5 yX5_takePart wsX5_takePart) := goodIn_app (goodIn_of _ (by decide +kernel)) ggX5_takeNot_X5_takePart
set_option maxRecDepth 20000 in
theorem ggX5_takeNot_X5_puts : GoodIn wsX5_takeNot wsX5_puts := goodIn_r _ [8, 9, 10, 134, 135, 136, 137, 138, 139, 140, 141, 142, 143, 144] (by decide +kernel) (by decide +kernel)
set_option maxRecDepth 20000 in
theorem gX5_takeNot_X5_puts : GoodIn wsX5_takeNot (wsV RX5 122 RX5 yX5_puts wsX5_puts) := goodIn_app (goodIn_of _ (by decide +kernel)) ggX5_takeNot_X5_puts
theorem dX5_takeNot_0 : decode cX5_takeNot 0 = .ok (.aload_n 0, 1) := by decide +kernel
theorem dX5_takeNot_1 : decode cX5_takeNot 1 = .ok (.iload_n 1, 1) := by decide +kernel
theorem dX5_takeNot_2 : decode cX5_takeNot 2 = .ok (.invokevirtual 125, 3) := by decide +kernel
theorem dX5_takeNot_5 : decode cX5_takeNot 5 = .ok (.ifCond .eq 15, 3) := by decide +kernel
theorem dX5_takeNot_8 : decode cX5_takeNot 8 = .ok (.aload_n 0, 1) := by decide +kernel
theorem dX5_takeNot_9 : decode cX5_takeNot 9 = .ok (.iconst (-1), 1) := by decide +kernel
theorem dX5_takeNot_10 : decode cX5_takeNot 10 = .ok (.invokevirtual 122, 3) := by decide +kernel
theorem dX5_takeNot_13 : decode cX5_takeNot 13 = .ok (.ifCond .eq 7, 3) := by decide +kernel
theorem dX5_takeNot_16 : decode cX5_takeNot 16 = .ok (.iconst 1, 1) := by decide +kernel
theorem dX5_takeNot_17 : decode cX5_takeNot 17 = .ok (.goto 4, 3) := by decide +kernel
theorem dX5_takeNot_20 : decode cX5_takeNot 20 = .ok (.iconst 0, 1) := by decide +kernel
theorem dX5_takeNot_21 : decode cX5_takeNot 21 = .ok (.ireturn, 1) := by decide +kernel
theorem dX5_puts_0 : decode cX5_puts 0 = .ok (.aload_n 0, 1) := by decide +kernel
theorem dX5_puts_1 : decode cX5_puts 1 = .ok (.getfield 59, 3) := by decide +kernel
theorem dX5_puts_4 : decode cX5_puts 4 = .ok (.ifCond .lt 15, 3) := by decide +kernel
theorem dX5_puts_7 : decode cX5_puts 7 = .ok (.aload_n 0, 1) := by decide +kernel
theorem dX5_puts_8 : decode cX5_puts 8 = .ok (.getfield 59, 3) := by decide +kernel
theorem dX5_puts_11 : decode cX5_puts 11 = .ok (.aload_n 0, 1) := by decide +kernel
theorem dX5_puts_12 : decode cX5_puts 12 = .ok (.getfield 21, 3) := by decide +kernel
theorem dX5_puts_15 : decode cX5_puts 15 = .ok (.arraylength, 1) := by decide +kernel
theorem dX5_puts_16 : decode cX5_puts 16 = .ok (.if_icmp .lt 5, 3) := by decide +kernel
theorem dX5_puts_19 : decode cX5_puts 19 = .ok (.iconst 0, 1) := by decide +kernel
theorem dX5_puts_20 : decode cX5_puts 20 = .ok (.ireturn, 1) := by decide +kernel
theorem dX5_puts_21 : decode cX5_puts 21 = .ok (.aload_n 0, 1) := by decide +kernel
theorem dX5_puts_22 : decode cX5_puts 22 = .ok (.getfield 21, 3) := by decide +kernel
theorem dX5_puts_25 : decode cX5_puts 25 = .ok (.aload_n 0, 1) := by decide +kernel
theorem dX5_puts_26 : decode cX5_puts 26 = .ok (.getfield 59, 3) := by decide +kernel
theorem dX5_puts_29 : decode cX5_puts 29 = .ok (.iload_n 1, 1) := by decide +kernel
theorem dX5_puts_30 : decode cX5_puts 30 = .ok (.iastore, 1) := by decide +kernel
theorem dX5_puts_31 : decode cX5_puts 31 = .ok (.aload_n 0, 1) := by decide +kernel
theorem dX5_puts_32 : decode cX5_puts 32 = .ok (.dup, 1) := by decide +kernel
theorem dX5_puts_33 : decode cX5_puts 33 = .ok (.getfield 59, 3) := by decide +kernel
theorem dX5_puts_36 : decode cX5_puts 36 = .ok (.iconst 1, 1) := by decide +kernel
theorem dX5_puts_37 : decode cX5_puts 37 = .ok (.iadd, 1) := by decide +kernel
theorem dX5_puts_38 : decode cX5_puts 38 = .ok (.putfield 59, 3) := by decide +kernel
theorem dX5_puts_41 : decode cX5_puts 41 = .ok (.iconst 1, 1) := by decide +kernel
theorem dX5_puts_42 : decode cX5_puts 42 = .ok (.ireturn, 1) := by decide +kernel
set_option maxRecDepth 20000 in
theorem ggX5_learns_X5_look : GoodIn wsX5_learns wsX5_look := goodIn_r _ [5, 6, 7, 8, 9, 10, 11, 12, 13, 14, 15, 16, 17, 18, 19, 20, 21, 39, 40, 41, 42, 43, 44, 45, 46, 47, 48, 49, 50, 51, 52, 53, 54, 55, 56, 57, 58, 59, 60, 61, 62, 63, 64, 65, 66, 67, 68, 69, 70, 71, 72, 73, 74, 75, 76, 77, 78, 79, 80, 81, 82, 83, 84, 85, 86, 87, 88, 89, 90, 91] (by decide +kernel) (by decide +kernel)
set_option maxRecDepth 20000 in
theorem gX5_learns_X5_look : GoodIn wsX5_learns (wsV RX5 139 RX5 yX5_look wsX5_look) := goodIn_app (goodIn_of _ (by decide +kernel)) ggX5_learns_X5_look
set_option maxRecDepth 20000 in
theorem ggX5_learns_X5_sumOf : GoodIn wsX5_learns wsX5_sumOf := goodIn_r _ [25, 26, 27, 28, 29, 30, 31, 32, 4, 33, 9, 10, 11, 12, 34, 35, 36, 37, 38, 6, 39, 40, 41, 42, 43, 44, 45, 46, 47, 48, 49] (by decide +kernel) (by decide +kernel)
set_option maxRecDepth 20000 in
theorem gX5_learns_X5_sumOf : GoodIn wsX5_learns (wsV RX5 143 RX5 yX5_sumOf wsX5_sumOf) := goodIn_app (goodIn_of _ (by decide +kernel)) ggX5_learns_X5_sumOf
theorem dX5_learns_0 : decode cX5_learns 0 = .ok (.aload_n 0, 1) := by decide +kernel
theorem dX5_learns_1 : decode cX5_learns 1 = .ok (.aload_n 1, 1) := by decide +kernel
theorem dX5_learns_2 : decode cX5_learns 2 = .ok (.aload_n 2, 1) := by decide +kernel
theorem dX5_learns_3 : decode cX5_learns 3 = .ok (.iload_n 3, 1) := by decide +kernel
theorem dX5_learns_4 : decode cX5_learns 4 = .ok (.aload 4, 2) := by decide +kernel
theorem dX5_learns_6 : decode cX5_learns 6 = .ok (.invokevirtual 139, 3) := by decide +kernel
theorem dX5_learns_9 : decode cX5_learns 9 = .ok (.aload_n 0, 1) := by decide +kernel
theorem dX5_learns_10 : decode cX5_learns 10 = .ok (.iconst 0, 1) := by decide +kernel
theorem dX5_learns_11 : decode cX5_learns 11 = .ok (.invokevirtual 143, 3) := by decide +kernel
theorem dX5_learns_14 : decode cX5_learns 14 = .ok (.ireturn, 1) := by decide +kernel
set_option maxRecDepth 20000 in
theorem ggX5_louds_X5_look : GoodIn wsX5_louds wsX5_look := goodIn_r _ [5, 6, 7, 8, 9, 10, 11, 12, 13, 14, 15, 16, 17, 18, 19, 20, 21, 39, 40, 41, 42, 43, 44, 45, 46, 47, 48, 49, 50, 51, 52, 53, 54, 55, 56, 57, 58, 59, 60, 61, 62, 63, 64, 65, 66, 67, 68, 69, 70, 71, 72, 73, 74, 75, 76, 77, 78, 79, 80, 81, 82, 83, 84, 85, 86, 87, 88, 89, 90, 91] (by decide +kernel) (by decide +kernel)
set_option maxRecDepth 20000 in
theorem gX5_louds_X5_look : GoodIn wsX5_louds (wsV RX5 139 RX5 yX5_look wsX5_look) := goodIn_app (goodIn_of _ (by decide +kernel)) ggX5_louds_X5_look
set_option maxRecDepth 20000 in
theorem ggX5_louds_X5_sumOf : GoodIn wsX5_louds wsX5_sumOf := goodIn_r _ [25, 26, 27, 28, 29, 30, 31, 32, 4, 33, 9, 10, 11, 12, 34, 35, 36, 37, 38, 6, 39, 40, 41, 42, 43, 44, 45, 46, 47, 48, 49] (by decide +kernel) (by decide +kernel)
set_option maxRecDepth 20000 in
theorem gX5_louds_X5_sumOf : GoodIn wsX5_louds (wsV RX5 143 RX5 yX5_sumOf wsX5_sumOf) := goodIn_app (goodIn_of _ (by decide +kernel)) ggX5_louds_X5_sumOf
theorem dX5_louds_0 : decode cX5_louds 0 = .ok (.aload_n 0, 1) := by decide +kernel
theorem dX5_louds_1 : decode cX5_louds 1 = .ok (.aload_n 1, 1) := by decide +kernel
theorem dX5_louds_2 : decode cX5_louds 2 = .ok (.aload_n 2, 1) := by decide +kernel
theorem dX5_louds_3 : decode cX5_louds 3 = .ok (.iload_n 3, 1) := by decide +kernel
theorem dX5_louds_4 : decode cX5_louds 4 = .ok (.aload 4, 2) := by decide +kernel
theorem dX5_louds_6 : decode cX5_louds 6 = .ok (.invokevirtual 139, 3) := by decide +kernel
theorem dX5_louds_9 : decode cX5_louds 9 = .ok (.aload_n 0, 1) := by decide +kernel
theorem dX5_louds_10 : decode cX5_louds 10 = .ok (.iconst 1, 1) := by decide +kernel
theorem dX5_louds_11 : decode cX5_louds 11 = .ok (.invokevirtual 143, 3) := by decide +kernel
theorem dX5_louds_14 : decode cX5_louds 14 = .ok (.ireturn, 1) := by decide +kernel
set_option maxRecDepth 20000 in
theorem ggX5_isBarred_X5_look : GoodIn wsX5_isBarred wsX5_look := goodIn_r _ [5, 6, 7, 8, 9, 10, 11, 12, 13, 14, 15, 16, 17, 18, 19, 20, 21, 39, 40, 41, 42, 43, 44, 45, 46, 47, 48, 49, 50, 51, 52, 53, 54, 55, 56, 57, 58, 59, 60, 61, 62, 63, 64, 65, 66, 67, 68, 69, 70, 71, 72, 73, 74, 75, 76, 77, 78, 79, 80, 81, 82, 83, 84, 85, 86, 87, 88, 89, 90, 91] (by decide +kernel) (by decide +kernel)
set_option maxRecDepth 20000 in
theorem gX5_isBarred_X5_look : GoodIn wsX5_isBarred (wsV RX5 139 RX5 yX5_look wsX5_look) := goodIn_app (goodIn_of _ (by decide +kernel)) ggX5_isBarred_X5_look
set_option maxRecDepth 20000 in
theorem ggX5_isBarred_X5_sumOf : GoodIn wsX5_isBarred wsX5_sumOf := goodIn_r _ [25, 26, 27, 28, 29, 30, 31, 32, 4, 33, 9, 10, 11, 12, 34, 35, 36, 37, 38, 6, 39, 40, 41, 42, 43, 44, 45, 46, 47, 48, 49] (by decide +kernel) (by decide +kernel)
set_option maxRecDepth 20000 in
theorem gX5_isBarred_X5_sumOf : GoodIn wsX5_isBarred (wsV RX5 143 RX5 yX5_sumOf wsX5_sumOf) := goodIn_app (goodIn_of _ (by decide +kernel)) ggX5_isBarred_X5_sumOf
theorem dX5_isBarred_0 : decode cX5_isBarred 0 = .ok (.aload_n 0, 1) := by decide +kernel
theorem dX5_isBarred_1 : decode cX5_isBarred 1 = .ok (.aload_n 1, 1) := by decide +kernel
theorem dX5_isBarred_2 : decode cX5_isBarred 2 = .ok (.aload_n 2, 1) := by decide +kernel
theorem dX5_isBarred_3 : decode cX5_isBarred 3 = .ok (.iload_n 3, 1) := by decide +kernel
theorem dX5_isBarred_4 : decode cX5_isBarred 4 = .ok (.aload 4, 2) := by decide +kernel
theorem dX5_isBarred_6 : decode cX5_isBarred 6 = .ok (.invokevirtual 139, 3) := by decide +kernel
theorem dX5_isBarred_9 : decode cX5_isBarred 9 = .ok (.aload_n 0, 1) := by decide +kernel
theorem dX5_isBarred_10 : decode cX5_isBarred 10 = .ok (.iconst 2, 1) := by decide +kernel
theorem dX5_isBarred_11 : decode cX5_isBarred 11 = .ok (.invokevirtual 143, 3) := by decide +kernel
theorem dX5_isBarred_14 : decode cX5_isBarred 14 = .ok (.ifCond .le 5, 3) := by decide +kernel
theorem dX5_isBarred_17 : decode cX5_isBarred 17 = .ok (.iconst 1, 1) := by decide +kernel
theorem dX5_isBarred_18 : decode cX5_isBarred 18 = .ok (.ireturn, 1) := by decide +kernel
theorem dX5_isBarred_19 : decode cX5_isBarred 19 = .ok (.aload_n 0, 1) := by decide +kernel
theorem dX5_isBarred_20 : decode cX5_isBarred 20 = .ok (.aload_n 2, 1) := by decide +kernel
theorem dX5_isBarred_21 : decode cX5_isBarred 21 = .ok (.aload_n 1, 1) := by decide +kernel
theorem dX5_isBarred_22 : decode cX5_isBarred 22 = .ok (.iload_n 3, 1) := by decide +kernel
theorem dX5_isBarred_23 : decode cX5_isBarred 23 = .ok (.aload 4, 2) := by decide +kernel
theorem dX5_isBarred_25 : decode cX5_isBarred 25 = .ok (.invokevirtual 139, 3) := by decide +kernel
theorem dX5_isBarred_28 : decode cX5_isBarred 28 = .ok (.aload_n 0, 1) := by decide +kernel
theorem dX5_isBarred_29 : decode cX5_isBarred 29 = .ok (.iconst 2, 1) := by decide +kernel
theorem dX5_isBarred_30 : decode cX5_isBarred 30 = .ok (.invokevirtual 143, 3) := by decide +kernel
theorem dX5_isBarred_33 : decode cX5_isBarred 33 = .ok (.ifCond .le 7, 3) := by decide +kernel
theorem dX5_isBarred_36 : decode cX5_isBarred 36 = .ok (.iconst 1, 1) := by decide +kernel
theorem dX5_isBarred_37 : decode cX5_isBarred 37 = .ok (.goto 4, 3) := by decide +kernel
theorem dX5_isBarred_40 : decode cX5_isBarred 40 = .ok (.iconst 0, 1) := by decide +kernel
theorem dX5_isBarred_41 : decode cX5_isBarred 41 = .ok (.ireturn, 1) := by decide +kernel
set_option maxRecDepth 20000 in
theorem ggX5_worth_X5_look : GoodIn wsX5_worth wsX5_look := goodIn_r _ [5, 6, 7, 8, 9, 10, 11, 12, 13, 14, 15, 16, 17, 18, 19, 20, 21, 110, 111, 112, 113, 114, 115, 116, 117, 118, 119, 120, 121, 122, 123, 124, 125, 126, 127, 128, 129, 130, 131, 132, 133, 134, 135, 136, 137, 138, 139, 140, 141, 142, 143, 144, 145, 146, 147, 148, 149, 150, 151, 152, 153, 154, 155, 156, 157, 158, 159, 160, 161, 162] (by decide +kernel) (by decide +kernel)
set_option maxRecDepth 20000 in
theorem gX5_worth_X5_look : GoodIn wsX5_worth (wsV RX5 139 RX5 yX5_look wsX5_look) := goodIn_app (goodIn_of _ (by decide +kernel)) ggX5_worth_X5_look
set_option maxRecDepth 20000 in
theorem ggX5_worth_X5_sumOf : GoodIn wsX5_worth wsX5_sumOf := goodIn_r _ [25, 26, 27, 28, 29, 30, 31, 32, 4, 33, 9, 10, 11, 12, 34, 35, 36, 37, 38, 6, 110, 111, 112, 113, 114, 115, 116, 117, 118, 119, 120] (by decide +kernel) (by decide +kernel)
set_option maxRecDepth 20000 in
theorem gX5_worth_X5_sumOf : GoodIn wsX5_worth (wsV RX5 143 RX5 yX5_sumOf wsX5_sumOf) := goodIn_app (goodIn_of _ (by decide +kernel)) ggX5_worth_X5_sumOf
set_option maxRecDepth 20000 in
theorem ggX5_worth_X8_worthBy : GoodIn wsX5_worth wsX8_worthBy := goodIn_r _ [45, 46, 47, 48, 40, 49, 50, 51, 52, 121, 122, 123, 124, 125, 126, 127, 128, 129, 130, 131, 132, 133, 134, 135, 136, 137, 138, 139, 140, 141, 142, 143, 144, 145, 146, 147, 148, 149, 150, 151, 152, 153, 154, 155] (by decide +kernel) (by decide +kernel)
set_option maxRecDepth 20000 in
theorem gX5_worth_X8_worthBy_u146X0 : GoodIn wsX5_worth (va_wsO RX5 146 RX0 "WhoSitsBy$Pupil" ⟨"WhoSitsBy$Pupil", "worthBy", "(LWhoSitsBy$Pupil;ILWhoSitsBy$Standing;)I"⟩ yX8_worthBy wsX8_worthBy) := goodIn_app (goodIn_of _ (by decide +kernel)) ggX5_worth_X8_worthBy
set_option maxRecDepth 20000 in
theorem ggX5_worth_X1_worthBy : GoodIn wsX5_worth wsX1_worthBy := goodIn_r _ [56, 57, 58, 59, 60, 61, 62, 40, 63, 50, 51, 52, 121, 122, 123, 124, 125, 126, 127, 128, 129, 130, 131, 132, 133, 134, 135, 136, 137, 138, 139, 140, 141, 142, 143, 144, 145, 146, 147, 148, 149, 150, 151, 152, 153, 154, 155] (by decide +kernel) (by decide +kernel)
set_option maxRecDepth 20000 in
theorem gX5_worth_X1_worthBy_u146X1 : GoodIn wsX5_worth (va_wsO RX5 146 RX1 "WhoSitsBy$Pupil" ⟨"WhoSitsBy$Pupil", "worthBy", "(LWhoSitsBy$Pupil;ILWhoSitsBy$Standing;)I"⟩ yX1_worthBy wsX1_worthBy) := goodIn_app (goodIn_of _ (by decide +kernel)) ggX5_worth_X1_worthBy
set_option maxRecDepth 20000 in
theorem ggX5_worth_X2_worthBy : GoodIn wsX5_worth wsX2_worthBy := goodIn_r _ [67, 68, 69, 70, 71, 72, 73, 74, 75, 76, 77, 78, 79, 80, 81, 82, 83, 84, 40, 85, 50, 51, 52, 86, 16, 17, 18, 19, 20, 21, 87, 121, 122, 123, 124, 125, 126, 127, 128, 129, 130, 131, 132, 133, 134, 135, 136, 137, 138, 139, 140, 141, 142, 143, 144, 145, 146, 147, 148, 149, 150, 151, 152, 153, 154, 155, 156, 157, 158, 159, 160, 161, 162] (by decide +kernel) (by decide +kernel)
set_option maxRecDepth 20000 in
theorem gX5_worth_X2_worthBy_u146X2 : GoodIn wsX5_worth (va_wsO RX5 146 RX2 "WhoSitsBy$Pupil" ⟨"WhoSitsBy$Pupil", "worthBy", "(LWhoSitsBy$Pupil;ILWhoSitsBy$Standing;)I"⟩ yX2_worthBy wsX2_worthBy) := goodIn_app (goodIn_of _ (by decide +kernel)) ggX5_worth_X2_worthBy
set_option maxRecDepth 20000 in
theorem ggX5_worth_X3_worthBy : GoodIn wsX5_worth wsX3_worthBy := goodIn_r _ [91, 92, 93, 94, 95, 96, 97, 98, 99, 18, 100, 20, 101, 16, 17, 19, 21, 102, 103, 104, 105, 54, 55, 56, 57, 58, 59, 60, 61, 62, 40, 63, 50, 51, 52, 121, 122, 123, 124, 125, 126, 127, 128, 129, 130, 131, 132, 133, 134, 135, 136, 137, 138, 139, 140, 141, 142, 143, 144, 145, 146, 147, 148, 149, 150, 151, 152, 153, 154, 155, 156, 157, 158, 159, 160, 161, 162] (by decide +kernel) (by decide +kernel)
set_option maxRecDepth 20000 in
theorem gX5_worth_X3_worthBy_u146X3 : GoodIn wsX5_worth (va_wsO RX5 146 RX3 "WhoSitsBy$Pupil" ⟨"WhoSitsBy$Pupil", "worthBy", "(LWhoSitsBy$Pupil;ILWhoSitsBy$Standing;)I"⟩ yX3_worthBy wsX3_worthBy) := goodIn_app (goodIn_of _ (by decide +kernel)) ggX5_worth_X3_worthBy
set_option maxRecDepth 20000 in
theorem ggX5_worth_X4_worthBy : GoodIn wsX5_worth wsX4_worthBy := goodIn_r _ [52] (by decide +kernel) (by decide +kernel)
set_option maxRecDepth 20000 in
theorem gX5_worth_X4_worthBy : GoodIn wsX5_worth (wsV RX5 146 RX4 yX4_worthBy wsX4_worthBy) := goodIn_app (goodIn_of _ (by decide +kernel)) ggX5_worth_X4_worthBy
set_option maxRecDepth 20000 in
theorem gX5_worth_X8_worthBy_u146X8 : GoodIn wsX5_worth (va_wsO RX5 146 RX8 "WhoSitsBy$Pupil" ⟨"WhoSitsBy$Pupil", "worthBy", "(LWhoSitsBy$Pupil;ILWhoSitsBy$Standing;)I"⟩ yX8_worthBy wsX8_worthBy) := goodIn_app (goodIn_of _ (by decide +kernel)) ggX5_worth_X8_worthBy
set_option maxRecDepth 20000 in
theorem ggX5_worth_X10_worthBy : GoodIn wsX5_worth wsX10_worthBy := goodIn_r _ [78, 79, 80, 81, 82, 83, 84, 40, 85, 50, 51, 52, 86, 16, 17, 18, 19, 20, 21, 121, 122, 123, 124, 125, 126, 127, 128, 129, 130, 131, 132, 133, 134, 135, 136, 137, 138, 139, 140, 141, 142, 143, 144, 145, 146, 147, 148, 149, 150, 151, 152, 153, 154, 155, 156, 157, 158, 159, 160, 161, 162] (by decide +kernel) (by decide +kernel)
set_option maxRecDepth 20000 in
theorem gX5_worth_X10_worthBy_u146X10 : GoodIn wsX5_worth (va_wsO RX5 146 RX10 "WhoSitsBy$Pupil" ⟨"WhoSitsBy$Pupil", "worthBy", "(LWhoSitsBy$Pupil;ILWhoSitsBy$Standing;)I"⟩ yX10_worthBy wsX10_worthBy) := goodIn_app (goodIn_of _ (by decide +kernel)) ggX5_worth_X10_worthBy
theorem dX5_worth_0 : decode cX5_worth 0 = .ok (.aload_n 0, 1) := by decide +kernel
theorem dX5_worth_1 : decode cX5_worth 1 = .ok (.aload_n 1, 1) := by decide +kernel
theorem dX5_worth_2 : decode cX5_worth 2 = .ok (.aload_n 2, 1) := by decide +kernel
theorem dX5_worth_3 : decode cX5_worth 3 = .ok (.iload_n 3, 1) := by decide +kernel
theorem dX5_worth_4 : decode cX5_worth 4 = .ok (.aload 4, 2) := by decide +kernel
theorem dX5_worth_6 : decode cX5_worth 6 = .ok (.invokevirtual 139, 3) := by decide +kernel
theorem dX5_worth_9 : decode cX5_worth 9 = .ok (.aload_n 1, 1) := by decide +kernel
theorem dX5_worth_10 : decode cX5_worth 10 = .ok (.aload_n 2, 1) := by decide +kernel
theorem dX5_worth_11 : decode cX5_worth 11 = .ok (.aload_n 0, 1) := by decide +kernel
theorem dX5_worth_12 : decode cX5_worth 12 = .ok (.iconst 0, 1) := by decide +kernel
theorem dX5_worth_13 : decode cX5_worth 13 = .ok (.invokevirtual 143, 3) := by decide +kernel
theorem dX5_worth_16 : decode cX5_worth 16 = .ok (.aload_n 0, 1) := by decide +kernel
theorem dX5_worth_17 : decode cX5_worth 17 = .ok (.iconst 1, 1) := by decide +kernel
theorem dX5_worth_18 : decode cX5_worth 18 = .ok (.invokevirtual 143, 3) := by decide +kernel
theorem dX5_worth_21 : decode cX5_worth 21 = .ok (.isub, 1) := by decide +kernel
theorem dX5_worth_22 : decode cX5_worth 22 = .ok (.aload 4, 2) := by decide +kernel
theorem dX5_worth_24 : decode cX5_worth 24 = .ok (.invokevirtual 146, 3) := by decide +kernel
theorem dX5_worth_27 : decode cX5_worth 27 = .ok (.ireturn, 1) := by decide +kernel
set_option maxRecDepth 20000 in
theorem ggX5_look_X7_isNaming : GoodIn wsX5_look wsX7_isNaming := goodIn_r _ [14, 15, 16, 63, 64, 65, 66, 67, 68, 69] (by decide +kernel) (by decide +kernel)
set_option maxRecDepth 20000 in
theorem gX5_look_X7_isNaming : GoodIn wsX5_look (wsV RX5 164 RX7 yX7_isNaming wsX7_isNaming) := goodIn_app (goodIn_of _ (by decide +kernel)) ggX5_look_X7_isNaming
theorem dX5_look_0 : decode cX5_look 0 = .ok (.aload_n 0, 1) := by decide +kernel
theorem dX5_look_1 : decode cX5_look 1 = .ok (.getfield 32, 3) := by decide +kernel
theorem dX5_look_4 : decode cX5_look 4 = .ok (.iconst 0, 1) := by decide +kernel
theorem dX5_look_5 : decode cX5_look 5 = .ok (.aload_n 1, 1) := by decide +kernel
theorem dX5_look_6 : decode cX5_look 6 = .ok (.getfield 152, 3) := by decide +kernel
theorem dX5_look_9 : decode cX5_look 9 = .ok (.iastore, 1) := by decide +kernel
theorem dX5_look_10 : decode cX5_look 10 = .ok (.aload_n 0, 1) := by decide +kernel
theorem dX5_look_11 : decode cX5_look 11 = .ok (.getfield 32, 3) := by decide +kernel
theorem dX5_look_14 : decode cX5_look 14 = .ok (.iconst 1, 1) := by decide +kernel
theorem dX5_look_15 : decode cX5_look 15 = .ok (.aload_n 2, 1) := by decide +kernel
theorem dX5_look_16 : decode cX5_look 16 = .ok (.getfield 152, 3) := by decide +kernel
theorem dX5_look_19 : decode cX5_look 19 = .ok (.iastore, 1) := by decide +kernel
theorem dX5_look_20 : decode cX5_look 20 = .ok (.aload_n 0, 1) := by decide +kernel
theorem dX5_look_21 : decode cX5_look 21 = .ok (.getfield 32, 3) := by decide +kernel
theorem dX5_look_24 : decode cX5_look 24 = .ok (.iconst 2, 1) := by decide +kernel
theorem dX5_look_25 : decode cX5_look 25 = .ok (.iconst 0, 1) := by decide +kernel
theorem dX5_look_26 : decode cX5_look 26 = .ok (.aload_n 2, 1) := by decide +kernel
theorem dX5_look_27 : decode cX5_look 27 = .ok (.getfield 155, 3) := by decide +kernel
theorem dX5_look_30 : decode cX5_look 30 = .ok (.aload_n 1, 1) := by decide +kernel
theorem dX5_look_31 : decode cX5_look 31 = .ok (.getfield 155, 3) := by decide +kernel
theorem dX5_look_34 : decode cX5_look 34 = .ok (.isub, 1) := by decide +kernel
theorem dX5_look_35 : decode cX5_look 35 = .ok (.invokestatic 41, 3) := by decide +kernel
theorem dX5_look_38 : decode cX5_look 38 = .ok (.iastore, 1) := by decide +kernel
theorem dX5_look_39 : decode cX5_look 39 = .ok (.aload_n 0, 1) := by decide +kernel
theorem dX5_look_40 : decode cX5_look 40 = .ok (.getfield 32, 3) := by decide +kernel
theorem dX5_look_43 : decode cX5_look 43 = .ok (.iconst 3, 1) := by decide +kernel
theorem dX5_look_44 : decode cX5_look 44 = .ok (.aload_n 1, 1) := by decide +kernel
theorem dX5_look_45 : decode cX5_look 45 = .ok (.getfield 158, 3) := by decide +kernel
theorem dX5_look_48 : decode cX5_look 48 = .ok (.aload_n 2, 1) := by decide +kernel
theorem dX5_look_49 : decode cX5_look 49 = .ok (.getfield 158, 3) := by decide +kernel
theorem dX5_look_52 : decode cX5_look 52 = .ok (.iadd, 1) := by decide +kernel
theorem dX5_look_53 : decode cX5_look 53 = .ok (.iastore, 1) := by decide +kernel
theorem dX5_look_54 : decode cX5_look 54 = .ok (.aload_n 0, 1) := by decide +kernel
theorem dX5_look_55 : decode cX5_look 55 = .ok (.getfield 32, 3) := by decide +kernel
theorem dX5_look_58 : decode cX5_look 58 = .ok (.iconst 4, 1) := by decide +kernel
theorem dX5_look_59 : decode cX5_look 59 = .ok (.aload_n 1, 1) := by decide +kernel
theorem dX5_look_60 : decode cX5_look 60 = .ok (.getfield 161, 3) := by decide +kernel
theorem dX5_look_63 : decode cX5_look 63 = .ok (.aload_n 2, 1) := by decide +kernel
theorem dX5_look_64 : decode cX5_look 64 = .ok (.getfield 161, 3) := by decide +kernel
theorem dX5_look_67 : decode cX5_look 67 = .ok (.if_icmp .ne 7, 3) := by decide +kernel
theorem dX5_look_70 : decode cX5_look 70 = .ok (.iconst 1, 1) := by decide +kernel
theorem dX5_look_71 : decode cX5_look 71 = .ok (.goto 4, 3) := by decide +kernel
theorem dX5_look_74 : decode cX5_look 74 = .ok (.iconst 0, 1) := by decide +kernel
theorem dX5_look_75 : decode cX5_look 75 = .ok (.iastore, 1) := by decide +kernel
theorem dX5_look_76 : decode cX5_look 76 = .ok (.aload_n 0, 1) := by decide +kernel
theorem dX5_look_77 : decode cX5_look 77 = .ok (.getfield 32, 3) := by decide +kernel
theorem dX5_look_80 : decode cX5_look 80 = .ok (.iconst 5, 1) := by decide +kernel
theorem dX5_look_81 : decode cX5_look 81 = .ok (.aload 4, 2) := by decide +kernel
theorem dX5_look_83 : decode cX5_look 83 = .ok (.aload_n 1, 1) := by decide +kernel
theorem dX5_look_84 : decode cX5_look 84 = .ok (.getfield 152, 3) := by decide +kernel
theorem dX5_look_87 : decode cX5_look 87 = .ok (.aload_n 2, 1) := by decide +kernel
theorem dX5_look_88 : decode cX5_look 88 = .ok (.getfield 152, 3) := by decide +kernel
theorem dX5_look_91 : decode cX5_look 91 = .ok (.invokevirtual 164, 3) := by decide +kernel
theorem dX5_look_94 : decode cX5_look 94 = .ok (.ifCond .eq 7, 3) := by decide +kernel
theorem dX5_look_97 : decode cX5_look 97 = .ok (.iconst 1, 1) := by decide +kernel
theorem dX5_look_98 : decode cX5_look 98 = .ok (.goto 4, 3) := by decide +kernel
theorem dX5_look_101 : decode cX5_look 101 = .ok (.iconst 0, 1) := by decide +kernel
theorem dX5_look_102 : decode cX5_look 102 = .ok (.aload 4, 2) := by decide +kernel
theorem dX5_look_104 : decode cX5_look 104 = .ok (.aload_n 2, 1) := by decide +kernel
theorem dX5_look_105 : decode cX5_look 105 = .ok (.getfield 152, 3) := by decide +kernel
theorem dX5_look_108 : decode cX5_look 108 = .ok (.aload_n 1, 1) := by decide +kernel
theorem dX5_look_109 : decode cX5_look 109 = .ok (.getfield 152, 3) := by decide +kernel
theorem dX5_look_112 : decode cX5_look 112 = .ok (.invokevirtual 164, 3) := by decide +kernel
theorem dX5_look_115 : decode cX5_look 115 = .ok (.ifCond .eq 7, 3) := by decide +kernel
theorem dX5_look_118 : decode cX5_look 118 = .ok (.iconst 1, 1) := by decide +kernel
theorem dX5_look_119 : decode cX5_look 119 = .ok (.goto 4, 3) := by decide +kernel
theorem dX5_look_122 : decode cX5_look 122 = .ok (.iconst 0, 1) := by decide +kernel
theorem dX5_look_123 : decode cX5_look 123 = .ok (.iadd, 1) := by decide +kernel
theorem dX5_look_124 : decode cX5_look 124 = .ok (.iastore, 1) := by decide +kernel
theorem dX5_look_125 : decode cX5_look 125 = .ok (.aload_n 0, 1) := by decide +kernel
theorem dX5_look_126 : decode cX5_look 126 = .ok (.getfield 32, 3) := by decide +kernel
theorem dX5_look_129 : decode cX5_look 129 = .ok (.bipush 6, 2) := by decide +kernel
theorem dX5_look_131 : decode cX5_look 131 = .ok (.iload_n 3, 1) := by decide +kernel
theorem dX5_look_132 : decode cX5_look 132 = .ok (.iastore, 1) := by decide +kernel
theorem dX5_look_133 : decode cX5_look 133 = .ok (.return_, 1) := by decide +kernel
set_option maxRecDepth 20000 in
theorem ggX5_sumOf_X5_holds : GoodIn wsX5_sumOf wsX5_holds := goodIn_r _ [9, 10, 11, 12, 13, 14, 15, 16, 17, 8, 18, 19, 20, 21, 22, 23, 24, 25, 26, 27, 28, 29, 30] (by decide +kernel) (by decide +kernel)
set_option maxRecDepth 20000 in
theorem gX5_sumOf_X5_holds : GoodIn wsX5_sumOf (wsV RX5 170 RX5 yX5_holds wsX5_holds) := goodIn_app (goodIn_of _ (by decide +kernel)) ggX5_sumOf_X5_holds
theorem dX5_sumOf_0 : decode cX5_sumOf 0 = .ok (.iconst 0, 1) := by decide +kernel
theorem dX5_sumOf_1 : decode cX5_sumOf 1 = .ok (.istore_n 2, 1) := by decide +kernel
theorem dX5_sumOf_2 : decode cX5_sumOf 2 = .ok (.iconst 0, 1) := by decide +kernel
theorem dX5_sumOf_3 : decode cX5_sumOf 3 = .ok (.istore_n 3, 1) := by decide +kernel
theorem dX5_sumOf_4 : decode cX5_sumOf 4 = .ok (.iconst 0, 1) := by decide +kernel
theorem dX5_sumOf_5 : decode cX5_sumOf 5 = .ok (.istore 4, 2) := by decide +kernel
theorem dX5_sumOf_7 : decode cX5_sumOf 7 = .ok (.iload 4, 2) := by decide +kernel
theorem dX5_sumOf_9 : decode cX5_sumOf 9 = .ok (.aload_n 0, 1) := by decide +kernel
theorem dX5_sumOf_10 : decode cX5_sumOf 10 = .ok (.getfield 56, 3) := by decide +kernel
theorem dX5_sumOf_13 : decode cX5_sumOf 13 = .ok (.if_icmp .ge 60, 3) := by decide +kernel
theorem dX5_sumOf_16 : decode cX5_sumOf 16 = .ok (.iload 4, 2) := by decide +kernel
theorem dX5_sumOf_18 : decode cX5_sumOf 18 = .ok (.bipush 10, 2) := by decide +kernel
theorem dX5_sumOf_20 : decode cX5_sumOf 20 = .ok (.if_icmp .ge 53, 3) := by decide +kernel
theorem dX5_sumOf_23 : decode cX5_sumOf 23 = .ok (.aload_n 0, 1) := by decide +kernel
theorem dX5_sumOf_24 : decode cX5_sumOf 24 = .ok (.getfield 11, 3) := by decide +kernel
theorem dX5_sumOf_27 : decode cX5_sumOf 27 = .ok (.iload 4, 2) := by decide +kernel
theorem dX5_sumOf_29 : decode cX5_sumOf 29 = .ok (.iaload, 1) := by decide +kernel
theorem dX5_sumOf_30 : decode cX5_sumOf 30 = .ok (.iload_n 1, 1) := by decide +kernel
theorem dX5_sumOf_31 : decode cX5_sumOf 31 = .ok (.if_icmp .ne 28, 3) := by decide +kernel
theorem dX5_sumOf_34 : decode cX5_sumOf 34 = .ok (.aload_n 0, 1) := by decide +kernel
theorem dX5_sumOf_35 : decode cX5_sumOf 35 = .ok (.iload_n 3, 1) := by decide +kernel
theorem dX5_sumOf_36 : decode cX5_sumOf 36 = .ok (.aload_n 0, 1) := by decide +kernel
theorem dX5_sumOf_37 : decode cX5_sumOf 37 = .ok (.getfield 18, 3) := by decide +kernel
theorem dX5_sumOf_40 : decode cX5_sumOf 40 = .ok (.iload 4, 2) := by decide +kernel
theorem dX5_sumOf_42 : decode cX5_sumOf 42 = .ok (.iaload, 1) := by decide +kernel
theorem dX5_sumOf_43 : decode cX5_sumOf 43 = .ok (.invokevirtual 170, 3) := by decide +kernel
theorem dX5_sumOf_46 : decode cX5_sumOf 46 = .ok (.ifCond .eq 13, 3) := by decide +kernel
theorem dX5_sumOf_49 : decode cX5_sumOf 49 = .ok (.iload_n 2, 1) := by decide +kernel
theorem dX5_sumOf_50 : decode cX5_sumOf 50 = .ok (.aload_n 0, 1) := by decide +kernel
theorem dX5_sumOf_51 : decode cX5_sumOf 51 = .ok (.getfield 15, 3) := by decide +kernel
theorem dX5_sumOf_54 : decode cX5_sumOf 54 = .ok (.iload 4, 2) := by decide +kernel
theorem dX5_sumOf_56 : decode cX5_sumOf 56 = .ok (.iaload, 1) := by decide +kernel
theorem dX5_sumOf_57 : decode cX5_sumOf 57 = .ok (.iadd, 1) := by decide +kernel
theorem dX5_sumOf_58 : decode cX5_sumOf 58 = .ok (.istore_n 2, 1) := by decide +kernel
theorem dX5_sumOf_59 : decode cX5_sumOf 59 = .ok (.aload_n 0, 1) := by decide +kernel
theorem dX5_sumOf_60 : decode cX5_sumOf 60 = .ok (.getfield 18, 3) := by decide +kernel
theorem dX5_sumOf_63 : decode cX5_sumOf 63 = .ok (.iload 4, 2) := by decide +kernel
theorem dX5_sumOf_65 : decode cX5_sumOf 65 = .ok (.iaload, 1) := by decide +kernel
theorem dX5_sumOf_66 : decode cX5_sumOf 66 = .ok (.istore_n 3, 1) := by decide +kernel
theorem dX5_sumOf_67 : decode cX5_sumOf 67 = .ok (.iinc 4 1, 3) := by decide +kernel
theorem dX5_sumOf_70 : decode cX5_sumOf 70 = .ok (.goto (-63), 3) := by decide +kernel
theorem dX5_sumOf_73 : decode cX5_sumOf 73 = .ok (.iload_n 2, 1) := by decide +kernel
theorem dX5_sumOf_74 : decode cX5_sumOf 74 = .ok (.ireturn, 1) := by decide +kernel
set_option maxRecDepth 20000 in
theorem ggX5_holds_X5_isSo : GoodIn wsX5_holds wsX5_isSo := goodIn_r _ [10, 11, 12, 13, 14, 15, 16, 17, 18, 19, 20, 21, 22] (by decide +kernel) (by decide +kernel)
set_option maxRecDepth 20000 in
theorem gX5_holds_X5_isSo : GoodIn wsX5_holds (wsV RX5 173 RX5 yX5_isSo wsX5_isSo) := goodIn_app (goodIn_of _ (by decide +kernel)) ggX5_holds_X5_isSo
theorem dX5_holds_0 : decode cX5_holds 0 = .ok (.iconst 0, 1) := by decide +kernel
theorem dX5_holds_1 : decode cX5_holds 1 = .ok (.istore_n 3, 1) := by decide +kernel
theorem dX5_holds_2 : decode cX5_holds 2 = .ok (.iconst 0, 1) := by decide +kernel
theorem dX5_holds_3 : decode cX5_holds 3 = .ok (.iload_n 1, 1) := by decide +kernel
theorem dX5_holds_4 : decode cX5_holds 4 = .ok (.invokestatic 41, 3) := by decide +kernel
theorem dX5_holds_7 : decode cX5_holds 7 = .ok (.istore 4, 2) := by decide +kernel
theorem dX5_holds_9 : decode cX5_holds 9 = .ok (.iload 4, 2) := by decide +kernel
theorem dX5_holds_11 : decode cX5_holds 11 = .ok (.iload_n 2, 1) := by decide +kernel
theorem dX5_holds_12 : decode cX5_holds 12 = .ok (.if_icmp .ge 95, 3) := by decide +kernel
theorem dX5_holds_15 : decode cX5_holds 15 = .ok (.iload 4, 2) := by decide +kernel
theorem dX5_holds_17 : decode cX5_holds 17 = .ok (.aload_n 0, 1) := by decide +kernel
theorem dX5_holds_18 : decode cX5_holds 18 = .ok (.getfield 21, 3) := by decide +kernel
theorem dX5_holds_21 : decode cX5_holds 21 = .ok (.arraylength, 1) := by decide +kernel
theorem dX5_holds_22 : decode cX5_holds 22 = .ok (.if_icmp .ge 85, 3) := by decide +kernel
theorem dX5_holds_25 : decode cX5_holds 25 = .ok (.aload_n 0, 1) := by decide +kernel
theorem dX5_holds_26 : decode cX5_holds 26 = .ok (.getfield 21, 3) := by decide +kernel
theorem dX5_holds_29 : decode cX5_holds 29 = .ok (.iload 4, 2) := by decide +kernel
theorem dX5_holds_31 : decode cX5_holds 31 = .ok (.iaload, 1) := by decide +kernel
theorem dX5_holds_32 : decode cX5_holds 32 = .ok (.istore 5, 2) := by decide +kernel
theorem dX5_holds_34 : decode cX5_holds 34 = .ok (.iload 5, 2) := by decide +kernel
theorem dX5_holds_36 : decode cX5_holds 36 = .ok (.ifCond .lt 25, 3) := by decide +kernel
theorem dX5_holds_39 : decode cX5_holds 39 = .ok (.iload_n 3, 1) := by decide +kernel
theorem dX5_holds_40 : decode cX5_holds 40 = .ok (.iconst 1, 1) := by decide +kernel
theorem dX5_holds_41 : decode cX5_holds 41 = .ok (.ishl, 1) := by decide +kernel
theorem dX5_holds_42 : decode cX5_holds 42 = .ok (.aload_n 0, 1) := by decide +kernel
theorem dX5_holds_43 : decode cX5_holds 43 = .ok (.iload 5, 2) := by decide +kernel
theorem dX5_holds_45 : decode cX5_holds 45 = .ok (.invokevirtual 173, 3) := by decide +kernel
theorem dX5_holds_48 : decode cX5_holds 48 = .ok (.ifCond .eq 7, 3) := by decide +kernel
theorem dX5_holds_51 : decode cX5_holds 51 = .ok (.iconst 1, 1) := by decide +kernel
theorem dX5_holds_52 : decode cX5_holds 52 = .ok (.goto 4, 3) := by decide +kernel
theorem dX5_holds_55 : decode cX5_holds 55 = .ok (.iconst 0, 1) := by decide +kernel
theorem dX5_holds_56 : decode cX5_holds 56 = .ok (.ior, 1) := by decide +kernel
theorem dX5_holds_57 : decode cX5_holds 57 = .ok (.istore_n 3, 1) := by decide +kernel
theorem dX5_holds_58 : decode cX5_holds 58 = .ok (.goto 43, 3) := by decide +kernel
theorem dX5_holds_61 : decode cX5_holds 61 = .ok (.iload 5, 2) := by decide +kernel
theorem dX5_holds_63 : decode cX5_holds 63 = .ok (.iconst (-1), 1) := by decide +kernel
theorem dX5_holds_64 : decode cX5_holds 64 = .ok (.if_icmp .ne 10, 3) := by decide +kernel
theorem dX5_holds_67 : decode cX5_holds 67 = .ok (.iload_n 3, 1) := by decide +kernel
theorem dX5_holds_68 : decode cX5_holds 68 = .ok (.iconst 1, 1) := by decide +kernel
theorem dX5_holds_69 : decode cX5_holds 69 = .ok (.ixor, 1) := by decide +kernel
theorem dX5_holds_70 : decode cX5_holds 70 = .ok (.istore_n 3, 1) := by decide +kernel
theorem dX5_holds_71 : decode cX5_holds 71 = .ok (.goto 30, 3) := by decide +kernel
theorem dX5_holds_74 : decode cX5_holds 74 = .ok (.iload 5, 2) := by decide +kernel
theorem dX5_holds_76 : decode cX5_holds 76 = .ok (.bipush (-2), 2) := by decide +kernel
theorem dX5_holds_78 : decode cX5_holds 78 = .ok (.if_icmp .ne 15, 3) := by decide +kernel
theorem dX5_holds_81 : decode cX5_holds 81 = .ok (.iload_n 3, 1) := by decide +kernel
theorem dX5_holds_82 : decode cX5_holds 82 = .ok (.iconst 1, 1) := by decide +kernel
theorem dX5_holds_83 : decode cX5_holds 83 = .ok (.ishr, 1) := by decide +kernel
theorem dX5_holds_84 : decode cX5_holds 84 = .ok (.iload_n 3, 1) := by decide +kernel
theorem dX5_holds_85 : decode cX5_holds 85 = .ok (.bipush (-2), 2) := by decide +kernel
theorem dX5_holds_87 : decode cX5_holds 87 = .ok (.ior, 1) := by decide +kernel
theorem dX5_holds_88 : decode cX5_holds 88 = .ok (.iand, 1) := by decide +kernel
theorem dX5_holds_89 : decode cX5_holds 89 = .ok (.istore_n 3, 1) := by decide +kernel
theorem dX5_holds_90 : decode cX5_holds 90 = .ok (.goto 11, 3) := by decide +kernel
theorem dX5_holds_93 : decode cX5_holds 93 = .ok (.iload_n 3, 1) := by decide +kernel
theorem dX5_holds_94 : decode cX5_holds 94 = .ok (.iconst 1, 1) := by decide +kernel
theorem dX5_holds_95 : decode cX5_holds 95 = .ok (.ishr, 1) := by decide +kernel
theorem dX5_holds_96 : decode cX5_holds 96 = .ok (.iload_n 3, 1) := by decide +kernel
theorem dX5_holds_97 : decode cX5_holds 97 = .ok (.iconst 1, 1) := by decide +kernel
theorem dX5_holds_98 : decode cX5_holds 98 = .ok (.iand, 1) := by decide +kernel
theorem dX5_holds_99 : decode cX5_holds 99 = .ok (.ior, 1) := by decide +kernel
theorem dX5_holds_100 : decode cX5_holds 100 = .ok (.istore_n 3, 1) := by decide +kernel
theorem dX5_holds_101 : decode cX5_holds 101 = .ok (.iinc 4 1, 3) := by decide +kernel
theorem dX5_holds_104 : decode cX5_holds 104 = .ok (.goto (-95), 3) := by decide +kernel
theorem dX5_holds_107 : decode cX5_holds 107 = .ok (.iload_n 3, 1) := by decide +kernel
theorem dX5_holds_108 : decode cX5_holds 108 = .ok (.iconst 1, 1) := by decide +kernel
theorem dX5_holds_109 : decode cX5_holds 109 = .ok (.iand, 1) := by decide +kernel
theorem dX5_holds_110 : decode cX5_holds 110 = .ok (.ifCond .eq 7, 3) := by decide +kernel
theorem dX5_holds_113 : decode cX5_holds 113 = .ok (.iconst 1, 1) := by decide +kernel
theorem dX5_holds_114 : decode cX5_holds 114 = .ok (.goto 4, 3) := by decide +kernel
theorem dX5_holds_117 : decode cX5_holds 117 = .ok (.iconst 0, 1) := by decide +kernel
theorem dX5_holds_118 : decode cX5_holds 118 = .ok (.ireturn, 1) := by decide +kernel
theorem dX5_isSo_0 : decode cX5_isSo 0 = .ok (.iload_n 1, 1) := by decide +kernel
theorem dX5_isSo_1 : decode cX5_isSo 1 = .ok (.sipush 300, 3) := by decide +kernel
theorem dX5_isSo_4 : decode cX5_isSo 4 = .ok (.idiv, 1) := by decide +kernel
theorem dX5_isSo_5 : decode cX5_isSo 5 = .ok (.istore_n 2, 1) := by decide +kernel
theorem dX5_isSo_6 : decode cX5_isSo 6 = .ok (.iload_n 2, 1) := by decide +kernel
theorem dX5_isSo_7 : decode cX5_isSo 7 = .ok (.ifCond .lt 12, 3) := by decide +kernel
theorem dX5_isSo_10 : decode cX5_isSo 10 = .ok (.iload_n 2, 1) := by decide +kernel
theorem dX5_isSo_11 : decode cX5_isSo 11 = .ok (.aload_n 0, 1) := by decide +kernel
theorem dX5_isSo_12 : decode cX5_isSo 12 = .ok (.getfield 32, 3) := by decide +kernel
theorem dX5_isSo_15 : decode cX5_isSo 15 = .ok (.arraylength, 1) := by decide +kernel
theorem dX5_isSo_16 : decode cX5_isSo 16 = .ok (.if_icmp .lt 5, 3) := by decide +kernel
theorem dX5_isSo_19 : decode cX5_isSo 19 = .ok (.iconst 0, 1) := by decide +kernel
theorem dX5_isSo_20 : decode cX5_isSo 20 = .ok (.ireturn, 1) := by decide +kernel
theorem dX5_isSo_21 : decode cX5_isSo 21 = .ok (.iload_n 1, 1) := by decide +kernel
theorem dX5_isSo_22 : decode cX5_isSo 22 = .ok (.bipush 100, 2) := by decide +kernel
theorem dX5_isSo_24 : decode cX5_isSo 24 = .ok (.irem, 1) := by decide +kernel
theorem dX5_isSo_25 : decode cX5_isSo 25 = .ok (.istore_n 3, 1) := by decide +kernel
theorem dX5_isSo_26 : decode cX5_isSo 26 = .ok (.iload_n 1, 1) := by decide +kernel
theorem dX5_isSo_27 : decode cX5_isSo 27 = .ok (.bipush 100, 2) := by decide +kernel
theorem dX5_isSo_29 : decode cX5_isSo 29 = .ok (.idiv, 1) := by decide +kernel
theorem dX5_isSo_30 : decode cX5_isSo 30 = .ok (.iconst 3, 1) := by decide +kernel
theorem dX5_isSo_31 : decode cX5_isSo 31 = .ok (.irem, 1) := by decide +kernel
theorem dX5_isSo_32 : decode cX5_isSo 32 = .ok (.lookupswitch 60 #[(0, 28), (1, 44)], 28) := by decide +kernel
theorem dX5_isSo_60 : decode cX5_isSo 60 = .ok (.aload_n 0, 1) := by decide +kernel
theorem dX5_isSo_61 : decode cX5_isSo 61 = .ok (.getfield 32, 3) := by decide +kernel
theorem dX5_isSo_64 : decode cX5_isSo 64 = .ok (.iload_n 2, 1) := by decide +kernel
theorem dX5_isSo_65 : decode cX5_isSo 65 = .ok (.iaload, 1) := by decide +kernel
theorem dX5_isSo_66 : decode cX5_isSo 66 = .ok (.iload_n 3, 1) := by decide +kernel
theorem dX5_isSo_67 : decode cX5_isSo 67 = .ok (.if_icmp .ge 7, 3) := by decide +kernel
theorem dX5_isSo_70 : decode cX5_isSo 70 = .ok (.iconst 1, 1) := by decide +kernel
theorem dX5_isSo_71 : decode cX5_isSo 71 = .ok (.goto 4, 3) := by decide +kernel
theorem dX5_isSo_74 : decode cX5_isSo 74 = .ok (.iconst 0, 1) := by decide +kernel
theorem dX5_isSo_75 : decode cX5_isSo 75 = .ok (.ireturn, 1) := by decide +kernel
theorem dX5_isSo_76 : decode cX5_isSo 76 = .ok (.aload_n 0, 1) := by decide +kernel
theorem dX5_isSo_77 : decode cX5_isSo 77 = .ok (.getfield 32, 3) := by decide +kernel
theorem dX5_isSo_80 : decode cX5_isSo 80 = .ok (.iload_n 2, 1) := by decide +kernel
theorem dX5_isSo_81 : decode cX5_isSo 81 = .ok (.iaload, 1) := by decide +kernel
theorem dX5_isSo_82 : decode cX5_isSo 82 = .ok (.iload_n 3, 1) := by decide +kernel
theorem dX5_isSo_83 : decode cX5_isSo 83 = .ok (.if_icmp .ne 7, 3) := by decide +kernel
theorem dX5_isSo_86 : decode cX5_isSo 86 = .ok (.iconst 1, 1) := by decide +kernel
theorem dX5_isSo_87 : decode cX5_isSo 87 = .ok (.goto 4, 3) := by decide +kernel
theorem dX5_isSo_90 : decode cX5_isSo 90 = .ok (.iconst 0, 1) := by decide +kernel
theorem dX5_isSo_91 : decode cX5_isSo 91 = .ok (.ireturn, 1) := by decide +kernel
theorem dX5_isSo_92 : decode cX5_isSo 92 = .ok (.aload_n 0, 1) := by decide +kernel
theorem dX5_isSo_93 : decode cX5_isSo 93 = .ok (.getfield 32, 3) := by decide +kernel
theorem dX5_isSo_96 : decode cX5_isSo 96 = .ok (.iload_n 2, 1) := by decide +kernel
theorem dX5_isSo_97 : decode cX5_isSo 97 = .ok (.iaload, 1) := by decide +kernel
theorem dX5_isSo_98 : decode cX5_isSo 98 = .ok (.iload_n 3, 1) := by decide +kernel
theorem dX5_isSo_99 : decode cX5_isSo 99 = .ok (.if_icmp .le 7, 3) := by decide +kernel
theorem dX5_isSo_102 : decode cX5_isSo 102 = .ok (.iconst 1, 1) := by decide +kernel
theorem dX5_isSo_103 : decode cX5_isSo 103 = .ok (.goto 4, 3) := by decide +kernel
theorem dX5_isSo_106 : decode cX5_isSo 106 = .ok (.iconst 0, 1) := by decide +kernel
theorem dX5_isSo_107 : decode cX5_isSo 107 = .ok (.ireturn, 1) := by decide +kernel
