theorem dX6_init_0 : decode cX6_init 0 = .ok (.aload_n 0, 1) := by decide +kernel
theorem dX6_init_1 : decode cX6_init 1 = .ok (.invokespecial 3, 3) := by decide +kernel
theorem dX6_init_4 : decode cX6_init 4 = .ok (.aload_n 0, 1) := by decide +kernel
theorem dX6_init_5 : decode cX6_init 5 = .ok (.sipush 128, 3) := by decide +kernel
theorem dX6_init_8 : decode cX6_init 8 = .ok (.newarray .int, 2) := by decide +kernel
theorem dX6_init_10 : decode cX6_init 10 = .ok (.putfield 9, 3) := by decide +kernel
theorem dX6_init_13 : decode cX6_init 13 = .ok (.aload_n 0, 1) := by decide +kernel
theorem dX6_init_14 : decode cX6_init 14 = .ok (.sipush 128, 3) := by decide +kernel
theorem dX6_init_17 : decode cX6_init 17 = .ok (.newarray .boolean, 2) := by decide +kernel
theorem dX6_init_19 : decode cX6_init 19 = .ok (.putfield 15, 3) := by decide +kernel
theorem dX6_init_22 : decode cX6_init 22 = .ok (.aload_n 0, 1) := by decide +kernel
theorem dX6_init_23 : decode cX6_init 23 = .ok (.bipush 8, 2) := by decide +kernel
theorem dX6_init_25 : decode cX6_init 25 = .ok (.newarray .int, 2) := by decide +kernel
theorem dX6_init_27 : decode cX6_init 27 = .ok (.putfield 19, 3) := by decide +kernel
theorem dX6_init_30 : decode cX6_init 30 = .ok (.aload_n 0, 1) := by decide +kernel
theorem dX6_init_31 : decode cX6_init 31 = .ok (.bipush 8, 2) := by decide +kernel
theorem dX6_init_33 : decode cX6_init 33 = .ok (.newarray .int, 2) := by decide +kernel
theorem dX6_init_35 : decode cX6_init 35 = .ok (.putfield 22, 3) := by decide +kernel
theorem dX6_init_38 : decode cX6_init 38 = .ok (.aload_n 0, 1) := by decide +kernel
theorem dX6_init_39 : decode cX6_init 39 = .ok (.bipush 8, 2) := by decide +kernel
theorem dX6_init_41 : decode cX6_init 41 = .ok (.newarray .int, 2) := by decide +kernel
theorem dX6_init_43 : decode cX6_init 43 = .ok (.putfield 25, 3) := by decide +kernel
theorem dX6_init_46 : decode cX6_init 46 = .ok (.return_, 1) := by decide +kernel
set_option maxRecDepth 20000 in
theorem ggX6_fill_X7_at : GoodIn wsX6_fill wsX7_at := goodIn_r _ [9, 10, 11, 149, 150, 151, 152, 153, 154, 155] (by decide +kernel) (by decide +kernel)
set_option maxRecDepth 20000 in
theorem gX6_fill_X7_at : GoodIn wsX6_fill (wsV RX6 34 RX7 yX7_at wsX7_at) := goodIn_app (goodIn_of _ (by decide +kernel)) ggX6_fill_X7_at
set_option maxRecDepth 20000 in
theorem ggX6_fill_X6_cellOf : GoodIn wsX6_fill wsX6_cellOf := goodIn_r _ [15] (by decide +kernel) (by decide +kernel)
set_option maxRecDepth 20000 in
theorem gX6_fill_X6_cellOf : GoodIn wsX6_fill (va_wsS RX6 38 yX6_cellOf wsX6_cellOf) := goodIn_app (goodIn_of _ (by decide +kernel)) ggX6_fill_X6_cellOf
set_option maxRecDepth 20000 in
theorem ggX6_fill_X5_worth : GoodIn wsX6_fill wsX5_worth := goodIn_r _ [20, 21, 22, 23, 19, 24, 25, 26, 27, 28, 29, 30, 31, 32, 33, 34, 35, 36, 8, 37, 10, 38, 39, 40, 41, 42, 43, 44, 45, 46, 47, 48, 49, 50, 51, 52, 53, 54, 55, 56, 57, 58, 59, 60, 61, 62, 63, 64, 65, 66, 67, 68, 69, 70, 71, 72, 73, 74, 75, 76, 77, 78, 79, 80, 81, 82, 83, 84, 85, 86, 87, 88, 89, 90, 91, 92, 93, 94, 95, 96, 97, 98, 99, 100, 101, 102, 103, 104, 105, 106, 107, 108, 109, 110, 111, 112, 113, 114, 115, 116, 117, 118, 119, 120, 121, 122, 123, 124, 125, 126, 164, 165, 166, 167, 168, 169, 170, 171, 172, 173, 174, 175, 176, 177, 178, 179, 180, 181, 182, 183, 184, 185, 186, 187, 188, 189, 190, 191, 192, 193, 194, 195, 196, 197, 198, 199, 200, 201, 202, 203, 204, 205, 206, 207, 208, 209, 149, 150, 151, 152, 153, 154, 155] (by decide +kernel) (by decide +kernel)
set_option maxRecDepth 20000 in
theorem gX6_fill_X5_worth : GoodIn wsX6_fill (wsV RX6 42 RX5 yX5_worth wsX5_worth) := goodIn_app (goodIn_of _ (by decide +kernel)) ggX6_fill_X5_worth
set_option maxRecDepth 20000 in
theorem ggX6_fill_X5_isBarred : GoodIn wsX6_fill wsX5_isBarred := goodIn_r _ [130, 21, 22, 23, 19, 24, 25, 26, 27, 28, 29, 30, 31, 32, 33, 34, 35, 36, 8, 37, 10, 38, 39, 40, 41, 42, 43, 44, 45, 46, 47, 48, 49, 50, 51, 52, 53, 54, 55, 164, 165, 166, 167, 168, 169, 170, 171, 172, 173, 174, 175, 176, 177, 178, 179, 180, 181, 182, 183, 184, 185, 186, 187, 188, 189, 190, 191, 192, 193, 194, 195, 196, 197, 198, 199, 200, 201, 202, 203, 204, 205, 206, 207, 208, 209, 149, 150, 151, 152, 153, 154, 155] (by decide +kernel) (by decide +kernel)
set_option maxRecDepth 20000 in
theorem gX6_fill_X5_isBarred : GoodIn wsX6_fill (wsV RX6 48 RX5 yX5_isBarred wsX5_isBarred) := goodIn_app (goodIn_of _ (by decide +kernel)) ggX6_fill_X5_isBarred
set_option maxRecDepth 20000 in
theorem ggX6_fill_X0_burden : GoodIn wsX6_fill wsX0_burden := goodIn_r _ [137, 138, 139, 175, 176, 177, 178, 179, 180, 181, 182, 183, 184, 185, 186, 187, 188, 189, 190, 191, 192, 193, 194, 195, 196, 197, 198, 199, 200, 201, 202, 203, 204, 205, 206, 207, 208, 209] (by decide +kernel) (by decide +kernel)
set_option maxRecDepth 20000 in
theorem gX6_fill_X0_burden_u52X0 : GoodIn wsX6_fill (va_wsO RX6 52 RX0 "WhoSitsBy$Pupil" ⟨"WhoSitsBy$Pupil", "burden", "()I"⟩ yX0_burden wsX0_burden) := goodIn_app (goodIn_of _ (by decide +kernel)) ggX6_fill_X0_burden
set_option maxRecDepth 20000 in
theorem ggX6_fill_X4_burden : GoodIn wsX6_fill wsX4_burden := goodIn_r _ [140] (by decide +kernel) (by decide +kernel)
set_option maxRecDepth 20000 in
theorem gX6_fill_X4_burden_u52X1 : GoodIn wsX6_fill (va_wsU RX6 52 RX1 "WhoSitsBy$Pupil" ⟨"WhoSitsBy$Pupil", "burden", "()I"⟩ yX4_burden wsX4_burden) := goodIn_app (goodIn_of _ (by decide +kernel)) ggX6_fill_X4_burden
set_option maxRecDepth 20000 in
theorem gX6_fill_X4_burden_u52X2 : GoodIn wsX6_fill (va_wsU RX6 52 RX2 "WhoSitsBy$Pupil" ⟨"WhoSitsBy$Pupil", "burden", "()I"⟩ yX4_burden wsX4_burden) := goodIn_app (goodIn_of _ (by decide +kernel)) ggX6_fill_X4_burden
set_option maxRecDepth 20000 in
theorem gX6_fill_X4_burden_u52X3 : GoodIn wsX6_fill (va_wsU RX6 52 RX3 "WhoSitsBy$Pupil" ⟨"WhoSitsBy$Pupil", "burden", "()I"⟩ yX4_burden wsX4_burden) := goodIn_app (goodIn_of _ (by decide +kernel)) ggX6_fill_X4_burden
set_option maxRecDepth 20000 in
theorem gX6_fill_X4_burden : GoodIn wsX6_fill (wsV RX6 52 RX4 yX4_burden wsX4_burden) := goodIn_app (goodIn_of _ (by decide +kernel)) ggX6_fill_X4_burden
set_option maxRecDepth 20000 in
theorem gX6_fill_X4_burden_u52X8 : GoodIn wsX6_fill (va_wsU RX6 52 RX8 "WhoSitsBy$Pupil" ⟨"WhoSitsBy$Pupil", "burden", "()I"⟩ yX4_burden wsX4_burden) := goodIn_app (goodIn_of _ (by decide +kernel)) ggX6_fill_X4_burden
set_option maxRecDepth 20000 in
theorem gX6_fill_X4_burden_u52X10 : GoodIn wsX6_fill (va_wsU RX6 52 RX10 "WhoSitsBy$Pupil" ⟨"WhoSitsBy$Pupil", "burden", "()I"⟩ yX4_burden wsX4_burden) := goodIn_app (goodIn_of _ (by decide +kernel)) ggX6_fill_X4_burden
theorem dX6_fill_0 : decode cX6_fill 0 = .ok (.iconst 0, 1) := by decide +kernel
theorem dX6_fill_1 : decode cX6_fill 1 = .ok (.istore_n 3, 1) := by decide +kernel
theorem dX6_fill_2 : decode cX6_fill 2 = .ok (.iload_n 3, 1) := by decide +kernel
theorem dX6_fill_3 : decode cX6_fill 3 = .ok (.aload_n 1, 1) := by decide +kernel
theorem dX6_fill_4 : decode cX6_fill 4 = .ok (.getfield 28, 3) := by decide +kernel
theorem dX6_fill_7 : decode cX6_fill 7 = .ok (.if_icmp .ge 118, 3) := by decide +kernel
theorem dX6_fill_10 : decode cX6_fill 10 = .ok (.iconst 0, 1) := by decide +kernel
theorem dX6_fill_11 : decode cX6_fill 11 = .ok (.istore 4, 2) := by decide +kernel
theorem dX6_fill_13 : decode cX6_fill 13 = .ok (.iload 4, 2) := by decide +kernel
theorem dX6_fill_15 : decode cX6_fill 15 = .ok (.aload_n 1, 1) := by decide +kernel
theorem dX6_fill_16 : decode cX6_fill 16 = .ok (.getfield 28, 3) := by decide +kernel
theorem dX6_fill_19 : decode cX6_fill 19 = .ok (.if_icmp .ge 100, 3) := by decide +kernel
theorem dX6_fill_22 : decode cX6_fill 22 = .ok (.iconst 0, 1) := by decide +kernel
theorem dX6_fill_23 : decode cX6_fill 23 = .ok (.istore 5, 2) := by decide +kernel
theorem dX6_fill_25 : decode cX6_fill 25 = .ok (.iload 5, 2) := by decide +kernel
theorem dX6_fill_27 : decode cX6_fill 27 = .ok (.iconst 2, 1) := by decide +kernel
theorem dX6_fill_28 : decode cX6_fill 28 = .ok (.if_icmp .ge 85, 3) := by decide +kernel
theorem dX6_fill_31 : decode cX6_fill 31 = .ok (.aload_n 1, 1) := by decide +kernel
theorem dX6_fill_32 : decode cX6_fill 32 = .ok (.iload_n 3, 1) := by decide +kernel
theorem dX6_fill_33 : decode cX6_fill 33 = .ok (.invokevirtual 34, 3) := by decide +kernel
theorem dX6_fill_36 : decode cX6_fill 36 = .ok (.astore 6, 2) := by decide +kernel
theorem dX6_fill_38 : decode cX6_fill 38 = .ok (.aload_n 1, 1) := by decide +kernel
theorem dX6_fill_39 : decode cX6_fill 39 = .ok (.iload 4, 2) := by decide +kernel
theorem dX6_fill_41 : decode cX6_fill 41 = .ok (.invokevirtual 34, 3) := by decide +kernel
theorem dX6_fill_44 : decode cX6_fill 44 = .ok (.astore 7, 2) := by decide +kernel
theorem dX6_fill_46 : decode cX6_fill 46 = .ok (.iload_n 3, 1) := by decide +kernel
theorem dX6_fill_47 : decode cX6_fill 47 = .ok (.iload 4, 2) := by decide +kernel
theorem dX6_fill_49 : decode cX6_fill 49 = .ok (.iload 5, 2) := by decide +kernel
theorem dX6_fill_51 : decode cX6_fill 51 = .ok (.invokestatic 38, 3) := by decide +kernel
theorem dX6_fill_54 : decode cX6_fill 54 = .ok (.istore 8, 2) := by decide +kernel
theorem dX6_fill_56 : decode cX6_fill 56 = .ok (.aload 6, 2) := by decide +kernel
theorem dX6_fill_58 : decode cX6_fill 58 = .ok (.ifnull 49, 3) := by decide +kernel
theorem dX6_fill_61 : decode cX6_fill 61 = .ok (.aload 7, 2) := by decide +kernel
theorem dX6_fill_63 : decode cX6_fill 63 = .ok (.ifnull 44, 3) := by decide +kernel
theorem dX6_fill_66 : decode cX6_fill 66 = .ok (.iload 8, 2) := by decide +kernel
theorem dX6_fill_68 : decode cX6_fill 68 = .ok (.ifCond .lt 39, 3) := by decide +kernel
theorem dX6_fill_71 : decode cX6_fill 71 = .ok (.aload_n 0, 1) := by decide +kernel
theorem dX6_fill_72 : decode cX6_fill 72 = .ok (.getfield 9, 3) := by decide +kernel
theorem dX6_fill_75 : decode cX6_fill 75 = .ok (.iload 8, 2) := by decide +kernel
theorem dX6_fill_77 : decode cX6_fill 77 = .ok (.aload_n 2, 1) := by decide +kernel
theorem dX6_fill_78 : decode cX6_fill 78 = .ok (.aload 6, 2) := by decide +kernel
theorem dX6_fill_80 : decode cX6_fill 80 = .ok (.aload 7, 2) := by decide +kernel
theorem dX6_fill_82 : decode cX6_fill 82 = .ok (.iload 5, 2) := by decide +kernel
theorem dX6_fill_84 : decode cX6_fill 84 = .ok (.aload_n 1, 1) := by decide +kernel
theorem dX6_fill_85 : decode cX6_fill 85 = .ok (.invokevirtual 42, 3) := by decide +kernel
theorem dX6_fill_88 : decode cX6_fill 88 = .ok (.iastore, 1) := by decide +kernel
theorem dX6_fill_89 : decode cX6_fill 89 = .ok (.aload_n 0, 1) := by decide +kernel
theorem dX6_fill_90 : decode cX6_fill 90 = .ok (.getfield 15, 3) := by decide +kernel
theorem dX6_fill_93 : decode cX6_fill 93 = .ok (.iload 8, 2) := by decide +kernel
theorem dX6_fill_95 : decode cX6_fill 95 = .ok (.aload_n 2, 1) := by decide +kernel
theorem dX6_fill_96 : decode cX6_fill 96 = .ok (.aload 6, 2) := by decide +kernel
theorem dX6_fill_98 : decode cX6_fill 98 = .ok (.aload 7, 2) := by decide +kernel
theorem dX6_fill_100 : decode cX6_fill 100 = .ok (.iload 5, 2) := by decide +kernel
theorem dX6_fill_102 : decode cX6_fill 102 = .ok (.aload_n 1, 1) := by decide +kernel
theorem dX6_fill_103 : decode cX6_fill 103 = .ok (.invokevirtual 48, 3) := by decide +kernel
theorem dX6_fill_106 : decode cX6_fill 106 = .ok (.bastore, 1) := by decide +kernel
theorem dX6_fill_107 : decode cX6_fill 107 = .ok (.iinc 5 1, 3) := by decide +kernel
theorem dX6_fill_110 : decode cX6_fill 110 = .ok (.goto (-85), 3) := by decide +kernel
theorem dX6_fill_113 : decode cX6_fill 113 = .ok (.iinc 4 1, 3) := by decide +kernel
theorem dX6_fill_116 : decode cX6_fill 116 = .ok (.goto (-103), 3) := by decide +kernel
theorem dX6_fill_119 : decode cX6_fill 119 = .ok (.iinc 3 1, 3) := by decide +kernel
theorem dX6_fill_122 : decode cX6_fill 122 = .ok (.goto (-120), 3) := by decide +kernel
theorem dX6_fill_125 : decode cX6_fill 125 = .ok (.iconst 0, 1) := by decide +kernel
theorem dX6_fill_126 : decode cX6_fill 126 = .ok (.istore_n 3, 1) := by decide +kernel
theorem dX6_fill_127 : decode cX6_fill 127 = .ok (.iload_n 3, 1) := by decide +kernel
theorem dX6_fill_128 : decode cX6_fill 128 = .ok (.bipush 8, 2) := by decide +kernel
theorem dX6_fill_130 : decode cX6_fill 130 = .ok (.if_icmp .ge 36, 3) := by decide +kernel
theorem dX6_fill_133 : decode cX6_fill 133 = .ok (.aload_n 1, 1) := by decide +kernel
theorem dX6_fill_134 : decode cX6_fill 134 = .ok (.iload_n 3, 1) := by decide +kernel
theorem dX6_fill_135 : decode cX6_fill 135 = .ok (.invokevirtual 34, 3) := by decide +kernel
theorem dX6_fill_138 : decode cX6_fill 138 = .ok (.astore 4, 2) := by decide +kernel
theorem dX6_fill_140 : decode cX6_fill 140 = .ok (.aload_n 0, 1) := by decide +kernel
theorem dX6_fill_141 : decode cX6_fill 141 = .ok (.getfield 19, 3) := by decide +kernel
theorem dX6_fill_144 : decode cX6_fill 144 = .ok (.iload_n 3, 1) := by decide +kernel
theorem dX6_fill_145 : decode cX6_fill 145 = .ok (.aload 4, 2) := by decide +kernel
theorem dX6_fill_147 : decode cX6_fill 147 = .ok (.ifnonnull 7, 3) := by decide +kernel
theorem dX6_fill_150 : decode cX6_fill 150 = .ok (.iconst 0, 1) := by decide +kernel
theorem dX6_fill_151 : decode cX6_fill 151 = .ok (.goto 8, 3) := by decide +kernel
theorem dX6_fill_154 : decode cX6_fill 154 = .ok (.aload 4, 2) := by decide +kernel
theorem dX6_fill_156 : decode cX6_fill 156 = .ok (.invokevirtual 52, 3) := by decide +kernel
theorem dX6_fill_159 : decode cX6_fill 159 = .ok (.iastore, 1) := by decide +kernel
theorem dX6_fill_160 : decode cX6_fill 160 = .ok (.iinc 3 1, 3) := by decide +kernel
theorem dX6_fill_163 : decode cX6_fill 163 = .ok (.goto (-36), 3) := by decide +kernel
theorem dX6_fill_166 : decode cX6_fill 166 = .ok (.return_, 1) := by decide +kernel
theorem dX6_cellOf_0 : decode cX6_cellOf 0 = .ok (.iload_n 0, 1) := by decide +kernel
theorem dX6_cellOf_1 : decode cX6_cellOf 1 = .ok (.ifCond .lt 33, 3) := by decide +kernel
theorem dX6_cellOf_4 : decode cX6_cellOf 4 = .ok (.iload_n 0, 1) := by decide +kernel
theorem dX6_cellOf_5 : decode cX6_cellOf 5 = .ok (.bipush 8, 2) := by decide +kernel
theorem dX6_cellOf_7 : decode cX6_cellOf 7 = .ok (.if_icmp .ge 27, 3) := by decide +kernel
theorem dX6_cellOf_10 : decode cX6_cellOf 10 = .ok (.iload_n 1, 1) := by decide +kernel
theorem dX6_cellOf_11 : decode cX6_cellOf 11 = .ok (.ifCond .lt 23, 3) := by decide +kernel
theorem dX6_cellOf_14 : decode cX6_cellOf 14 = .ok (.iload_n 1, 1) := by decide +kernel
theorem dX6_cellOf_15 : decode cX6_cellOf 15 = .ok (.bipush 8, 2) := by decide +kernel
theorem dX6_cellOf_17 : decode cX6_cellOf 17 = .ok (.if_icmp .ge 17, 3) := by decide +kernel
theorem dX6_cellOf_20 : decode cX6_cellOf 20 = .ok (.iload_n 0, 1) := by decide +kernel
theorem dX6_cellOf_21 : decode cX6_cellOf 21 = .ok (.iload_n 1, 1) := by decide +kernel
theorem dX6_cellOf_22 : decode cX6_cellOf 22 = .ok (.if_icmp .eq 12, 3) := by decide +kernel
theorem dX6_cellOf_25 : decode cX6_cellOf 25 = .ok (.iload_n 2, 1) := by decide +kernel
theorem dX6_cellOf_26 : decode cX6_cellOf 26 = .ok (.ifCond .lt 8, 3) := by decide +kernel
theorem dX6_cellOf_29 : decode cX6_cellOf 29 = .ok (.iload_n 2, 1) := by decide +kernel
theorem dX6_cellOf_30 : decode cX6_cellOf 30 = .ok (.iconst 1, 1) := by decide +kernel
theorem dX6_cellOf_31 : decode cX6_cellOf 31 = .ok (.if_icmp .le 5, 3) := by decide +kernel
theorem dX6_cellOf_34 : decode cX6_cellOf 34 = .ok (.iconst (-1), 1) := by decide +kernel
theorem dX6_cellOf_35 : decode cX6_cellOf 35 = .ok (.ireturn, 1) := by decide +kernel
theorem dX6_cellOf_36 : decode cX6_cellOf 36 = .ok (.iload_n 2, 1) := by decide +kernel
theorem dX6_cellOf_37 : decode cX6_cellOf 37 = .ok (.bipush 8, 2) := by decide +kernel
theorem dX6_cellOf_39 : decode cX6_cellOf 39 = .ok (.imul, 1) := by decide +kernel
theorem dX6_cellOf_40 : decode cX6_cellOf 40 = .ok (.iload_n 0, 1) := by decide +kernel
theorem dX6_cellOf_41 : decode cX6_cellOf 41 = .ok (.iadd, 1) := by decide +kernel
theorem dX6_cellOf_42 : decode cX6_cellOf 42 = .ok (.bipush 8, 2) := by decide +kernel
theorem dX6_cellOf_44 : decode cX6_cellOf 44 = .ok (.imul, 1) := by decide +kernel
theorem dX6_cellOf_45 : decode cX6_cellOf 45 = .ok (.iload_n 1, 1) := by decide +kernel
theorem dX6_cellOf_46 : decode cX6_cellOf 46 = .ok (.iadd, 1) := by decide +kernel
theorem dX6_cellOf_47 : decode cX6_cellOf 47 = .ok (.ireturn, 1) := by decide +kernel
set_option maxRecDepth 20000 in
theorem ggX6_worthAt_X6_cellOf : GoodIn wsX6_worthAt wsX6_cellOf := goodIn_r _ [5] (by decide +kernel) (by decide +kernel)
set_option maxRecDepth 20000 in
theorem gX6_worthAt_X6_cellOf : GoodIn wsX6_worthAt (va_wsS RX6 38 yX6_cellOf wsX6_cellOf) := goodIn_app (goodIn_of _ (by decide +kernel)) ggX6_worthAt_X6_cellOf
theorem dX6_worthAt_0 : decode cX6_worthAt 0 = .ok (.iload_n 1, 1) := by decide +kernel
theorem dX6_worthAt_1 : decode cX6_worthAt 1 = .ok (.iload_n 2, 1) := by decide +kernel
theorem dX6_worthAt_2 : decode cX6_worthAt 2 = .ok (.iload_n 3, 1) := by decide +kernel
theorem dX6_worthAt_3 : decode cX6_worthAt 3 = .ok (.invokestatic 38, 3) := by decide +kernel
theorem dX6_worthAt_6 : decode cX6_worthAt 6 = .ok (.istore 4, 2) := by decide +kernel
theorem dX6_worthAt_8 : decode cX6_worthAt 8 = .ok (.iload 4, 2) := by decide +kernel
theorem dX6_worthAt_10 : decode cX6_worthAt 10 = .ok (.ifCond .ge 7, 3) := by decide +kernel
theorem dX6_worthAt_13 : decode cX6_worthAt 13 = .ok (.iconst 0, 1) := by decide +kernel
theorem dX6_worthAt_14 : decode cX6_worthAt 14 = .ok (.goto 10, 3) := by decide +kernel
theorem dX6_worthAt_17 : decode cX6_worthAt 17 = .ok (.aload_n 0, 1) := by decide +kernel
theorem dX6_worthAt_18 : decode cX6_worthAt 18 = .ok (.getfield 9, 3) := by decide +kernel
theorem dX6_worthAt_21 : decode cX6_worthAt 21 = .ok (.iload 4, 2) := by decide +kernel
theorem dX6_worthAt_23 : decode cX6_worthAt 23 = .ok (.iaload, 1) := by decide +kernel
theorem dX6_worthAt_24 : decode cX6_worthAt 24 = .ok (.ireturn, 1) := by decide +kernel
set_option maxRecDepth 20000 in
theorem ggX6_isBarredAt_X6_cellOf : GoodIn wsX6_isBarredAt wsX6_cellOf := goodIn_r _ [5] (by decide +kernel) (by decide +kernel)
set_option maxRecDepth 20000 in
theorem gX6_isBarredAt_X6_cellOf : GoodIn wsX6_isBarredAt (va_wsS RX6 38 yX6_cellOf wsX6_cellOf) := goodIn_app (goodIn_of _ (by decide +kernel)) ggX6_isBarredAt_X6_cellOf
theorem dX6_isBarredAt_0 : decode cX6_isBarredAt 0 = .ok (.iload_n 1, 1) := by decide +kernel
theorem dX6_isBarredAt_1 : decode cX6_isBarredAt 1 = .ok (.iload_n 2, 1) := by decide +kernel
theorem dX6_isBarredAt_2 : decode cX6_isBarredAt 2 = .ok (.iload_n 3, 1) := by decide +kernel
theorem dX6_isBarredAt_3 : decode cX6_isBarredAt 3 = .ok (.invokestatic 38, 3) := by decide +kernel
theorem dX6_isBarredAt_6 : decode cX6_isBarredAt 6 = .ok (.istore 4, 2) := by decide +kernel
theorem dX6_isBarredAt_8 : decode cX6_isBarredAt 8 = .ok (.iload 4, 2) := by decide +kernel
theorem dX6_isBarredAt_10 : decode cX6_isBarredAt 10 = .ok (.ifCond .lt 17, 3) := by decide +kernel
theorem dX6_isBarredAt_13 : decode cX6_isBarredAt 13 = .ok (.aload_n 0, 1) := by decide +kernel
theorem dX6_isBarredAt_14 : decode cX6_isBarredAt 14 = .ok (.getfield 15, 3) := by decide +kernel
theorem dX6_isBarredAt_17 : decode cX6_isBarredAt 17 = .ok (.iload 4, 2) := by decide +kernel
theorem dX6_isBarredAt_19 : decode cX6_isBarredAt 19 = .ok (.baload, 1) := by decide +kernel
theorem dX6_isBarredAt_20 : decode cX6_isBarredAt 20 = .ok (.ifCond .eq 7, 3) := by decide +kernel
theorem dX6_isBarredAt_23 : decode cX6_isBarredAt 23 = .ok (.iconst 1, 1) := by decide +kernel
theorem dX6_isBarredAt_24 : decode cX6_isBarredAt 24 = .ok (.goto 4, 3) := by decide +kernel
theorem dX6_isBarredAt_27 : decode cX6_isBarredAt 27 = .ok (.iconst 0, 1) := by decide +kernel
theorem dX6_isBarredAt_28 : decode cX6_isBarredAt 28 = .ok (.ireturn, 1) := by decide +kernel
theorem dX6_burdenOf_0 : decode cX6_burdenOf 0 = .ok (.iload_n 1, 1) := by decide +kernel
theorem dX6_burdenOf_1 : decode cX6_burdenOf 1 = .ok (.ifCond .lt 21, 3) := by decide +kernel
theorem dX6_burdenOf_4 : decode cX6_burdenOf 4 = .ok (.iload_n 1, 1) := by decide +kernel
theorem dX6_burdenOf_5 : decode cX6_burdenOf 5 = .ok (.aload_n 0, 1) := by decide +kernel
theorem dX6_burdenOf_6 : decode cX6_burdenOf 6 = .ok (.getfield 19, 3) := by decide +kernel
theorem dX6_burdenOf_9 : decode cX6_burdenOf 9 = .ok (.arraylength, 1) := by decide +kernel
theorem dX6_burdenOf_10 : decode cX6_burdenOf 10 = .ok (.if_icmp .ge 12, 3) := by decide +kernel
theorem dX6_burdenOf_13 : decode cX6_burdenOf 13 = .ok (.aload_n 0, 1) := by decide +kernel
theorem dX6_burdenOf_14 : decode cX6_burdenOf 14 = .ok (.getfield 19, 3) := by decide +kernel
theorem dX6_burdenOf_17 : decode cX6_burdenOf 17 = .ok (.iload_n 1, 1) := by decide +kernel
theorem dX6_burdenOf_18 : decode cX6_burdenOf 18 = .ok (.iaload, 1) := by decide +kernel
theorem dX6_burdenOf_19 : decode cX6_burdenOf 19 = .ok (.goto 4, 3) := by decide +kernel
theorem dX6_burdenOf_22 : decode cX6_burdenOf 22 = .ok (.iconst 0, 1) := by decide +kernel
theorem dX6_burdenOf_23 : decode cX6_burdenOf 23 = .ok (.ireturn, 1) := by decide +kernel
set_option maxRecDepth 20000 in
theorem ggX6_worthOf_X11_sittersAt : GoodIn wsX6_worthOf wsX11_sittersAt := goodIn_r _ [3] (by decide +kernel) (by decide +kernel)
set_option maxRecDepth 20000 in
theorem gX6_worthOf_X11_sittersAt_n58 : GoodIn wsX6_worthOf (wsX11_sittersAt) := ggX6_worthOf_X11_sittersAt
set_option maxRecDepth 20000 in
theorem ggX6_worthOf_X6_worthAt : GoodIn wsX6_worthOf wsX6_worthAt := goodIn_r _ [8, 9, 10, 11, 7, 12, 18, 19, 20, 21, 22, 23, 24, 25] (by decide +kernel) (by decide +kernel)
set_option maxRecDepth 20000 in
theorem gX6_worthOf_X6_worthAt : GoodIn wsX6_worthOf (wsV RX6 62 RX6 yX6_worthAt wsX6_worthAt) := goodIn_app (goodIn_of _ (by decide +kernel)) ggX6_worthOf_X6_worthAt
set_option maxRecDepth 20000 in
theorem ggX6_worthOf_X6_burdenOf : GoodIn wsX6_worthOf wsX6_burdenOf := goodIn_r _ [16, 17, 18, 19, 20, 21, 22, 23, 24, 25] (by decide +kernel) (by decide +kernel)
set_option maxRecDepth 20000 in
theorem gX6_worthOf_X6_burdenOf : GoodIn wsX6_worthOf (wsV RX6 65 RX6 yX6_burdenOf wsX6_burdenOf) := goodIn_app (goodIn_of _ (by decide +kernel)) ggX6_worthOf_X6_burdenOf
theorem dX6_worthOf_0 : decode cX6_worthOf 0 = .ok (.iconst 0, 1) := by decide +kernel
theorem dX6_worthOf_1 : decode cX6_worthOf 1 = .ok (.istore_n 2, 1) := by decide +kernel
theorem dX6_worthOf_2 : decode cX6_worthOf 2 = .ok (.iconst 0, 1) := by decide +kernel
theorem dX6_worthOf_3 : decode cX6_worthOf 3 = .ok (.istore_n 3, 1) := by decide +kernel
theorem dX6_worthOf_4 : decode cX6_worthOf 4 = .ok (.iload_n 3, 1) := by decide +kernel
theorem dX6_worthOf_5 : decode cX6_worthOf 5 = .ok (.iconst 1, 1) := by decide +kernel
theorem dX6_worthOf_6 : decode cX6_worthOf 6 = .ok (.iadd, 1) := by decide +kernel
theorem dX6_worthOf_7 : decode cX6_worthOf 7 = .ok (.aload_n 1, 1) := by decide +kernel
theorem dX6_worthOf_8 : decode cX6_worthOf 8 = .ok (.arraylength, 1) := by decide +kernel
theorem dX6_worthOf_9 : decode cX6_worthOf 9 = .ok (.if_icmp .ge 90, 3) := by decide +kernel
theorem dX6_worthOf_12 : decode cX6_worthOf 12 = .ok (.aload_n 1, 1) := by decide +kernel
theorem dX6_worthOf_13 : decode cX6_worthOf 13 = .ok (.iload_n 3, 1) := by decide +kernel
theorem dX6_worthOf_14 : decode cX6_worthOf 14 = .ok (.iaload, 1) := by decide +kernel
theorem dX6_worthOf_15 : decode cX6_worthOf 15 = .ok (.istore 4, 2) := by decide +kernel
theorem dX6_worthOf_17 : decode cX6_worthOf 17 = .ok (.aload_n 1, 1) := by decide +kernel
theorem dX6_worthOf_18 : decode cX6_worthOf 18 = .ok (.iload_n 3, 1) := by decide +kernel
theorem dX6_worthOf_19 : decode cX6_worthOf 19 = .ok (.iconst 1, 1) := by decide +kernel
theorem dX6_worthOf_20 : decode cX6_worthOf 20 = .ok (.iadd, 1) := by decide +kernel
theorem dX6_worthOf_21 : decode cX6_worthOf 21 = .ok (.iaload, 1) := by decide +kernel
theorem dX6_worthOf_22 : decode cX6_worthOf 22 = .ok (.istore 5, 2) := by decide +kernel
theorem dX6_worthOf_24 : decode cX6_worthOf 24 = .ok (.iload 4, 2) := by decide +kernel
theorem dX6_worthOf_26 : decode cX6_worthOf 26 = .ok (.ifCond .lt 67, 3) := by decide +kernel
theorem dX6_worthOf_29 : decode cX6_worthOf 29 = .ok (.iload 5, 2) := by decide +kernel
theorem dX6_worthOf_31 : decode cX6_worthOf 31 = .ok (.ifCond .lt 62, 3) := by decide +kernel
theorem dX6_worthOf_34 : decode cX6_worthOf 34 = .ok (.iload_n 3, 1) := by decide +kernel
theorem dX6_worthOf_35 : decode cX6_worthOf 35 = .ok (.iconst 4, 1) := by decide +kernel
theorem dX6_worthOf_36 : decode cX6_worthOf 36 = .ok (.idiv, 1) := by decide +kernel
theorem dX6_worthOf_37 : decode cX6_worthOf 37 = .ok (.istore 6, 2) := by decide +kernel
theorem dX6_worthOf_39 : decode cX6_worthOf 39 = .ok (.aload_n 1, 1) := by decide +kernel
theorem dX6_worthOf_40 : decode cX6_worthOf 40 = .ok (.iload_n 3, 1) := by decide +kernel
theorem dX6_worthOf_41 : decode cX6_worthOf 41 = .ok (.iconst 2, 1) := by decide +kernel
theorem dX6_worthOf_42 : decode cX6_worthOf 42 = .ok (.idiv, 1) := by decide +kernel
theorem dX6_worthOf_43 : decode cX6_worthOf 43 = .ok (.iconst 1, 1) := by decide +kernel
theorem dX6_worthOf_44 : decode cX6_worthOf 44 = .ok (.ixor, 1) := by decide +kernel
theorem dX6_worthOf_45 : decode cX6_worthOf 45 = .ok (.invokestatic 58, 3) := by decide +kernel
theorem dX6_worthOf_48 : decode cX6_worthOf 48 = .ok (.istore 7, 2) := by decide +kernel
theorem dX6_worthOf_50 : decode cX6_worthOf 50 = .ok (.iload_n 2, 1) := by decide +kernel
theorem dX6_worthOf_51 : decode cX6_worthOf 51 = .ok (.aload_n 0, 1) := by decide +kernel
theorem dX6_worthOf_52 : decode cX6_worthOf 52 = .ok (.iload 4, 2) := by decide +kernel
theorem dX6_worthOf_54 : decode cX6_worthOf 54 = .ok (.iload 5, 2) := by decide +kernel
theorem dX6_worthOf_56 : decode cX6_worthOf 56 = .ok (.iload 6, 2) := by decide +kernel
theorem dX6_worthOf_58 : decode cX6_worthOf 58 = .ok (.invokevirtual 62, 3) := by decide +kernel
theorem dX6_worthOf_61 : decode cX6_worthOf 61 = .ok (.aload_n 0, 1) := by decide +kernel
theorem dX6_worthOf_62 : decode cX6_worthOf 62 = .ok (.iload 5, 2) := by decide +kernel
theorem dX6_worthOf_64 : decode cX6_worthOf 64 = .ok (.iload 4, 2) := by decide +kernel
theorem dX6_worthOf_66 : decode cX6_worthOf 66 = .ok (.iload 6, 2) := by decide +kernel
theorem dX6_worthOf_68 : decode cX6_worthOf 68 = .ok (.invokevirtual 62, 3) := by decide +kernel
theorem dX6_worthOf_71 : decode cX6_worthOf 71 = .ok (.iadd, 1) := by decide +kernel
theorem dX6_worthOf_72 : decode cX6_worthOf 72 = .ok (.iadd, 1) := by decide +kernel
theorem dX6_worthOf_73 : decode cX6_worthOf 73 = .ok (.istore_n 2, 1) := by decide +kernel
theorem dX6_worthOf_74 : decode cX6_worthOf 74 = .ok (.iload_n 2, 1) := by decide +kernel
theorem dX6_worthOf_75 : decode cX6_worthOf 75 = .ok (.iload 7, 2) := by decide +kernel
theorem dX6_worthOf_77 : decode cX6_worthOf 77 = .ok (.aload_n 0, 1) := by decide +kernel
theorem dX6_worthOf_78 : decode cX6_worthOf 78 = .ok (.iload 4, 2) := by decide +kernel
theorem dX6_worthOf_80 : decode cX6_worthOf 80 = .ok (.invokevirtual 65, 3) := by decide +kernel
theorem dX6_worthOf_83 : decode cX6_worthOf 83 = .ok (.aload_n 0, 1) := by decide +kernel
theorem dX6_worthOf_84 : decode cX6_worthOf 84 = .ok (.iload 5, 2) := by decide +kernel
theorem dX6_worthOf_86 : decode cX6_worthOf 86 = .ok (.invokevirtual 65, 3) := by decide +kernel
theorem dX6_worthOf_89 : decode cX6_worthOf 89 = .ok (.iadd, 1) := by decide +kernel
theorem dX6_worthOf_90 : decode cX6_worthOf 90 = .ok (.imul, 1) := by decide +kernel
theorem dX6_worthOf_91 : decode cX6_worthOf 91 = .ok (.isub, 1) := by decide +kernel
theorem dX6_worthOf_92 : decode cX6_worthOf 92 = .ok (.istore_n 2, 1) := by decide +kernel
theorem dX6_worthOf_93 : decode cX6_worthOf 93 = .ok (.iinc 3 2, 3) := by decide +kernel
theorem dX6_worthOf_96 : decode cX6_worthOf 96 = .ok (.goto (-92), 3) := by decide +kernel
theorem dX6_worthOf_99 : decode cX6_worthOf 99 = .ok (.iload_n 2, 1) := by decide +kernel
theorem dX6_worthOf_100 : decode cX6_worthOf 100 = .ok (.ireturn, 1) := by decide +kernel
set_option maxRecDepth 20000 in
theorem ggX6_breaksOf_X6_isBarredAt : GoodIn wsX6_breaksOf wsX6_isBarredAt := goodIn_r _ [5, 6, 7, 8, 4, 9, 19, 20, 21, 22, 23, 24, 25, 26] (by decide +kernel) (by decide +kernel)
set_option maxRecDepth 20000 in
theorem gX6_breaksOf_X6_isBarredAt : GoodIn wsX6_breaksOf (wsV RX6 69 RX6 yX6_isBarredAt wsX6_isBarredAt) := goodIn_app (goodIn_of _ (by decide +kernel)) ggX6_breaksOf_X6_isBarredAt
set_option maxRecDepth 20000 in
theorem ggX6_breaksOf_X7_needsFront : GoodIn wsX6_breaksOf wsX7_needsFront := goodIn_r _ [14, 15, 16, 17, 18, 27, 28, 29, 30, 31, 32, 33] (by decide +kernel) (by decide +kernel)
set_option maxRecDepth 20000 in
theorem gX6_breaksOf_X7_needsFront : GoodIn wsX6_breaksOf (wsV RX6 73 RX7 yX7_needsFront wsX7_needsFront) := goodIn_app (goodIn_of _ (by decide +kernel)) ggX6_breaksOf_X7_needsFront
theorem dX6_breaksOf_0 : decode cX6_breaksOf 0 = .ok (.iconst 0, 1) := by decide +kernel
theorem dX6_breaksOf_1 : decode cX6_breaksOf 1 = .ok (.istore 4, 2) := by decide +kernel
theorem dX6_breaksOf_3 : decode cX6_breaksOf 3 = .ok (.iconst 0, 1) := by decide +kernel
theorem dX6_breaksOf_4 : decode cX6_breaksOf 4 = .ok (.istore 5, 2) := by decide +kernel
theorem dX6_breaksOf_6 : decode cX6_breaksOf 6 = .ok (.iload 5, 2) := by decide +kernel
theorem dX6_breaksOf_8 : decode cX6_breaksOf 8 = .ok (.iconst 1, 1) := by decide +kernel
theorem dX6_breaksOf_9 : decode cX6_breaksOf 9 = .ok (.iadd, 1) := by decide +kernel
theorem dX6_breaksOf_10 : decode cX6_breaksOf 10 = .ok (.aload_n 1, 1) := by decide +kernel
theorem dX6_breaksOf_11 : decode cX6_breaksOf 11 = .ok (.arraylength, 1) := by decide +kernel
theorem dX6_breaksOf_12 : decode cX6_breaksOf 12 = .ok (.if_icmp .ge 37, 3) := by decide +kernel
theorem dX6_breaksOf_15 : decode cX6_breaksOf 15 = .ok (.iload_n 3, 1) := by decide +kernel
theorem dX6_breaksOf_16 : decode cX6_breaksOf 16 = .ok (.ifCond .eq 33, 3) := by decide +kernel
theorem dX6_breaksOf_19 : decode cX6_breaksOf 19 = .ok (.aload_n 0, 1) := by decide +kernel
theorem dX6_breaksOf_20 : decode cX6_breaksOf 20 = .ok (.aload_n 1, 1) := by decide +kernel
theorem dX6_breaksOf_21 : decode cX6_breaksOf 21 = .ok (.iload 5, 2) := by decide +kernel
theorem dX6_breaksOf_23 : decode cX6_breaksOf 23 = .ok (.iaload, 1) := by decide +kernel
theorem dX6_breaksOf_24 : decode cX6_breaksOf 24 = .ok (.aload_n 1, 1) := by decide +kernel
theorem dX6_breaksOf_25 : decode cX6_breaksOf 25 = .ok (.iload 5, 2) := by decide +kernel
theorem dX6_breaksOf_27 : decode cX6_breaksOf 27 = .ok (.iconst 1, 1) := by decide +kernel
theorem dX6_breaksOf_28 : decode cX6_breaksOf 28 = .ok (.iadd, 1) := by decide +kernel
theorem dX6_breaksOf_29 : decode cX6_breaksOf 29 = .ok (.iaload, 1) := by decide +kernel
theorem dX6_breaksOf_30 : decode cX6_breaksOf 30 = .ok (.iload 5, 2) := by decide +kernel
theorem dX6_breaksOf_32 : decode cX6_breaksOf 32 = .ok (.iconst 4, 1) := by decide +kernel
theorem dX6_breaksOf_33 : decode cX6_breaksOf 33 = .ok (.idiv, 1) := by decide +kernel
theorem dX6_breaksOf_34 : decode cX6_breaksOf 34 = .ok (.invokevirtual 69, 3) := by decide +kernel
theorem dX6_breaksOf_37 : decode cX6_breaksOf 37 = .ok (.ifCond .eq 6, 3) := by decide +kernel
theorem dX6_breaksOf_40 : decode cX6_breaksOf 40 = .ok (.iinc 4 1, 3) := by decide +kernel
theorem dX6_breaksOf_43 : decode cX6_breaksOf 43 = .ok (.iinc 5 2, 3) := by decide +kernel
theorem dX6_breaksOf_46 : decode cX6_breaksOf 46 = .ok (.goto (-40), 3) := by decide +kernel
theorem dX6_breaksOf_49 : decode cX6_breaksOf 49 = .ok (.iconst 4, 1) := by decide +kernel
theorem dX6_breaksOf_50 : decode cX6_breaksOf 50 = .ok (.istore 5, 2) := by decide +kernel
theorem dX6_breaksOf_52 : decode cX6_breaksOf 52 = .ok (.iload 5, 2) := by decide +kernel
theorem dX6_breaksOf_54 : decode cX6_breaksOf 54 = .ok (.aload_n 1, 1) := by decide +kernel
theorem dX6_breaksOf_55 : decode cX6_breaksOf 55 = .ok (.arraylength, 1) := by decide +kernel
theorem dX6_breaksOf_56 : decode cX6_breaksOf 56 = .ok (.if_icmp .ge 28, 3) := by decide +kernel
theorem dX6_breaksOf_59 : decode cX6_breaksOf 59 = .ok (.iload_n 3, 1) := by decide +kernel
theorem dX6_breaksOf_60 : decode cX6_breaksOf 60 = .ok (.iconst 1, 1) := by decide +kernel
theorem dX6_breaksOf_61 : decode cX6_breaksOf 61 = .ok (.if_icmp .eq 23, 3) := by decide +kernel
theorem dX6_breaksOf_64 : decode cX6_breaksOf 64 = .ok (.aload_n 2, 1) := by decide +kernel
theorem dX6_breaksOf_65 : decode cX6_breaksOf 65 = .ok (.aload_n 1, 1) := by decide +kernel
theorem dX6_breaksOf_66 : decode cX6_breaksOf 66 = .ok (.iload 5, 2) := by decide +kernel
theorem dX6_breaksOf_68 : decode cX6_breaksOf 68 = .ok (.iaload, 1) := by decide +kernel
theorem dX6_breaksOf_69 : decode cX6_breaksOf 69 = .ok (.invokevirtual 73, 3) := by decide +kernel
theorem dX6_breaksOf_72 : decode cX6_breaksOf 72 = .ok (.ifCond .eq 6, 3) := by decide +kernel
theorem dX6_breaksOf_75 : decode cX6_breaksOf 75 = .ok (.iinc 4 1, 3) := by decide +kernel
theorem dX6_breaksOf_78 : decode cX6_breaksOf 78 = .ok (.iinc 5 1, 3) := by decide +kernel
theorem dX6_breaksOf_81 : decode cX6_breaksOf 81 = .ok (.goto (-29), 3) := by decide +kernel
theorem dX6_breaksOf_84 : decode cX6_breaksOf 84 = .ok (.iload 4, 2) := by decide +kernel
theorem dX6_breaksOf_86 : decode cX6_breaksOf 86 = .ok (.ireturn, 1) := by decide +kernel
set_option maxRecDepth 20000 in
theorem ggX6_worthOfAllPairs_X6_worthAt : GoodIn wsX6_worthOfAllPairs wsX6_worthAt := goodIn_r _ [5, 6, 7, 8, 4, 9, 10, 11, 12, 13, 14, 15, 16, 17] (by decide +kernel) (by decide +kernel)
set_option maxRecDepth 20000 in
theorem gX6_worthOfAllPairs_X6_worthAt : GoodIn wsX6_worthOfAllPairs (wsV RX6 62 RX6 yX6_worthAt wsX6_worthAt) := goodIn_app (goodIn_of _ (by decide +kernel)) ggX6_worthOfAllPairs_X6_worthAt
theorem dX6_worthOfAllPairs_0 : decode cX6_worthOfAllPairs 0 = .ok (.lconst 0, 1) := by decide +kernel
theorem dX6_worthOfAllPairs_1 : decode cX6_worthOfAllPairs 1 = .ok (.lstore_n 2, 1) := by decide +kernel
theorem dX6_worthOfAllPairs_2 : decode cX6_worthOfAllPairs 2 = .ok (.iconst 0, 1) := by decide +kernel
theorem dX6_worthOfAllPairs_3 : decode cX6_worthOfAllPairs 3 = .ok (.istore 4, 2) := by decide +kernel
theorem dX6_worthOfAllPairs_5 : decode cX6_worthOfAllPairs 5 = .ok (.iload 4, 2) := by decide +kernel
theorem dX6_worthOfAllPairs_7 : decode cX6_worthOfAllPairs 7 = .ok (.iload_n 1, 1) := by decide +kernel
theorem dX6_worthOfAllPairs_8 : decode cX6_worthOfAllPairs 8 = .ok (.if_icmp .ge 47, 3) := by decide +kernel
theorem dX6_worthOfAllPairs_11 : decode cX6_worthOfAllPairs 11 = .ok (.iconst 0, 1) := by decide +kernel
theorem dX6_worthOfAllPairs_12 : decode cX6_worthOfAllPairs 12 = .ok (.istore 5, 2) := by decide +kernel
theorem dX6_worthOfAllPairs_14 : decode cX6_worthOfAllPairs 14 = .ok (.iload 5, 2) := by decide +kernel
theorem dX6_worthOfAllPairs_16 : decode cX6_worthOfAllPairs 16 = .ok (.iload_n 1, 1) := by decide +kernel
theorem dX6_worthOfAllPairs_17 : decode cX6_worthOfAllPairs 17 = .ok (.if_icmp .ge 32, 3) := by decide +kernel
theorem dX6_worthOfAllPairs_20 : decode cX6_worthOfAllPairs 20 = .ok (.lload_n 2, 1) := by decide +kernel
theorem dX6_worthOfAllPairs_21 : decode cX6_worthOfAllPairs 21 = .ok (.aload_n 0, 1) := by decide +kernel
theorem dX6_worthOfAllPairs_22 : decode cX6_worthOfAllPairs 22 = .ok (.iload 4, 2) := by decide +kernel
theorem dX6_worthOfAllPairs_24 : decode cX6_worthOfAllPairs 24 = .ok (.iload 5, 2) := by decide +kernel
theorem dX6_worthOfAllPairs_26 : decode cX6_worthOfAllPairs 26 = .ok (.iconst 0, 1) := by decide +kernel
theorem dX6_worthOfAllPairs_27 : decode cX6_worthOfAllPairs 27 = .ok (.invokevirtual 62, 3) := by decide +kernel
theorem dX6_worthOfAllPairs_30 : decode cX6_worthOfAllPairs 30 = .ok (.aload_n 0, 1) := by decide +kernel
theorem dX6_worthOfAllPairs_31 : decode cX6_worthOfAllPairs 31 = .ok (.iload 4, 2) := by decide +kernel
theorem dX6_worthOfAllPairs_33 : decode cX6_worthOfAllPairs 33 = .ok (.iload 5, 2) := by decide +kernel
theorem dX6_worthOfAllPairs_35 : decode cX6_worthOfAllPairs 35 = .ok (.iconst 1, 1) := by decide +kernel
theorem dX6_worthOfAllPairs_36 : decode cX6_worthOfAllPairs 36 = .ok (.invokevirtual 62, 3) := by decide +kernel
theorem dX6_worthOfAllPairs_39 : decode cX6_worthOfAllPairs 39 = .ok (.iadd, 1) := by decide +kernel
theorem dX6_worthOfAllPairs_40 : decode cX6_worthOfAllPairs 40 = .ok (.i2l, 1) := by decide +kernel
theorem dX6_worthOfAllPairs_41 : decode cX6_worthOfAllPairs 41 = .ok (.ladd, 1) := by decide +kernel
theorem dX6_worthOfAllPairs_42 : decode cX6_worthOfAllPairs 42 = .ok (.lstore_n 2, 1) := by decide +kernel
theorem dX6_worthOfAllPairs_43 : decode cX6_worthOfAllPairs 43 = .ok (.iinc 5 1, 3) := by decide +kernel
theorem dX6_worthOfAllPairs_46 : decode cX6_worthOfAllPairs 46 = .ok (.goto (-32), 3) := by decide +kernel
theorem dX6_worthOfAllPairs_49 : decode cX6_worthOfAllPairs 49 = .ok (.iinc 4 1, 3) := by decide +kernel
theorem dX6_worthOfAllPairs_52 : decode cX6_worthOfAllPairs 52 = .ok (.goto (-47), 3) := by decide +kernel
theorem dX6_worthOfAllPairs_55 : decode cX6_worthOfAllPairs 55 = .ok (.lload_n 2, 1) := by decide +kernel
theorem dX6_worthOfAllPairs_56 : decode cX6_worthOfAllPairs 56 = .ok (.lreturn, 1) := by decide +kernel
set_option maxRecDepth 20000 in
theorem ggX6_bestExchange_X6_begin : GoodIn wsX6_bestExchange wsX6_begin := goodIn_r _ [7, 8, 9, 10, 2, 89, 90, 91, 92, 93, 94, 95, 96] (by decide +kernel) (by decide +kernel)
set_option maxRecDepth 20000 in
theorem gX6_bestExchange_X6_begin : GoodIn wsX6_bestExchange (wsV RX6 80 RX6 yX6_begin wsX6_begin) := goodIn_app (goodIn_of _ (by decide +kernel)) ggX6_bestExchange_X6_begin
set_option maxRecDepth 20000 in
theorem ggX6_bestExchange_X6_weigh : GoodIn wsX6_bestExchange wsX6_weigh := goodIn_r _ [14, 2, 8, 9, 10, 15, 16, 17, 18, 19, 20, 21, 22, 6, 23, 24, 25, 26, 27, 28, 29, 30, 31, 32, 33, 34, 35, 36, 37, 38, 39, 40, 41, 42, 43, 44, 45, 46, 47, 48, 49, 50, 51, 52, 53, 54, 55, 56, 57, 58, 59, 60, 61, 62, 63, 64, 65, 66, 67, 68, 69, 70, 71, 72, 73, 74, 75, 76, 77, 78, 79, 89, 90, 91, 92, 93, 94, 95, 96, 82, 83, 84, 85, 86, 87, 88] (by decide +kernel) (by decide +kernel)
set_option maxRecDepth 20000 in
theorem gX6_bestExchange_X6_weigh : GoodIn wsX6_bestExchange (wsV RX6 84 RX6 yX6_weigh wsX6_weigh) := goodIn_app (goodIn_of _ (by decide +kernel)) ggX6_bestExchange_X6_weigh
set_option maxRecDepth 20000 in
theorem ggX6_bestExchange_X11_exchange : GoodIn wsX6_bestExchange wsX11_exchange := goodIn_r _ [81] (by decide +kernel) (by decide +kernel)
set_option maxRecDepth 20000 in
theorem gX6_bestExchange_X11_exchange_n88 : GoodIn wsX6_bestExchange (wsX11_exchange) := ggX6_bestExchange_X11_exchange
theorem dX6_bestExchange_0 : decode cX6_bestExchange 0 = .ok (.aload_n 0, 1) := by decide +kernel
theorem dX6_bestExchange_1 : decode cX6_bestExchange 1 = .ok (.aload_n 1, 1) := by decide +kernel
theorem dX6_bestExchange_2 : decode cX6_bestExchange 2 = .ok (.getfield 77, 3) := by decide +kernel
theorem dX6_bestExchange_5 : decode cX6_bestExchange 5 = .ok (.invokevirtual 80, 3) := by decide +kernel
theorem dX6_bestExchange_8 : decode cX6_bestExchange 8 = .ok (.aload_n 0, 1) := by decide +kernel
theorem dX6_bestExchange_9 : decode cX6_bestExchange 9 = .ok (.aload_n 1, 1) := by decide +kernel
theorem dX6_bestExchange_10 : decode cX6_bestExchange 10 = .ok (.iconst 2, 1) := by decide +kernel
theorem dX6_bestExchange_11 : decode cX6_bestExchange 11 = .ok (.invokevirtual 84, 3) := by decide +kernel
theorem dX6_bestExchange_14 : decode cX6_bestExchange 14 = .ok (.pop, 1) := by decide +kernel
theorem dX6_bestExchange_15 : decode cX6_bestExchange 15 = .ok (.bipush (-5), 2) := by decide +kernel
theorem dX6_bestExchange_17 : decode cX6_bestExchange 17 = .ok (.istore_n 2, 1) := by decide +kernel
theorem dX6_bestExchange_18 : decode cX6_bestExchange 18 = .ok (.iconst 0, 1) := by decide +kernel
theorem dX6_bestExchange_19 : decode cX6_bestExchange 19 = .ok (.istore_n 3, 1) := by decide +kernel
theorem dX6_bestExchange_20 : decode cX6_bestExchange 20 = .ok (.iload_n 3, 1) := by decide +kernel
theorem dX6_bestExchange_21 : decode cX6_bestExchange 21 = .ok (.bipush 8, 2) := by decide +kernel
theorem dX6_bestExchange_23 : decode cX6_bestExchange 23 = .ok (.if_icmp .ge 88, 3) := by decide +kernel
theorem dX6_bestExchange_26 : decode cX6_bestExchange 26 = .ok (.iload_n 3, 1) := by decide +kernel
theorem dX6_bestExchange_27 : decode cX6_bestExchange 27 = .ok (.iconst 1, 1) := by decide +kernel
theorem dX6_bestExchange_28 : decode cX6_bestExchange 28 = .ok (.iadd, 1) := by decide +kernel
theorem dX6_bestExchange_29 : decode cX6_bestExchange 29 = .ok (.istore 4, 2) := by decide +kernel
theorem dX6_bestExchange_31 : decode cX6_bestExchange 31 = .ok (.iload 4, 2) := by decide +kernel
theorem dX6_bestExchange_33 : decode cX6_bestExchange 33 = .ok (.bipush 8, 2) := by decide +kernel
theorem dX6_bestExchange_35 : decode cX6_bestExchange 35 = .ok (.if_icmp .ge 70, 3) := by decide +kernel
theorem dX6_bestExchange_38 : decode cX6_bestExchange 38 = .ok (.aload_n 0, 1) := by decide +kernel
theorem dX6_bestExchange_39 : decode cX6_bestExchange 39 = .ok (.getfield 22, 3) := by decide +kernel
theorem dX6_bestExchange_42 : decode cX6_bestExchange 42 = .ok (.iload_n 3, 1) := by decide +kernel
theorem dX6_bestExchange_43 : decode cX6_bestExchange 43 = .ok (.iaload, 1) := by decide +kernel
theorem dX6_bestExchange_44 : decode cX6_bestExchange 44 = .ok (.iconst (-1), 1) := by decide +kernel
theorem dX6_bestExchange_45 : decode cX6_bestExchange 45 = .ok (.if_icmp .ne 17, 3) := by decide +kernel
theorem dX6_bestExchange_48 : decode cX6_bestExchange 48 = .ok (.aload_n 0, 1) := by decide +kernel
theorem dX6_bestExchange_49 : decode cX6_bestExchange 49 = .ok (.getfield 22, 3) := by decide +kernel
theorem dX6_bestExchange_52 : decode cX6_bestExchange 52 = .ok (.iload 4, 2) := by decide +kernel
theorem dX6_bestExchange_54 : decode cX6_bestExchange 54 = .ok (.iaload, 1) := by decide +kernel
theorem dX6_bestExchange_55 : decode cX6_bestExchange 55 = .ok (.iconst (-1), 1) := by decide +kernel
theorem dX6_bestExchange_56 : decode cX6_bestExchange 56 = .ok (.if_icmp .ne 6, 3) := by decide +kernel
theorem dX6_bestExchange_59 : decode cX6_bestExchange 59 = .ok (.goto 40, 3) := by decide +kernel
theorem dX6_bestExchange_62 : decode cX6_bestExchange 62 = .ok (.aload_n 0, 1) := by decide +kernel
theorem dX6_bestExchange_63 : decode cX6_bestExchange 63 = .ok (.getfield 22, 3) := by decide +kernel
theorem dX6_bestExchange_66 : decode cX6_bestExchange 66 = .ok (.iload_n 3, 1) := by decide +kernel
theorem dX6_bestExchange_67 : decode cX6_bestExchange 67 = .ok (.iload 4, 2) := by decide +kernel
theorem dX6_bestExchange_69 : decode cX6_bestExchange 69 = .ok (.invokestatic 88, 3) := by decide +kernel
theorem dX6_bestExchange_72 : decode cX6_bestExchange 72 = .ok (.aload_n 0, 1) := by decide +kernel
theorem dX6_bestExchange_73 : decode cX6_bestExchange 73 = .ok (.aload_n 1, 1) := by decide +kernel
theorem dX6_bestExchange_74 : decode cX6_bestExchange 74 = .ok (.iconst 2, 1) := by decide +kernel
theorem dX6_bestExchange_75 : decode cX6_bestExchange 75 = .ok (.invokevirtual 84, 3) := by decide +kernel
theorem dX6_bestExchange_78 : decode cX6_bestExchange 78 = .ok (.ifCond .eq 11, 3) := by decide +kernel
theorem dX6_bestExchange_81 : decode cX6_bestExchange 81 = .ok (.bipush 10, 2) := by decide +kernel
theorem dX6_bestExchange_83 : decode cX6_bestExchange 83 = .ok (.iload_n 3, 1) := by decide +kernel
theorem dX6_bestExchange_84 : decode cX6_bestExchange 84 = .ok (.imul, 1) := by decide +kernel
theorem dX6_bestExchange_85 : decode cX6_bestExchange 85 = .ok (.iload 4, 2) := by decide +kernel
theorem dX6_bestExchange_87 : decode cX6_bestExchange 87 = .ok (.iadd, 1) := by decide +kernel
theorem dX6_bestExchange_88 : decode cX6_bestExchange 88 = .ok (.istore_n 2, 1) := by decide +kernel
theorem dX6_bestExchange_89 : decode cX6_bestExchange 89 = .ok (.aload_n 0, 1) := by decide +kernel
theorem dX6_bestExchange_90 : decode cX6_bestExchange 90 = .ok (.getfield 22, 3) := by decide +kernel
theorem dX6_bestExchange_93 : decode cX6_bestExchange 93 = .ok (.iload_n 3, 1) := by decide +kernel
theorem dX6_bestExchange_94 : decode cX6_bestExchange 94 = .ok (.iload 4, 2) := by decide +kernel
theorem dX6_bestExchange_96 : decode cX6_bestExchange 96 = .ok (.invokestatic 88, 3) := by decide +kernel
theorem dX6_bestExchange_99 : decode cX6_bestExchange 99 = .ok (.iinc 4 1, 3) := by decide +kernel
theorem dX6_bestExchange_102 : decode cX6_bestExchange 102 = .ok (.goto (-71), 3) := by decide +kernel
theorem dX6_bestExchange_105 : decode cX6_bestExchange 105 = .ok (.iinc 3 1, 3) := by decide +kernel
theorem dX6_bestExchange_108 : decode cX6_bestExchange 108 = .ok (.goto (-88), 3) := by decide +kernel
theorem dX6_bestExchange_111 : decode cX6_bestExchange 111 = .ok (.iload_n 2, 1) := by decide +kernel
theorem dX6_bestExchange_112 : decode cX6_bestExchange 112 = .ok (.ireturn, 1) := by decide +kernel
set_option maxRecDepth 20000 in
theorem ggX6_search_X6_begin : GoodIn wsX6_search wsX6_begin := goodIn_r _ [6, 7, 8, 9, 10, 94, 95, 96, 97, 98, 99, 100, 101] (by decide +kernel) (by decide +kernel)
set_option maxRecDepth 20000 in
theorem gX6_search_X6_begin : GoodIn wsX6_search (wsV RX6 80 RX6 yX6_begin wsX6_begin) := goodIn_app (goodIn_of _ (by decide +kernel)) ggX6_search_X6_begin
set_option maxRecDepth 20000 in
theorem ggX6_search_X6_place : GoodIn wsX6_search wsX6_place := goodIn_r _ [13, 1, 10, 14, 15, 16, 5, 17, 7, 8, 9, 18, 19, 20, 21, 22, 23, 24, 25, 26, 27, 28, 29, 30, 31, 32, 33, 34, 35, 36, 37, 38, 39, 40, 41, 42, 43, 44, 45, 46, 47, 48, 49, 50, 51, 52, 53, 54, 55, 56, 57, 58, 59, 60, 61, 62, 63, 64, 65, 66, 67, 68, 69, 70, 71, 72, 73, 74, 75, 76, 77, 78, 79, 80, 81, 82, 83, 84, 85, 86, 11, 12, 87, 88, 89, 90, 91, 92, 93, 94, 95, 96, 97, 98, 99, 100, 101] (by decide +kernel) (by decide +kernel)
set_option maxRecDepth 20000 in
theorem gX6_search_X6_place : GoodIn wsX6_search (va_wsS RX6 92 yX6_place wsX6_place) := goodIn_app (goodIn_of _ (by decide +kernel)) ggX6_search_X6_place
theorem dX6_search_0 : decode cX6_search 0 = .ok (.aload_n 0, 1) := by decide +kernel
theorem dX6_search_1 : decode cX6_search 1 = .ok (.aconst_null, 1) := by decide +kernel
theorem dX6_search_2 : decode cX6_search 2 = .ok (.invokevirtual 80, 3) := by decide +kernel
theorem dX6_search_5 : decode cX6_search 5 = .ok (.aload_n 1, 1) := by decide +kernel
theorem dX6_search_6 : decode cX6_search 6 = .ok (.getfield 28, 3) := by decide +kernel
theorem dX6_search_9 : decode cX6_search 9 = .ok (.bipush 6, 2) := by decide +kernel
theorem dX6_search_11 : decode cX6_search 11 = .ok (.if_icmp .gt 10, 3) := by decide +kernel
theorem dX6_search_14 : decode cX6_search 14 = .ok (.aload_n 0, 1) := by decide +kernel
theorem dX6_search_15 : decode cX6_search 15 = .ok (.aload_n 1, 1) := by decide +kernel
theorem dX6_search_16 : decode cX6_search 16 = .ok (.iload_n 2, 1) := by decide +kernel
theorem dX6_search_17 : decode cX6_search 17 = .ok (.iconst 0, 1) := by decide +kernel
theorem dX6_search_18 : decode cX6_search 18 = .ok (.invokestatic 92, 3) := by decide +kernel
theorem dX6_search_21 : decode cX6_search 21 = .ok (.return_, 1) := by decide +kernel
theorem dX6_begin_0 : decode cX6_begin 0 = .ok (.aload_n 0, 1) := by decide +kernel
theorem dX6_begin_1 : decode cX6_begin 1 = .ok (.iconst 0, 1) := by decide +kernel
theorem dX6_begin_2 : decode cX6_begin 2 = .ok (.putfield 96, 3) := by decide +kernel
theorem dX6_begin_5 : decode cX6_begin 5 = .ok (.aload_n 0, 1) := by decide +kernel
theorem dX6_begin_6 : decode cX6_begin 6 = .ok (.iconst 0, 1) := by decide +kernel
theorem dX6_begin_7 : decode cX6_begin 7 = .ok (.putfield 100, 3) := by decide +kernel
theorem dX6_begin_10 : decode cX6_begin 10 = .ok (.aload_n 0, 1) := by decide +kernel
theorem dX6_begin_11 : decode cX6_begin 11 = .ok (.iconst 0, 1) := by decide +kernel
theorem dX6_begin_12 : decode cX6_begin 12 = .ok (.putfield 103, 3) := by decide +kernel
theorem dX6_begin_15 : decode cX6_begin 15 = .ok (.iconst 0, 1) := by decide +kernel
theorem dX6_begin_16 : decode cX6_begin 16 = .ok (.istore_n 2, 1) := by decide +kernel
theorem dX6_begin_17 : decode cX6_begin 17 = .ok (.iload_n 2, 1) := by decide +kernel
theorem dX6_begin_18 : decode cX6_begin 18 = .ok (.bipush 8, 2) := by decide +kernel
theorem dX6_begin_20 : decode cX6_begin 20 = .ok (.if_icmp .ge 32, 3) := by decide +kernel
theorem dX6_begin_23 : decode cX6_begin 23 = .ok (.aload_n 0, 1) := by decide +kernel
theorem dX6_begin_24 : decode cX6_begin 24 = .ok (.getfield 22, 3) := by decide +kernel
theorem dX6_begin_27 : decode cX6_begin 27 = .ok (.iload_n 2, 1) := by decide +kernel
theorem dX6_begin_28 : decode cX6_begin 28 = .ok (.aload_n 1, 1) := by decide +kernel
theorem dX6_begin_29 : decode cX6_begin 29 = .ok (.ifnull 15, 3) := by decide +kernel
theorem dX6_begin_32 : decode cX6_begin 32 = .ok (.iload_n 2, 1) := by decide +kernel
theorem dX6_begin_33 : decode cX6_begin 33 = .ok (.aload_n 1, 1) := by decide +kernel
theorem dX6_begin_34 : decode cX6_begin 34 = .ok (.arraylength, 1) := by decide +kernel
theorem dX6_begin_35 : decode cX6_begin 35 = .ok (.if_icmp .ge 9, 3) := by decide +kernel
theorem dX6_begin_38 : decode cX6_begin 38 = .ok (.aload_n 1, 1) := by decide +kernel
theorem dX6_begin_39 : decode cX6_begin 39 = .ok (.iload_n 2, 1) := by decide +kernel
theorem dX6_begin_40 : decode cX6_begin 40 = .ok (.iaload, 1) := by decide +kernel
theorem dX6_begin_41 : decode cX6_begin 41 = .ok (.goto 4, 3) := by decide +kernel
theorem dX6_begin_44 : decode cX6_begin 44 = .ok (.iconst (-1), 1) := by decide +kernel
theorem dX6_begin_45 : decode cX6_begin 45 = .ok (.iastore, 1) := by decide +kernel
theorem dX6_begin_46 : decode cX6_begin 46 = .ok (.iinc 2 1, 3) := by decide +kernel
theorem dX6_begin_49 : decode cX6_begin 49 = .ok (.goto (-32), 3) := by decide +kernel
theorem dX6_begin_52 : decode cX6_begin 52 = .ok (.return_, 1) := by decide +kernel
set_option maxRecDepth 20000 in
theorem ggX6_place_X6_weigh : GoodIn wsX6_place wsX6_weigh := goodIn_r _ [7, 2, 8, 9, 10, 11, 12, 13, 14, 15, 16, 17, 18, 6, 19, 20, 21, 22, 23, 24, 25, 26, 27, 28, 29, 30, 31, 32, 33, 34, 35, 36, 37, 38, 39, 40, 41, 42, 43, 44, 45, 46, 47, 48, 49, 50, 51, 52, 53, 54, 55, 56, 57, 58, 59, 60, 61, 62, 63, 64, 65, 66, 67, 68, 69, 70, 71, 72, 73, 74, 75, 89, 90, 91, 92, 93, 94, 95, 96, 82, 83, 84, 85, 86, 87, 88] (by decide +kernel) (by decide +kernel)
set_option maxRecDepth 20000 in
theorem gX6_place_X6_weigh : GoodIn wsX6_place (wsV RX6 84 RX6 yX6_weigh wsX6_weigh) := goodIn_app (goodIn_of _ (by decide +kernel)) ggX6_place_X6_weigh
set_option maxRecDepth 20000 in
theorem ggX6_place_X6_isUnlike : GoodIn wsX6_place wsX6_isUnlike := goodIn_r _ [79, 2, 64, 35, 65, 89, 90, 91, 92, 93, 94, 95, 96] (by decide +kernel) (by decide +kernel)
set_option maxRecDepth 20000 in
theorem gX6_place_X6_isUnlike : GoodIn wsX6_place (wsV RX6 106 RX6 yX6_isUnlike wsX6_isUnlike) := goodIn_app (goodIn_of _ (by decide +kernel)) ggX6_place_X6_isUnlike
set_option maxRecDepth 20000 in
theorem ggX6_place_X6_place : GoodIn wsX6_place wsX6_place := goodIn_r _ [0, 1, 2, 3, 4, 5, 6, 7, 8, 9, 10, 11, 12, 13, 14, 15, 16, 17, 18, 19, 20, 21, 22, 23, 24, 25, 26, 27, 28, 29, 30, 31, 32, 33, 34, 35, 36, 37, 38, 39, 40, 41, 42, 43, 44, 45, 46, 47, 48, 49, 50, 51, 52, 53, 54, 55, 56, 57, 58, 59, 60, 61, 62, 63, 64, 65, 66, 67, 68, 69, 70, 71, 72, 73, 74, 75, 76, 77, 78, 79, 80, 81, 82, 83, 84, 85, 86, 87, 88, 89, 90, 91, 92, 93, 94, 95, 96] (by decide +kernel) (by decide +kernel)
set_option maxRecDepth 20000 in
theorem gX6_place_X6_place : GoodIn wsX6_place (va_wsS RX6 92 yX6_place wsX6_place) := goodIn_app (goodIn_of _ (by decide +kernel)) ggX6_place_X6_place
theorem dX6_place_0 : decode cX6_place 0 = .ok (.iload_n 3, 1) := by decide +kernel
theorem dX6_place_1 : decode cX6_place 1 = .ok (.aload_n 1, 1) := by decide +kernel
theorem dX6_place_2 : decode cX6_place 2 = .ok (.getfield 28, 3) := by decide +kernel
theorem dX6_place_5 : decode cX6_place 5 = .ok (.if_icmp .ge 9, 3) := by decide +kernel
theorem dX6_place_8 : decode cX6_place 8 = .ok (.iload_n 3, 1) := by decide +kernel
theorem dX6_place_9 : decode cX6_place 9 = .ok (.bipush 8, 2) := by decide +kernel
theorem dX6_place_11 : decode cX6_place 11 = .ok (.if_icmp .lt 11, 3) := by decide +kernel
theorem dX6_place_14 : decode cX6_place 14 = .ok (.aload_n 0, 1) := by decide +kernel
theorem dX6_place_15 : decode cX6_place 15 = .ok (.aload_n 1, 1) := by decide +kernel
theorem dX6_place_16 : decode cX6_place 16 = .ok (.iload_n 2, 1) := by decide +kernel
theorem dX6_place_17 : decode cX6_place 17 = .ok (.invokevirtual 84, 3) := by decide +kernel
theorem dX6_place_20 : decode cX6_place 20 = .ok (.pop, 1) := by decide +kernel
theorem dX6_place_21 : decode cX6_place 21 = .ok (.return_, 1) := by decide +kernel
theorem dX6_place_22 : decode cX6_place 22 = .ok (.iconst 0, 1) := by decide +kernel
theorem dX6_place_23 : decode cX6_place 23 = .ok (.istore 4, 2) := by decide +kernel
theorem dX6_place_25 : decode cX6_place 25 = .ok (.iload 4, 2) := by decide +kernel
theorem dX6_place_27 : decode cX6_place 27 = .ok (.bipush 8, 2) := by decide +kernel
theorem dX6_place_29 : decode cX6_place 29 = .ok (.if_icmp .ge 43, 3) := by decide +kernel
theorem dX6_place_32 : decode cX6_place 32 = .ok (.aload_n 0, 1) := by decide +kernel
theorem dX6_place_33 : decode cX6_place 33 = .ok (.iload 4, 2) := by decide +kernel
theorem dX6_place_35 : decode cX6_place 35 = .ok (.invokevirtual 106, 3) := by decide +kernel
theorem dX6_place_38 : decode cX6_place 38 = .ok (.ifCond .eq 28, 3) := by decide +kernel
theorem dX6_place_41 : decode cX6_place 41 = .ok (.aload_n 0, 1) := by decide +kernel
theorem dX6_place_42 : decode cX6_place 42 = .ok (.getfield 22, 3) := by decide +kernel
theorem dX6_place_45 : decode cX6_place 45 = .ok (.iload 4, 2) := by decide +kernel
theorem dX6_place_47 : decode cX6_place 47 = .ok (.iload_n 3, 1) := by decide +kernel
theorem dX6_place_48 : decode cX6_place 48 = .ok (.iastore, 1) := by decide +kernel
theorem dX6_place_49 : decode cX6_place 49 = .ok (.aload_n 0, 1) := by decide +kernel
theorem dX6_place_50 : decode cX6_place 50 = .ok (.aload_n 1, 1) := by decide +kernel
theorem dX6_place_51 : decode cX6_place 51 = .ok (.iload_n 2, 1) := by decide +kernel
theorem dX6_place_52 : decode cX6_place 52 = .ok (.iload_n 3, 1) := by decide +kernel
theorem dX6_place_53 : decode cX6_place 53 = .ok (.iconst 1, 1) := by decide +kernel
theorem dX6_place_54 : decode cX6_place 54 = .ok (.iadd, 1) := by decide +kernel
theorem dX6_place_55 : decode cX6_place 55 = .ok (.invokestatic 92, 3) := by decide +kernel
theorem dX6_place_58 : decode cX6_place 58 = .ok (.aload_n 0, 1) := by decide +kernel
theorem dX6_place_59 : decode cX6_place 59 = .ok (.getfield 22, 3) := by decide +kernel
theorem dX6_place_62 : decode cX6_place 62 = .ok (.iload 4, 2) := by decide +kernel
theorem dX6_place_64 : decode cX6_place 64 = .ok (.iconst (-1), 1) := by decide +kernel
theorem dX6_place_65 : decode cX6_place 65 = .ok (.iastore, 1) := by decide +kernel
theorem dX6_place_66 : decode cX6_place 66 = .ok (.iinc 4 1, 3) := by decide +kernel
theorem dX6_place_69 : decode cX6_place 69 = .ok (.goto (-44), 3) := by decide +kernel
theorem dX6_place_72 : decode cX6_place 72 = .ok (.return_, 1) := by decide +kernel
set_option maxRecDepth 20000 in
theorem ggX6_isUnlike_X11_sittersAt : GoodIn wsX6_isUnlike wsX11_sittersAt := goodIn_r _ [4] (by decide +kernel) (by decide +kernel)
set_option maxRecDepth 20000 in
theorem gX6_isUnlike_X11_sittersAt_n58 : GoodIn wsX6_isUnlike (wsX11_sittersAt) := ggX6_isUnlike_X11_sittersAt
theorem dX6_isUnlike_0 : decode cX6_isUnlike 0 = .ok (.iload_n 1, 1) := by decide +kernel
theorem dX6_isUnlike_1 : decode cX6_isUnlike 1 = .ok (.ifCond .lt 19, 3) := by decide +kernel
theorem dX6_isUnlike_4 : decode cX6_isUnlike 4 = .ok (.iload_n 1, 1) := by decide +kernel
theorem dX6_isUnlike_5 : decode cX6_isUnlike 5 = .ok (.bipush 8, 2) := by decide +kernel
theorem dX6_isUnlike_7 : decode cX6_isUnlike 7 = .ok (.if_icmp .ge 13, 3) := by decide +kernel
theorem dX6_isUnlike_10 : decode cX6_isUnlike 10 = .ok (.aload_n 0, 1) := by decide +kernel
theorem dX6_isUnlike_11 : decode cX6_isUnlike 11 = .ok (.getfield 22, 3) := by decide +kernel
theorem dX6_isUnlike_14 : decode cX6_isUnlike 14 = .ok (.iload_n 1, 1) := by decide +kernel
theorem dX6_isUnlike_15 : decode cX6_isUnlike 15 = .ok (.iaload, 1) := by decide +kernel
theorem dX6_isUnlike_16 : decode cX6_isUnlike 16 = .ok (.iconst (-1), 1) := by decide +kernel
theorem dX6_isUnlike_17 : decode cX6_isUnlike 17 = .ok (.if_icmp .eq 5, 3) := by decide +kernel
theorem dX6_isUnlike_20 : decode cX6_isUnlike 20 = .ok (.iconst 0, 1) := by decide +kernel
theorem dX6_isUnlike_21 : decode cX6_isUnlike 21 = .ok (.ireturn, 1) := by decide +kernel
theorem dX6_isUnlike_22 : decode cX6_isUnlike 22 = .ok (.iload_n 1, 1) := by decide +kernel
theorem dX6_isUnlike_23 : decode cX6_isUnlike 23 = .ok (.iconst 1, 1) := by decide +kernel
theorem dX6_isUnlike_24 : decode cX6_isUnlike 24 = .ok (.iand, 1) := by decide +kernel
theorem dX6_isUnlike_25 : decode cX6_isUnlike 25 = .ok (.iconst 1, 1) := by decide +kernel
theorem dX6_isUnlike_26 : decode cX6_isUnlike 26 = .ok (.if_icmp .ne 17, 3) := by decide +kernel
theorem dX6_isUnlike_29 : decode cX6_isUnlike 29 = .ok (.aload_n 0, 1) := by decide +kernel
theorem dX6_isUnlike_30 : decode cX6_isUnlike 30 = .ok (.getfield 22, 3) := by decide +kernel
theorem dX6_isUnlike_33 : decode cX6_isUnlike 33 = .ok (.iload_n 1, 1) := by decide +kernel
theorem dX6_isUnlike_34 : decode cX6_isUnlike 34 = .ok (.iconst 1, 1) := by decide +kernel
theorem dX6_isUnlike_35 : decode cX6_isUnlike 35 = .ok (.isub, 1) := by decide +kernel
theorem dX6_isUnlike_36 : decode cX6_isUnlike 36 = .ok (.iaload, 1) := by decide +kernel
theorem dX6_isUnlike_37 : decode cX6_isUnlike 37 = .ok (.iconst (-1), 1) := by decide +kernel
theorem dX6_isUnlike_38 : decode cX6_isUnlike 38 = .ok (.if_icmp .ne 5, 3) := by decide +kernel
theorem dX6_isUnlike_41 : decode cX6_isUnlike 41 = .ok (.iconst 0, 1) := by decide +kernel
theorem dX6_isUnlike_42 : decode cX6_isUnlike 42 = .ok (.ireturn, 1) := by decide +kernel
theorem dX6_isUnlike_43 : decode cX6_isUnlike 43 = .ok (.iload_n 1, 1) := by decide +kernel
theorem dX6_isUnlike_44 : decode cX6_isUnlike 44 = .ok (.iconst 2, 1) := by decide +kernel
theorem dX6_isUnlike_45 : decode cX6_isUnlike 45 = .ok (.iand, 1) := by decide +kernel
theorem dX6_isUnlike_46 : decode cX6_isUnlike 46 = .ok (.ifCond .eq 18, 3) := by decide +kernel
theorem dX6_isUnlike_49 : decode cX6_isUnlike 49 = .ok (.aload_n 0, 1) := by decide +kernel
theorem dX6_isUnlike_50 : decode cX6_isUnlike 50 = .ok (.getfield 22, 3) := by decide +kernel
theorem dX6_isUnlike_53 : decode cX6_isUnlike 53 = .ok (.iload_n 1, 1) := by decide +kernel
theorem dX6_isUnlike_54 : decode cX6_isUnlike 54 = .ok (.iconst 2, 1) := by decide +kernel
theorem dX6_isUnlike_55 : decode cX6_isUnlike 55 = .ok (.idiv, 1) := by decide +kernel
theorem dX6_isUnlike_56 : decode cX6_isUnlike 56 = .ok (.iconst 1, 1) := by decide +kernel
theorem dX6_isUnlike_57 : decode cX6_isUnlike 57 = .ok (.isub, 1) := by decide +kernel
theorem dX6_isUnlike_58 : decode cX6_isUnlike 58 = .ok (.invokestatic 58, 3) := by decide +kernel
theorem dX6_isUnlike_61 : decode cX6_isUnlike 61 = .ok (.ifCond .le 7, 3) := by decide +kernel
theorem dX6_isUnlike_64 : decode cX6_isUnlike 64 = .ok (.iconst 1, 1) := by decide +kernel
theorem dX6_isUnlike_65 : decode cX6_isUnlike 65 = .ok (.goto 4, 3) := by decide +kernel
theorem dX6_isUnlike_68 : decode cX6_isUnlike 68 = .ok (.iconst 0, 1) := by decide +kernel
theorem dX6_isUnlike_69 : decode cX6_isUnlike 69 = .ok (.ireturn, 1) := by decide +kernel
set_option maxRecDepth 20000 in
theorem ggX6_weigh_X6_breaksOf : GoodIn wsX6_weigh wsX6_breaksOf := goodIn_r _ [14, 15, 16, 17, 13, 18, 19, 20, 21, 22, 23, 24, 25, 26, 27, 28, 29, 30, 31, 71, 72, 73, 74, 75, 76, 77, 78, 79, 80, 81, 82, 83, 84, 85] (by decide +kernel) (by decide +kernel)
set_option maxRecDepth 20000 in
theorem gX6_weigh_X6_breaksOf : GoodIn wsX6_weigh (wsV RX6 109 RX6 yX6_breaksOf wsX6_breaksOf) := goodIn_app (goodIn_of _ (by decide +kernel)) ggX6_weigh_X6_breaksOf
set_option maxRecDepth 20000 in
theorem ggX6_weigh_X7_newPairs : GoodIn wsX6_weigh wsX7_newPairs := goodIn_r _ [35, 36, 37, 38, 39, 26, 40, 41, 42, 43, 44, 45, 46, 47, 48, 49, 50, 51, 52, 53, 54, 79, 80, 81, 82, 83, 84, 85] (by decide +kernel) (by decide +kernel)
set_option maxRecDepth 20000 in
theorem gX6_weigh_X7_newPairs : GoodIn wsX6_weigh (wsV RX6 113 RX7 yX7_newPairs wsX7_newPairs) := goodIn_app (goodIn_of _ (by decide +kernel)) ggX6_weigh_X7_newPairs
set_option maxRecDepth 20000 in
theorem ggX6_weigh_X6_worthOf : GoodIn wsX6_weigh wsX6_worthOf := goodIn_r _ [58, 59, 30, 60, 61, 62, 63, 13, 64, 65, 20, 21, 22, 66, 67, 68, 69, 70, 71, 72, 73, 74, 75, 76, 77, 78] (by decide +kernel) (by decide +kernel)
set_option maxRecDepth 20000 in
theorem gX6_weigh_X6_worthOf : GoodIn wsX6_weigh (wsV RX6 117 RX6 yX6_worthOf wsX6_worthOf) := goodIn_app (goodIn_of _ (by decide +kernel)) ggX6_weigh_X6_worthOf
theorem dX6_weigh_0 : decode cX6_weigh 0 = .ok (.iload_n 2, 1) := by decide +kernel
theorem dX6_weigh_1 : decode cX6_weigh 1 = .ok (.iconst 3, 1) := by decide +kernel
theorem dX6_weigh_2 : decode cX6_weigh 2 = .ok (.if_icmp .ne 7, 3) := by decide +kernel
theorem dX6_weigh_5 : decode cX6_weigh 5 = .ok (.iconst 0, 1) := by decide +kernel
theorem dX6_weigh_6 : decode cX6_weigh 6 = .ok (.goto 13, 3) := by decide +kernel
theorem dX6_weigh_9 : decode cX6_weigh 9 = .ok (.aload_n 0, 1) := by decide +kernel
theorem dX6_weigh_10 : decode cX6_weigh 10 = .ok (.aload_n 0, 1) := by decide +kernel
theorem dX6_weigh_11 : decode cX6_weigh 11 = .ok (.getfield 22, 3) := by decide +kernel
theorem dX6_weigh_14 : decode cX6_weigh 14 = .ok (.aload_n 1, 1) := by decide +kernel
theorem dX6_weigh_15 : decode cX6_weigh 15 = .ok (.iload_n 2, 1) := by decide +kernel
theorem dX6_weigh_16 : decode cX6_weigh 16 = .ok (.invokevirtual 109, 3) := by decide +kernel
theorem dX6_weigh_19 : decode cX6_weigh 19 = .ok (.istore_n 3, 1) := by decide +kernel
theorem dX6_weigh_20 : decode cX6_weigh 20 = .ok (.iload_n 2, 1) := by decide +kernel
theorem dX6_weigh_21 : decode cX6_weigh 21 = .ok (.iconst 3, 1) := by decide +kernel
theorem dX6_weigh_22 : decode cX6_weigh 22 = .ok (.if_icmp .ne 14, 3) := by decide +kernel
theorem dX6_weigh_25 : decode cX6_weigh 25 = .ok (.aload_n 1, 1) := by decide +kernel
theorem dX6_weigh_26 : decode cX6_weigh 26 = .ok (.aload_n 0, 1) := by decide +kernel
theorem dX6_weigh_27 : decode cX6_weigh 27 = .ok (.getfield 22, 3) := by decide +kernel
theorem dX6_weigh_30 : decode cX6_weigh 30 = .ok (.invokevirtual 113, 3) := by decide +kernel
theorem dX6_weigh_33 : decode cX6_weigh 33 = .ok (.goto 11, 3) := by decide +kernel
theorem dX6_weigh_36 : decode cX6_weigh 36 = .ok (.aload_n 0, 1) := by decide +kernel
theorem dX6_weigh_37 : decode cX6_weigh 37 = .ok (.aload_n 0, 1) := by decide +kernel
theorem dX6_weigh_38 : decode cX6_weigh 38 = .ok (.getfield 22, 3) := by decide +kernel
theorem dX6_weigh_41 : decode cX6_weigh 41 = .ok (.invokevirtual 117, 3) := by decide +kernel
theorem dX6_weigh_44 : decode cX6_weigh 44 = .ok (.istore 4, 2) := by decide +kernel
theorem dX6_weigh_46 : decode cX6_weigh 46 = .ok (.aload_n 0, 1) := by decide +kernel
theorem dX6_weigh_47 : decode cX6_weigh 47 = .ok (.getfield 96, 3) := by decide +kernel
theorem dX6_weigh_50 : decode cX6_weigh 50 = .ok (.ifCond .eq 30, 3) := by decide +kernel
theorem dX6_weigh_53 : decode cX6_weigh 53 = .ok (.iload_n 3, 1) := by decide +kernel
theorem dX6_weigh_54 : decode cX6_weigh 54 = .ok (.aload_n 0, 1) := by decide +kernel
theorem dX6_weigh_55 : decode cX6_weigh 55 = .ok (.getfield 100, 3) := by decide +kernel
theorem dX6_weigh_58 : decode cX6_weigh 58 = .ok (.if_icmp .gt 20, 3) := by decide +kernel
theorem dX6_weigh_61 : decode cX6_weigh 61 = .ok (.iload_n 3, 1) := by decide +kernel
theorem dX6_weigh_62 : decode cX6_weigh 62 = .ok (.aload_n 0, 1) := by decide +kernel
theorem dX6_weigh_63 : decode cX6_weigh 63 = .ok (.getfield 100, 3) := by decide +kernel
theorem dX6_weigh_66 : decode cX6_weigh 66 = .ok (.if_icmp .ne 14, 3) := by decide +kernel
theorem dX6_weigh_69 : decode cX6_weigh 69 = .ok (.iload 4, 2) := by decide +kernel
theorem dX6_weigh_71 : decode cX6_weigh 71 = .ok (.aload_n 0, 1) := by decide +kernel
theorem dX6_weigh_72 : decode cX6_weigh 72 = .ok (.getfield 103, 3) := by decide +kernel
theorem dX6_weigh_75 : decode cX6_weigh 75 = .ok (.if_icmp .gt 5, 3) := by decide +kernel
theorem dX6_weigh_78 : decode cX6_weigh 78 = .ok (.iconst 0, 1) := by decide +kernel
theorem dX6_weigh_79 : decode cX6_weigh 79 = .ok (.ireturn, 1) := by decide +kernel
theorem dX6_weigh_80 : decode cX6_weigh 80 = .ok (.aload_n 0, 1) := by decide +kernel
theorem dX6_weigh_81 : decode cX6_weigh 81 = .ok (.iconst 1, 1) := by decide +kernel
theorem dX6_weigh_82 : decode cX6_weigh 82 = .ok (.putfield 96, 3) := by decide +kernel
theorem dX6_weigh_85 : decode cX6_weigh 85 = .ok (.aload_n 0, 1) := by decide +kernel
theorem dX6_weigh_86 : decode cX6_weigh 86 = .ok (.iload_n 3, 1) := by decide +kernel
theorem dX6_weigh_87 : decode cX6_weigh 87 = .ok (.putfield 100, 3) := by decide +kernel
theorem dX6_weigh_90 : decode cX6_weigh 90 = .ok (.aload_n 0, 1) := by decide +kernel
theorem dX6_weigh_91 : decode cX6_weigh 91 = .ok (.iload 4, 2) := by decide +kernel
theorem dX6_weigh_93 : decode cX6_weigh 93 = .ok (.putfield 103, 3) := by decide +kernel
theorem dX6_weigh_96 : decode cX6_weigh 96 = .ok (.aload_n 0, 1) := by decide +kernel
theorem dX6_weigh_97 : decode cX6_weigh 97 = .ok (.getfield 22, 3) := by decide +kernel
theorem dX6_weigh_100 : decode cX6_weigh 100 = .ok (.iconst 0, 1) := by decide +kernel
theorem dX6_weigh_101 : decode cX6_weigh 101 = .ok (.aload_n 0, 1) := by decide +kernel
theorem dX6_weigh_102 : decode cX6_weigh 102 = .ok (.getfield 25, 3) := by decide +kernel
theorem dX6_weigh_105 : decode cX6_weigh 105 = .ok (.iconst 0, 1) := by decide +kernel
theorem dX6_weigh_106 : decode cX6_weigh 106 = .ok (.bipush 8, 2) := by decide +kernel
theorem dX6_weigh_108 : decode cX6_weigh 108 = .ok (.invokestatic 120, 3) := by decide +kernel
theorem dX6_weigh_111 : decode cX6_weigh 111 = .ok (.iconst 1, 1) := by decide +kernel
theorem dX6_weigh_112 : decode cX6_weigh 112 = .ok (.ireturn, 1) := by decide +kernel
theorem dX7_init_0 : decode cX7_init 0 = .ok (.aload_n 0, 1) := by decide +kernel
theorem dX7_init_1 : decode cX7_init 1 = .ok (.invokespecial 3, 3) := by decide +kernel
theorem dX7_init_4 : decode cX7_init 4 = .ok (.aload_n 0, 1) := by decide +kernel
theorem dX7_init_5 : decode cX7_init 5 = .ok (.bipush 8, 2) := by decide +kernel
theorem dX7_init_7 : decode cX7_init 7 = .ok (.anewarray 9, 3) := by decide +kernel
theorem dX7_init_10 : decode cX7_init 10 = .ok (.putfield 11, 3) := by decide +kernel
theorem dX7_init_13 : decode cX7_init 13 = .ok (.aload_n 0, 1) := by decide +kernel
theorem dX7_init_14 : decode cX7_init 14 = .ok (.bipush 8, 2) := by decide +kernel
theorem dX7_init_16 : decode cX7_init 16 = .ok (.newarray .int, 2) := by decide +kernel
theorem dX7_init_18 : decode cX7_init 18 = .ok (.putfield 17, 3) := by decide +kernel
theorem dX7_init_21 : decode cX7_init 21 = .ok (.aload_n 0, 1) := by decide +kernel
theorem dX7_init_22 : decode cX7_init 22 = .ok (.bipush 8, 2) := by decide +kernel
theorem dX7_init_24 : decode cX7_init 24 = .ok (.newarray .int, 2) := by decide +kernel
theorem dX7_init_26 : decode cX7_init 26 = .ok (.putfield 21, 3) := by decide +kernel
theorem dX7_init_29 : decode cX7_init 29 = .ok (.aload_n 0, 1) := by decide +kernel
theorem dX7_init_30 : decode cX7_init 30 = .ok (.iconst (-1), 1) := by decide +kernel
theorem dX7_init_31 : decode cX7_init 31 = .ok (.putfield 24, 3) := by decide +kernel
theorem dX7_init_34 : decode cX7_init 34 = .ok (.iconst 0, 1) := by decide +kernel
theorem dX7_init_35 : decode cX7_init 35 = .ok (.istore_n 1, 1) := by decide +kernel
theorem dX7_init_36 : decode cX7_init 36 = .ok (.iload_n 1, 1) := by decide +kernel
theorem dX7_init_37 : decode cX7_init 37 = .ok (.bipush 8, 2) := by decide +kernel
theorem dX7_init_39 : decode cX7_init 39 = .ok (.if_icmp .ge 23, 3) := by decide +kernel
theorem dX7_init_42 : decode cX7_init 42 = .ok (.aload_n 0, 1) := by decide +kernel
theorem dX7_init_43 : decode cX7_init 43 = .ok (.getfield 17, 3) := by decide +kernel
theorem dX7_init_46 : decode cX7_init 46 = .ok (.iload_n 1, 1) := by decide +kernel
theorem dX7_init_47 : decode cX7_init 47 = .ok (.iconst (-1), 1) := by decide +kernel
theorem dX7_init_48 : decode cX7_init 48 = .ok (.iastore, 1) := by decide +kernel
theorem dX7_init_49 : decode cX7_init 49 = .ok (.aload_n 0, 1) := by decide +kernel
theorem dX7_init_50 : decode cX7_init 50 = .ok (.getfield 21, 3) := by decide +kernel
theorem dX7_init_53 : decode cX7_init 53 = .ok (.iload_n 1, 1) := by decide +kernel
theorem dX7_init_54 : decode cX7_init 54 = .ok (.iconst (-1), 1) := by decide +kernel
theorem dX7_init_55 : decode cX7_init 55 = .ok (.iastore, 1) := by decide +kernel
theorem dX7_init_56 : decode cX7_init 56 = .ok (.iinc 1 1, 3) := by decide +kernel
theorem dX7_init_59 : decode cX7_init 59 = .ok (.goto (-23), 3) := by decide +kernel
theorem dX7_init_62 : decode cX7_init 62 = .ok (.return_, 1) := by decide +kernel
theorem dX7_copy_0 : decode cX7_copy 0 = .ok (.iconst 0, 1) := by decide +kernel
theorem dX7_copy_1 : decode cX7_copy 1 = .ok (.istore_n 2, 1) := by decide +kernel
theorem dX7_copy_2 : decode cX7_copy 2 = .ok (.iload_n 2, 1) := by decide +kernel
theorem dX7_copy_3 : decode cX7_copy 3 = .ok (.bipush 8, 2) := by decide +kernel
theorem dX7_copy_5 : decode cX7_copy 5 = .ok (.if_icmp .ge 45, 3) := by decide +kernel
theorem dX7_copy_8 : decode cX7_copy 8 = .ok (.aload_n 0, 1) := by decide +kernel
theorem dX7_copy_9 : decode cX7_copy 9 = .ok (.getfield 11, 3) := by decide +kernel
theorem dX7_copy_12 : decode cX7_copy 12 = .ok (.iload_n 2, 1) := by decide +kernel
theorem dX7_copy_13 : decode cX7_copy 13 = .ok (.aload_n 1, 1) := by decide +kernel
theorem dX7_copy_14 : decode cX7_copy 14 = .ok (.getfield 11, 3) := by decide +kernel
theorem dX7_copy_17 : decode cX7_copy 17 = .ok (.iload_n 2, 1) := by decide +kernel
theorem dX7_copy_18 : decode cX7_copy 18 = .ok (.aaload, 1) := by decide +kernel
theorem dX7_copy_19 : decode cX7_copy 19 = .ok (.aastore, 1) := by decide +kernel
theorem dX7_copy_20 : decode cX7_copy 20 = .ok (.aload_n 0, 1) := by decide +kernel
theorem dX7_copy_21 : decode cX7_copy 21 = .ok (.getfield 17, 3) := by decide +kernel
theorem dX7_copy_24 : decode cX7_copy 24 = .ok (.iload_n 2, 1) := by decide +kernel
theorem dX7_copy_25 : decode cX7_copy 25 = .ok (.aload_n 1, 1) := by decide +kernel
theorem dX7_copy_26 : decode cX7_copy 26 = .ok (.getfield 17, 3) := by decide +kernel
theorem dX7_copy_29 : decode cX7_copy 29 = .ok (.iload_n 2, 1) := by decide +kernel
theorem dX7_copy_30 : decode cX7_copy 30 = .ok (.iaload, 1) := by decide +kernel
theorem dX7_copy_31 : decode cX7_copy 31 = .ok (.iastore, 1) := by decide +kernel
theorem dX7_copy_32 : decode cX7_copy 32 = .ok (.aload_n 0, 1) := by decide +kernel
theorem dX7_copy_33 : decode cX7_copy 33 = .ok (.getfield 21, 3) := by decide +kernel
theorem dX7_copy_36 : decode cX7_copy 36 = .ok (.iload_n 2, 1) := by decide +kernel
theorem dX7_copy_37 : decode cX7_copy 37 = .ok (.aload_n 1, 1) := by decide +kernel
theorem dX7_copy_38 : decode cX7_copy 38 = .ok (.getfield 21, 3) := by decide +kernel
theorem dX7_copy_41 : decode cX7_copy 41 = .ok (.iload_n 2, 1) := by decide +kernel
theorem dX7_copy_42 : decode cX7_copy 42 = .ok (.iaload, 1) := by decide +kernel
theorem dX7_copy_43 : decode cX7_copy 43 = .ok (.iastore, 1) := by decide +kernel
theorem dX7_copy_44 : decode cX7_copy 44 = .ok (.iinc 2 1, 3) := by decide +kernel
theorem dX7_copy_47 : decode cX7_copy 47 = .ok (.goto (-45), 3) := by decide +kernel
theorem dX7_copy_50 : decode cX7_copy 50 = .ok (.aload_n 0, 1) := by decide +kernel
theorem dX7_copy_51 : decode cX7_copy 51 = .ok (.aload_n 1, 1) := by decide +kernel
theorem dX7_copy_52 : decode cX7_copy 52 = .ok (.getfield 28, 3) := by decide +kernel
theorem dX7_copy_55 : decode cX7_copy 55 = .ok (.putfield 28, 3) := by decide +kernel
theorem dX7_copy_58 : decode cX7_copy 58 = .ok (.aload_n 0, 1) := by decide +kernel
theorem dX7_copy_59 : decode cX7_copy 59 = .ok (.aload_n 1, 1) := by decide +kernel
theorem dX7_copy_60 : decode cX7_copy 60 = .ok (.getfield 31, 3) := by decide +kernel
theorem dX7_copy_63 : decode cX7_copy 63 = .ok (.putfield 31, 3) := by decide +kernel
theorem dX7_copy_66 : decode cX7_copy 66 = .ok (.aload_n 0, 1) := by decide +kernel
theorem dX7_copy_67 : decode cX7_copy 67 = .ok (.aload_n 1, 1) := by decide +kernel
theorem dX7_copy_68 : decode cX7_copy 68 = .ok (.getfield 34, 3) := by decide +kernel
theorem dX7_copy_71 : decode cX7_copy 71 = .ok (.putfield 34, 3) := by decide +kernel
theorem dX7_copy_74 : decode cX7_copy 74 = .ok (.aload_n 0, 1) := by decide +kernel
theorem dX7_copy_75 : decode cX7_copy 75 = .ok (.aload_n 1, 1) := by decide +kernel
theorem dX7_copy_76 : decode cX7_copy 76 = .ok (.getfield 24, 3) := by decide +kernel
theorem dX7_copy_79 : decode cX7_copy 79 = .ok (.putfield 24, 3) := by decide +kernel
theorem dX7_copy_82 : decode cX7_copy 82 = .ok (.return_, 1) := by decide +kernel
theorem dX7_at_0 : decode cX7_at 0 = .ok (.iload_n 1, 1) := by decide +kernel
theorem dX7_at_1 : decode cX7_at 1 = .ok (.ifCond .lt 29, 3) := by decide +kernel
theorem dX7_at_4 : decode cX7_at 4 = .ok (.iload_n 1, 1) := by decide +kernel
theorem dX7_at_5 : decode cX7_at 5 = .ok (.aload_n 0, 1) := by decide +kernel
theorem dX7_at_6 : decode cX7_at 6 = .ok (.getfield 28, 3) := by decide +kernel
theorem dX7_at_9 : decode cX7_at 9 = .ok (.if_icmp .ge 21, 3) := by decide +kernel
theorem dX7_at_12 : decode cX7_at 12 = .ok (.iload_n 1, 1) := by decide +kernel
theorem dX7_at_13 : decode cX7_at 13 = .ok (.aload_n 0, 1) := by decide +kernel
theorem dX7_at_14 : decode cX7_at 14 = .ok (.getfield 11, 3) := by decide +kernel
theorem dX7_at_17 : decode cX7_at 17 = .ok (.arraylength, 1) := by decide +kernel
theorem dX7_at_18 : decode cX7_at 18 = .ok (.if_icmp .ge 12, 3) := by decide +kernel
theorem dX7_at_21 : decode cX7_at 21 = .ok (.aload_n 0, 1) := by decide +kernel
theorem dX7_at_22 : decode cX7_at 22 = .ok (.getfield 11, 3) := by decide +kernel
theorem dX7_at_25 : decode cX7_at 25 = .ok (.iload_n 1, 1) := by decide +kernel
theorem dX7_at_26 : decode cX7_at 26 = .ok (.aaload, 1) := by decide +kernel
theorem dX7_at_27 : decode cX7_at 27 = .ok (.goto 4, 3) := by decide +kernel
theorem dX7_at_30 : decode cX7_at 30 = .ok (.aconst_null, 1) := by decide +kernel
theorem dX7_at_31 : decode cX7_at 31 = .ok (.areturn, 1) := by decide +kernel
set_option maxRecDepth 20000 in
theorem ggX7_add_X11_seatIn : GoodIn wsX7_add wsX11_seatIn := goodIn_r _ [7] (by decide +kernel) (by decide +kernel)
set_option maxRecDepth 20000 in
theorem gX7_add_X11_seatIn_n38 : GoodIn wsX7_add (wsX11_seatIn) := ggX7_add_X11_seatIn
theorem dX7_add_0 : decode cX7_add 0 = .ok (.aload_n 0, 1) := by decide +kernel
theorem dX7_add_1 : decode cX7_add 1 = .ok (.getfield 17, 3) := by decide +kernel
theorem dX7_add_4 : decode cX7_add 4 = .ok (.iconst (-1), 1) := by decide +kernel
theorem dX7_add_5 : decode cX7_add 5 = .ok (.invokestatic 38, 3) := by decide +kernel
theorem dX7_add_8 : decode cX7_add 8 = .ok (.istore_n 2, 1) := by decide +kernel
theorem dX7_add_9 : decode cX7_add 9 = .ok (.aload_n 0, 1) := by decide +kernel
theorem dX7_add_10 : decode cX7_add 10 = .ok (.getfield 28, 3) := by decide +kernel
theorem dX7_add_13 : decode cX7_add 13 = .ok (.bipush 8, 2) := by decide +kernel
theorem dX7_add_15 : decode cX7_add 15 = .ok (.if_icmp .ge 13, 3) := by decide +kernel
theorem dX7_add_18 : decode cX7_add 18 = .ok (.iload_n 2, 1) := by decide +kernel
theorem dX7_add_19 : decode cX7_add 19 = .ok (.ifCond .lt 9, 3) := by decide +kernel
theorem dX7_add_22 : decode cX7_add 22 = .ok (.iload_n 2, 1) := by decide +kernel
theorem dX7_add_23 : decode cX7_add 23 = .ok (.bipush 8, 2) := by decide +kernel
theorem dX7_add_25 : decode cX7_add 25 = .ok (.if_icmp .lt 4, 3) := by decide +kernel
theorem dX7_add_28 : decode cX7_add 28 = .ok (.return_, 1) := by decide +kernel
theorem dX7_add_29 : decode cX7_add 29 = .ok (.aload_n 0, 1) := by decide +kernel
theorem dX7_add_30 : decode cX7_add 30 = .ok (.getfield 11, 3) := by decide +kernel
theorem dX7_add_33 : decode cX7_add 33 = .ok (.aload_n 0, 1) := by decide +kernel
theorem dX7_add_34 : decode cX7_add 34 = .ok (.getfield 28, 3) := by decide +kernel
theorem dX7_add_37 : decode cX7_add 37 = .ok (.aload_n 1, 1) := by decide +kernel
theorem dX7_add_38 : decode cX7_add 38 = .ok (.aastore, 1) := by decide +kernel
theorem dX7_add_39 : decode cX7_add 39 = .ok (.aload_n 0, 1) := by decide +kernel
theorem dX7_add_40 : decode cX7_add 40 = .ok (.getfield 21, 3) := by decide +kernel
theorem dX7_add_43 : decode cX7_add 43 = .ok (.aload_n 0, 1) := by decide +kernel
theorem dX7_add_44 : decode cX7_add 44 = .ok (.getfield 28, 3) := by decide +kernel
theorem dX7_add_47 : decode cX7_add 47 = .ok (.iconst (-1), 1) := by decide +kernel
theorem dX7_add_48 : decode cX7_add 48 = .ok (.iastore, 1) := by decide +kernel
theorem dX7_add_49 : decode cX7_add 49 = .ok (.aload_n 0, 1) := by decide +kernel
theorem dX7_add_50 : decode cX7_add 50 = .ok (.getfield 17, 3) := by decide +kernel
theorem dX7_add_53 : decode cX7_add 53 = .ok (.iload_n 2, 1) := by decide +kernel
theorem dX7_add_54 : decode cX7_add 54 = .ok (.aload_n 0, 1) := by decide +kernel
theorem dX7_add_55 : decode cX7_add 55 = .ok (.getfield 28, 3) := by decide +kernel
theorem dX7_add_58 : decode cX7_add 58 = .ok (.iastore, 1) := by decide +kernel
theorem dX7_add_59 : decode cX7_add 59 = .ok (.aload_n 0, 1) := by decide +kernel
theorem dX7_add_60 : decode cX7_add 60 = .ok (.dup, 1) := by decide +kernel
theorem dX7_add_61 : decode cX7_add 61 = .ok (.getfield 28, 3) := by decide +kernel
theorem dX7_add_64 : decode cX7_add 64 = .ok (.iconst 1, 1) := by decide +kernel
theorem dX7_add_65 : decode cX7_add 65 = .ok (.iadd, 1) := by decide +kernel
theorem dX7_add_66 : decode cX7_add 66 = .ok (.putfield 28, 3) := by decide +kernel
theorem dX7_add_69 : decode cX7_add 69 = .ok (.return_, 1) := by decide +kernel
theorem dX7_arePupils_0 : decode cX7_arePupils 0 = .ok (.iload_n 1, 1) := by decide +kernel
theorem dX7_arePupils_1 : decode cX7_arePupils 1 = .ok (.ifCond .lt 17, 3) := by decide +kernel
theorem dX7_arePupils_4 : decode cX7_arePupils 4 = .ok (.iload_n 1, 1) := by decide +kernel
theorem dX7_arePupils_5 : decode cX7_arePupils 5 = .ok (.iconst 1, 1) := by decide +kernel
theorem dX7_arePupils_6 : decode cX7_arePupils 6 = .ok (.aload_n 0, 1) := by decide +kernel
theorem dX7_arePupils_7 : decode cX7_arePupils 7 = .ok (.getfield 28, 3) := by decide +kernel
theorem dX7_arePupils_10 : decode cX7_arePupils 10 = .ok (.ishl, 1) := by decide +kernel
theorem dX7_arePupils_11 : decode cX7_arePupils 11 = .ok (.if_icmp .ge 7, 3) := by decide +kernel
theorem dX7_arePupils_14 : decode cX7_arePupils 14 = .ok (.iconst 1, 1) := by decide +kernel
theorem dX7_arePupils_15 : decode cX7_arePupils 15 = .ok (.goto 4, 3) := by decide +kernel
theorem dX7_arePupils_18 : decode cX7_arePupils 18 = .ok (.iconst 0, 1) := by decide +kernel
theorem dX7_arePupils_19 : decode cX7_arePupils 19 = .ok (.ireturn, 1) := by decide +kernel
set_option maxRecDepth 20000 in
theorem ggX7_needsFront_X11_hasBit : GoodIn wsX7_needsFront wsX11_hasBit := goodIn_r _ [4] (by decide +kernel) (by decide +kernel)
set_option maxRecDepth 20000 in
theorem gX7_needsFront_X11_hasBit_n42 : GoodIn wsX7_needsFront (wsX11_hasBit) := ggX7_needsFront_X11_hasBit
theorem dX7_needsFront_0 : decode cX7_needsFront 0 = .ok (.aload_n 0, 1) := by decide +kernel
theorem dX7_needsFront_1 : decode cX7_needsFront 1 = .ok (.getfield 31, 3) := by decide +kernel
theorem dX7_needsFront_4 : decode cX7_needsFront 4 = .ok (.iload_n 1, 1) := by decide +kernel
theorem dX7_needsFront_5 : decode cX7_needsFront 5 = .ok (.invokestatic 42, 3) := by decide +kernel
theorem dX7_needsFront_8 : decode cX7_needsFront 8 = .ok (.ireturn, 1) := by decide +kernel
theorem dX7_setFront_0 : decode cX7_setFront 0 = .ok (.aload_n 0, 1) := by decide +kernel
theorem dX7_setFront_1 : decode cX7_setFront 1 = .ok (.iload_n 2, 1) := by decide +kernel
theorem dX7_setFront_2 : decode cX7_setFront 2 = .ok (.ifCond .eq 14, 3) := by decide +kernel
theorem dX7_setFront_5 : decode cX7_setFront 5 = .ok (.aload_n 0, 1) := by decide +kernel
theorem dX7_setFront_6 : decode cX7_setFront 6 = .ok (.getfield 31, 3) := by decide +kernel
theorem dX7_setFront_9 : decode cX7_setFront 9 = .ok (.iconst 1, 1) := by decide +kernel
theorem dX7_setFront_10 : decode cX7_setFront 10 = .ok (.iload_n 1, 1) := by decide +kernel
theorem dX7_setFront_11 : decode cX7_setFront 11 = .ok (.ishl, 1) := by decide +kernel
theorem dX7_setFront_12 : decode cX7_setFront 12 = .ok (.ior, 1) := by decide +kernel
theorem dX7_setFront_13 : decode cX7_setFront 13 = .ok (.goto 13, 3) := by decide +kernel
theorem dX7_setFront_16 : decode cX7_setFront 16 = .ok (.aload_n 0, 1) := by decide +kernel
theorem dX7_setFront_17 : decode cX7_setFront 17 = .ok (.getfield 31, 3) := by decide +kernel
theorem dX7_setFront_20 : decode cX7_setFront 20 = .ok (.iconst 1, 1) := by decide +kernel
theorem dX7_setFront_21 : decode cX7_setFront 21 = .ok (.iload_n 1, 1) := by decide +kernel
theorem dX7_setFront_22 : decode cX7_setFront 22 = .ok (.ishl, 1) := by decide +kernel
theorem dX7_setFront_23 : decode cX7_setFront 23 = .ok (.iconst (-1), 1) := by decide +kernel
theorem dX7_setFront_24 : decode cX7_setFront 24 = .ok (.ixor, 1) := by decide +kernel
theorem dX7_setFront_25 : decode cX7_setFront 25 = .ok (.iand, 1) := by decide +kernel
theorem dX7_setFront_26 : decode cX7_setFront 26 = .ok (.putfield 31, 3) := by decide +kernel
theorem dX7_setFront_29 : decode cX7_setFront 29 = .ok (.return_, 1) := by decide +kernel
theorem dX7_whomNames_0 : decode cX7_whomNames 0 = .ok (.iload_n 1, 1) := by decide +kernel
theorem dX7_whomNames_1 : decode cX7_whomNames 1 = .ok (.ifCond .lt 29, 3) := by decide +kernel
theorem dX7_whomNames_4 : decode cX7_whomNames 4 = .ok (.iload_n 1, 1) := by decide +kernel
theorem dX7_whomNames_5 : decode cX7_whomNames 5 = .ok (.aload_n 0, 1) := by decide +kernel
theorem dX7_whomNames_6 : decode cX7_whomNames 6 = .ok (.getfield 28, 3) := by decide +kernel
theorem dX7_whomNames_9 : decode cX7_whomNames 9 = .ok (.if_icmp .ge 21, 3) := by decide +kernel
theorem dX7_whomNames_12 : decode cX7_whomNames 12 = .ok (.iload_n 1, 1) := by decide +kernel
theorem dX7_whomNames_13 : decode cX7_whomNames 13 = .ok (.aload_n 0, 1) := by decide +kernel
theorem dX7_whomNames_14 : decode cX7_whomNames 14 = .ok (.getfield 21, 3) := by decide +kernel
theorem dX7_whomNames_17 : decode cX7_whomNames 17 = .ok (.arraylength, 1) := by decide +kernel
theorem dX7_whomNames_18 : decode cX7_whomNames 18 = .ok (.if_icmp .ge 12, 3) := by decide +kernel
theorem dX7_whomNames_21 : decode cX7_whomNames 21 = .ok (.aload_n 0, 1) := by decide +kernel
theorem dX7_whomNames_22 : decode cX7_whomNames 22 = .ok (.getfield 21, 3) := by decide +kernel
theorem dX7_whomNames_25 : decode cX7_whomNames 25 = .ok (.iload_n 1, 1) := by decide +kernel
theorem dX7_whomNames_26 : decode cX7_whomNames 26 = .ok (.iaload, 1) := by decide +kernel
theorem dX7_whomNames_27 : decode cX7_whomNames 27 = .ok (.goto 4, 3) := by decide +kernel
theorem dX7_whomNames_30 : decode cX7_whomNames 30 = .ok (.iconst (-1), 1) := by decide +kernel
theorem dX7_whomNames_31 : decode cX7_whomNames 31 = .ok (.ireturn, 1) := by decide +kernel
theorem dX7_setSlip_0 : decode cX7_setSlip 0 = .ok (.iload_n 1, 1) := by decide +kernel
theorem dX7_setSlip_1 : decode cX7_setSlip 1 = .ok (.ifCond .lt 19, 3) := by decide +kernel
theorem dX7_setSlip_4 : decode cX7_setSlip 4 = .ok (.iload_n 1, 1) := by decide +kernel
theorem dX7_setSlip_5 : decode cX7_setSlip 5 = .ok (.aload_n 0, 1) := by decide +kernel
theorem dX7_setSlip_6 : decode cX7_setSlip 6 = .ok (.getfield 21, 3) := by decide +kernel
theorem dX7_setSlip_9 : decode cX7_setSlip 9 = .ok (.arraylength, 1) := by decide +kernel
theorem dX7_setSlip_10 : decode cX7_setSlip 10 = .ok (.if_icmp .ge 10, 3) := by decide +kernel
theorem dX7_setSlip_13 : decode cX7_setSlip 13 = .ok (.aload_n 0, 1) := by decide +kernel
theorem dX7_setSlip_14 : decode cX7_setSlip 14 = .ok (.getfield 21, 3) := by decide +kernel
theorem dX7_setSlip_17 : decode cX7_setSlip 17 = .ok (.iload_n 1, 1) := by decide +kernel
theorem dX7_setSlip_18 : decode cX7_setSlip 18 = .ok (.iload_n 2, 1) := by decide +kernel
theorem dX7_setSlip_19 : decode cX7_setSlip 19 = .ok (.iastore, 1) := by decide +kernel
theorem dX7_setSlip_20 : decode cX7_setSlip 20 = .ok (.return_, 1) := by decide +kernel
theorem dX7_isNaming_0 : decode cX7_isNaming 0 = .ok (.iload_n 1, 1) := by decide +kernel
theorem dX7_isNaming_1 : decode cX7_isNaming 1 = .ok (.ifCond .lt 38, 3) := by decide +kernel
theorem dX7_isNaming_4 : decode cX7_isNaming 4 = .ok (.iload_n 1, 1) := by decide +kernel
theorem dX7_isNaming_5 : decode cX7_isNaming 5 = .ok (.aload_n 0, 1) := by decide +kernel
theorem dX7_isNaming_6 : decode cX7_isNaming 6 = .ok (.getfield 28, 3) := by decide +kernel
theorem dX7_isNaming_9 : decode cX7_isNaming 9 = .ok (.if_icmp .ge 30, 3) := by decide +kernel
theorem dX7_isNaming_12 : decode cX7_isNaming 12 = .ok (.iload_n 1, 1) := by decide +kernel
theorem dX7_isNaming_13 : decode cX7_isNaming 13 = .ok (.aload_n 0, 1) := by decide +kernel
theorem dX7_isNaming_14 : decode cX7_isNaming 14 = .ok (.getfield 21, 3) := by decide +kernel
theorem dX7_isNaming_17 : decode cX7_isNaming 17 = .ok (.arraylength, 1) := by decide +kernel
theorem dX7_isNaming_18 : decode cX7_isNaming 18 = .ok (.if_icmp .ge 21, 3) := by decide +kernel
theorem dX7_isNaming_21 : decode cX7_isNaming 21 = .ok (.iload_n 2, 1) := by decide +kernel
theorem dX7_isNaming_22 : decode cX7_isNaming 22 = .ok (.ifCond .lt 17, 3) := by decide +kernel
theorem dX7_isNaming_25 : decode cX7_isNaming 25 = .ok (.aload_n 0, 1) := by decide +kernel
theorem dX7_isNaming_26 : decode cX7_isNaming 26 = .ok (.getfield 21, 3) := by decide +kernel
theorem dX7_isNaming_29 : decode cX7_isNaming 29 = .ok (.iload_n 1, 1) := by decide +kernel
theorem dX7_isNaming_30 : decode cX7_isNaming 30 = .ok (.iaload, 1) := by decide +kernel
theorem dX7_isNaming_31 : decode cX7_isNaming 31 = .ok (.iload_n 2, 1) := by decide +kernel
theorem dX7_isNaming_32 : decode cX7_isNaming 32 = .ok (.if_icmp .ne 7, 3) := by decide +kernel
theorem dX7_isNaming_35 : decode cX7_isNaming 35 = .ok (.iconst 1, 1) := by decide +kernel
theorem dX7_isNaming_36 : decode cX7_isNaming 36 = .ok (.goto 4, 3) := by decide +kernel
theorem dX7_isNaming_39 : decode cX7_isNaming 39 = .ok (.iconst 0, 1) := by decide +kernel
theorem dX7_isNaming_40 : decode cX7_isNaming 40 = .ok (.ireturn, 1) := by decide +kernel
set_option maxRecDepth 20000 in
theorem ggX7_namersOf_X7_isNaming : GoodIn wsX7_namersOf wsX7_isNaming := goodIn_r _ [6, 1, 7, 8, 9, 10, 11, 12, 13, 14] (by decide +kernel) (by decide +kernel)
set_option maxRecDepth 20000 in
theorem gX7_namersOf_X7_isNaming : GoodIn wsX7_namersOf (wsV RX7 46 RX7 yX7_isNaming wsX7_isNaming) := goodIn_app (goodIn_of _ (by decide +kernel)) ggX7_namersOf_X7_isNaming
theorem dX7_namersOf_0 : decode cX7_namersOf 0 = .ok (.iconst 0, 1) := by decide +kernel
theorem dX7_namersOf_1 : decode cX7_namersOf 1 = .ok (.istore_n 2, 1) := by decide +kernel
theorem dX7_namersOf_2 : decode cX7_namersOf 2 = .ok (.iconst 0, 1) := by decide +kernel
theorem dX7_namersOf_3 : decode cX7_namersOf 3 = .ok (.istore_n 3, 1) := by decide +kernel
theorem dX7_namersOf_4 : decode cX7_namersOf 4 = .ok (.iload_n 3, 1) := by decide +kernel
theorem dX7_namersOf_5 : decode cX7_namersOf 5 = .ok (.aload_n 0, 1) := by decide +kernel
theorem dX7_namersOf_6 : decode cX7_namersOf 6 = .ok (.getfield 28, 3) := by decide +kernel
theorem dX7_namersOf_9 : decode cX7_namersOf 9 = .ok (.if_icmp .ge 21, 3) := by decide +kernel
theorem dX7_namersOf_12 : decode cX7_namersOf 12 = .ok (.aload_n 0, 1) := by decide +kernel
theorem dX7_namersOf_13 : decode cX7_namersOf 13 = .ok (.iload_n 3, 1) := by decide +kernel
theorem dX7_namersOf_14 : decode cX7_namersOf 14 = .ok (.iload_n 1, 1) := by decide +kernel
theorem dX7_namersOf_15 : decode cX7_namersOf 15 = .ok (.invokevirtual 46, 3) := by decide +kernel
theorem dX7_namersOf_18 : decode cX7_namersOf 18 = .ok (.ifCond .eq 6, 3) := by decide +kernel
theorem dX7_namersOf_21 : decode cX7_namersOf 21 = .ok (.iinc 2 1, 3) := by decide +kernel
theorem dX7_namersOf_24 : decode cX7_namersOf 24 = .ok (.iinc 3 1, 3) := by decide +kernel
theorem dX7_namersOf_27 : decode cX7_namersOf 27 = .ok (.goto (-23), 3) := by decide +kernel
theorem dX7_namersOf_30 : decode cX7_namersOf 30 = .ok (.iload_n 2, 1) := by decide +kernel
theorem dX7_namersOf_31 : decode cX7_namersOf 31 = .ok (.ireturn, 1) := by decide +kernel
set_option maxRecDepth 20000 in
theorem ggX7_aloneBits_X7_namersOf : GoodIn wsX7_aloneBits wsX7_namersOf := goodIn_r _ [6, 1, 7, 8, 9, 5, 10, 11, 12, 13, 14, 15, 16, 17, 18] (by decide +kernel) (by decide +kernel)
set_option maxRecDepth 20000 in
theorem gX7_aloneBits_X7_namersOf : GoodIn wsX7_aloneBits (wsV RX7 49 RX7 yX7_namersOf wsX7_namersOf) := goodIn_app (goodIn_of _ (by decide +kernel)) ggX7_aloneBits_X7_namersOf
theorem dX7_aloneBits_0 : decode cX7_aloneBits 0 = .ok (.iconst 0, 1) := by decide +kernel
theorem dX7_aloneBits_1 : decode cX7_aloneBits 1 = .ok (.istore_n 1, 1) := by decide +kernel
theorem dX7_aloneBits_2 : decode cX7_aloneBits 2 = .ok (.iconst 0, 1) := by decide +kernel
theorem dX7_aloneBits_3 : decode cX7_aloneBits 3 = .ok (.istore_n 2, 1) := by decide +kernel
theorem dX7_aloneBits_4 : decode cX7_aloneBits 4 = .ok (.iload_n 2, 1) := by decide +kernel
theorem dX7_aloneBits_5 : decode cX7_aloneBits 5 = .ok (.aload_n 0, 1) := by decide +kernel
theorem dX7_aloneBits_6 : decode cX7_aloneBits 6 = .ok (.getfield 28, 3) := by decide +kernel
theorem dX7_aloneBits_9 : decode cX7_aloneBits 9 = .ok (.if_icmp .ge 23, 3) := by decide +kernel
theorem dX7_aloneBits_12 : decode cX7_aloneBits 12 = .ok (.aload_n 0, 1) := by decide +kernel
theorem dX7_aloneBits_13 : decode cX7_aloneBits 13 = .ok (.iload_n 2, 1) := by decide +kernel
theorem dX7_aloneBits_14 : decode cX7_aloneBits 14 = .ok (.invokevirtual 49, 3) := by decide +kernel
theorem dX7_aloneBits_17 : decode cX7_aloneBits 17 = .ok (.ifCond .ne 9, 3) := by decide +kernel
theorem dX7_aloneBits_20 : decode cX7_aloneBits 20 = .ok (.iload_n 1, 1) := by decide +kernel
theorem dX7_aloneBits_21 : decode cX7_aloneBits 21 = .ok (.iconst 1, 1) := by decide +kernel
theorem dX7_aloneBits_22 : decode cX7_aloneBits 22 = .ok (.iload_n 2, 1) := by decide +kernel
theorem dX7_aloneBits_23 : decode cX7_aloneBits 23 = .ok (.ishl, 1) := by decide +kernel
theorem dX7_aloneBits_24 : decode cX7_aloneBits 24 = .ok (.ior, 1) := by decide +kernel
theorem dX7_aloneBits_25 : decode cX7_aloneBits 25 = .ok (.istore_n 1, 1) := by decide +kernel
theorem dX7_aloneBits_26 : decode cX7_aloneBits 26 = .ok (.iinc 2 1, 3) := by decide +kernel
theorem dX7_aloneBits_29 : decode cX7_aloneBits 29 = .ok (.goto (-25), 3) := by decide +kernel
theorem dX7_aloneBits_32 : decode cX7_aloneBits 32 = .ok (.iload_n 1, 1) := by decide +kernel
theorem dX7_aloneBits_33 : decode cX7_aloneBits 33 = .ok (.ireturn, 1) := by decide +kernel
set_option maxRecDepth 20000 in
theorem ggX7_closedBits_J6_bitCount_0f7a4 : GoodIn wsX7_closedBits wsJ6_bitCount_0f7a4 := goodIn_r _ [5, 6, 7, 8] (by decide +kernel) (by decide +kernel)
set_option maxRecDepth 20000 in
theorem gX7_closedBits_J6_bitCount_0f7a4 : GoodIn wsX7_closedBits (va_wsS RX7 53 yJ6_bitCount_0f7a4 wsJ6_bitCount_0f7a4) := goodIn_app (goodIn_of _ (by decide +kernel)) ggX7_closedBits_J6_bitCount_0f7a4
set_option maxRecDepth 20000 in
theorem ggX7_closedBits_X7_isClosed : GoodIn wsX7_closedBits wsX7_isClosed := goodIn_r _ [13, 1, 14, 15, 16, 17, 18, 19, 12, 20, 21, 22, 23, 24, 25, 26, 27, 28] (by decide +kernel) (by decide +kernel)
set_option maxRecDepth 20000 in
theorem gX7_closedBits_X7_isClosed : GoodIn wsX7_closedBits (wsV RX7 58 RX7 yX7_isClosed wsX7_isClosed) := goodIn_app (goodIn_of _ (by decide +kernel)) ggX7_closedBits_X7_isClosed
theorem dX7_closedBits_0 : decode cX7_closedBits 0 = .ok (.bipush (-5), 2) := by decide +kernel
theorem dX7_closedBits_2 : decode cX7_closedBits 2 = .ok (.istore_n 1, 1) := by decide +kernel
theorem dX7_closedBits_3 : decode cX7_closedBits 3 = .ok (.bipush 9, 2) := by decide +kernel
theorem dX7_closedBits_5 : decode cX7_closedBits 5 = .ok (.istore_n 2, 1) := by decide +kernel
theorem dX7_closedBits_6 : decode cX7_closedBits 6 = .ok (.iconst 1, 1) := by decide +kernel
theorem dX7_closedBits_7 : decode cX7_closedBits 7 = .ok (.istore_n 3, 1) := by decide +kernel
theorem dX7_closedBits_8 : decode cX7_closedBits 8 = .ok (.iload_n 3, 1) := by decide +kernel
theorem dX7_closedBits_9 : decode cX7_closedBits 9 = .ok (.iconst 1, 1) := by decide +kernel
theorem dX7_closedBits_10 : decode cX7_closedBits 10 = .ok (.aload_n 0, 1) := by decide +kernel
theorem dX7_closedBits_11 : decode cX7_closedBits 11 = .ok (.getfield 28, 3) := by decide +kernel
theorem dX7_closedBits_14 : decode cX7_closedBits 14 = .ok (.ishl, 1) := by decide +kernel
theorem dX7_closedBits_15 : decode cX7_closedBits 15 = .ok (.if_icmp .ge 40, 3) := by decide +kernel
theorem dX7_closedBits_18 : decode cX7_closedBits 18 = .ok (.iload_n 3, 1) := by decide +kernel
theorem dX7_closedBits_19 : decode cX7_closedBits 19 = .ok (.invokestatic 53, 3) := by decide +kernel
theorem dX7_closedBits_22 : decode cX7_closedBits 22 = .ok (.istore 4, 2) := by decide +kernel
theorem dX7_closedBits_24 : decode cX7_closedBits 24 = .ok (.iload 4, 2) := by decide +kernel
theorem dX7_closedBits_26 : decode cX7_closedBits 26 = .ok (.iconst 2, 1) := by decide +kernel
theorem dX7_closedBits_27 : decode cX7_closedBits 27 = .ok (.if_icmp .lt 22, 3) := by decide +kernel
theorem dX7_closedBits_30 : decode cX7_closedBits 30 = .ok (.iload 4, 2) := by decide +kernel
theorem dX7_closedBits_32 : decode cX7_closedBits 32 = .ok (.iload_n 2, 1) := by decide +kernel
theorem dX7_closedBits_33 : decode cX7_closedBits 33 = .ok (.if_icmp .ge 16, 3) := by decide +kernel
theorem dX7_closedBits_36 : decode cX7_closedBits 36 = .ok (.aload_n 0, 1) := by decide +kernel
theorem dX7_closedBits_37 : decode cX7_closedBits 37 = .ok (.iload_n 3, 1) := by decide +kernel
theorem dX7_closedBits_38 : decode cX7_closedBits 38 = .ok (.invokevirtual 58, 3) := by decide +kernel
theorem dX7_closedBits_41 : decode cX7_closedBits 41 = .ok (.ifCond .eq 8, 3) := by decide +kernel
theorem dX7_closedBits_44 : decode cX7_closedBits 44 = .ok (.iload_n 3, 1) := by decide +kernel
theorem dX7_closedBits_45 : decode cX7_closedBits 45 = .ok (.istore_n 1, 1) := by decide +kernel
theorem dX7_closedBits_46 : decode cX7_closedBits 46 = .ok (.iload 4, 2) := by decide +kernel
theorem dX7_closedBits_48 : decode cX7_closedBits 48 = .ok (.istore_n 2, 1) := by decide +kernel
theorem dX7_closedBits_49 : decode cX7_closedBits 49 = .ok (.iinc 3 1, 3) := by decide +kernel
theorem dX7_closedBits_52 : decode cX7_closedBits 52 = .ok (.goto (-44), 3) := by decide +kernel
theorem dX7_closedBits_55 : decode cX7_closedBits 55 = .ok (.iload_n 1, 1) := by decide +kernel
theorem dX7_closedBits_56 : decode cX7_closedBits 56 = .ok (.ireturn, 1) := by decide +kernel
set_option maxRecDepth 20000 in
theorem ggX7_isClosed_X11_hasBit : GoodIn wsX7_isClosed wsX11_hasBit := goodIn_r _ [4] (by decide +kernel) (by decide +kernel)
set_option maxRecDepth 20000 in
theorem gX7_isClosed_X11_hasBit_n42 : GoodIn wsX7_isClosed (wsX11_hasBit) := ggX7_isClosed_X11_hasBit
set_option maxRecDepth 20000 in
theorem ggX7_isClosed_X7_whomNames : GoodIn wsX7_isClosed wsX7_whomNames := goodIn_r _ [9, 1, 10, 11, 12, 13, 14, 15, 16, 17] (by decide +kernel) (by decide +kernel)
set_option maxRecDepth 20000 in
theorem gX7_isClosed_X7_whomNames : GoodIn wsX7_isClosed (wsV RX7 62 RX7 yX7_whomNames wsX7_whomNames) := goodIn_app (goodIn_of _ (by decide +kernel)) ggX7_isClosed_X7_whomNames
theorem dX7_isClosed_0 : decode cX7_isClosed 0 = .ok (.iconst 0, 1) := by decide +kernel
theorem dX7_isClosed_1 : decode cX7_isClosed 1 = .ok (.istore_n 2, 1) := by decide +kernel
theorem dX7_isClosed_2 : decode cX7_isClosed 2 = .ok (.iload_n 2, 1) := by decide +kernel
theorem dX7_isClosed_3 : decode cX7_isClosed 3 = .ok (.aload_n 0, 1) := by decide +kernel
theorem dX7_isClosed_4 : decode cX7_isClosed 4 = .ok (.getfield 28, 3) := by decide +kernel
theorem dX7_isClosed_7 : decode cX7_isClosed 7 = .ok (.if_icmp .ge 28, 3) := by decide +kernel
theorem dX7_isClosed_10 : decode cX7_isClosed 10 = .ok (.iload_n 1, 1) := by decide +kernel
theorem dX7_isClosed_11 : decode cX7_isClosed 11 = .ok (.iload_n 2, 1) := by decide +kernel
theorem dX7_isClosed_12 : decode cX7_isClosed 12 = .ok (.invokestatic 42, 3) := by decide +kernel
theorem dX7_isClosed_15 : decode cX7_isClosed 15 = .ok (.iload_n 1, 1) := by decide +kernel
theorem dX7_isClosed_16 : decode cX7_isClosed 16 = .ok (.aload_n 0, 1) := by decide +kernel
theorem dX7_isClosed_17 : decode cX7_isClosed 17 = .ok (.iload_n 2, 1) := by decide +kernel
theorem dX7_isClosed_18 : decode cX7_isClosed 18 = .ok (.invokevirtual 62, 3) := by decide +kernel
theorem dX7_isClosed_21 : decode cX7_isClosed 21 = .ok (.invokestatic 42, 3) := by decide +kernel
theorem dX7_isClosed_24 : decode cX7_isClosed 24 = .ok (.if_icmp .eq 5, 3) := by decide +kernel
theorem dX7_isClosed_27 : decode cX7_isClosed 27 = .ok (.iconst 0, 1) := by decide +kernel
theorem dX7_isClosed_28 : decode cX7_isClosed 28 = .ok (.ireturn, 1) := by decide +kernel
theorem dX7_isClosed_29 : decode cX7_isClosed 29 = .ok (.iinc 2 1, 3) := by decide +kernel
theorem dX7_isClosed_32 : decode cX7_isClosed 32 = .ok (.goto (-30), 3) := by decide +kernel
theorem dX7_isClosed_35 : decode cX7_isClosed 35 = .ok (.iconst 1, 1) := by decide +kernel
theorem dX7_isClosed_36 : decode cX7_isClosed 36 = .ok (.ireturn, 1) := by decide +kernel
set_option maxRecDepth 20000 in
theorem ggX7_besideOf_X11_seatIn : GoodIn wsX7_besideOf wsX11_seatIn := goodIn_r _ [4] (by decide +kernel) (by decide +kernel)
set_option maxRecDepth 20000 in
theorem gX7_besideOf_X11_seatIn_n38 : GoodIn wsX7_besideOf (wsX11_seatIn) := ggX7_besideOf_X11_seatIn
theorem dX7_besideOf_0 : decode cX7_besideOf 0 = .ok (.aload_n 0, 1) := by decide +kernel
theorem dX7_besideOf_1 : decode cX7_besideOf 1 = .ok (.getfield 17, 3) := by decide +kernel
theorem dX7_besideOf_4 : decode cX7_besideOf 4 = .ok (.iload_n 1, 1) := by decide +kernel
theorem dX7_besideOf_5 : decode cX7_besideOf 5 = .ok (.invokestatic 38, 3) := by decide +kernel
theorem dX7_besideOf_8 : decode cX7_besideOf 8 = .ok (.istore_n 2, 1) := by decide +kernel
theorem dX7_besideOf_9 : decode cX7_besideOf 9 = .ok (.iload_n 2, 1) := by decide +kernel
theorem dX7_besideOf_10 : decode cX7_besideOf 10 = .ok (.iconst 1, 1) := by decide +kernel
theorem dX7_besideOf_11 : decode cX7_besideOf 11 = .ok (.ixor, 1) := by decide +kernel
theorem dX7_besideOf_12 : decode cX7_besideOf 12 = .ok (.istore_n 3, 1) := by decide +kernel
theorem dX7_besideOf_13 : decode cX7_besideOf 13 = .ok (.iload_n 2, 1) := by decide +kernel
theorem dX7_besideOf_14 : decode cX7_besideOf 14 = .ok (.ifCond .lt 22, 3) := by decide +kernel
theorem dX7_besideOf_17 : decode cX7_besideOf 17 = .ok (.iload_n 3, 1) := by decide +kernel
theorem dX7_besideOf_18 : decode cX7_besideOf 18 = .ok (.ifCond .lt 18, 3) := by decide +kernel
theorem dX7_besideOf_21 : decode cX7_besideOf 21 = .ok (.iload_n 3, 1) := by decide +kernel
theorem dX7_besideOf_22 : decode cX7_besideOf 22 = .ok (.bipush 8, 2) := by decide +kernel
theorem dX7_besideOf_24 : decode cX7_besideOf 24 = .ok (.if_icmp .ge 12, 3) := by decide +kernel
theorem dX7_besideOf_27 : decode cX7_besideOf 27 = .ok (.aload_n 0, 1) := by decide +kernel
theorem dX7_besideOf_28 : decode cX7_besideOf 28 = .ok (.getfield 17, 3) := by decide +kernel
theorem dX7_besideOf_31 : decode cX7_besideOf 31 = .ok (.iload_n 3, 1) := by decide +kernel
theorem dX7_besideOf_32 : decode cX7_besideOf 32 = .ok (.iaload, 1) := by decide +kernel
theorem dX7_besideOf_33 : decode cX7_besideOf 33 = .ok (.goto 4, 3) := by decide +kernel
theorem dX7_besideOf_36 : decode cX7_besideOf 36 = .ok (.iconst (-1), 1) := by decide +kernel
theorem dX7_besideOf_37 : decode cX7_besideOf 37 = .ok (.ireturn, 1) := by decide +kernel
set_option maxRecDepth 20000 in
theorem ggX7_newPairs_X7_pairsOf : GoodIn wsX7_newPairs wsX7_pairsOf := goodIn_r _ [6, 7, 8, 9, 10, 11, 12, 13] (by decide +kernel) (by decide +kernel)
set_option maxRecDepth 20000 in
theorem gX7_newPairs_X7_pairsOf : GoodIn wsX7_newPairs (va_wsS RX7 65 yX7_pairsOf wsX7_pairsOf) := goodIn_app (goodIn_of _ (by decide +kernel)) ggX7_newPairs_X7_pairsOf
set_option maxRecDepth 20000 in
theorem ggX7_newPairs_J13_bitCount_95d88 : GoodIn wsX7_newPairs wsJ13_bitCount_95d88 := goodIn_r _ [17, 18, 19, 20] (by decide +kernel) (by decide +kernel)
set_option maxRecDepth 20000 in
theorem gX7_newPairs_J13_bitCount_95d88 : GoodIn wsX7_newPairs (va_wsS RX7 71 yJ13_bitCount_95d88 wsJ13_bitCount_95d88) := goodIn_app (goodIn_of _ (by decide +kernel)) ggX7_newPairs_J13_bitCount_95d88
theorem dX7_newPairs_0 : decode cX7_newPairs 0 = .ok (.aload_n 1, 1) := by decide +kernel
theorem dX7_newPairs_1 : decode cX7_newPairs 1 = .ok (.invokestatic 65, 3) := by decide +kernel
theorem dX7_newPairs_4 : decode cX7_newPairs 4 = .ok (.aload_n 0, 1) := by decide +kernel
theorem dX7_newPairs_5 : decode cX7_newPairs 5 = .ok (.getfield 34, 3) := by decide +kernel
theorem dX7_newPairs_8 : decode cX7_newPairs 8 = .ok (.ldc2_w 69, 3) := by decide +kernel
theorem dX7_newPairs_11 : decode cX7_newPairs 11 = .ok (.lxor, 1) := by decide +kernel
theorem dX7_newPairs_12 : decode cX7_newPairs 12 = .ok (.land, 1) := by decide +kernel
theorem dX7_newPairs_13 : decode cX7_newPairs 13 = .ok (.invokestatic 71, 3) := by decide +kernel
theorem dX7_newPairs_16 : decode cX7_newPairs 16 = .ok (.ireturn, 1) := by decide +kernel
set_option maxRecDepth 20000 in
theorem ggX7_putDown_X7_newPairs : GoodIn wsX7_putDown wsX7_newPairs := goodIn_r _ [7, 2, 8, 9, 10, 6, 11, 12, 13, 14, 15, 16, 17, 18, 19, 20, 21, 22, 23, 24, 25, 26, 27, 28, 29, 30, 31, 32] (by decide +kernel) (by decide +kernel)
set_option maxRecDepth 20000 in
theorem gX7_putDown_X7_newPairs : GoodIn wsX7_putDown (wsV RX7 76 RX7 yX7_newPairs wsX7_newPairs) := goodIn_app (goodIn_of _ (by decide +kernel)) ggX7_putDown_X7_newPairs
set_option maxRecDepth 20000 in
theorem ggX7_putDown_X7_pairsOf : GoodIn wsX7_putDown wsX7_pairsOf := goodIn_r _ [11, 12, 13, 14, 15, 16, 17, 18] (by decide +kernel) (by decide +kernel)
set_option maxRecDepth 20000 in
theorem gX7_putDown_X7_pairsOf : GoodIn wsX7_putDown (va_wsS RX7 65 yX7_pairsOf wsX7_pairsOf) := goodIn_app (goodIn_of _ (by decide +kernel)) ggX7_putDown_X7_pairsOf
theorem dX7_putDown_0 : decode cX7_putDown 0 = .ok (.aload_n 0, 1) := by decide +kernel
theorem dX7_putDown_1 : decode cX7_putDown 1 = .ok (.aload_n 0, 1) := by decide +kernel
theorem dX7_putDown_2 : decode cX7_putDown 2 = .ok (.getfield 17, 3) := by decide +kernel
theorem dX7_putDown_5 : decode cX7_putDown 5 = .ok (.invokevirtual 76, 3) := by decide +kernel
theorem dX7_putDown_8 : decode cX7_putDown 8 = .ok (.istore_n 1, 1) := by decide +kernel
theorem dX7_putDown_9 : decode cX7_putDown 9 = .ok (.aload_n 0, 1) := by decide +kernel
theorem dX7_putDown_10 : decode cX7_putDown 10 = .ok (.dup, 1) := by decide +kernel
theorem dX7_putDown_11 : decode cX7_putDown 11 = .ok (.getfield 34, 3) := by decide +kernel
theorem dX7_putDown_14 : decode cX7_putDown 14 = .ok (.aload_n 0, 1) := by decide +kernel
theorem dX7_putDown_15 : decode cX7_putDown 15 = .ok (.getfield 17, 3) := by decide +kernel
theorem dX7_putDown_18 : decode cX7_putDown 18 = .ok (.invokestatic 65, 3) := by decide +kernel
theorem dX7_putDown_21 : decode cX7_putDown 21 = .ok (.lor, 1) := by decide +kernel
theorem dX7_putDown_22 : decode cX7_putDown 22 = .ok (.putfield 34, 3) := by decide +kernel
theorem dX7_putDown_25 : decode cX7_putDown 25 = .ok (.iload_n 1, 1) := by decide +kernel
theorem dX7_putDown_26 : decode cX7_putDown 26 = .ok (.ireturn, 1) := by decide +kernel
theorem dX7_pairsOf_0 : decode cX7_pairsOf 0 = .ok (.lconst 0, 1) := by decide +kernel
theorem dX7_pairsOf_1 : decode cX7_pairsOf 1 = .ok (.lstore_n 1, 1) := by decide +kernel
theorem dX7_pairsOf_2 : decode cX7_pairsOf 2 = .ok (.iconst 0, 1) := by decide +kernel
theorem dX7_pairsOf_3 : decode cX7_pairsOf 3 = .ok (.istore_n 3, 1) := by decide +kernel
theorem dX7_pairsOf_4 : decode cX7_pairsOf 4 = .ok (.iload_n 3, 1) := by decide +kernel
theorem dX7_pairsOf_5 : decode cX7_pairsOf 5 = .ok (.iconst 1, 1) := by decide +kernel
theorem dX7_pairsOf_6 : decode cX7_pairsOf 6 = .ok (.iadd, 1) := by decide +kernel
theorem dX7_pairsOf_7 : decode cX7_pairsOf 7 = .ok (.aload_n 0, 1) := by decide +kernel
theorem dX7_pairsOf_8 : decode cX7_pairsOf 8 = .ok (.arraylength, 1) := by decide +kernel
theorem dX7_pairsOf_9 : decode cX7_pairsOf 9 = .ok (.if_icmp .ge 53, 3) := by decide +kernel
theorem dX7_pairsOf_12 : decode cX7_pairsOf 12 = .ok (.aload_n 0, 1) := by decide +kernel
theorem dX7_pairsOf_13 : decode cX7_pairsOf 13 = .ok (.iload_n 3, 1) := by decide +kernel
theorem dX7_pairsOf_14 : decode cX7_pairsOf 14 = .ok (.iaload, 1) := by decide +kernel
theorem dX7_pairsOf_15 : decode cX7_pairsOf 15 = .ok (.aload_n 0, 1) := by decide +kernel
theorem dX7_pairsOf_16 : decode cX7_pairsOf 16 = .ok (.iload_n 3, 1) := by decide +kernel
theorem dX7_pairsOf_17 : decode cX7_pairsOf 17 = .ok (.iconst 1, 1) := by decide +kernel
theorem dX7_pairsOf_18 : decode cX7_pairsOf 18 = .ok (.iadd, 1) := by decide +kernel
theorem dX7_pairsOf_19 : decode cX7_pairsOf 19 = .ok (.iaload, 1) := by decide +kernel
theorem dX7_pairsOf_20 : decode cX7_pairsOf 20 = .ok (.invokestatic 80, 3) := by decide +kernel
theorem dX7_pairsOf_23 : decode cX7_pairsOf 23 = .ok (.istore 4, 2) := by decide +kernel
theorem dX7_pairsOf_25 : decode cX7_pairsOf 25 = .ok (.aload_n 0, 1) := by decide +kernel
theorem dX7_pairsOf_26 : decode cX7_pairsOf 26 = .ok (.iload_n 3, 1) := by decide +kernel
theorem dX7_pairsOf_27 : decode cX7_pairsOf 27 = .ok (.iaload, 1) := by decide +kernel
theorem dX7_pairsOf_28 : decode cX7_pairsOf 28 = .ok (.aload_n 0, 1) := by decide +kernel
theorem dX7_pairsOf_29 : decode cX7_pairsOf 29 = .ok (.iload_n 3, 1) := by decide +kernel
theorem dX7_pairsOf_30 : decode cX7_pairsOf 30 = .ok (.iconst 1, 1) := by decide +kernel
theorem dX7_pairsOf_31 : decode cX7_pairsOf 31 = .ok (.iadd, 1) := by decide +kernel
theorem dX7_pairsOf_32 : decode cX7_pairsOf 32 = .ok (.iaload, 1) := by decide +kernel
theorem dX7_pairsOf_33 : decode cX7_pairsOf 33 = .ok (.invokestatic 86, 3) := by decide +kernel
theorem dX7_pairsOf_36 : decode cX7_pairsOf 36 = .ok (.istore 5, 2) := by decide +kernel
theorem dX7_pairsOf_38 : decode cX7_pairsOf 38 = .ok (.iload 4, 2) := by decide +kernel
theorem dX7_pairsOf_40 : decode cX7_pairsOf 40 = .ok (.ifCond .lt 16, 3) := by decide +kernel
theorem dX7_pairsOf_43 : decode cX7_pairsOf 43 = .ok (.lload_n 1, 1) := by decide +kernel
theorem dX7_pairsOf_44 : decode cX7_pairsOf 44 = .ok (.lconst 1, 1) := by decide +kernel
theorem dX7_pairsOf_45 : decode cX7_pairsOf 45 = .ok (.bipush 8, 2) := by decide +kernel
theorem dX7_pairsOf_47 : decode cX7_pairsOf 47 = .ok (.iload 4, 2) := by decide +kernel
theorem dX7_pairsOf_49 : decode cX7_pairsOf 49 = .ok (.imul, 1) := by decide +kernel
theorem dX7_pairsOf_50 : decode cX7_pairsOf 50 = .ok (.iload 5, 2) := by decide +kernel
theorem dX7_pairsOf_52 : decode cX7_pairsOf 52 = .ok (.iadd, 1) := by decide +kernel
theorem dX7_pairsOf_53 : decode cX7_pairsOf 53 = .ok (.lshl, 1) := by decide +kernel
theorem dX7_pairsOf_54 : decode cX7_pairsOf 54 = .ok (.lor, 1) := by decide +kernel
theorem dX7_pairsOf_55 : decode cX7_pairsOf 55 = .ok (.lstore_n 1, 1) := by decide +kernel
theorem dX7_pairsOf_56 : decode cX7_pairsOf 56 = .ok (.iinc 3 2, 3) := by decide +kernel
theorem dX7_pairsOf_59 : decode cX7_pairsOf 59 = .ok (.goto (-55), 3) := by decide +kernel
theorem dX7_pairsOf_62 : decode cX7_pairsOf 62 = .ok (.lload_n 1, 1) := by decide +kernel
theorem dX7_pairsOf_63 : decode cX7_pairsOf 63 = .ok (.lreturn, 1) := by decide +kernel
set_option maxRecDepth 20000 in
theorem ggX7_loudness_X11_hasBit : GoodIn wsX7_loudness wsX11_hasBit := goodIn_r _ [4] (by decide +kernel) (by decide +kernel)
set_option maxRecDepth 20000 in
theorem gX7_loudness_X11_hasBit_n42 : GoodIn wsX7_loudness (wsX11_hasBit) := ggX7_loudness_X11_hasBit
set_option maxRecDepth 20000 in
theorem ggX7_loudness_X7_talksOf : GoodIn wsX7_loudness wsX7_talksOf := goodIn_r _ [9, 10, 11, 12, 13, 8, 14, 1, 15, 23, 24, 25, 26, 27, 28, 29, 30, 31, 32, 33, 34, 35, 36, 37, 38, 39, 40, 41, 42, 43, 44, 45, 46, 47, 48, 49, 50, 51, 52, 53, 54, 55, 56, 57, 16, 17, 18, 19, 20, 21, 22] (by decide +kernel) (by decide +kernel)
set_option maxRecDepth 20000 in
theorem gX7_loudness_X7_talksOf : GoodIn wsX7_loudness (wsV RX7 89 RX7 yX7_talksOf wsX7_talksOf) := goodIn_app (goodIn_of _ (by decide +kernel)) ggX7_loudness_X7_talksOf
theorem dX7_loudness_0 : decode cX7_loudness 0 = .ok (.iconst 0, 1) := by decide +kernel
theorem dX7_loudness_1 : decode cX7_loudness 1 = .ok (.istore_n 2, 1) := by decide +kernel
theorem dX7_loudness_2 : decode cX7_loudness 2 = .ok (.iconst 0, 1) := by decide +kernel
theorem dX7_loudness_3 : decode cX7_loudness 3 = .ok (.istore_n 3, 1) := by decide +kernel
theorem dX7_loudness_4 : decode cX7_loudness 4 = .ok (.iload_n 3, 1) := by decide +kernel
theorem dX7_loudness_5 : decode cX7_loudness 5 = .ok (.aload_n 0, 1) := by decide +kernel
theorem dX7_loudness_6 : decode cX7_loudness 6 = .ok (.getfield 28, 3) := by decide +kernel
theorem dX7_loudness_9 : decode cX7_loudness 9 = .ok (.if_icmp .ge 25, 3) := by decide +kernel
theorem dX7_loudness_12 : decode cX7_loudness 12 = .ok (.iload_n 1, 1) := by decide +kernel
theorem dX7_loudness_13 : decode cX7_loudness 13 = .ok (.iload_n 3, 1) := by decide +kernel
theorem dX7_loudness_14 : decode cX7_loudness 14 = .ok (.invokestatic 42, 3) := by decide +kernel
theorem dX7_loudness_17 : decode cX7_loudness 17 = .ok (.ifCond .eq 11, 3) := by decide +kernel
theorem dX7_loudness_20 : decode cX7_loudness 20 = .ok (.iload_n 2, 1) := by decide +kernel
theorem dX7_loudness_21 : decode cX7_loudness 21 = .ok (.aload_n 0, 1) := by decide +kernel
theorem dX7_loudness_22 : decode cX7_loudness 22 = .ok (.iload_n 3, 1) := by decide +kernel
theorem dX7_loudness_23 : decode cX7_loudness 23 = .ok (.invokevirtual 89, 3) := by decide +kernel
theorem dX7_loudness_26 : decode cX7_loudness 26 = .ok (.iadd, 1) := by decide +kernel
theorem dX7_loudness_27 : decode cX7_loudness 27 = .ok (.istore_n 2, 1) := by decide +kernel
theorem dX7_loudness_28 : decode cX7_loudness 28 = .ok (.iinc 3 1, 3) := by decide +kernel
theorem dX7_loudness_31 : decode cX7_loudness 31 = .ok (.goto (-27), 3) := by decide +kernel
theorem dX7_loudness_34 : decode cX7_loudness 34 = .ok (.iload_n 2, 1) := by decide +kernel
theorem dX7_loudness_35 : decode cX7_loudness 35 = .ok (.ireturn, 1) := by decide +kernel
set_option maxRecDepth 20000 in
theorem ggX7_talksOf_X7_at : GoodIn wsX7_talksOf wsX7_at := goodIn_r _ [6, 7, 8, 44, 45, 46, 47, 48, 49, 50] (by decide +kernel) (by decide +kernel)
set_option maxRecDepth 20000 in
theorem gX7_talksOf_X7_at : GoodIn wsX7_talksOf (wsV RX7 92 RX7 yX7_at wsX7_at) := goodIn_app (goodIn_of _ (by decide +kernel)) ggX7_talksOf_X7_at
theorem dX7_talksOf_0 : decode cX7_talksOf 0 = .ok (.aload_n 0, 1) := by decide +kernel
theorem dX7_talksOf_1 : decode cX7_talksOf 1 = .ok (.iload_n 1, 1) := by decide +kernel
theorem dX7_talksOf_2 : decode cX7_talksOf 2 = .ok (.invokevirtual 92, 3) := by decide +kernel
theorem dX7_talksOf_5 : decode cX7_talksOf 5 = .ok (.astore_n 2, 1) := by decide +kernel
theorem dX7_talksOf_6 : decode cX7_talksOf 6 = .ok (.aload_n 2, 1) := by decide +kernel
theorem dX7_talksOf_7 : decode cX7_talksOf 7 = .ok (.ifnonnull 7, 3) := by decide +kernel
theorem dX7_talksOf_10 : decode cX7_talksOf 10 = .ok (.iconst 0, 1) := by decide +kernel
theorem dX7_talksOf_11 : decode cX7_talksOf 11 = .ok (.goto 7, 3) := by decide +kernel
theorem dX7_talksOf_14 : decode cX7_talksOf 14 = .ok (.aload_n 2, 1) := by decide +kernel
theorem dX7_talksOf_15 : decode cX7_talksOf 15 = .ok (.getfield 96, 3) := by decide +kernel
theorem dX7_talksOf_18 : decode cX7_talksOf 18 = .ok (.ireturn, 1) := by decide +kernel
set_option maxRecDepth 20000 in
theorem ggX7_talkersAfter_X7_talksAfter : GoodIn wsX7_talkersAfter wsX7_talksAfter := goodIn_r _ [6, 1, 7, 8, 9, 10, 11, 5, 12, 13, 14, 15, 16, 17, 18, 19, 20, 21, 22, 23, 24, 25, 26, 27, 28, 29, 30, 31, 32, 33, 34, 35, 36, 37, 38, 39, 40, 41, 42, 43, 44, 45, 46, 47, 48, 49, 50, 51, 52, 53, 54, 55, 56, 57, 58, 59, 60, 61, 62, 63, 64, 65, 66, 67, 68, 69, 70, 71, 72, 73, 74, 75, 76, 77, 78, 79, 80, 81, 82, 83] (by decide +kernel) (by decide +kernel)
set_option maxRecDepth 20000 in
theorem gX7_talkersAfter_X7_talksAfter : GoodIn wsX7_talkersAfter (wsV RX7 99 RX7 yX7_talksAfter wsX7_talksAfter) := goodIn_app (goodIn_of _ (by decide +kernel)) ggX7_talkersAfter_X7_talksAfter
theorem dX7_talkersAfter_0 : decode cX7_talkersAfter 0 = .ok (.iconst 0, 1) := by decide +kernel
theorem dX7_talkersAfter_1 : decode cX7_talkersAfter 1 = .ok (.istore 4, 2) := by decide +kernel
theorem dX7_talkersAfter_3 : decode cX7_talkersAfter 3 = .ok (.iconst 0, 1) := by decide +kernel
theorem dX7_talkersAfter_4 : decode cX7_talkersAfter 4 = .ok (.istore 5, 2) := by decide +kernel
theorem dX7_talkersAfter_6 : decode cX7_talkersAfter 6 = .ok (.iload 5, 2) := by decide +kernel
theorem dX7_talkersAfter_8 : decode cX7_talkersAfter 8 = .ok (.bipush 8, 2) := by decide +kernel
theorem dX7_talkersAfter_10 : decode cX7_talkersAfter 10 = .ok (.if_icmp .ge 50, 3) := by decide +kernel
theorem dX7_talkersAfter_13 : decode cX7_talkersAfter 13 = .ok (.aload_n 0, 1) := by decide +kernel
theorem dX7_talkersAfter_14 : decode cX7_talkersAfter 14 = .ok (.getfield 17, 3) := by decide +kernel
theorem dX7_talkersAfter_17 : decode cX7_talkersAfter 17 = .ok (.iload 5, 2) := by decide +kernel
theorem dX7_talkersAfter_19 : decode cX7_talkersAfter 19 = .ok (.iaload, 1) := by decide +kernel
theorem dX7_talkersAfter_20 : decode cX7_talkersAfter 20 = .ok (.istore 6, 2) := by decide +kernel
theorem dX7_talkersAfter_22 : decode cX7_talkersAfter 22 = .ok (.iload 6, 2) := by decide +kernel
theorem dX7_talkersAfter_24 : decode cX7_talkersAfter 24 = .ok (.iconst (-1), 1) := by decide +kernel
theorem dX7_talkersAfter_25 : decode cX7_talkersAfter 25 = .ok (.if_icmp .eq 29, 3) := by decide +kernel
theorem dX7_talkersAfter_28 : decode cX7_talkersAfter 28 = .ok (.iload 6, 2) := by decide +kernel
theorem dX7_talkersAfter_30 : decode cX7_talkersAfter 30 = .ok (.iload_n 3, 1) := by decide +kernel
theorem dX7_talkersAfter_31 : decode cX7_talkersAfter 31 = .ok (.if_icmp .eq 23, 3) := by decide +kernel
theorem dX7_talkersAfter_34 : decode cX7_talkersAfter 34 = .ok (.aload_n 0, 1) := by decide +kernel
theorem dX7_talkersAfter_35 : decode cX7_talkersAfter 35 = .ok (.iload 5, 2) := by decide +kernel
theorem dX7_talkersAfter_37 : decode cX7_talkersAfter 37 = .ok (.iload_n 1, 1) := by decide +kernel
theorem dX7_talkersAfter_38 : decode cX7_talkersAfter 38 = .ok (.iload_n 2, 1) := by decide +kernel
theorem dX7_talkersAfter_39 : decode cX7_talkersAfter 39 = .ok (.invokevirtual 99, 3) := by decide +kernel
theorem dX7_talkersAfter_42 : decode cX7_talkersAfter 42 = .ok (.ifCond .eq 12, 3) := by decide +kernel
theorem dX7_talkersAfter_45 : decode cX7_talkersAfter 45 = .ok (.iload 4, 2) := by decide +kernel
theorem dX7_talkersAfter_47 : decode cX7_talkersAfter 47 = .ok (.iconst 1, 1) := by decide +kernel
theorem dX7_talkersAfter_48 : decode cX7_talkersAfter 48 = .ok (.iload 6, 2) := by decide +kernel
theorem dX7_talkersAfter_50 : decode cX7_talkersAfter 50 = .ok (.ishl, 1) := by decide +kernel
theorem dX7_talkersAfter_51 : decode cX7_talkersAfter 51 = .ok (.ior, 1) := by decide +kernel
theorem dX7_talkersAfter_52 : decode cX7_talkersAfter 52 = .ok (.istore 4, 2) := by decide +kernel
theorem dX7_talkersAfter_54 : decode cX7_talkersAfter 54 = .ok (.iinc 5 1, 3) := by decide +kernel
theorem dX7_talkersAfter_57 : decode cX7_talkersAfter 57 = .ok (.goto (-51), 3) := by decide +kernel
theorem dX7_talkersAfter_60 : decode cX7_talkersAfter 60 = .ok (.iload 4, 2) := by decide +kernel
theorem dX7_talkersAfter_62 : decode cX7_talkersAfter 62 = .ok (.ireturn, 1) := by decide +kernel
set_option maxRecDepth 20000 in
theorem ggX7_talksAfter_X7_at : GoodIn wsX7_talksAfter wsX7_at := goodIn_r _ [8, 9, 10, 38, 39, 40, 41, 42, 43, 44] (by decide +kernel) (by decide +kernel)
set_option maxRecDepth 20000 in
theorem gX7_talksAfter_X7_at : GoodIn wsX7_talksAfter (wsV RX7 92 RX7 yX7_at wsX7_at) := goodIn_app (goodIn_of _ (by decide +kernel)) ggX7_talksAfter_X7_at
set_option maxRecDepth 20000 in
theorem ggX7_talksAfter_X8_goesOn : GoodIn wsX7_talksAfter wsX8_goesOn := goodIn_r _ [17] (by decide +kernel) (by decide +kernel)
set_option maxRecDepth 20000 in
theorem gX7_talksAfter_X8_goesOn_u103X0 : GoodIn wsX7_talksAfter (va_wsO RX7 103 RX0 "WhoSitsBy$Pupil" ⟨"WhoSitsBy$Pupil", "goesOn", "()Z"⟩ yX8_goesOn wsX8_goesOn) := goodIn_app (goodIn_of _ (by decide +kernel)) ggX7_talksAfter_X8_goesOn
set_option maxRecDepth 20000 in
theorem ggX7_talksAfter_X4_goesOn : GoodIn wsX7_talksAfter wsX4_goesOn := goodIn_r _ [18] (by decide +kernel) (by decide +kernel)
set_option maxRecDepth 20000 in
theorem gX7_talksAfter_X4_goesOn_u103X1 : GoodIn wsX7_talksAfter (va_wsU RX7 103 RX1 "WhoSitsBy$Pupil" ⟨"WhoSitsBy$Pupil", "goesOn", "()Z"⟩ yX4_goesOn wsX4_goesOn) := goodIn_app (goodIn_of _ (by decide +kernel)) ggX7_talksAfter_X4_goesOn
set_option maxRecDepth 20000 in
theorem gX7_talksAfter_X4_goesOn_u103X2 : GoodIn wsX7_talksAfter (va_wsU RX7 103 RX2 "WhoSitsBy$Pupil" ⟨"WhoSitsBy$Pupil", "goesOn", "()Z"⟩ yX4_goesOn wsX4_goesOn) := goodIn_app (goodIn_of _ (by decide +kernel)) ggX7_talksAfter_X4_goesOn
set_option maxRecDepth 20000 in
theorem gX7_talksAfter_X4_goesOn_u103X3 : GoodIn wsX7_talksAfter (va_wsU RX7 103 RX3 "WhoSitsBy$Pupil" ⟨"WhoSitsBy$Pupil", "goesOn", "()Z"⟩ yX4_goesOn wsX4_goesOn) := goodIn_app (goodIn_of _ (by decide +kernel)) ggX7_talksAfter_X4_goesOn
set_option maxRecDepth 20000 in
theorem gX7_talksAfter_X4_goesOn : GoodIn wsX7_talksAfter (wsV RX7 103 RX4 yX4_goesOn wsX4_goesOn) := goodIn_app (goodIn_of _ (by decide +kernel)) ggX7_talksAfter_X4_goesOn
set_option maxRecDepth 20000 in
theorem gX7_talksAfter_X8_goesOn_u103X8 : GoodIn wsX7_talksAfter (va_wsO RX7 103 RX8 "WhoSitsBy$Pupil" ⟨"WhoSitsBy$Pupil", "goesOn", "()Z"⟩ yX8_goesOn wsX8_goesOn) := goodIn_app (goodIn_of _ (by decide +kernel)) ggX7_talksAfter_X8_goesOn
set_option maxRecDepth 20000 in
theorem gX7_talksAfter_X4_goesOn_u103X10 : GoodIn wsX7_talksAfter (va_wsU RX7 103 RX10 "WhoSitsBy$Pupil" ⟨"WhoSitsBy$Pupil", "goesOn", "()Z"⟩ yX4_goesOn wsX4_goesOn) := goodIn_app (goodIn_of _ (by decide +kernel)) ggX7_talksAfter_X4_goesOn
set_option maxRecDepth 20000 in
theorem ggX7_talksAfter_X11_hasBit : GoodIn wsX7_talksAfter wsX11_hasBit := goodIn_r _ [30] (by decide +kernel) (by decide +kernel)
set_option maxRecDepth 20000 in
theorem gX7_talksAfter_X11_hasBit_n42 : GoodIn wsX7_talksAfter (wsX11_hasBit) := ggX7_talksAfter_X11_hasBit
set_option maxRecDepth 20000 in
theorem ggX7_talksAfter_X7_isNear : GoodIn wsX7_talksAfter wsX7_isNear := goodIn_r _ [33] (by decide +kernel) (by decide +kernel)
set_option maxRecDepth 20000 in
theorem gX7_talksAfter_X7_isNear : GoodIn wsX7_talksAfter (va_wsS RX7 110 yX7_isNear wsX7_isNear) := goodIn_app (goodIn_of _ (by decide +kernel)) ggX7_talksAfter_X7_isNear
set_option maxRecDepth 20000 in
theorem ggX7_talksAfter_X7_talksOf : GoodIn wsX7_talksAfter wsX7_talksOf := goodIn_r _ [37, 3, 4, 5, 6, 7, 8, 9, 10, 45, 46, 47, 48, 49, 50, 51, 52, 53, 54, 55, 56, 57, 58, 59, 60, 61, 62, 63, 64, 65, 66, 67, 68, 69, 70, 71, 72, 73, 74, 75, 76, 77, 78, 79, 38, 39, 40, 41, 42, 43, 44] (by decide +kernel) (by decide +kernel)
set_option maxRecDepth 20000 in
theorem gX7_talksAfter_X7_talksOf : GoodIn wsX7_talksAfter (wsV RX7 89 RX7 yX7_talksOf wsX7_talksOf) := goodIn_app (goodIn_of _ (by decide +kernel)) ggX7_talksAfter_X7_talksOf
theorem dX7_talksAfter_0 : decode cX7_talksAfter 0 = .ok (.iload_n 1, 1) := by decide +kernel
theorem dX7_talksAfter_1 : decode cX7_talksAfter 1 = .ok (.ifCond .lt 22, 3) := by decide +kernel
theorem dX7_talksAfter_4 : decode cX7_talksAfter 4 = .ok (.iload_n 1, 1) := by decide +kernel
theorem dX7_talksAfter_5 : decode cX7_talksAfter 5 = .ok (.bipush 8, 2) := by decide +kernel
theorem dX7_talksAfter_7 : decode cX7_talksAfter 7 = .ok (.if_icmp .ge 16, 3) := by decide +kernel
theorem dX7_talksAfter_10 : decode cX7_talksAfter 10 = .ok (.aload_n 0, 1) := by decide +kernel
theorem dX7_talksAfter_11 : decode cX7_talksAfter 11 = .ok (.aload_n 0, 1) := by decide +kernel
theorem dX7_talksAfter_12 : decode cX7_talksAfter 12 = .ok (.getfield 17, 3) := by decide +kernel
theorem dX7_talksAfter_15 : decode cX7_talksAfter 15 = .ok (.iload_n 1, 1) := by decide +kernel
theorem dX7_talksAfter_16 : decode cX7_talksAfter 16 = .ok (.iaload, 1) := by decide +kernel
theorem dX7_talksAfter_17 : decode cX7_talksAfter 17 = .ok (.invokevirtual 92, 3) := by decide +kernel
theorem dX7_talksAfter_20 : decode cX7_talksAfter 20 = .ok (.goto 4, 3) := by decide +kernel
theorem dX7_talksAfter_23 : decode cX7_talksAfter 23 = .ok (.aconst_null, 1) := by decide +kernel
theorem dX7_talksAfter_24 : decode cX7_talksAfter 24 = .ok (.astore 4, 2) := by decide +kernel
theorem dX7_talksAfter_26 : decode cX7_talksAfter 26 = .ok (.aload 4, 2) := by decide +kernel
theorem dX7_talksAfter_28 : decode cX7_talksAfter 28 = .ok (.ifnonnull 5, 3) := by decide +kernel
theorem dX7_talksAfter_31 : decode cX7_talksAfter 31 = .ok (.iconst 0, 1) := by decide +kernel
theorem dX7_talksAfter_32 : decode cX7_talksAfter 32 = .ok (.ireturn, 1) := by decide +kernel
theorem dX7_talksAfter_33 : decode cX7_talksAfter 33 = .ok (.aload 4, 2) := by decide +kernel
theorem dX7_talksAfter_35 : decode cX7_talksAfter 35 = .ok (.invokevirtual 103, 3) := by decide +kernel
theorem dX7_talksAfter_38 : decode cX7_talksAfter 38 = .ok (.ifCond .eq 17, 3) := by decide +kernel
theorem dX7_talksAfter_41 : decode cX7_talksAfter 41 = .ok (.iload_n 2, 1) := by decide +kernel
theorem dX7_talksAfter_42 : decode cX7_talksAfter 42 = .ok (.aload 4, 2) := by decide +kernel
theorem dX7_talksAfter_44 : decode cX7_talksAfter 44 = .ok (.getfield 107, 3) := by decide +kernel
theorem dX7_talksAfter_47 : decode cX7_talksAfter 47 = .ok (.invokestatic 42, 3) := by decide +kernel
theorem dX7_talksAfter_50 : decode cX7_talksAfter 50 = .ok (.ifCond .eq 5, 3) := by decide +kernel
theorem dX7_talksAfter_53 : decode cX7_talksAfter 53 = .ok (.iconst 1, 1) := by decide +kernel
theorem dX7_talksAfter_54 : decode cX7_talksAfter 54 = .ok (.ireturn, 1) := by decide +kernel
theorem dX7_talksAfter_55 : decode cX7_talksAfter 55 = .ok (.iconst 0, 1) := by decide +kernel
theorem dX7_talksAfter_56 : decode cX7_talksAfter 56 = .ok (.istore 5, 2) := by decide +kernel
theorem dX7_talksAfter_58 : decode cX7_talksAfter 58 = .ok (.iconst 0, 1) := by decide +kernel
theorem dX7_talksAfter_59 : decode cX7_talksAfter 59 = .ok (.istore 6, 2) := by decide +kernel
theorem dX7_talksAfter_61 : decode cX7_talksAfter 61 = .ok (.iconst 0, 1) := by decide +kernel
theorem dX7_talksAfter_62 : decode cX7_talksAfter 62 = .ok (.istore 7, 2) := by decide +kernel
theorem dX7_talksAfter_64 : decode cX7_talksAfter 64 = .ok (.iload 7, 2) := by decide +kernel
theorem dX7_talksAfter_66 : decode cX7_talksAfter 66 = .ok (.bipush 8, 2) := by decide +kernel
theorem dX7_talksAfter_68 : decode cX7_talksAfter 68 = .ok (.if_icmp .ge 56, 3) := by decide +kernel
theorem dX7_talksAfter_71 : decode cX7_talksAfter 71 = .ok (.aload_n 0, 1) := by decide +kernel
theorem dX7_talksAfter_72 : decode cX7_talksAfter 72 = .ok (.getfield 17, 3) := by decide +kernel
theorem dX7_talksAfter_75 : decode cX7_talksAfter 75 = .ok (.iload 7, 2) := by decide +kernel
theorem dX7_talksAfter_77 : decode cX7_talksAfter 77 = .ok (.iaload, 1) := by decide +kernel
theorem dX7_talksAfter_78 : decode cX7_talksAfter 78 = .ok (.istore 8, 2) := by decide +kernel
theorem dX7_talksAfter_80 : decode cX7_talksAfter 80 = .ok (.iload 7, 2) := by decide +kernel
theorem dX7_talksAfter_82 : decode cX7_talksAfter 82 = .ok (.iload_n 1, 1) := by decide +kernel
theorem dX7_talksAfter_83 : decode cX7_talksAfter 83 = .ok (.if_icmp .eq 35, 3) := by decide +kernel
theorem dX7_talksAfter_86 : decode cX7_talksAfter 86 = .ok (.iload_n 2, 1) := by decide +kernel
theorem dX7_talksAfter_87 : decode cX7_talksAfter 87 = .ok (.iload 8, 2) := by decide +kernel
theorem dX7_talksAfter_89 : decode cX7_talksAfter 89 = .ok (.invokestatic 42, 3) := by decide +kernel
theorem dX7_talksAfter_92 : decode cX7_talksAfter 92 = .ok (.ifCond .eq 26, 3) := by decide +kernel
theorem dX7_talksAfter_95 : decode cX7_talksAfter 95 = .ok (.iload_n 1, 1) := by decide +kernel
theorem dX7_talksAfter_96 : decode cX7_talksAfter 96 = .ok (.iload 7, 2) := by decide +kernel
theorem dX7_talksAfter_98 : decode cX7_talksAfter 98 = .ok (.invokestatic 110, 3) := by decide +kernel
theorem dX7_talksAfter_101 : decode cX7_talksAfter 101 = .ok (.ifCond .eq 17, 3) := by decide +kernel
theorem dX7_talksAfter_104 : decode cX7_talksAfter 104 = .ok (.iconst 1, 1) := by decide +kernel
theorem dX7_talksAfter_105 : decode cX7_talksAfter 105 = .ok (.istore 5, 2) := by decide +kernel
theorem dX7_talksAfter_107 : decode cX7_talksAfter 107 = .ok (.iload 6, 2) := by decide +kernel
theorem dX7_talksAfter_109 : decode cX7_talksAfter 109 = .ok (.aload_n 0, 1) := by decide +kernel
theorem dX7_talksAfter_110 : decode cX7_talksAfter 110 = .ok (.iload 8, 2) := by decide +kernel
theorem dX7_talksAfter_112 : decode cX7_talksAfter 112 = .ok (.invokevirtual 89, 3) := by decide +kernel
theorem dX7_talksAfter_115 : decode cX7_talksAfter 115 = .ok (.iadd, 1) := by decide +kernel
theorem dX7_talksAfter_116 : decode cX7_talksAfter 116 = .ok (.istore 6, 2) := by decide +kernel
theorem dX7_talksAfter_118 : decode cX7_talksAfter 118 = .ok (.iinc 7 1, 3) := by decide +kernel
theorem dX7_talksAfter_121 : decode cX7_talksAfter 121 = .ok (.goto (-57), 3) := by decide +kernel
theorem dX7_talksAfter_124 : decode cX7_talksAfter 124 = .ok (.iload 5, 2) := by decide +kernel
theorem dX7_talksAfter_126 : decode cX7_talksAfter 126 = .ok (.ifCond .eq 21, 3) := by decide +kernel
theorem dX7_talksAfter_129 : decode cX7_talksAfter 129 = .ok (.iload 6, 2) := by decide +kernel
theorem dX7_talksAfter_131 : decode cX7_talksAfter 131 = .ok (.iconst 2, 1) := by decide +kernel
theorem dX7_talksAfter_132 : decode cX7_talksAfter 132 = .ok (.idiv, 1) := by decide +kernel
theorem dX7_talksAfter_133 : decode cX7_talksAfter 133 = .ok (.aload 4, 2) := by decide +kernel
theorem dX7_talksAfter_135 : decode cX7_talksAfter 135 = .ok (.getfield 96, 3) := by decide +kernel
theorem dX7_talksAfter_138 : decode cX7_talksAfter 138 = .ok (.iadd, 1) := by decide +kernel
theorem dX7_talksAfter_139 : decode cX7_talksAfter 139 = .ok (.iload_n 3, 1) := by decide +kernel
theorem dX7_talksAfter_140 : decode cX7_talksAfter 140 = .ok (.if_icmp .le 7, 3) := by decide +kernel
theorem dX7_talksAfter_143 : decode cX7_talksAfter 143 = .ok (.iconst 1, 1) := by decide +kernel
theorem dX7_talksAfter_144 : decode cX7_talksAfter 144 = .ok (.goto 4, 3) := by decide +kernel
theorem dX7_talksAfter_147 : decode cX7_talksAfter 147 = .ok (.iconst 0, 1) := by decide +kernel
theorem dX7_talksAfter_148 : decode cX7_talksAfter 148 = .ok (.ireturn, 1) := by decide +kernel
theorem dX7_isNear_0 : decode cX7_isNear 0 = .ok (.iload_n 0, 1) := by decide +kernel
theorem dX7_isNear_1 : decode cX7_isNear 1 = .ok (.iconst 4, 1) := by decide +kernel
theorem dX7_isNear_2 : decode cX7_isNear 2 = .ok (.idiv, 1) := by decide +kernel
theorem dX7_isNear_3 : decode cX7_isNear 3 = .ok (.iload_n 1, 1) := by decide +kernel
theorem dX7_isNear_4 : decode cX7_isNear 4 = .ok (.iconst 4, 1) := by decide +kernel
theorem dX7_isNear_5 : decode cX7_isNear 5 = .ok (.idiv, 1) := by decide +kernel
theorem dX7_isNear_6 : decode cX7_isNear 6 = .ok (.if_icmp .ne 7, 3) := by decide +kernel
theorem dX7_isNear_9 : decode cX7_isNear 9 = .ok (.iconst 1, 1) := by decide +kernel
theorem dX7_isNear_10 : decode cX7_isNear 10 = .ok (.goto 4, 3) := by decide +kernel
theorem dX7_isNear_13 : decode cX7_isNear 13 = .ok (.iconst 0, 1) := by decide +kernel
theorem dX7_isNear_14 : decode cX7_isNear 14 = .ok (.istore_n 2, 1) := by decide +kernel
theorem dX7_isNear_15 : decode cX7_isNear 15 = .ok (.iload_n 0, 1) := by decide +kernel
theorem dX7_isNear_16 : decode cX7_isNear 16 = .ok (.iconst 2, 1) := by decide +kernel
theorem dX7_isNear_17 : decode cX7_isNear 17 = .ok (.iand, 1) := by decide +kernel
theorem dX7_isNear_18 : decode cX7_isNear 18 = .ok (.iload_n 1, 1) := by decide +kernel
theorem dX7_isNear_19 : decode cX7_isNear 19 = .ok (.iconst 2, 1) := by decide +kernel
theorem dX7_isNear_20 : decode cX7_isNear 20 = .ok (.iand, 1) := by decide +kernel
theorem dX7_isNear_21 : decode cX7_isNear 21 = .ok (.if_icmp .ne 7, 3) := by decide +kernel
theorem dX7_isNear_24 : decode cX7_isNear 24 = .ok (.iconst 1, 1) := by decide +kernel
theorem dX7_isNear_25 : decode cX7_isNear 25 = .ok (.goto 4, 3) := by decide +kernel
theorem dX7_isNear_28 : decode cX7_isNear 28 = .ok (.iconst 0, 1) := by decide +kernel
theorem dX7_isNear_29 : decode cX7_isNear 29 = .ok (.istore_n 3, 1) := by decide +kernel
theorem dX7_isNear_30 : decode cX7_isNear 30 = .ok (.iload_n 2, 1) := by decide +kernel
theorem dX7_isNear_31 : decode cX7_isNear 31 = .ok (.ifCond .ne 7, 3) := by decide +kernel
theorem dX7_isNear_34 : decode cX7_isNear 34 = .ok (.iload_n 3, 1) := by decide +kernel
theorem dX7_isNear_35 : decode cX7_isNear 35 = .ok (.ifCond .eq 7, 3) := by decide +kernel
theorem dX7_isNear_38 : decode cX7_isNear 38 = .ok (.iconst 1, 1) := by decide +kernel
theorem dX7_isNear_39 : decode cX7_isNear 39 = .ok (.goto 4, 3) := by decide +kernel
theorem dX7_isNear_42 : decode cX7_isNear 42 = .ok (.iconst 0, 1) := by decide +kernel
theorem dX7_isNear_43 : decode cX7_isNear 43 = .ok (.ireturn, 1) := by decide +kernel
set_option maxRecDepth 20000 in
theorem ggX8_init_X4_init : GoodIn wsX8_init wsX4_init := goodIn_r _ [4, 5, 6, 7, 8, 9, 10, 11, 12, 13, 14, 15, 16, 17, 18, 19, 20, 21, 22, 23, 24, 25, 26, 27, 28, 29, 30, 31, 32, 33, 34, 35, 36, 37, 38, 39, 40, 41, 42, 43, 44, 45, 46, 47] (by decide +kernel) (by decide +kernel)
set_option maxRecDepth 20000 in
theorem gX8_init_X4_init : GoodIn wsX8_init (wsX4_init) := ggX8_init_X4_init
theorem dX8_init_0 : decode cX8_init 0 = .ok (.aload_n 0, 1) := by decide +kernel
theorem dX8_init_1 : decode cX8_init 1 = .ok (.iload_n 1, 1) := by decide +kernel
theorem dX8_init_2 : decode cX8_init 2 = .ok (.iload_n 2, 1) := by decide +kernel
theorem dX8_init_3 : decode cX8_init 3 = .ok (.iload_n 3, 1) := by decide +kernel
theorem dX8_init_4 : decode cX8_init 4 = .ok (.iload 4, 2) := by decide +kernel
theorem dX8_init_6 : decode cX8_init 6 = .ok (.iload 5, 2) := by decide +kernel
theorem dX8_init_8 : decode cX8_init 8 = .ok (.invokespecial 1, 3) := by decide +kernel
theorem dX8_init_11 : decode cX8_init 11 = .ok (.return_, 1) := by decide +kernel
theorem dX8_kind_0 : decode cX8_kind 0 = .ok (.iconst 2, 1) := by decide +kernel
theorem dX8_kind_1 : decode cX8_kind 1 = .ok (.ireturn, 1) := by decide +kernel
set_option maxRecDepth 20000 in
theorem ggX8_worthBy_X4_worthBy : GoodIn wsX8_worthBy wsX4_worthBy := goodIn_r _ [8] (by decide +kernel) (by decide +kernel)
set_option maxRecDepth 20000 in
theorem gX8_worthBy_X4_worthBy_s7 : GoodIn wsX8_worthBy (va_wsSU RX8 7 yX4_worthBy wsX4_worthBy) := goodIn_app (goodIn_of _ (by decide +kernel)) ggX8_worthBy_X4_worthBy
theorem dX8_worthBy_0 : decode cX8_worthBy 0 = .ok (.aload_n 0, 1) := by decide +kernel
theorem dX8_worthBy_1 : decode cX8_worthBy 1 = .ok (.aload_n 1, 1) := by decide +kernel
theorem dX8_worthBy_2 : decode cX8_worthBy 2 = .ok (.iload_n 2, 1) := by decide +kernel
theorem dX8_worthBy_3 : decode cX8_worthBy 3 = .ok (.aload_n 3, 1) := by decide +kernel
theorem dX8_worthBy_4 : decode cX8_worthBy 4 = .ok (.invokespecial 7, 3) := by decide +kernel
theorem dX8_worthBy_7 : decode cX8_worthBy 7 = .ok (.aload_n 0, 1) := by decide +kernel
theorem dX8_worthBy_8 : decode cX8_worthBy 8 = .ok (.getfield 11, 3) := by decide +kernel
theorem dX8_worthBy_11 : decode cX8_worthBy 11 = .ok (.isub, 1) := by decide +kernel
theorem dX8_worthBy_12 : decode cX8_worthBy 12 = .ok (.ireturn, 1) := by decide +kernel
theorem dX8_goesOn_0 : decode cX8_goesOn 0 = .ok (.iconst 1, 1) := by decide +kernel
theorem dX8_goesOn_1 : decode cX8_goesOn 1 = .ok (.ireturn, 1) := by decide +kernel
set_option maxRecDepth 20000 in
theorem ggX8_sits_X9_begin : GoodIn wsX8_sits wsX9_begin := goodIn_r _ [5, 6, 7, 16, 17] (by decide +kernel) (by decide +kernel)
set_option maxRecDepth 20000 in
theorem gX8_sits_X9_begin : GoodIn wsX8_sits (wsV RX8 17 RX9 yX9_begin wsX9_begin) := goodIn_app (goodIn_of _ (by decide +kernel)) ggX8_sits_X9_begin
set_option maxRecDepth 20000 in
theorem ggX8_sits_X4_sits : GoodIn wsX8_sits wsX4_sits := goodIn_r _ [13, 14, 15, 2, 3, 4, 5, 6, 7, 18, 19, 20, 21, 22, 23, 24, 25, 26, 27, 28, 29, 30, 31, 32, 33, 34, 35, 36, 37, 38, 39, 40, 41, 42, 43, 44, 45, 46, 47, 48, 49, 50, 51, 52, 16, 17] (by decide +kernel) (by decide +kernel)
set_option maxRecDepth 20000 in
theorem gX8_sits_X4_sits_s23 : GoodIn wsX8_sits (va_wsSU RX8 23 yX4_sits wsX4_sits) := goodIn_app (goodIn_of _ (by decide +kernel)) ggX8_sits_X4_sits
theorem dX8_sits_0 : decode cX8_sits 0 = .ok (.aload_n 2, 1) := by decide +kernel
theorem dX8_sits_1 : decode cX8_sits 1 = .ok (.bipush 30, 2) := by decide +kernel
theorem dX8_sits_3 : decode cX8_sits 3 = .ok (.invokevirtual 17, 3) := by decide +kernel
theorem dX8_sits_6 : decode cX8_sits 6 = .ok (.aload_n 0, 1) := by decide +kernel
theorem dX8_sits_7 : decode cX8_sits 7 = .ok (.iload_n 1, 1) := by decide +kernel
theorem dX8_sits_8 : decode cX8_sits 8 = .ok (.iconst 3, 1) := by decide +kernel
theorem dX8_sits_9 : decode cX8_sits 9 = .ok (.imul, 1) := by decide +kernel
theorem dX8_sits_10 : decode cX8_sits 10 = .ok (.aload_n 2, 1) := by decide +kernel
theorem dX8_sits_11 : decode cX8_sits 11 = .ok (.invokespecial 23, 3) := by decide +kernel
theorem dX8_sits_14 : decode cX8_sits 14 = .ok (.ireturn, 1) := by decide +kernel
theorem dX9_init_0 : decode cX9_init 0 = .ok (.aload_n 0, 1) := by decide +kernel
theorem dX9_init_1 : decode cX9_init 1 = .ok (.invokespecial 3, 3) := by decide +kernel
theorem dX9_init_4 : decode cX9_init 4 = .ok (.aload_n 0, 1) := by decide +kernel
theorem dX9_init_5 : decode cX9_init 5 = .ok (.bipush 20, 2) := by decide +kernel
theorem dX9_init_7 : decode cX9_init 7 = .ok (.newarray .int, 2) := by decide +kernel
theorem dX9_init_9 : decode cX9_init 9 = .ok (.putfield 9, 3) := by decide +kernel
theorem dX9_init_12 : decode cX9_init 12 = .ok (.return_, 1) := by decide +kernel
theorem dX9_clear_0 : decode cX9_clear 0 = .ok (.aload_n 0, 1) := by decide +kernel
theorem dX9_clear_1 : decode cX9_clear 1 = .ok (.iconst 0, 1) := by decide +kernel
theorem dX9_clear_2 : decode cX9_clear 2 = .ok (.putfield 15, 3) := by decide +kernel
theorem dX9_clear_5 : decode cX9_clear 5 = .ok (.return_, 1) := by decide +kernel
theorem dX9_begin_0 : decode cX9_begin 0 = .ok (.aload_n 0, 1) := by decide +kernel
theorem dX9_begin_1 : decode cX9_begin 1 = .ok (.getfield 15, 3) := by decide +kernel
theorem dX9_begin_4 : decode cX9_begin 4 = .ok (.ifCond .lt 25, 3) := by decide +kernel
theorem dX9_begin_7 : decode cX9_begin 7 = .ok (.aload_n 0, 1) := by decide +kernel
theorem dX9_begin_8 : decode cX9_begin 8 = .ok (.getfield 15, 3) := by decide +kernel
theorem dX9_begin_11 : decode cX9_begin 11 = .ok (.aload_n 0, 1) := by decide +kernel
theorem dX9_begin_12 : decode cX9_begin 12 = .ok (.getfield 9, 3) := by decide +kernel
theorem dX9_begin_15 : decode cX9_begin 15 = .ok (.arraylength, 1) := by decide +kernel
theorem dX9_begin_16 : decode cX9_begin 16 = .ok (.if_icmp .ge 13, 3) := by decide +kernel
theorem dX9_begin_19 : decode cX9_begin 19 = .ok (.aload_n 0, 1) := by decide +kernel
theorem dX9_begin_20 : decode cX9_begin 20 = .ok (.getfield 9, 3) := by decide +kernel
theorem dX9_begin_23 : decode cX9_begin 23 = .ok (.aload_n 0, 1) := by decide +kernel
theorem dX9_begin_24 : decode cX9_begin 24 = .ok (.getfield 15, 3) := by decide +kernel
theorem dX9_begin_27 : decode cX9_begin 27 = .ok (.iload_n 1, 1) := by decide +kernel
theorem dX9_begin_28 : decode cX9_begin 28 = .ok (.iastore, 1) := by decide +kernel
theorem dX9_begin_29 : decode cX9_begin 29 = .ok (.aload_n 0, 1) := by decide +kernel
theorem dX9_begin_30 : decode cX9_begin 30 = .ok (.dup, 1) := by decide +kernel
theorem dX9_begin_31 : decode cX9_begin 31 = .ok (.getfield 15, 3) := by decide +kernel
theorem dX9_begin_34 : decode cX9_begin 34 = .ok (.iconst 1, 1) := by decide +kernel
theorem dX9_begin_35 : decode cX9_begin 35 = .ok (.iadd, 1) := by decide +kernel
theorem dX9_begin_36 : decode cX9_begin 36 = .ok (.putfield 15, 3) := by decide +kernel
theorem dX9_begin_39 : decode cX9_begin 39 = .ok (.return_, 1) := by decide +kernel
theorem dX9_body_0 : decode cX9_body 0 = .ok (.iload_n 1, 1) := by decide +kernel
theorem dX9_body_1 : decode cX9_body 1 = .ok (.ifCond .lt 29, 3) := by decide +kernel
theorem dX9_body_4 : decode cX9_body 4 = .ok (.iload_n 1, 1) := by decide +kernel
theorem dX9_body_5 : decode cX9_body 5 = .ok (.aload_n 0, 1) := by decide +kernel
theorem dX9_body_6 : decode cX9_body 6 = .ok (.getfield 15, 3) := by decide +kernel
theorem dX9_body_9 : decode cX9_body 9 = .ok (.if_icmp .ge 21, 3) := by decide +kernel
theorem dX9_body_12 : decode cX9_body 12 = .ok (.iload_n 1, 1) := by decide +kernel
theorem dX9_body_13 : decode cX9_body 13 = .ok (.aload_n 0, 1) := by decide +kernel
theorem dX9_body_14 : decode cX9_body 14 = .ok (.getfield 9, 3) := by decide +kernel
theorem dX9_body_17 : decode cX9_body 17 = .ok (.arraylength, 1) := by decide +kernel
theorem dX9_body_18 : decode cX9_body 18 = .ok (.if_icmp .ge 12, 3) := by decide +kernel
theorem dX9_body_21 : decode cX9_body 21 = .ok (.aload_n 0, 1) := by decide +kernel
theorem dX9_body_22 : decode cX9_body 22 = .ok (.getfield 9, 3) := by decide +kernel
theorem dX9_body_25 : decode cX9_body 25 = .ok (.iload_n 1, 1) := by decide +kernel
theorem dX9_body_26 : decode cX9_body 26 = .ok (.iaload, 1) := by decide +kernel
theorem dX9_body_27 : decode cX9_body 27 = .ok (.goto 4, 3) := by decide +kernel
theorem dX9_body_30 : decode cX9_body 30 = .ok (.iconst (-1), 1) := by decide +kernel
theorem dX9_body_31 : decode cX9_body 31 = .ok (.ireturn, 1) := by decide +kernel
set_option maxRecDepth 20000 in
theorem ggX10_init_X4_init : GoodIn wsX10_init wsX4_init := goodIn_r _ [4, 5, 6, 7, 8, 9, 10, 11, 12, 13, 14, 15, 16, 17, 18, 19, 20, 21, 22, 23, 24, 25, 26, 27, 28, 29, 30, 31, 32, 33, 34, 35, 36, 37, 38, 39, 40, 41, 42, 43, 44, 45, 46, 47] (by decide +kernel) (by decide +kernel)
set_option maxRecDepth 20000 in
theorem gX10_init_X4_init : GoodIn wsX10_init (wsX4_init) := ggX10_init_X4_init
theorem dX10_init_0 : decode cX10_init 0 = .ok (.aload_n 0, 1) := by decide +kernel
theorem dX10_init_1 : decode cX10_init 1 = .ok (.iload_n 1, 1) := by decide +kernel
theorem dX10_init_2 : decode cX10_init 2 = .ok (.iload_n 2, 1) := by decide +kernel
theorem dX10_init_3 : decode cX10_init 3 = .ok (.iload_n 3, 1) := by decide +kernel
theorem dX10_init_4 : decode cX10_init 4 = .ok (.iload 4, 2) := by decide +kernel
theorem dX10_init_6 : decode cX10_init 6 = .ok (.iload 5, 2) := by decide +kernel
theorem dX10_init_8 : decode cX10_init 8 = .ok (.invokespecial 1, 3) := by decide +kernel
theorem dX10_init_11 : decode cX10_init 11 = .ok (.return_, 1) := by decide +kernel
theorem dX10_kind_0 : decode cX10_kind 0 = .ok (.iconst 3, 1) := by decide +kernel
theorem dX10_kind_1 : decode cX10_kind 1 = .ok (.ireturn, 1) := by decide +kernel
set_option maxRecDepth 20000 in
theorem ggX10_worthBy_X4_worthBy : GoodIn wsX10_worthBy wsX4_worthBy := goodIn_r _ [11] (by decide +kernel) (by decide +kernel)
set_option maxRecDepth 20000 in
theorem gX10_worthBy_X4_worthBy_s7 : GoodIn wsX10_worthBy (va_wsSU RX10 7 yX4_worthBy wsX4_worthBy) := goodIn_app (goodIn_of _ (by decide +kernel)) ggX10_worthBy_X4_worthBy
set_option maxRecDepth 20000 in
theorem ggX10_worthBy_X7_isNaming : GoodIn wsX10_worthBy wsX7_isNaming := goodIn_r _ [16, 17, 18, 54, 55, 56, 57, 58, 59, 60] (by decide +kernel) (by decide +kernel)
set_option maxRecDepth 20000 in
theorem gX10_worthBy_X7_isNaming : GoodIn wsX10_worthBy (wsV RX10 18 RX7 yX7_isNaming wsX7_isNaming) := goodIn_app (goodIn_of _ (by decide +kernel)) ggX10_worthBy_X7_isNaming
theorem dX10_worthBy_0 : decode cX10_worthBy 0 = .ok (.aload_n 0, 1) := by decide +kernel
theorem dX10_worthBy_1 : decode cX10_worthBy 1 = .ok (.aload_n 1, 1) := by decide +kernel
theorem dX10_worthBy_2 : decode cX10_worthBy 2 = .ok (.iload_n 2, 1) := by decide +kernel
theorem dX10_worthBy_3 : decode cX10_worthBy 3 = .ok (.aload_n 3, 1) := by decide +kernel
theorem dX10_worthBy_4 : decode cX10_worthBy 4 = .ok (.invokespecial 7, 3) := by decide +kernel
theorem dX10_worthBy_7 : decode cX10_worthBy 7 = .ok (.aload_n 3, 1) := by decide +kernel
theorem dX10_worthBy_8 : decode cX10_worthBy 8 = .ok (.aload_n 1, 1) := by decide +kernel
theorem dX10_worthBy_9 : decode cX10_worthBy 9 = .ok (.getfield 11, 3) := by decide +kernel
theorem dX10_worthBy_12 : decode cX10_worthBy 12 = .ok (.aload_n 0, 1) := by decide +kernel
theorem dX10_worthBy_13 : decode cX10_worthBy 13 = .ok (.getfield 15, 3) := by decide +kernel
theorem dX10_worthBy_16 : decode cX10_worthBy 16 = .ok (.invokevirtual 18, 3) := by decide +kernel
theorem dX10_worthBy_19 : decode cX10_worthBy 19 = .ok (.ifCond .eq 10, 3) := by decide +kernel
theorem dX10_worthBy_22 : decode cX10_worthBy 22 = .ok (.aload_n 0, 1) := by decide +kernel
theorem dX10_worthBy_23 : decode cX10_worthBy 23 = .ok (.getfield 24, 3) := by decide +kernel
theorem dX10_worthBy_26 : decode cX10_worthBy 26 = .ok (.goto 4, 3) := by decide +kernel
theorem dX10_worthBy_29 : decode cX10_worthBy 29 = .ok (.iconst 0, 1) := by decide +kernel
theorem dX10_worthBy_30 : decode cX10_worthBy 30 = .ok (.iadd, 1) := by decide +kernel
theorem dX10_worthBy_31 : decode cX10_worthBy 31 = .ok (.ireturn, 1) := by decide +kernel
set_option maxRecDepth 20000 in
theorem ggX10_tells_X9_begin : GoodIn wsX10_tells wsX9_begin := goodIn_r _ [5, 6, 7, 76, 77] (by decide +kernel) (by decide +kernel)
set_option maxRecDepth 20000 in
theorem gX10_tells_X9_begin : GoodIn wsX10_tells (wsV RX10 27 RX9 yX9_begin wsX9_begin) := goodIn_app (goodIn_of _ (by decide +kernel)) ggX10_tells_X9_begin
set_option maxRecDepth 20000 in
theorem ggX10_tells_X4_tells : GoodIn wsX10_tells wsX4_tells := goodIn_r _ [13, 14, 2, 3, 4, 5, 6, 7, 15, 16, 17, 18, 12, 19, 20, 21, 22, 23, 24, 25, 26, 27, 28, 29, 30, 31, 32, 33, 34, 35, 36, 37, 38, 39, 40, 41, 42, 43, 44, 45, 46, 47, 48, 49, 50, 51, 52, 53, 54, 55, 56, 57, 58, 59, 60, 61, 62, 63, 64, 65, 66, 67, 68, 69, 70, 71, 76, 77, 78, 79, 80, 81, 82, 83, 84, 85, 86, 87, 88, 89, 90, 91, 92, 93, 94, 95, 96, 97, 98, 99, 100, 101, 102, 103, 104, 105, 106, 107, 108, 109, 110, 111, 112] (by decide +kernel) (by decide +kernel)
set_option maxRecDepth 20000 in
theorem gX10_tells_X4_tells_s33 : GoodIn wsX10_tells (va_wsSU RX10 33 yX4_tells wsX4_tells) := goodIn_app (goodIn_of _ (by decide +kernel)) ggX10_tells_X4_tells
set_option maxRecDepth 20000 in
theorem ggX10_tells_X2_talks : GoodIn wsX10_tells wsX2_talks := goodIn_r _ [61, 41, 2, 3, 4, 5, 6, 7, 76, 77] (by decide +kernel) (by decide +kernel)
set_option maxRecDepth 20000 in
theorem gX10_tells_X2_talks_u37X2 : GoodIn wsX10_tells (va_wsO RX10 37 RX2 "WhoSitsBy$Pupil" ⟨"WhoSitsBy$Wished", "talks", "(ILWhoSitsBy$Trace;)I"⟩ yX2_talks wsX2_talks) := goodIn_app (goodIn_of _ (by decide +kernel)) ggX10_tells_X2_talks
set_option maxRecDepth 20000 in
theorem ggX10_tells_X4_talks : GoodIn wsX10_tells wsX4_talks := goodIn_r _ [19, 20, 14, 2, 3, 4, 5, 6, 7, 21, 22, 23, 24, 25, 26, 27, 28, 29, 30, 31, 12, 32, 33, 34, 35, 36, 37, 38, 39, 40, 41, 42, 43, 44, 45, 46, 47, 48, 49, 50, 78, 79, 80, 81, 82, 83, 84, 85, 86, 87, 88, 89, 90, 91, 92, 93, 94, 95, 96, 97, 98, 99, 100, 101, 102, 103, 104, 105, 106, 107, 108, 109, 110, 111, 112, 76, 77] (by decide +kernel) (by decide +kernel)
set_option maxRecDepth 20000 in
theorem gX10_tells_X4_talks_u37X10 : GoodIn wsX10_tells (va_wsU RX10 37 RX10 "WhoSitsBy$Pupil" ⟨"WhoSitsBy$Wished", "talks", "(ILWhoSitsBy$Trace;)I"⟩ yX4_talks wsX4_talks) := goodIn_app (goodIn_of _ (by decide +kernel)) ggX10_tells_X4_talks
theorem dX10_tells_0 : decode cX10_tells 0 = .ok (.aload_n 2, 1) := by decide +kernel
theorem dX10_tells_1 : decode cX10_tells 1 = .ok (.bipush 40, 2) := by decide +kernel
theorem dX10_tells_3 : decode cX10_tells 3 = .ok (.invokevirtual 27, 3) := by decide +kernel
theorem dX10_tells_6 : decode cX10_tells 6 = .ok (.aload_n 0, 1) := by decide +kernel
theorem dX10_tells_7 : decode cX10_tells 7 = .ok (.iload_n 1, 1) := by decide +kernel
theorem dX10_tells_8 : decode cX10_tells 8 = .ok (.aload_n 2, 1) := by decide +kernel
theorem dX10_tells_9 : decode cX10_tells 9 = .ok (.invokespecial 33, 3) := by decide +kernel
theorem dX10_tells_12 : decode cX10_tells 12 = .ok (.aload_n 0, 1) := by decide +kernel
theorem dX10_tells_13 : decode cX10_tells 13 = .ok (.iconst 1, 1) := by decide +kernel
theorem dX10_tells_14 : decode cX10_tells 14 = .ok (.aload_n 2, 1) := by decide +kernel
theorem dX10_tells_15 : decode cX10_tells 15 = .ok (.invokevirtual 37, 3) := by decide +kernel
theorem dX10_tells_18 : decode cX10_tells 18 = .ok (.iadd, 1) := by decide +kernel
theorem dX10_tells_19 : decode cX10_tells 19 = .ok (.ireturn, 1) := by decide +kernel
set_option maxRecDepth 20000 in
theorem ggX11_init_X7_init : GoodIn wsX11_init wsX7_init := goodIn_r _ [32, 33, 2, 3, 34, 35, 27, 36, 37, 38, 62, 63, 64, 65, 66, 67, 68] (by decide +kernel) (by decide +kernel)
set_option maxRecDepth 20000 in
theorem gX11_init_X7_init : GoodIn wsX11_init (wsX7_init) := ggX11_init_X7_init
set_option maxRecDepth 20000 in
theorem ggX11_init_X5_init : GoodIn wsX11_init wsX5_init := goodIn_r _ [40, 41, 2, 3, 27, 42, 43, 44, 45, 46, 9, 47, 48, 83, 84, 85, 86, 87, 88, 89, 90, 91, 92, 93] (by decide +kernel) (by decide +kernel)
set_option maxRecDepth 20000 in
theorem gX11_init_X5_init_n31 : GoodIn wsX11_init (wsX5_init) := ggX11_init_X5_init
set_option maxRecDepth 20000 in
theorem ggX11_init_X6_init : GoodIn wsX11_init wsX6_init := goodIn_r _ [50, 51, 2, 3, 27, 52, 53, 54, 55, 56, 57, 94, 95, 96, 97, 98, 99, 100, 101] (by decide +kernel) (by decide +kernel)
set_option maxRecDepth 20000 in
theorem gX11_init_X6_init_n38 : GoodIn wsX11_init (wsX6_init) := ggX11_init_X6_init
set_option maxRecDepth 20000 in
theorem ggX11_init_X9_init : GoodIn wsX11_init wsX9_init := goodIn_r _ [59, 60, 2, 3, 27, 61, 102, 103] (by decide +kernel) (by decide +kernel)
set_option maxRecDepth 20000 in
theorem gX11_init_X9_init_n45 : GoodIn wsX11_init (wsX9_init) := ggX11_init_X9_init
