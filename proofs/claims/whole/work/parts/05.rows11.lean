theorem dX11_init_0 : decode cX11_init 0 = .ok (.aload_n 0, 1) := by decide +kernel
theorem dX11_init_1 : decode cX11_init 1 = .ok (.invokespecial 3, 3) := by decide +kernel
theorem dX11_init_4 : decode cX11_init 4 = .ok (.aload_n 0, 1) := by decide +kernel
theorem dX11_init_5 : decode cX11_init 5 = .ok (.new 9, 3) := by decide +kernel
theorem dX11_init_8 : decode cX11_init 8 = .ok (.dup, 1) := by decide +kernel
theorem dX11_init_9 : decode cX11_init 9 = .ok (.invokespecial 11, 3) := by decide +kernel
theorem dX11_init_12 : decode cX11_init 12 = .ok (.putfield 12, 3) := by decide +kernel
theorem dX11_init_15 : decode cX11_init 15 = .ok (.aload_n 0, 1) := by decide +kernel
theorem dX11_init_16 : decode cX11_init 16 = .ok (.new 9, 3) := by decide +kernel
theorem dX11_init_19 : decode cX11_init 19 = .ok (.dup, 1) := by decide +kernel
theorem dX11_init_20 : decode cX11_init 20 = .ok (.invokespecial 11, 3) := by decide +kernel
theorem dX11_init_23 : decode cX11_init 23 = .ok (.putfield 18, 3) := by decide +kernel
theorem dX11_init_26 : decode cX11_init 26 = .ok (.aload_n 0, 1) := by decide +kernel
theorem dX11_init_27 : decode cX11_init 27 = .ok (.bipush 100, 2) := by decide +kernel
theorem dX11_init_29 : decode cX11_init 29 = .ok (.newarray .byte, 2) := by decide +kernel
theorem dX11_init_31 : decode cX11_init 31 = .ok (.putfield 21, 3) := by decide +kernel
theorem dX11_init_34 : decode cX11_init 34 = .ok (.aload_n 0, 1) := by decide +kernel
theorem dX11_init_35 : decode cX11_init 35 = .ok (.bipush 6, 2) := by decide +kernel
theorem dX11_init_37 : decode cX11_init 37 = .ok (.anewarray 25, 3) := by decide +kernel
theorem dX11_init_40 : decode cX11_init 40 = .ok (.putfield 27, 3) := by decide +kernel
theorem dX11_init_43 : decode cX11_init 43 = .ok (.aload_n 0, 1) := by decide +kernel
theorem dX11_init_44 : decode cX11_init 44 = .ok (.new 25, 3) := by decide +kernel
theorem dX11_init_47 : decode cX11_init 47 = .ok (.dup, 1) := by decide +kernel
theorem dX11_init_48 : decode cX11_init 48 = .ok (.invokespecial 31, 3) := by decide +kernel
theorem dX11_init_51 : decode cX11_init 51 = .ok (.putfield 32, 3) := by decide +kernel
theorem dX11_init_54 : decode cX11_init 54 = .ok (.aload_n 0, 1) := by decide +kernel
theorem dX11_init_55 : decode cX11_init 55 = .ok (.new 36, 3) := by decide +kernel
theorem dX11_init_58 : decode cX11_init 58 = .ok (.dup, 1) := by decide +kernel
theorem dX11_init_59 : decode cX11_init 59 = .ok (.invokespecial 38, 3) := by decide +kernel
theorem dX11_init_62 : decode cX11_init 62 = .ok (.putfield 39, 3) := by decide +kernel
theorem dX11_init_65 : decode cX11_init 65 = .ok (.aload_n 0, 1) := by decide +kernel
theorem dX11_init_66 : decode cX11_init 66 = .ok (.new 43, 3) := by decide +kernel
theorem dX11_init_69 : decode cX11_init 69 = .ok (.dup, 1) := by decide +kernel
theorem dX11_init_70 : decode cX11_init 70 = .ok (.invokespecial 45, 3) := by decide +kernel
theorem dX11_init_73 : decode cX11_init 73 = .ok (.putfield 46, 3) := by decide +kernel
theorem dX11_init_76 : decode cX11_init 76 = .ok (.aload_n 0, 1) := by decide +kernel
theorem dX11_init_77 : decode cX11_init 77 = .ok (.bipush 6, 2) := by decide +kernel
theorem dX11_init_79 : decode cX11_init 79 = .ok (.bipush 60, 2) := by decide +kernel
theorem dX11_init_81 : decode cX11_init 81 = .ok (.multianewarray 50 2, 4) := by decide +kernel
theorem dX11_init_85 : decode cX11_init 85 = .ok (.putfield 52, 3) := by decide +kernel
theorem dX11_init_88 : decode cX11_init 88 = .ok (.aload_n 0, 1) := by decide +kernel
theorem dX11_init_89 : decode cX11_init 89 = .ok (.bipush 6, 2) := by decide +kernel
theorem dX11_init_91 : decode cX11_init 91 = .ok (.newarray .int, 2) := by decide +kernel
theorem dX11_init_93 : decode cX11_init 93 = .ok (.putfield 55, 3) := by decide +kernel
theorem dX11_init_96 : decode cX11_init 96 = .ok (.aload_n 0, 1) := by decide +kernel
theorem dX11_init_97 : decode cX11_init 97 = .ok (.bipush 6, 2) := by decide +kernel
theorem dX11_init_99 : decode cX11_init 99 = .ok (.newarray .int, 2) := by decide +kernel
theorem dX11_init_101 : decode cX11_init 101 = .ok (.putfield 59, 3) := by decide +kernel
theorem dX11_init_104 : decode cX11_init 104 = .ok (.iconst 0, 1) := by decide +kernel
theorem dX11_init_105 : decode cX11_init 105 = .ok (.istore_n 1, 1) := by decide +kernel
theorem dX11_init_106 : decode cX11_init 106 = .ok (.iload_n 1, 1) := by decide +kernel
theorem dX11_init_107 : decode cX11_init 107 = .ok (.aload_n 0, 1) := by decide +kernel
theorem dX11_init_108 : decode cX11_init 108 = .ok (.getfield 27, 3) := by decide +kernel
theorem dX11_init_111 : decode cX11_init 111 = .ok (.arraylength, 1) := by decide +kernel
theorem dX11_init_112 : decode cX11_init 112 = .ok (.if_icmp .ge 22, 3) := by decide +kernel
theorem dX11_init_115 : decode cX11_init 115 = .ok (.aload_n 0, 1) := by decide +kernel
theorem dX11_init_116 : decode cX11_init 116 = .ok (.getfield 27, 3) := by decide +kernel
theorem dX11_init_119 : decode cX11_init 119 = .ok (.iload_n 1, 1) := by decide +kernel
theorem dX11_init_120 : decode cX11_init 120 = .ok (.new 25, 3) := by decide +kernel
theorem dX11_init_123 : decode cX11_init 123 = .ok (.dup, 1) := by decide +kernel
theorem dX11_init_124 : decode cX11_init 124 = .ok (.invokespecial 31, 3) := by decide +kernel
theorem dX11_init_127 : decode cX11_init 127 = .ok (.aastore, 1) := by decide +kernel
theorem dX11_init_128 : decode cX11_init 128 = .ok (.iinc 1 1, 3) := by decide +kernel
theorem dX11_init_131 : decode cX11_init 131 = .ok (.goto (-25), 3) := by decide +kernel
theorem dX11_init_134 : decode cX11_init 134 = .ok (.iconst 0, 1) := by decide +kernel
theorem dX11_init_135 : decode cX11_init 135 = .ok (.istore_n 1, 1) := by decide +kernel
theorem dX11_init_136 : decode cX11_init 136 = .ok (.iload_n 1, 1) := by decide +kernel
theorem dX11_init_137 : decode cX11_init 137 = .ok (.aload_n 0, 1) := by decide +kernel
theorem dX11_init_138 : decode cX11_init 138 = .ok (.getfield 55, 3) := by decide +kernel
theorem dX11_init_141 : decode cX11_init 141 = .ok (.arraylength, 1) := by decide +kernel
theorem dX11_init_142 : decode cX11_init 142 = .ok (.if_icmp .ge 16, 3) := by decide +kernel
theorem dX11_init_145 : decode cX11_init 145 = .ok (.aload_n 0, 1) := by decide +kernel
theorem dX11_init_146 : decode cX11_init 146 = .ok (.getfield 55, 3) := by decide +kernel
theorem dX11_init_149 : decode cX11_init 149 = .ok (.iload_n 1, 1) := by decide +kernel
theorem dX11_init_150 : decode cX11_init 150 = .ok (.iconst (-1), 1) := by decide +kernel
theorem dX11_init_151 : decode cX11_init 151 = .ok (.iastore, 1) := by decide +kernel
theorem dX11_init_152 : decode cX11_init 152 = .ok (.iinc 1 1, 3) := by decide +kernel
theorem dX11_init_155 : decode cX11_init 155 = .ok (.goto (-19), 3) := by decide +kernel
theorem dX11_init_158 : decode cX11_init 158 = .ok (.return_, 1) := by decide +kernel
set_option maxRecDepth 20000 in
theorem ggX11_pupil_X11_isDigit : GoodIn wsX11_pupil wsX11_isDigit := goodIn_r _ [7] (by decide +kernel) (by decide +kernel)
set_option maxRecDepth 20000 in
theorem gX11_pupil_X11_isDigit : GoodIn wsX11_pupil (va_wsS RX11 62 yX11_isDigit wsX11_isDigit) := goodIn_app (goodIn_of _ (by decide +kernel)) ggX11_pupil_X11_isDigit
set_option maxRecDepth 20000 in
theorem ggX11_pupil_X11_made : GoodIn wsX11_pupil wsX11_made := goodIn_r _ [10, 11, 12, 13, 14, 15, 16, 17, 18, 19, 20, 21, 22, 23, 24, 25, 26, 27, 28, 29, 30, 31, 32, 33, 34, 35, 36, 37, 38, 39, 40, 41, 42, 43, 44, 45, 46, 47, 48, 49, 50, 51, 52, 53, 54, 55, 56, 57, 58, 59, 60, 61, 62, 63, 64, 65, 66, 99, 100, 101, 102, 103, 104, 105, 106, 107, 108, 109, 110, 111, 112, 113, 114, 115, 116, 117, 118, 119, 120, 121, 122, 123, 124, 125, 126, 127, 128, 129, 130, 131, 132, 133] (by decide +kernel) (by decide +kernel)
set_option maxRecDepth 20000 in
theorem gX11_pupil_X11_made : GoodIn wsX11_pupil (va_wsS RX11 70 yX11_made wsX11_made) := goodIn_app (goodIn_of _ (by decide +kernel)) ggX11_pupil_X11_made
set_option maxRecDepth 20000 in
theorem ggX11_pupil_X7_add : GoodIn wsX11_pupil wsX7_add := goodIn_r _ [71, 72, 73, 74, 75, 76, 6, 77, 92, 93, 94, 95, 96, 97, 98] (by decide +kernel) (by decide +kernel)
set_option maxRecDepth 20000 in
theorem gX11_pupil_X7_add : GoodIn wsX11_pupil (wsV RX11 74 RX7 yX7_add wsX7_add) := goodIn_app (goodIn_of _ (by decide +kernel)) ggX11_pupil_X7_add
theorem dX11_pupil_0 : decode cX11_pupil 0 = .ok (.iload_n 1, 1) := by decide +kernel
theorem dX11_pupil_1 : decode cX11_pupil 1 = .ok (.ifCond .lt 9, 3) := by decide +kernel
theorem dX11_pupil_4 : decode cX11_pupil 4 = .ok (.iload_n 1, 1) := by decide +kernel
theorem dX11_pupil_5 : decode cX11_pupil 5 = .ok (.bipush 6, 2) := by decide +kernel
theorem dX11_pupil_7 : decode cX11_pupil 7 = .ok (.if_icmp .le 5, 3) := by decide +kernel
theorem dX11_pupil_10 : decode cX11_pupil 10 = .ok (.iconst (-1), 1) := by decide +kernel
theorem dX11_pupil_11 : decode cX11_pupil 11 = .ok (.ireturn, 1) := by decide +kernel
theorem dX11_pupil_12 : decode cX11_pupil 12 = .ok (.iload_n 2, 1) := by decide +kernel
theorem dX11_pupil_13 : decode cX11_pupil 13 = .ok (.invokestatic 62, 3) := by decide +kernel
theorem dX11_pupil_16 : decode cX11_pupil 16 = .ok (.ifCond .eq 29, 3) := by decide +kernel
theorem dX11_pupil_19 : decode cX11_pupil 19 = .ok (.iload_n 3, 1) := by decide +kernel
theorem dX11_pupil_20 : decode cX11_pupil 20 = .ok (.invokestatic 62, 3) := by decide +kernel
theorem dX11_pupil_23 : decode cX11_pupil 23 = .ok (.ifCond .eq 22, 3) := by decide +kernel
theorem dX11_pupil_26 : decode cX11_pupil 26 = .ok (.iload 4, 2) := by decide +kernel
theorem dX11_pupil_28 : decode cX11_pupil 28 = .ok (.invokestatic 62, 3) := by decide +kernel
theorem dX11_pupil_31 : decode cX11_pupil 31 = .ok (.ifCond .eq 14, 3) := by decide +kernel
theorem dX11_pupil_34 : decode cX11_pupil 34 = .ok (.iload 5, 2) := by decide +kernel
theorem dX11_pupil_36 : decode cX11_pupil 36 = .ok (.ifCond .lt 9, 3) := by decide +kernel
theorem dX11_pupil_39 : decode cX11_pupil 39 = .ok (.iload 5, 2) := by decide +kernel
theorem dX11_pupil_41 : decode cX11_pupil 41 = .ok (.iconst 2, 1) := by decide +kernel
theorem dX11_pupil_42 : decode cX11_pupil 42 = .ok (.if_icmp .le 6, 3) := by decide +kernel
theorem dX11_pupil_45 : decode cX11_pupil 45 = .ok (.bipush (-2), 2) := by decide +kernel
theorem dX11_pupil_47 : decode cX11_pupil 47 = .ok (.ireturn, 1) := by decide +kernel
theorem dX11_pupil_48 : decode cX11_pupil 48 = .ok (.aload_n 0, 1) := by decide +kernel
theorem dX11_pupil_49 : decode cX11_pupil 49 = .ok (.getfield 12, 3) := by decide +kernel
theorem dX11_pupil_52 : decode cX11_pupil 52 = .ok (.getfield 66, 3) := by decide +kernel
theorem dX11_pupil_55 : decode cX11_pupil 55 = .ok (.bipush 8, 2) := by decide +kernel
theorem dX11_pupil_57 : decode cX11_pupil 57 = .ok (.if_icmp .lt 6, 3) := by decide +kernel
theorem dX11_pupil_60 : decode cX11_pupil 60 = .ok (.bipush (-4), 2) := by decide +kernel
theorem dX11_pupil_62 : decode cX11_pupil 62 = .ok (.ireturn, 1) := by decide +kernel
theorem dX11_pupil_63 : decode cX11_pupil 63 = .ok (.aload_n 0, 1) := by decide +kernel
theorem dX11_pupil_64 : decode cX11_pupil 64 = .ok (.getfield 12, 3) := by decide +kernel
theorem dX11_pupil_67 : decode cX11_pupil 67 = .ok (.getfield 66, 3) := by decide +kernel
theorem dX11_pupil_70 : decode cX11_pupil 70 = .ok (.istore 6, 2) := by decide +kernel
theorem dX11_pupil_72 : decode cX11_pupil 72 = .ok (.aload_n 0, 1) := by decide +kernel
theorem dX11_pupil_73 : decode cX11_pupil 73 = .ok (.getfield 12, 3) := by decide +kernel
theorem dX11_pupil_76 : decode cX11_pupil 76 = .ok (.iload_n 1, 1) := by decide +kernel
theorem dX11_pupil_77 : decode cX11_pupil 77 = .ok (.iload 6, 2) := by decide +kernel
theorem dX11_pupil_79 : decode cX11_pupil 79 = .ok (.iload_n 2, 1) := by decide +kernel
theorem dX11_pupil_80 : decode cX11_pupil 80 = .ok (.iload_n 3, 1) := by decide +kernel
theorem dX11_pupil_81 : decode cX11_pupil 81 = .ok (.iload 4, 2) := by decide +kernel
theorem dX11_pupil_83 : decode cX11_pupil 83 = .ok (.iload 5, 2) := by decide +kernel
theorem dX11_pupil_85 : decode cX11_pupil 85 = .ok (.invokestatic 70, 3) := by decide +kernel
theorem dX11_pupil_88 : decode cX11_pupil 88 = .ok (.invokevirtual 74, 3) := by decide +kernel
theorem dX11_pupil_91 : decode cX11_pupil 91 = .ok (.aload_n 0, 1) := by decide +kernel
theorem dX11_pupil_92 : decode cX11_pupil 92 = .ok (.iconst 0, 1) := by decide +kernel
theorem dX11_pupil_93 : decode cX11_pupil 93 = .ok (.putfield 78, 3) := by decide +kernel
theorem dX11_pupil_96 : decode cX11_pupil 96 = .ok (.iload 6, 2) := by decide +kernel
theorem dX11_pupil_98 : decode cX11_pupil 98 = .ok (.ireturn, 1) := by decide +kernel
set_option maxRecDepth 20000 in
theorem ggX11_of_X7_at : GoodIn wsX11_of wsX7_at := goodIn_r _ [11, 12, 13, 119, 120, 121, 122, 123, 124, 125] (by decide +kernel) (by decide +kernel)
set_option maxRecDepth 20000 in
theorem gX11_of_X7_at : GoodIn wsX11_of (wsV RX11 82 RX7 yX7_at wsX7_at) := goodIn_app (goodIn_of _ (by decide +kernel)) ggX11_of_X7_at
set_option maxRecDepth 20000 in
theorem ggX11_of_X0_kind : GoodIn wsX11_of wsX0_kind := goodIn_r _ [20] (by decide +kernel) (by decide +kernel)
set_option maxRecDepth 20000 in
theorem gX11_of_X0_kind_u86X0 : GoodIn wsX11_of (va_wsO RX11 86 RX0 "WhoSitsBy$Pupil" ⟨"WhoSitsBy$Pupil", "kind", "()I"⟩ yX0_kind wsX0_kind) := goodIn_app (goodIn_of _ (by decide +kernel)) ggX11_of_X0_kind
set_option maxRecDepth 20000 in
theorem ggX11_of_X1_kind : GoodIn wsX11_of wsX1_kind := goodIn_r _ [25] (by decide +kernel) (by decide +kernel)
set_option maxRecDepth 20000 in
theorem gX11_of_X1_kind_u86X1 : GoodIn wsX11_of (va_wsO RX11 86 RX1 "WhoSitsBy$Pupil" ⟨"WhoSitsBy$Pupil", "kind", "()I"⟩ yX1_kind wsX1_kind) := goodIn_app (goodIn_of _ (by decide +kernel)) ggX11_of_X1_kind
set_option maxRecDepth 20000 in
theorem ggX11_of_X2_kind : GoodIn wsX11_of wsX2_kind := goodIn_r _ [29] (by decide +kernel) (by decide +kernel)
set_option maxRecDepth 20000 in
theorem gX11_of_X2_kind_u86X2 : GoodIn wsX11_of (va_wsO RX11 86 RX2 "WhoSitsBy$Pupil" ⟨"WhoSitsBy$Pupil", "kind", "()I"⟩ yX2_kind wsX2_kind) := goodIn_app (goodIn_of _ (by decide +kernel)) ggX11_of_X2_kind
set_option maxRecDepth 20000 in
theorem ggX11_of_X3_kind : GoodIn wsX11_of wsX3_kind := goodIn_r _ [33] (by decide +kernel) (by decide +kernel)
set_option maxRecDepth 20000 in
theorem gX11_of_X3_kind_u86X3 : GoodIn wsX11_of (va_wsO RX11 86 RX3 "WhoSitsBy$Pupil" ⟨"WhoSitsBy$Pupil", "kind", "()I"⟩ yX3_kind wsX3_kind) := goodIn_app (goodIn_of _ (by decide +kernel)) ggX11_of_X3_kind
set_option maxRecDepth 20000 in
theorem ggX11_of_X4_kind : GoodIn wsX11_of wsX4_kind := goodIn_r _ [21] (by decide +kernel) (by decide +kernel)
set_option maxRecDepth 20000 in
theorem gX11_of_X4_kind : GoodIn wsX11_of (wsV RX11 86 RX4 yX4_kind wsX4_kind) := goodIn_app (goodIn_of _ (by decide +kernel)) ggX11_of_X4_kind
set_option maxRecDepth 20000 in
theorem ggX11_of_X8_kind : GoodIn wsX11_of wsX8_kind := goodIn_r _ [41] (by decide +kernel) (by decide +kernel)
set_option maxRecDepth 20000 in
theorem gX11_of_X8_kind_u86X8 : GoodIn wsX11_of (va_wsO RX11 86 RX8 "WhoSitsBy$Pupil" ⟨"WhoSitsBy$Pupil", "kind", "()I"⟩ yX8_kind wsX8_kind) := goodIn_app (goodIn_of _ (by decide +kernel)) ggX11_of_X8_kind
set_option maxRecDepth 20000 in
theorem ggX11_of_X10_kind : GoodIn wsX11_of wsX10_kind := goodIn_r _ [45] (by decide +kernel) (by decide +kernel)
set_option maxRecDepth 20000 in
theorem gX11_of_X10_kind_u86X10 : GoodIn wsX11_of (va_wsO RX11 86 RX10 "WhoSitsBy$Pupil" ⟨"WhoSitsBy$Pupil", "kind", "()I"⟩ yX10_kind wsX10_kind) := goodIn_app (goodIn_of _ (by decide +kernel)) ggX11_of_X10_kind
set_option maxRecDepth 20000 in
theorem ggX11_of_X7_needsFront : GoodIn wsX11_of wsX7_needsFront := goodIn_r _ [49, 50, 51, 52, 53, 119, 120, 121, 122, 123, 124, 125] (by decide +kernel) (by decide +kernel)
set_option maxRecDepth 20000 in
theorem gX11_of_X7_needsFront : GoodIn wsX11_of (wsV RX11 104 RX7 yX7_needsFront wsX7_needsFront) := goodIn_app (goodIn_of _ (by decide +kernel)) ggX11_of_X7_needsFront
set_option maxRecDepth 20000 in
theorem ggX11_of_X7_whomNames : GoodIn wsX11_of wsX7_whomNames := goodIn_r _ [57, 12, 58, 119, 120, 121, 122, 123, 124, 125] (by decide +kernel) (by decide +kernel)
set_option maxRecDepth 20000 in
theorem gX11_of_X7_whomNames : GoodIn wsX11_of (wsV RX11 107 RX7 yX7_whomNames wsX7_whomNames) := goodIn_app (goodIn_of _ (by decide +kernel)) ggX11_of_X7_whomNames
set_option maxRecDepth 20000 in
theorem ggX11_of_X11_orNobody : GoodIn wsX11_of wsX11_orNobody := goodIn_r _ [61] (by decide +kernel) (by decide +kernel)
set_option maxRecDepth 20000 in
theorem gX11_of_X11_orNobody : GoodIn wsX11_of (va_wsS RX11 111 yX11_orNobody wsX11_orNobody) := goodIn_app (goodIn_of _ (by decide +kernel)) ggX11_of_X11_orNobody
set_option maxRecDepth 20000 in
theorem ggX11_of_X11_seatIn : GoodIn wsX11_of wsX11_seatIn := goodIn_r _ [64] (by decide +kernel) (by decide +kernel)
set_option maxRecDepth 20000 in
theorem gX11_of_X11_seatIn : GoodIn wsX11_of (va_wsS RX11 117 yX11_seatIn wsX11_seatIn) := goodIn_app (goodIn_of _ (by decide +kernel)) ggX11_of_X11_seatIn
set_option maxRecDepth 20000 in
theorem ggX11_of_X7_besideOf : GoodIn wsX11_of wsX7_besideOf := goodIn_r _ [68, 69, 63, 52, 64, 119, 120, 121, 122, 123, 124, 125] (by decide +kernel) (by decide +kernel)
set_option maxRecDepth 20000 in
theorem gX11_of_X7_besideOf : GoodIn wsX11_of (wsV RX11 121 RX7 yX7_besideOf wsX7_besideOf) := goodIn_app (goodIn_of _ (by decide +kernel)) ggX11_of_X7_besideOf
theorem dX11_of_0 : decode cX11_of 0 = .ok (.aload_n 0, 1) := by decide +kernel
theorem dX11_of_1 : decode cX11_of 1 = .ok (.getfield 12, 3) := by decide +kernel
theorem dX11_of_4 : decode cX11_of 4 = .ok (.iload_n 1, 1) := by decide +kernel
theorem dX11_of_5 : decode cX11_of 5 = .ok (.invokevirtual 82, 3) := by decide +kernel
theorem dX11_of_8 : decode cX11_of 8 = .ok (.astore_n 3, 1) := by decide +kernel
theorem dX11_of_9 : decode cX11_of 9 = .ok (.aload_n 3, 1) := by decide +kernel
theorem dX11_of_10 : decode cX11_of 10 = .ok (.ifnonnull 5, 3) := by decide +kernel
theorem dX11_of_13 : decode cX11_of 13 = .ok (.iconst (-1), 1) := by decide +kernel
theorem dX11_of_14 : decode cX11_of 14 = .ok (.ireturn, 1) := by decide +kernel
theorem dX11_of_15 : decode cX11_of 15 = .ok (.iload_n 2, 1) := by decide +kernel
theorem dX11_of_16 : decode cX11_of 16 = .ok (.tableswitch 130 0 8 #[52, 57, 62, 67, 72, 77, 94, 106, 118], 52) := by decide +kernel
theorem dX11_of_68 : decode cX11_of 68 = .ok (.aload_n 3, 1) := by decide +kernel
theorem dX11_of_69 : decode cX11_of 69 = .ok (.invokevirtual 86, 3) := by decide +kernel
theorem dX11_of_72 : decode cX11_of 72 = .ok (.ireturn, 1) := by decide +kernel
theorem dX11_of_73 : decode cX11_of 73 = .ok (.aload_n 3, 1) := by decide +kernel
theorem dX11_of_74 : decode cX11_of 74 = .ok (.getfield 92, 3) := by decide +kernel
theorem dX11_of_77 : decode cX11_of 77 = .ok (.ireturn, 1) := by decide +kernel
theorem dX11_of_78 : decode cX11_of 78 = .ok (.aload_n 3, 1) := by decide +kernel
theorem dX11_of_79 : decode cX11_of 79 = .ok (.getfield 95, 3) := by decide +kernel
theorem dX11_of_82 : decode cX11_of 82 = .ok (.ireturn, 1) := by decide +kernel
theorem dX11_of_83 : decode cX11_of 83 = .ok (.aload_n 3, 1) := by decide +kernel
theorem dX11_of_84 : decode cX11_of 84 = .ok (.getfield 98, 3) := by decide +kernel
theorem dX11_of_87 : decode cX11_of 87 = .ok (.ireturn, 1) := by decide +kernel
theorem dX11_of_88 : decode cX11_of 88 = .ok (.aload_n 3, 1) := by decide +kernel
theorem dX11_of_89 : decode cX11_of 89 = .ok (.getfield 101, 3) := by decide +kernel
theorem dX11_of_92 : decode cX11_of 92 = .ok (.ireturn, 1) := by decide +kernel
theorem dX11_of_93 : decode cX11_of 93 = .ok (.aload_n 0, 1) := by decide +kernel
theorem dX11_of_94 : decode cX11_of 94 = .ok (.getfield 12, 3) := by decide +kernel
theorem dX11_of_97 : decode cX11_of 97 = .ok (.iload_n 1, 1) := by decide +kernel
theorem dX11_of_98 : decode cX11_of 98 = .ok (.invokevirtual 104, 3) := by decide +kernel
theorem dX11_of_101 : decode cX11_of 101 = .ok (.ifCond .eq 7, 3) := by decide +kernel
theorem dX11_of_104 : decode cX11_of 104 = .ok (.iconst 1, 1) := by decide +kernel
theorem dX11_of_105 : decode cX11_of 105 = .ok (.goto 4, 3) := by decide +kernel
theorem dX11_of_108 : decode cX11_of 108 = .ok (.iconst 0, 1) := by decide +kernel
theorem dX11_of_109 : decode cX11_of 109 = .ok (.ireturn, 1) := by decide +kernel
theorem dX11_of_110 : decode cX11_of 110 = .ok (.aload_n 0, 1) := by decide +kernel
theorem dX11_of_111 : decode cX11_of 111 = .ok (.getfield 12, 3) := by decide +kernel
theorem dX11_of_114 : decode cX11_of 114 = .ok (.iload_n 1, 1) := by decide +kernel
theorem dX11_of_115 : decode cX11_of 115 = .ok (.invokevirtual 107, 3) := by decide +kernel
theorem dX11_of_118 : decode cX11_of 118 = .ok (.invokestatic 111, 3) := by decide +kernel
theorem dX11_of_121 : decode cX11_of 121 = .ok (.ireturn, 1) := by decide +kernel
theorem dX11_of_122 : decode cX11_of 122 = .ok (.aload_n 0, 1) := by decide +kernel
theorem dX11_of_123 : decode cX11_of 123 = .ok (.getfield 12, 3) := by decide +kernel
theorem dX11_of_126 : decode cX11_of 126 = .ok (.getfield 114, 3) := by decide +kernel
theorem dX11_of_129 : decode cX11_of 129 = .ok (.iload_n 1, 1) := by decide +kernel
theorem dX11_of_130 : decode cX11_of 130 = .ok (.invokestatic 117, 3) := by decide +kernel
theorem dX11_of_133 : decode cX11_of 133 = .ok (.ireturn, 1) := by decide +kernel
theorem dX11_of_134 : decode cX11_of 134 = .ok (.aload_n 0, 1) := by decide +kernel
theorem dX11_of_135 : decode cX11_of 135 = .ok (.getfield 12, 3) := by decide +kernel
theorem dX11_of_138 : decode cX11_of 138 = .ok (.iload_n 1, 1) := by decide +kernel
theorem dX11_of_139 : decode cX11_of 139 = .ok (.invokevirtual 121, 3) := by decide +kernel
theorem dX11_of_142 : decode cX11_of 142 = .ok (.invokestatic 111, 3) := by decide +kernel
theorem dX11_of_145 : decode cX11_of 145 = .ok (.ireturn, 1) := by decide +kernel
theorem dX11_of_146 : decode cX11_of 146 = .ok (.iconst (-1), 1) := by decide +kernel
theorem dX11_of_147 : decode cX11_of 147 = .ok (.ireturn, 1) := by decide +kernel
set_option maxRecDepth 20000 in
theorem ggX11_front_X7_at : GoodIn wsX11_front wsX7_at := goodIn_r _ [6, 7, 8, 35, 36, 37, 38, 39, 40, 41] (by decide +kernel) (by decide +kernel)
set_option maxRecDepth 20000 in
theorem gX11_front_X7_at : GoodIn wsX11_front (wsV RX11 82 RX7 yX7_at wsX7_at) := goodIn_app (goodIn_of _ (by decide +kernel)) ggX11_front_X7_at
set_option maxRecDepth 20000 in
theorem ggX11_front_X7_needsFront : GoodIn wsX11_front wsX7_needsFront := goodIn_r _ [12, 13, 14, 15, 16, 35, 36, 37, 38, 39, 40, 41] (by decide +kernel) (by decide +kernel)
set_option maxRecDepth 20000 in
theorem gX11_front_X7_needsFront : GoodIn wsX11_front (wsV RX11 104 RX7 yX7_needsFront wsX7_needsFront) := goodIn_app (goodIn_of _ (by decide +kernel)) ggX11_front_X7_needsFront
set_option maxRecDepth 20000 in
theorem ggX11_front_X7_setFront : GoodIn wsX11_front wsX7_setFront := goodIn_r _ [20, 13, 35, 36, 37, 38, 39, 40, 41] (by decide +kernel) (by decide +kernel)
set_option maxRecDepth 20000 in
theorem gX11_front_X7_setFront : GoodIn wsX11_front (wsV RX11 124 RX7 yX7_setFront wsX7_setFront) := goodIn_app (goodIn_of _ (by decide +kernel)) ggX11_front_X7_setFront
theorem dX11_front_0 : decode cX11_front 0 = .ok (.aload_n 0, 1) := by decide +kernel
theorem dX11_front_1 : decode cX11_front 1 = .ok (.getfield 12, 3) := by decide +kernel
theorem dX11_front_4 : decode cX11_front 4 = .ok (.iload_n 1, 1) := by decide +kernel
theorem dX11_front_5 : decode cX11_front 5 = .ok (.invokevirtual 82, 3) := by decide +kernel
theorem dX11_front_8 : decode cX11_front 8 = .ok (.ifnonnull 5, 3) := by decide +kernel
theorem dX11_front_11 : decode cX11_front 11 = .ok (.iconst (-1), 1) := by decide +kernel
theorem dX11_front_12 : decode cX11_front 12 = .ok (.ireturn, 1) := by decide +kernel
theorem dX11_front_13 : decode cX11_front 13 = .ok (.aload_n 0, 1) := by decide +kernel
theorem dX11_front_14 : decode cX11_front 14 = .ok (.getfield 12, 3) := by decide +kernel
theorem dX11_front_17 : decode cX11_front 17 = .ok (.iload_n 1, 1) := by decide +kernel
theorem dX11_front_18 : decode cX11_front 18 = .ok (.invokevirtual 104, 3) := by decide +kernel
theorem dX11_front_21 : decode cX11_front 21 = .ok (.ifCond .eq 7, 3) := by decide +kernel
theorem dX11_front_24 : decode cX11_front 24 = .ok (.iconst 1, 1) := by decide +kernel
theorem dX11_front_25 : decode cX11_front 25 = .ok (.goto 4, 3) := by decide +kernel
theorem dX11_front_28 : decode cX11_front 28 = .ok (.iconst 0, 1) := by decide +kernel
theorem dX11_front_29 : decode cX11_front 29 = .ok (.istore_n 3, 1) := by decide +kernel
theorem dX11_front_30 : decode cX11_front 30 = .ok (.aload_n 0, 1) := by decide +kernel
theorem dX11_front_31 : decode cX11_front 31 = .ok (.getfield 12, 3) := by decide +kernel
theorem dX11_front_34 : decode cX11_front 34 = .ok (.iload_n 1, 1) := by decide +kernel
theorem dX11_front_35 : decode cX11_front 35 = .ok (.iload_n 2, 1) := by decide +kernel
theorem dX11_front_36 : decode cX11_front 36 = .ok (.invokevirtual 124, 3) := by decide +kernel
theorem dX11_front_39 : decode cX11_front 39 = .ok (.iload_n 3, 1) := by decide +kernel
theorem dX11_front_40 : decode cX11_front 40 = .ok (.ireturn, 1) := by decide +kernel
set_option maxRecDepth 20000 in
theorem ggX11_name_X7_at : GoodIn wsX11_name wsX7_at := goodIn_r _ [7, 8, 9, 37, 38, 39, 40, 41, 42, 43] (by decide +kernel) (by decide +kernel)
set_option maxRecDepth 20000 in
theorem gX11_name_X7_at : GoodIn wsX11_name (wsV RX11 82 RX7 yX7_at wsX7_at) := goodIn_app (goodIn_of _ (by decide +kernel)) ggX11_name_X7_at
set_option maxRecDepth 20000 in
theorem ggX11_name_X7_whomNames : GoodIn wsX11_name wsX7_whomNames := goodIn_r _ [13, 8, 14, 37, 38, 39, 40, 41, 42, 43] (by decide +kernel) (by decide +kernel)
set_option maxRecDepth 20000 in
theorem gX11_name_X7_whomNames : GoodIn wsX11_name (wsV RX11 107 RX7 yX7_whomNames wsX7_whomNames) := goodIn_app (goodIn_of _ (by decide +kernel)) ggX11_name_X7_whomNames
set_option maxRecDepth 20000 in
theorem ggX11_name_X7_setSlip : GoodIn wsX11_name wsX7_setSlip := goodIn_r _ [18, 14, 37, 38, 39, 40, 41, 42, 43] (by decide +kernel) (by decide +kernel)
set_option maxRecDepth 20000 in
theorem gX11_name_X7_setSlip : GoodIn wsX11_name (wsV RX11 128 RX7 yX7_setSlip wsX7_setSlip) := goodIn_app (goodIn_of _ (by decide +kernel)) ggX11_name_X7_setSlip
set_option maxRecDepth 20000 in
theorem ggX11_name_X11_orNobody : GoodIn wsX11_name wsX11_orNobody := goodIn_r _ [22] (by decide +kernel) (by decide +kernel)
set_option maxRecDepth 20000 in
theorem gX11_name_X11_orNobody : GoodIn wsX11_name (va_wsS RX11 111 yX11_orNobody wsX11_orNobody) := goodIn_app (goodIn_of _ (by decide +kernel)) ggX11_name_X11_orNobody
theorem dX11_name_0 : decode cX11_name 0 = .ok (.aload_n 0, 1) := by decide +kernel
theorem dX11_name_1 : decode cX11_name 1 = .ok (.getfield 12, 3) := by decide +kernel
theorem dX11_name_4 : decode cX11_name 4 = .ok (.iload_n 1, 1) := by decide +kernel
theorem dX11_name_5 : decode cX11_name 5 = .ok (.invokevirtual 82, 3) := by decide +kernel
theorem dX11_name_8 : decode cX11_name 8 = .ok (.ifnull 19, 3) := by decide +kernel
theorem dX11_name_11 : decode cX11_name 11 = .ok (.iload_n 2, 1) := by decide +kernel
theorem dX11_name_12 : decode cX11_name 12 = .ok (.iconst (-1), 1) := by decide +kernel
theorem dX11_name_13 : decode cX11_name 13 = .ok (.if_icmp .eq 16, 3) := by decide +kernel
theorem dX11_name_16 : decode cX11_name 16 = .ok (.aload_n 0, 1) := by decide +kernel
theorem dX11_name_17 : decode cX11_name 17 = .ok (.getfield 12, 3) := by decide +kernel
theorem dX11_name_20 : decode cX11_name 20 = .ok (.iload_n 2, 1) := by decide +kernel
theorem dX11_name_21 : decode cX11_name 21 = .ok (.invokevirtual 82, 3) := by decide +kernel
theorem dX11_name_24 : decode cX11_name 24 = .ok (.ifnonnull 5, 3) := by decide +kernel
theorem dX11_name_27 : decode cX11_name 27 = .ok (.iconst (-1), 1) := by decide +kernel
theorem dX11_name_28 : decode cX11_name 28 = .ok (.ireturn, 1) := by decide +kernel
theorem dX11_name_29 : decode cX11_name 29 = .ok (.iload_n 1, 1) := by decide +kernel
theorem dX11_name_30 : decode cX11_name 30 = .ok (.iload_n 2, 1) := by decide +kernel
theorem dX11_name_31 : decode cX11_name 31 = .ok (.if_icmp .ne 6, 3) := by decide +kernel
theorem dX11_name_34 : decode cX11_name 34 = .ok (.bipush (-2), 2) := by decide +kernel
theorem dX11_name_36 : decode cX11_name 36 = .ok (.ireturn, 1) := by decide +kernel
theorem dX11_name_37 : decode cX11_name 37 = .ok (.aload_n 0, 1) := by decide +kernel
theorem dX11_name_38 : decode cX11_name 38 = .ok (.getfield 12, 3) := by decide +kernel
theorem dX11_name_41 : decode cX11_name 41 = .ok (.iload_n 1, 1) := by decide +kernel
theorem dX11_name_42 : decode cX11_name 42 = .ok (.invokevirtual 107, 3) := by decide +kernel
theorem dX11_name_45 : decode cX11_name 45 = .ok (.istore_n 3, 1) := by decide +kernel
theorem dX11_name_46 : decode cX11_name 46 = .ok (.aload_n 0, 1) := by decide +kernel
theorem dX11_name_47 : decode cX11_name 47 = .ok (.getfield 12, 3) := by decide +kernel
theorem dX11_name_50 : decode cX11_name 50 = .ok (.iload_n 1, 1) := by decide +kernel
theorem dX11_name_51 : decode cX11_name 51 = .ok (.iload_n 2, 1) := by decide +kernel
theorem dX11_name_52 : decode cX11_name 52 = .ok (.invokevirtual 128, 3) := by decide +kernel
theorem dX11_name_55 : decode cX11_name 55 = .ok (.aload_n 0, 1) := by decide +kernel
theorem dX11_name_56 : decode cX11_name 56 = .ok (.iconst 0, 1) := by decide +kernel
theorem dX11_name_57 : decode cX11_name 57 = .ok (.putfield 78, 3) := by decide +kernel
theorem dX11_name_60 : decode cX11_name 60 = .ok (.iload_n 3, 1) := by decide +kernel
theorem dX11_name_61 : decode cX11_name 61 = .ok (.invokestatic 111, 3) := by decide +kernel
theorem dX11_name_64 : decode cX11_name 64 = .ok (.ireturn, 1) := by decide +kernel
set_option maxRecDepth 20000 in
theorem ggX11_sit_X7_at : GoodIn wsX11_sit wsX7_at := goodIn_r _ [7, 8, 9, 31, 32, 33, 34, 35, 36, 37] (by decide +kernel) (by decide +kernel)
set_option maxRecDepth 20000 in
theorem gX11_sit_X7_at : GoodIn wsX11_sit (wsV RX11 82 RX7 yX7_at wsX7_at) := goodIn_app (goodIn_of _ (by decide +kernel)) ggX11_sit_X7_at
set_option maxRecDepth 20000 in
theorem ggX11_sit_X11_seatIn : GoodIn wsX11_sit wsX11_seatIn := goodIn_r _ [13] (by decide +kernel) (by decide +kernel)
set_option maxRecDepth 20000 in
theorem gX11_sit_X11_seatIn : GoodIn wsX11_sit (va_wsS RX11 117 yX11_seatIn wsX11_seatIn) := goodIn_app (goodIn_of _ (by decide +kernel)) ggX11_sit_X11_seatIn
set_option maxRecDepth 20000 in
theorem ggX11_sit_X11_exchange : GoodIn wsX11_sit wsX11_exchange := goodIn_r _ [16] (by decide +kernel) (by decide +kernel)
set_option maxRecDepth 20000 in
theorem gX11_sit_X11_exchange : GoodIn wsX11_sit (va_wsS RX11 132 yX11_exchange wsX11_exchange) := goodIn_app (goodIn_of _ (by decide +kernel)) ggX11_sit_X11_exchange
theorem dX11_sit_0 : decode cX11_sit 0 = .ok (.aload_n 0, 1) := by decide +kernel
theorem dX11_sit_1 : decode cX11_sit 1 = .ok (.getfield 12, 3) := by decide +kernel
theorem dX11_sit_4 : decode cX11_sit 4 = .ok (.iload_n 1, 1) := by decide +kernel
theorem dX11_sit_5 : decode cX11_sit 5 = .ok (.invokevirtual 82, 3) := by decide +kernel
theorem dX11_sit_8 : decode cX11_sit 8 = .ok (.ifnull 13, 3) := by decide +kernel
theorem dX11_sit_11 : decode cX11_sit 11 = .ok (.iload_n 2, 1) := by decide +kernel
theorem dX11_sit_12 : decode cX11_sit 12 = .ok (.ifCond .lt 9, 3) := by decide +kernel
theorem dX11_sit_15 : decode cX11_sit 15 = .ok (.iload_n 2, 1) := by decide +kernel
theorem dX11_sit_16 : decode cX11_sit 16 = .ok (.bipush 8, 2) := by decide +kernel
theorem dX11_sit_18 : decode cX11_sit 18 = .ok (.if_icmp .lt 5, 3) := by decide +kernel
theorem dX11_sit_21 : decode cX11_sit 21 = .ok (.iconst (-1), 1) := by decide +kernel
theorem dX11_sit_22 : decode cX11_sit 22 = .ok (.ireturn, 1) := by decide +kernel
theorem dX11_sit_23 : decode cX11_sit 23 = .ok (.aload_n 0, 1) := by decide +kernel
theorem dX11_sit_24 : decode cX11_sit 24 = .ok (.getfield 12, 3) := by decide +kernel
theorem dX11_sit_27 : decode cX11_sit 27 = .ok (.getfield 114, 3) := by decide +kernel
theorem dX11_sit_30 : decode cX11_sit 30 = .ok (.iload_n 1, 1) := by decide +kernel
theorem dX11_sit_31 : decode cX11_sit 31 = .ok (.invokestatic 117, 3) := by decide +kernel
theorem dX11_sit_34 : decode cX11_sit 34 = .ok (.istore_n 3, 1) := by decide +kernel
theorem dX11_sit_35 : decode cX11_sit 35 = .ok (.aload_n 0, 1) := by decide +kernel
theorem dX11_sit_36 : decode cX11_sit 36 = .ok (.getfield 12, 3) := by decide +kernel
theorem dX11_sit_39 : decode cX11_sit 39 = .ok (.getfield 114, 3) := by decide +kernel
theorem dX11_sit_42 : decode cX11_sit 42 = .ok (.iload_n 3, 1) := by decide +kernel
theorem dX11_sit_43 : decode cX11_sit 43 = .ok (.iload_n 2, 1) := by decide +kernel
theorem dX11_sit_44 : decode cX11_sit 44 = .ok (.invokestatic 132, 3) := by decide +kernel
theorem dX11_sit_47 : decode cX11_sit 47 = .ok (.iload_n 3, 1) := by decide +kernel
theorem dX11_sit_48 : decode cX11_sit 48 = .ok (.ireturn, 1) := by decide +kernel
theorem dX11_feed_0 : decode cX11_feed 0 = .ok (.iload_n 1, 1) := by decide +kernel
theorem dX11_feed_1 : decode cX11_feed 1 = .ok (.ifCond .lt 9, 3) := by decide +kernel
theorem dX11_feed_4 : decode cX11_feed 4 = .ok (.iload_n 1, 1) := by decide +kernel
theorem dX11_feed_5 : decode cX11_feed 5 = .ok (.bipush 127, 2) := by decide +kernel
theorem dX11_feed_7 : decode cX11_feed 7 = .ok (.if_icmp .le 6, 3) := by decide +kernel
theorem dX11_feed_10 : decode cX11_feed 10 = .ok (.bipush (-2), 2) := by decide +kernel
theorem dX11_feed_12 : decode cX11_feed 12 = .ok (.ireturn, 1) := by decide +kernel
theorem dX11_feed_13 : decode cX11_feed 13 = .ok (.aload_n 0, 1) := by decide +kernel
theorem dX11_feed_14 : decode cX11_feed 14 = .ok (.getfield 136, 3) := by decide +kernel
theorem dX11_feed_17 : decode cX11_feed 17 = .ok (.ifCond .lt 15, 3) := by decide +kernel
theorem dX11_feed_20 : decode cX11_feed 20 = .ok (.aload_n 0, 1) := by decide +kernel
theorem dX11_feed_21 : decode cX11_feed 21 = .ok (.getfield 136, 3) := by decide +kernel
theorem dX11_feed_24 : decode cX11_feed 24 = .ok (.aload_n 0, 1) := by decide +kernel
theorem dX11_feed_25 : decode cX11_feed 25 = .ok (.getfield 21, 3) := by decide +kernel
theorem dX11_feed_28 : decode cX11_feed 28 = .ok (.arraylength, 1) := by decide +kernel
theorem dX11_feed_29 : decode cX11_feed 29 = .ok (.if_icmp .lt 6, 3) := by decide +kernel
theorem dX11_feed_32 : decode cX11_feed 32 = .ok (.bipush (-4), 2) := by decide +kernel
theorem dX11_feed_34 : decode cX11_feed 34 = .ok (.ireturn, 1) := by decide +kernel
theorem dX11_feed_35 : decode cX11_feed 35 = .ok (.aload_n 0, 1) := by decide +kernel
theorem dX11_feed_36 : decode cX11_feed 36 = .ok (.getfield 21, 3) := by decide +kernel
theorem dX11_feed_39 : decode cX11_feed 39 = .ok (.aload_n 0, 1) := by decide +kernel
theorem dX11_feed_40 : decode cX11_feed 40 = .ok (.getfield 136, 3) := by decide +kernel
theorem dX11_feed_43 : decode cX11_feed 43 = .ok (.iload_n 1, 1) := by decide +kernel
theorem dX11_feed_44 : decode cX11_feed 44 = .ok (.i2b, 1) := by decide +kernel
theorem dX11_feed_45 : decode cX11_feed 45 = .ok (.bastore, 1) := by decide +kernel
theorem dX11_feed_46 : decode cX11_feed 46 = .ok (.aload_n 0, 1) := by decide +kernel
theorem dX11_feed_47 : decode cX11_feed 47 = .ok (.dup, 1) := by decide +kernel
theorem dX11_feed_48 : decode cX11_feed 48 = .ok (.getfield 136, 3) := by decide +kernel
theorem dX11_feed_51 : decode cX11_feed 51 = .ok (.iconst 1, 1) := by decide +kernel
theorem dX11_feed_52 : decode cX11_feed 52 = .ok (.iadd, 1) := by decide +kernel
theorem dX11_feed_53 : decode cX11_feed 53 = .ok (.putfield 136, 3) := by decide +kernel
theorem dX11_feed_56 : decode cX11_feed 56 = .ok (.aload_n 0, 1) := by decide +kernel
theorem dX11_feed_57 : decode cX11_feed 57 = .ok (.getfield 136, 3) := by decide +kernel
theorem dX11_feed_60 : decode cX11_feed 60 = .ok (.ireturn, 1) := by decide +kernel
set_option maxRecDepth 20000 in
theorem ggX11_room_X11_roomAt : GoodIn wsX11_room wsX11_roomAt := goodIn_r _ [11, 12, 13, 202, 203, 204, 205, 206, 207, 208, 209, 210, 211, 212, 213, 214, 215] (by decide +kernel) (by decide +kernel)
set_option maxRecDepth 20000 in
theorem gX11_room_X11_roomAt : GoodIn wsX11_room (wsV RX11 142 RX11 yX11_roomAt wsX11_roomAt) := goodIn_app (goodIn_of _ (by decide +kernel)) ggX11_room_X11_roomAt
set_option maxRecDepth 20000 in
theorem ggX11_room_X5_take : GoodIn wsX11_room wsX5_take := goodIn_r _ [18, 19, 20, 21, 22, 23, 24, 25, 26, 27, 28, 29, 30, 31, 32, 33, 34, 35, 36, 37, 38, 17, 39, 40, 41, 42, 43, 44, 45, 46, 47, 48, 49, 50, 51, 52, 53, 54, 55, 56, 57, 58, 59, 60, 61, 62, 63, 64, 65, 66, 67, 68, 69, 70, 71, 72, 73, 74, 75, 76, 77, 78, 79, 80, 81, 82, 83, 84, 85, 86, 87, 88, 89, 90, 91, 92, 93, 94, 95, 96, 97, 98, 99, 100, 101, 102, 103, 104, 105, 106, 107, 108, 109, 110, 111, 112, 10, 113, 114, 115, 116, 117, 118, 119, 120, 121, 122, 123, 124, 125, 126, 127, 128, 129, 130, 131, 132, 133, 134, 135, 136, 137, 138, 139, 140, 141, 142, 143, 144, 145, 146, 147, 148, 149, 150, 151, 152, 153, 154, 155, 156, 157, 158, 159, 160, 161, 162, 163, 164, 165, 166, 167, 168, 169, 170, 171, 172, 173, 174, 175, 176, 177, 178, 179, 180, 181, 182, 183, 184, 185, 186, 187, 188, 189, 190, 191, 192, 193, 194, 195, 196, 197, 198, 199, 200, 201, 223, 224, 225, 226, 227, 228, 229, 230, 231, 232, 233] (by decide +kernel) (by decide +kernel)
set_option maxRecDepth 20000 in
theorem gX11_room_X5_take : GoodIn wsX11_room (wsV RX11 146 RX5 yX5_take wsX5_take) := goodIn_app (goodIn_of _ (by decide +kernel)) ggX11_room_X5_take
theorem dX11_room_0 : decode cX11_room 0 = .ok (.aload_n 0, 1) := by decide +kernel
theorem dX11_room_1 : decode cX11_room 1 = .ok (.getfield 139, 3) := by decide +kernel
theorem dX11_room_4 : decode cX11_room 4 = .ok (.bipush 6, 2) := by decide +kernel
theorem dX11_room_6 : decode cX11_room 6 = .ok (.if_icmp .lt 6, 3) := by decide +kernel
theorem dX11_room_9 : decode cX11_room 9 = .ok (.bipush (-4), 2) := by decide +kernel
theorem dX11_room_11 : decode cX11_room 11 = .ok (.ireturn, 1) := by decide +kernel
theorem dX11_room_12 : decode cX11_room 12 = .ok (.aload_n 0, 1) := by decide +kernel
theorem dX11_room_13 : decode cX11_room 13 = .ok (.aload_n 0, 1) := by decide +kernel
theorem dX11_room_14 : decode cX11_room 14 = .ok (.getfield 139, 3) := by decide +kernel
theorem dX11_room_17 : decode cX11_room 17 = .ok (.invokevirtual 142, 3) := by decide +kernel
theorem dX11_room_20 : decode cX11_room 20 = .ok (.aload_n 0, 1) := by decide +kernel
theorem dX11_room_21 : decode cX11_room 21 = .ok (.getfield 21, 3) := by decide +kernel
theorem dX11_room_24 : decode cX11_room 24 = .ok (.aload_n 0, 1) := by decide +kernel
theorem dX11_room_25 : decode cX11_room 25 = .ok (.getfield 136, 3) := by decide +kernel
theorem dX11_room_28 : decode cX11_room 28 = .ok (.invokevirtual 146, 3) := by decide +kernel
theorem dX11_room_31 : decode cX11_room 31 = .ok (.istore_n 1, 1) := by decide +kernel
theorem dX11_room_32 : decode cX11_room 32 = .ok (.aload_n 0, 1) := by decide +kernel
theorem dX11_room_33 : decode cX11_room 33 = .ok (.iconst 0, 1) := by decide +kernel
theorem dX11_room_34 : decode cX11_room 34 = .ok (.putfield 136, 3) := by decide +kernel
theorem dX11_room_37 : decode cX11_room 37 = .ok (.iload_n 1, 1) := by decide +kernel
theorem dX11_room_38 : decode cX11_room 38 = .ok (.ifCond .lt 8, 3) := by decide +kernel
theorem dX11_room_41 : decode cX11_room 41 = .ok (.bipush (-10), 2) := by decide +kernel
theorem dX11_room_43 : decode cX11_room 43 = .ok (.iload_n 1, 1) := by decide +kernel
theorem dX11_room_44 : decode cX11_room 44 = .ok (.isub, 1) := by decide +kernel
theorem dX11_room_45 : decode cX11_room 45 = .ok (.ireturn, 1) := by decide +kernel
theorem dX11_room_46 : decode cX11_room 46 = .ok (.aload_n 0, 1) := by decide +kernel
theorem dX11_room_47 : decode cX11_room 47 = .ok (.getfield 12, 3) := by decide +kernel
theorem dX11_room_50 : decode cX11_room 50 = .ok (.aload_n 0, 1) := by decide +kernel
theorem dX11_room_51 : decode cX11_room 51 = .ok (.getfield 139, 3) := by decide +kernel
theorem dX11_room_54 : decode cX11_room 54 = .ok (.putfield 150, 3) := by decide +kernel
theorem dX11_room_57 : decode cX11_room 57 = .ok (.aload_n 0, 1) := by decide +kernel
theorem dX11_room_58 : decode cX11_room 58 = .ok (.dup, 1) := by decide +kernel
theorem dX11_room_59 : decode cX11_room 59 = .ok (.getfield 139, 3) := by decide +kernel
theorem dX11_room_62 : decode cX11_room 62 = .ok (.iconst 1, 1) := by decide +kernel
theorem dX11_room_63 : decode cX11_room 63 = .ok (.iadd, 1) := by decide +kernel
theorem dX11_room_64 : decode cX11_room 64 = .ok (.putfield 139, 3) := by decide +kernel
theorem dX11_room_67 : decode cX11_room 67 = .ok (.aload_n 0, 1) := by decide +kernel
theorem dX11_room_68 : decode cX11_room 68 = .ok (.iconst 0, 1) := by decide +kernel
theorem dX11_room_69 : decode cX11_room 69 = .ok (.putfield 78, 3) := by decide +kernel
theorem dX11_room_72 : decode cX11_room 72 = .ok (.aload_n 0, 1) := by decide +kernel
theorem dX11_room_73 : decode cX11_room 73 = .ok (.getfield 12, 3) := by decide +kernel
theorem dX11_room_76 : decode cX11_room 76 = .ok (.getfield 150, 3) := by decide +kernel
theorem dX11_room_79 : decode cX11_room 79 = .ok (.ireturn, 1) := by decide +kernel
set_option maxRecDepth 20000 in
theorem ggX11_pair_X7_at : GoodIn wsX11_pair wsX7_at := goodIn_r _ [9, 10, 11, 185, 186, 187, 188, 189, 190, 191] (by decide +kernel) (by decide +kernel)
set_option maxRecDepth 20000 in
theorem gX11_pair_X7_at : GoodIn wsX11_pair (wsV RX11 82 RX7 yX7_at wsX7_at) := goodIn_app (goodIn_of _ (by decide +kernel)) ggX11_pair_X7_at
set_option maxRecDepth 20000 in
theorem ggX11_pair_X11_roomAt : GoodIn wsX11_pair wsX11_roomAt := goodIn_r _ [16, 17, 18, 171, 172, 173, 174, 175, 176, 177, 178, 179, 180, 181, 182, 183, 184] (by decide +kernel) (by decide +kernel)
set_option maxRecDepth 20000 in
theorem gX11_pair_X11_roomAt : GoodIn wsX11_pair (wsV RX11 142 RX11 yX11_roomAt wsX11_roomAt) := goodIn_app (goodIn_of _ (by decide +kernel)) ggX11_pair_X11_roomAt
set_option maxRecDepth 20000 in
theorem ggX11_pair_X5_learns : GoodIn wsX11_pair wsX5_learns := goodIn_r _ [23, 24, 25, 26, 22, 27, 28, 29, 30, 31, 32, 33, 34, 35, 36, 37, 38, 39, 8, 40, 10, 41, 42, 43, 44, 45, 46, 47, 48, 49, 50, 51, 52, 53, 54, 55, 56, 57, 58, 192, 193, 194, 195, 196, 197, 198, 199, 200, 201, 202, 203, 204, 205, 206, 207, 208, 209, 210, 211, 212, 213, 214, 215, 216, 217, 218, 219, 220, 221, 222, 223, 224, 225, 226, 227, 228, 229, 230, 231, 232, 233, 234, 235, 236, 237, 185, 186, 187, 188, 189, 190, 191] (by decide +kernel) (by decide +kernel)
set_option maxRecDepth 20000 in
theorem gX11_pair_X5_learns : GoodIn wsX11_pair (wsV RX11 155 RX5 yX5_learns wsX5_learns) := goodIn_app (goodIn_of _ (by decide +kernel)) ggX11_pair_X5_learns
set_option maxRecDepth 20000 in
theorem ggX11_pair_X5_louds : GoodIn wsX11_pair wsX5_louds := goodIn_r _ [62, 24, 25, 26, 22, 27, 28, 29, 30, 31, 32, 33, 34, 35, 36, 37, 38, 39, 8, 40, 10, 41, 42, 43, 44, 45, 46, 47, 48, 49, 50, 51, 52, 53, 54, 55, 56, 57, 58, 192, 193, 194, 195, 196, 197, 198, 199, 200, 201, 202, 203, 204, 205, 206, 207, 208, 209, 210, 211, 212, 213, 214, 215, 216, 217, 218, 219, 220, 221, 222, 223, 224, 225, 226, 227, 228, 229, 230, 231, 232, 233, 234, 235, 236, 237, 185, 186, 187, 188, 189, 190, 191] (by decide +kernel) (by decide +kernel)
set_option maxRecDepth 20000 in
theorem gX11_pair_X5_louds : GoodIn wsX11_pair (wsV RX11 159 RX5 yX5_louds wsX5_louds) := goodIn_app (goodIn_of _ (by decide +kernel)) ggX11_pair_X5_louds
set_option maxRecDepth 20000 in
theorem ggX11_pair_X5_isBarred : GoodIn wsX11_pair wsX5_isBarred := goodIn_r _ [66, 24, 25, 26, 22, 27, 28, 29, 30, 31, 32, 33, 34, 35, 36, 37, 38, 39, 8, 40, 10, 41, 42, 43, 44, 45, 46, 47, 48, 49, 50, 51, 52, 53, 54, 55, 56, 57, 58, 192, 193, 194, 195, 196, 197, 198, 199, 200, 201, 202, 203, 204, 205, 206, 207, 208, 209, 210, 211, 212, 213, 214, 215, 216, 217, 218, 219, 220, 221, 222, 223, 224, 225, 226, 227, 228, 229, 230, 231, 232, 233, 234, 235, 236, 237, 185, 186, 187, 188, 189, 190, 191] (by decide +kernel) (by decide +kernel)
set_option maxRecDepth 20000 in
theorem gX11_pair_X5_isBarred : GoodIn wsX11_pair (wsV RX11 162 RX5 yX5_isBarred wsX5_isBarred) := goodIn_app (goodIn_of _ (by decide +kernel)) ggX11_pair_X5_isBarred
set_option maxRecDepth 20000 in
theorem ggX11_pair_X5_worth : GoodIn wsX11_pair wsX5_worth := goodIn_r _ [70, 24, 25, 26, 22, 27, 28, 29, 30, 31, 32, 33, 34, 35, 36, 37, 38, 39, 8, 40, 10, 41, 42, 43, 44, 45, 46, 47, 48, 49, 50, 51, 52, 53, 54, 55, 56, 57, 58, 71, 72, 73, 74, 75, 76, 77, 78, 79, 80, 81, 82, 83, 84, 85, 86, 87, 88, 89, 90, 91, 92, 93, 94, 95, 96, 97, 98, 99, 100, 101, 102, 103, 104, 105, 106, 107, 108, 109, 110, 111, 112, 113, 114, 115, 116, 117, 118, 119, 120, 121, 122, 123, 124, 125, 126, 127, 128, 129, 130, 131, 132, 133, 134, 135, 136, 137, 138, 139, 140, 141, 192, 193, 194, 195, 196, 197, 198, 199, 200, 201, 202, 203, 204, 205, 206, 207, 208, 209, 210, 211, 212, 213, 214, 215, 216, 217, 218, 219, 220, 221, 222, 223, 224, 225, 226, 227, 228, 229, 230, 231, 232, 233, 234, 235, 236, 237, 185, 186, 187, 188, 189, 190, 191] (by decide +kernel) (by decide +kernel)
set_option maxRecDepth 20000 in
theorem gX11_pair_X5_worth : GoodIn wsX11_pair (wsV RX11 166 RX5 yX5_worth wsX5_worth) := goodIn_app (goodIn_of _ (by decide +kernel)) ggX11_pair_X5_worth
set_option maxRecDepth 20000 in
theorem ggX11_pair_X0_burden : GoodIn wsX11_pair wsX0_burden := goodIn_r _ [148, 149, 150, 203, 204, 205, 206, 207, 208, 209, 210, 211, 212, 213, 214, 215, 216, 217, 218, 219, 220, 221, 222, 223, 224, 225, 226, 227, 228, 229, 230, 231, 232, 233, 234, 235, 236, 237] (by decide +kernel) (by decide +kernel)
set_option maxRecDepth 20000 in
theorem gX11_pair_X0_burden_u169X0 : GoodIn wsX11_pair (va_wsO RX11 169 RX0 "WhoSitsBy$Pupil" ⟨"WhoSitsBy$Pupil", "burden", "()I"⟩ yX0_burden wsX0_burden) := goodIn_app (goodIn_of _ (by decide +kernel)) ggX11_pair_X0_burden
set_option maxRecDepth 20000 in
theorem ggX11_pair_X4_burden : GoodIn wsX11_pair wsX4_burden := goodIn_r _ [151] (by decide +kernel) (by decide +kernel)
set_option maxRecDepth 20000 in
theorem gX11_pair_X4_burden_u169X1 : GoodIn wsX11_pair (va_wsU RX11 169 RX1 "WhoSitsBy$Pupil" ⟨"WhoSitsBy$Pupil", "burden", "()I"⟩ yX4_burden wsX4_burden) := goodIn_app (goodIn_of _ (by decide +kernel)) ggX11_pair_X4_burden
set_option maxRecDepth 20000 in
theorem gX11_pair_X4_burden_u169X2 : GoodIn wsX11_pair (va_wsU RX11 169 RX2 "WhoSitsBy$Pupil" ⟨"WhoSitsBy$Pupil", "burden", "()I"⟩ yX4_burden wsX4_burden) := goodIn_app (goodIn_of _ (by decide +kernel)) ggX11_pair_X4_burden
set_option maxRecDepth 20000 in
theorem gX11_pair_X4_burden_u169X3 : GoodIn wsX11_pair (va_wsU RX11 169 RX3 "WhoSitsBy$Pupil" ⟨"WhoSitsBy$Pupil", "burden", "()I"⟩ yX4_burden wsX4_burden) := goodIn_app (goodIn_of _ (by decide +kernel)) ggX11_pair_X4_burden
set_option maxRecDepth 20000 in
theorem gX11_pair_X4_burden : GoodIn wsX11_pair (wsV RX11 169 RX4 yX4_burden wsX4_burden) := goodIn_app (goodIn_of _ (by decide +kernel)) ggX11_pair_X4_burden
set_option maxRecDepth 20000 in
theorem gX11_pair_X4_burden_u169X8 : GoodIn wsX11_pair (va_wsU RX11 169 RX8 "WhoSitsBy$Pupil" ⟨"WhoSitsBy$Pupil", "burden", "()I"⟩ yX4_burden wsX4_burden) := goodIn_app (goodIn_of _ (by decide +kernel)) ggX11_pair_X4_burden
set_option maxRecDepth 20000 in
theorem gX11_pair_X4_burden_u169X10 : GoodIn wsX11_pair (va_wsU RX11 169 RX10 "WhoSitsBy$Pupil" ⟨"WhoSitsBy$Pupil", "burden", "()I"⟩ yX4_burden wsX4_burden) := goodIn_app (goodIn_of _ (by decide +kernel)) ggX11_pair_X4_burden
set_option maxRecDepth 20000 in
theorem ggX11_pair_X11_acrossOf : GoodIn wsX11_pair wsX11_acrossOf := goodIn_r _ [163, 1, 164, 165, 166, 15, 167, 168, 169, 170, 171, 172, 173, 174, 175, 176, 177, 178, 179, 180, 181, 182, 183, 184, 185, 186, 187, 188, 189, 190, 191] (by decide +kernel) (by decide +kernel)
set_option maxRecDepth 20000 in
theorem gX11_pair_X11_acrossOf : GoodIn wsX11_pair (wsV RX11 172 RX11 yX11_acrossOf wsX11_acrossOf) := goodIn_app (goodIn_of _ (by decide +kernel)) ggX11_pair_X11_acrossOf
theorem dX11_pair_0 : decode cX11_pair 0 = .ok (.aload_n 0, 1) := by decide +kernel
theorem dX11_pair_1 : decode cX11_pair 1 = .ok (.getfield 12, 3) := by decide +kernel
theorem dX11_pair_4 : decode cX11_pair 4 = .ok (.iload_n 1, 1) := by decide +kernel
theorem dX11_pair_5 : decode cX11_pair 5 = .ok (.invokevirtual 82, 3) := by decide +kernel
theorem dX11_pair_8 : decode cX11_pair 8 = .ok (.astore 5, 2) := by decide +kernel
theorem dX11_pair_10 : decode cX11_pair 10 = .ok (.aload_n 0, 1) := by decide +kernel
theorem dX11_pair_11 : decode cX11_pair 11 = .ok (.getfield 12, 3) := by decide +kernel
theorem dX11_pair_14 : decode cX11_pair 14 = .ok (.iload_n 2, 1) := by decide +kernel
theorem dX11_pair_15 : decode cX11_pair 15 = .ok (.invokevirtual 82, 3) := by decide +kernel
theorem dX11_pair_18 : decode cX11_pair 18 = .ok (.astore 6, 2) := by decide +kernel
theorem dX11_pair_20 : decode cX11_pair 20 = .ok (.aload 5, 2) := by decide +kernel
theorem dX11_pair_22 : decode cX11_pair 22 = .ok (.ifnull 28, 3) := by decide +kernel
theorem dX11_pair_25 : decode cX11_pair 25 = .ok (.aload 6, 2) := by decide +kernel
theorem dX11_pair_27 : decode cX11_pair 27 = .ok (.ifnull 23, 3) := by decide +kernel
theorem dX11_pair_30 : decode cX11_pair 30 = .ok (.iload_n 3, 1) := by decide +kernel
theorem dX11_pair_31 : decode cX11_pair 31 = .ok (.ifCond .lt 19, 3) := by decide +kernel
theorem dX11_pair_34 : decode cX11_pair 34 = .ok (.iload_n 3, 1) := by decide +kernel
theorem dX11_pair_35 : decode cX11_pair 35 = .ok (.iconst 1, 1) := by decide +kernel
theorem dX11_pair_36 : decode cX11_pair 36 = .ok (.if_icmp .gt 14, 3) := by decide +kernel
theorem dX11_pair_39 : decode cX11_pair 39 = .ok (.iload 4, 2) := by decide +kernel
theorem dX11_pair_41 : decode cX11_pair 41 = .ok (.ifCond .lt 9, 3) := by decide +kernel
theorem dX11_pair_44 : decode cX11_pair 44 = .ok (.iload 4, 2) := by decide +kernel
theorem dX11_pair_46 : decode cX11_pair 46 = .ok (.iconst 3, 1) := by decide +kernel
theorem dX11_pair_47 : decode cX11_pair 47 = .ok (.if_icmp .le 6, 3) := by decide +kernel
theorem dX11_pair_50 : decode cX11_pair 50 = .ok (.ldc 153, 2) := by decide +kernel
theorem dX11_pair_52 : decode cX11_pair 52 = .ok (.ireturn, 1) := by decide +kernel
theorem dX11_pair_53 : decode cX11_pair 53 = .ok (.iload_n 1, 1) := by decide +kernel
theorem dX11_pair_54 : decode cX11_pair 54 = .ok (.iload_n 2, 1) := by decide +kernel
theorem dX11_pair_55 : decode cX11_pair 55 = .ok (.if_icmp .ne 6, 3) := by decide +kernel
theorem dX11_pair_58 : decode cX11_pair 58 = .ok (.ldc 154, 2) := by decide +kernel
theorem dX11_pair_60 : decode cX11_pair 60 = .ok (.ireturn, 1) := by decide +kernel
theorem dX11_pair_61 : decode cX11_pair 61 = .ok (.aload_n 0, 1) := by decide +kernel
theorem dX11_pair_62 : decode cX11_pair 62 = .ok (.aload_n 0, 1) := by decide +kernel
theorem dX11_pair_63 : decode cX11_pair 63 = .ok (.getfield 12, 3) := by decide +kernel
theorem dX11_pair_66 : decode cX11_pair 66 = .ok (.getfield 150, 3) := by decide +kernel
theorem dX11_pair_69 : decode cX11_pair 69 = .ok (.invokevirtual 142, 3) := by decide +kernel
theorem dX11_pair_72 : decode cX11_pair 72 = .ok (.astore 7, 2) := by decide +kernel
theorem dX11_pair_74 : decode cX11_pair 74 = .ok (.iload 4, 2) := by decide +kernel
theorem dX11_pair_76 : decode cX11_pair 76 = .ok (.tableswitch 81 0 2 #[28, 43, 58], 28) := by decide +kernel
theorem dX11_pair_104 : decode cX11_pair 104 = .ok (.aload 7, 2) := by decide +kernel
theorem dX11_pair_106 : decode cX11_pair 106 = .ok (.aload 5, 2) := by decide +kernel
theorem dX11_pair_108 : decode cX11_pair 108 = .ok (.aload 6, 2) := by decide +kernel
theorem dX11_pair_110 : decode cX11_pair 110 = .ok (.iload_n 3, 1) := by decide +kernel
theorem dX11_pair_111 : decode cX11_pair 111 = .ok (.aload_n 0, 1) := by decide +kernel
theorem dX11_pair_112 : decode cX11_pair 112 = .ok (.getfield 12, 3) := by decide +kernel
theorem dX11_pair_115 : decode cX11_pair 115 = .ok (.invokevirtual 155, 3) := by decide +kernel
theorem dX11_pair_118 : decode cX11_pair 118 = .ok (.ireturn, 1) := by decide +kernel
theorem dX11_pair_119 : decode cX11_pair 119 = .ok (.aload 7, 2) := by decide +kernel
theorem dX11_pair_121 : decode cX11_pair 121 = .ok (.aload 5, 2) := by decide +kernel
theorem dX11_pair_123 : decode cX11_pair 123 = .ok (.aload 6, 2) := by decide +kernel
theorem dX11_pair_125 : decode cX11_pair 125 = .ok (.iload_n 3, 1) := by decide +kernel
theorem dX11_pair_126 : decode cX11_pair 126 = .ok (.aload_n 0, 1) := by decide +kernel
theorem dX11_pair_127 : decode cX11_pair 127 = .ok (.getfield 12, 3) := by decide +kernel
theorem dX11_pair_130 : decode cX11_pair 130 = .ok (.invokevirtual 159, 3) := by decide +kernel
theorem dX11_pair_133 : decode cX11_pair 133 = .ok (.ireturn, 1) := by decide +kernel
theorem dX11_pair_134 : decode cX11_pair 134 = .ok (.aload 7, 2) := by decide +kernel
theorem dX11_pair_136 : decode cX11_pair 136 = .ok (.aload 5, 2) := by decide +kernel
theorem dX11_pair_138 : decode cX11_pair 138 = .ok (.aload 6, 2) := by decide +kernel
theorem dX11_pair_140 : decode cX11_pair 140 = .ok (.iload_n 3, 1) := by decide +kernel
theorem dX11_pair_141 : decode cX11_pair 141 = .ok (.aload_n 0, 1) := by decide +kernel
theorem dX11_pair_142 : decode cX11_pair 142 = .ok (.getfield 12, 3) := by decide +kernel
theorem dX11_pair_145 : decode cX11_pair 145 = .ok (.invokevirtual 162, 3) := by decide +kernel
theorem dX11_pair_148 : decode cX11_pair 148 = .ok (.ifCond .eq 7, 3) := by decide +kernel
theorem dX11_pair_151 : decode cX11_pair 151 = .ok (.iconst 1, 1) := by decide +kernel
theorem dX11_pair_152 : decode cX11_pair 152 = .ok (.goto 4, 3) := by decide +kernel
theorem dX11_pair_155 : decode cX11_pair 155 = .ok (.iconst 0, 1) := by decide +kernel
theorem dX11_pair_156 : decode cX11_pair 156 = .ok (.ireturn, 1) := by decide +kernel
theorem dX11_pair_157 : decode cX11_pair 157 = .ok (.aload 7, 2) := by decide +kernel
theorem dX11_pair_159 : decode cX11_pair 159 = .ok (.aload 5, 2) := by decide +kernel
theorem dX11_pair_161 : decode cX11_pair 161 = .ok (.aload 6, 2) := by decide +kernel
theorem dX11_pair_163 : decode cX11_pair 163 = .ok (.iload_n 3, 1) := by decide +kernel
theorem dX11_pair_164 : decode cX11_pair 164 = .ok (.aload_n 0, 1) := by decide +kernel
theorem dX11_pair_165 : decode cX11_pair 165 = .ok (.getfield 12, 3) := by decide +kernel
theorem dX11_pair_168 : decode cX11_pair 168 = .ok (.invokevirtual 166, 3) := by decide +kernel
theorem dX11_pair_171 : decode cX11_pair 171 = .ok (.aload 5, 2) := by decide +kernel
theorem dX11_pair_173 : decode cX11_pair 173 = .ok (.invokevirtual 169, 3) := by decide +kernel
theorem dX11_pair_176 : decode cX11_pair 176 = .ok (.aload_n 0, 1) := by decide +kernel
theorem dX11_pair_177 : decode cX11_pair 177 = .ok (.iload_n 1, 1) := by decide +kernel
theorem dX11_pair_178 : decode cX11_pair 178 = .ok (.invokevirtual 172, 3) := by decide +kernel
theorem dX11_pair_181 : decode cX11_pair 181 = .ok (.imul, 1) := by decide +kernel
theorem dX11_pair_182 : decode cX11_pair 182 = .ok (.isub, 1) := by decide +kernel
theorem dX11_pair_183 : decode cX11_pair 183 = .ok (.ireturn, 1) := by decide +kernel
set_option maxRecDepth 20000 in
theorem ggX11_sitting_X11_tables : GoodIn wsX11_sitting wsX11_tables := goodIn_r _ [9, 10, 11, 1, 3, 12, 13, 14, 8, 15, 16, 17, 18, 19, 20, 21, 22, 23, 24, 25, 26, 27, 28, 29, 30, 31, 32, 33, 34, 35, 36, 37, 38, 39, 40, 41, 42, 43, 44, 45, 46, 47, 48, 49, 50, 51, 52, 53, 54, 55, 56, 57, 58, 59, 60, 61, 62, 63, 64, 65, 66, 67, 68, 69, 70, 71, 72, 73, 74, 75, 76, 77, 78, 79, 80, 81, 82, 83, 84, 85, 86, 87, 88, 89, 90, 91, 92, 93, 94, 95, 96, 97, 98, 99, 100, 101, 102, 103, 104, 105, 106, 107, 108, 109, 110, 111, 112, 113, 114, 115, 116, 117, 118, 119, 120, 121, 122, 123, 124, 125, 126, 127, 128, 129, 130, 131, 132, 133, 134, 135, 136, 137, 138, 139, 140, 141, 142, 143, 144, 145, 146, 147, 148, 149, 150, 151, 152, 153, 154, 155, 156, 157, 158, 159, 160, 161, 162, 163, 164, 165, 166, 167, 168, 169, 204, 205, 206, 207, 208, 209, 210, 211, 212, 213, 214, 215, 216, 217, 218, 219, 220, 221, 222, 223, 224, 225, 226, 227, 228, 229, 230, 231, 232, 233, 234, 235, 236, 237, 238, 239, 240, 241, 242, 243, 244, 245, 246, 247, 248, 249, 250, 251, 252, 253, 254, 255, 256, 257, 258, 259, 260, 261, 262, 263, 264, 265, 266, 267, 268, 269, 270, 271, 272, 273, 274, 275, 276, 277, 278] (by decide +kernel) (by decide +kernel)
set_option maxRecDepth 20000 in
theorem gX11_sitting_X11_tables : GoodIn wsX11_sitting (wsV RX11 175 RX11 yX11_tables wsX11_tables) := goodIn_app (goodIn_of _ (by decide +kernel)) ggX11_sitting_X11_tables
set_option maxRecDepth 20000 in
theorem ggX11_sitting_X6_worthOf : GoodIn wsX11_sitting wsX6_worthOf := goodIn_r _ [173, 174, 8, 175, 176, 177, 178, 21, 179, 24, 34, 35, 36, 180, 181, 182, 183, 26, 225, 226, 227, 228, 229, 230, 231, 232] (by decide +kernel) (by decide +kernel)
set_option maxRecDepth 20000 in
theorem gX11_sitting_X6_worthOf : GoodIn wsX11_sitting (wsV RX11 179 RX6 yX6_worthOf wsX6_worthOf) := goodIn_app (goodIn_of _ (by decide +kernel)) ggX11_sitting_X6_worthOf
set_option maxRecDepth 20000 in
theorem ggX11_sitting_X6_breaksOf : GoodIn wsX11_sitting wsX6_breaksOf := goodIn_r _ [187, 188, 189, 190, 21, 191, 25, 34, 35, 36, 192, 193, 194, 30, 195, 196, 197, 8, 198, 225, 226, 227, 228, 229, 230, 231, 232, 218, 219, 220, 221, 222, 223, 224] (by decide +kernel) (by decide +kernel)
set_option maxRecDepth 20000 in
theorem gX11_sitting_X6_breaksOf : GoodIn wsX11_sitting (wsV RX11 183 RX6 yX6_breaksOf wsX6_breaksOf) := goodIn_app (goodIn_of _ (by decide +kernel)) ggX11_sitting_X6_breaksOf
set_option maxRecDepth 20000 in
theorem ggX11_sitting_X11_roomAt : GoodIn wsX11_sitting wsX11_roomAt := goodIn_r _ [15, 16, 17, 204, 205, 206, 207, 208, 209, 210, 211, 212, 213, 214, 215, 216, 217] (by decide +kernel) (by decide +kernel)
set_option maxRecDepth 20000 in
theorem gX11_sitting_X11_roomAt : GoodIn wsX11_sitting (wsV RX11 142 RX11 yX11_roomAt wsX11_roomAt) := goodIn_app (goodIn_of _ (by decide +kernel)) ggX11_sitting_X11_roomAt
set_option maxRecDepth 20000 in
theorem ggX11_sitting_X5_hush : GoodIn wsX11_sitting wsX5_hush := goodIn_r _ [202, 203, 233, 234, 235, 236, 237, 238, 239, 240, 241, 242, 243] (by decide +kernel) (by decide +kernel)
set_option maxRecDepth 20000 in
theorem gX11_sitting_X5_hush : GoodIn wsX11_sitting (wsV RX11 187 RX5 yX5_hush wsX5_hush) := goodIn_app (goodIn_of _ (by decide +kernel)) ggX11_sitting_X5_hush
theorem dX11_sitting_0 : decode cX11_sitting 0 = .ok (.iload_n 1, 1) := by decide +kernel
theorem dX11_sitting_1 : decode cX11_sitting 1 = .ok (.tableswitch 77 0 2 #[27, 42, 62], 27) := by decide +kernel
theorem dX11_sitting_28 : decode cX11_sitting 28 = .ok (.aload_n 0, 1) := by decide +kernel
theorem dX11_sitting_29 : decode cX11_sitting 29 = .ok (.invokevirtual 175, 3) := by decide +kernel
theorem dX11_sitting_32 : decode cX11_sitting 32 = .ok (.aload_n 0, 1) := by decide +kernel
theorem dX11_sitting_33 : decode cX11_sitting 33 = .ok (.getfield 12, 3) := by decide +kernel
theorem dX11_sitting_36 : decode cX11_sitting 36 = .ok (.getfield 114, 3) := by decide +kernel
theorem dX11_sitting_39 : decode cX11_sitting 39 = .ok (.invokevirtual 179, 3) := by decide +kernel
theorem dX11_sitting_42 : decode cX11_sitting 42 = .ok (.ireturn, 1) := by decide +kernel
theorem dX11_sitting_43 : decode cX11_sitting 43 = .ok (.aload_n 0, 1) := by decide +kernel
theorem dX11_sitting_44 : decode cX11_sitting 44 = .ok (.invokevirtual 175, 3) := by decide +kernel
theorem dX11_sitting_47 : decode cX11_sitting 47 = .ok (.aload_n 0, 1) := by decide +kernel
theorem dX11_sitting_48 : decode cX11_sitting 48 = .ok (.getfield 12, 3) := by decide +kernel
theorem dX11_sitting_51 : decode cX11_sitting 51 = .ok (.getfield 114, 3) := by decide +kernel
theorem dX11_sitting_54 : decode cX11_sitting 54 = .ok (.aload_n 0, 1) := by decide +kernel
theorem dX11_sitting_55 : decode cX11_sitting 55 = .ok (.getfield 12, 3) := by decide +kernel
theorem dX11_sitting_58 : decode cX11_sitting 58 = .ok (.iconst 2, 1) := by decide +kernel
theorem dX11_sitting_59 : decode cX11_sitting 59 = .ok (.invokevirtual 183, 3) := by decide +kernel
theorem dX11_sitting_62 : decode cX11_sitting 62 = .ok (.ireturn, 1) := by decide +kernel
theorem dX11_sitting_63 : decode cX11_sitting 63 = .ok (.aload_n 0, 1) := by decide +kernel
theorem dX11_sitting_64 : decode cX11_sitting 64 = .ok (.aload_n 0, 1) := by decide +kernel
theorem dX11_sitting_65 : decode cX11_sitting 65 = .ok (.getfield 12, 3) := by decide +kernel
theorem dX11_sitting_68 : decode cX11_sitting 68 = .ok (.getfield 150, 3) := by decide +kernel
theorem dX11_sitting_71 : decode cX11_sitting 71 = .ok (.invokevirtual 142, 3) := by decide +kernel
theorem dX11_sitting_74 : decode cX11_sitting 74 = .ok (.invokevirtual 187, 3) := by decide +kernel
theorem dX11_sitting_77 : decode cX11_sitting 77 = .ok (.ireturn, 1) := by decide +kernel
theorem dX11_sitting_78 : decode cX11_sitting 78 = .ok (.ldc 153, 2) := by decide +kernel
theorem dX11_sitting_80 : decode cX11_sitting 80 = .ok (.ireturn, 1) := by decide +kernel
set_option maxRecDepth 20000 in
theorem ggX11_swap_X11_tables : GoodIn wsX11_swap wsX11_tables := goodIn_r _ [6, 7, 8, 1, 9, 10, 11, 12, 5, 13, 14, 15, 16, 17, 18, 19, 20, 21, 22, 23, 24, 25, 26, 27, 28, 29, 30, 31, 32, 33, 34, 35, 36, 37, 38, 39, 40, 41, 42, 43, 44, 45, 46, 47, 48, 49, 50, 51, 52, 53, 54, 55, 56, 57, 58, 59, 60, 61, 62, 63, 64, 65, 66, 67, 68, 69, 70, 71, 72, 73, 74, 75, 76, 77, 78, 79, 80, 81, 82, 83, 84, 85, 86, 87, 88, 89, 90, 91, 92, 93, 94, 95, 96, 97, 98, 99, 100, 101, 102, 103, 104, 105, 106, 107, 108, 109, 110, 111, 112, 113, 114, 115, 116, 117, 118, 119, 120, 121, 122, 123, 124, 125, 126, 127, 128, 129, 130, 131, 132, 133, 134, 135, 136, 137, 138, 139, 140, 141, 142, 143, 144, 145, 146, 147, 148, 149, 150, 151, 152, 153, 154, 155, 156, 157, 158, 159, 160, 161, 162, 163, 164, 165, 166, 167, 241, 242, 243, 244, 245, 246, 247, 248, 249, 250, 251, 252, 253, 254, 255, 256, 257, 258, 259, 260, 261, 262, 263, 264, 265, 266, 267, 268, 269, 270, 271, 272, 273, 274, 275, 276, 277, 278, 279, 280, 281, 282, 283, 284, 285, 286, 287, 288, 289, 290, 291, 292, 293, 294, 295, 296, 297, 298, 299, 300, 301, 302, 303, 304, 305, 306, 307, 308, 309, 310, 311, 312, 313, 314, 315] (by decide +kernel) (by decide +kernel)
set_option maxRecDepth 20000 in
theorem gX11_swap_X11_tables : GoodIn wsX11_swap (wsV RX11 175 RX11 yX11_tables wsX11_tables) := goodIn_app (goodIn_of _ (by decide +kernel)) ggX11_swap_X11_tables
set_option maxRecDepth 20000 in
theorem ggX11_swap_X6_bestExchange : GoodIn wsX11_swap wsX6_bestExchange := goodIn_r _ [171, 172, 173, 174, 175, 176, 19, 177, 178, 179, 180, 181, 182, 183, 184, 185, 186, 187, 188, 189, 190, 191, 192, 193, 194, 195, 196, 197, 23, 32, 33, 34, 198, 199, 200, 28, 201, 202, 203, 5, 204, 205, 206, 207, 208, 209, 210, 211, 212, 213, 214, 215, 49, 216, 217, 48, 50, 218, 219, 220, 221, 222, 223, 224, 225, 226, 227, 228, 229, 230, 231, 232, 233, 234, 22, 235, 236, 237, 238, 24, 239, 240, 255, 256, 257, 258, 259, 260, 261, 262, 263, 264, 265, 266, 267, 268, 269] (by decide +kernel) (by decide +kernel)
set_option maxRecDepth 20000 in
theorem gX11_swap_X6_bestExchange : GoodIn wsX11_swap (wsV RX11 190 RX6 yX6_bestExchange wsX6_bestExchange) := goodIn_app (goodIn_of _ (by decide +kernel)) ggX11_swap_X6_bestExchange
theorem dX11_swap_0 : decode cX11_swap 0 = .ok (.aload_n 0, 1) := by decide +kernel
theorem dX11_swap_1 : decode cX11_swap 1 = .ok (.invokevirtual 175, 3) := by decide +kernel
theorem dX11_swap_4 : decode cX11_swap 4 = .ok (.aload_n 0, 1) := by decide +kernel
theorem dX11_swap_5 : decode cX11_swap 5 = .ok (.getfield 12, 3) := by decide +kernel
theorem dX11_swap_8 : decode cX11_swap 8 = .ok (.invokevirtual 190, 3) := by decide +kernel
theorem dX11_swap_11 : decode cX11_swap 11 = .ok (.ireturn, 1) := by decide +kernel
set_option maxRecDepth 20000 in
theorem ggX11_best_X11_tables : GoodIn wsX11_best wsX11_tables := goodIn_r _ [11, 12, 13, 1, 14, 15, 16, 17, 10, 18, 19, 20, 21, 22, 23, 24, 25, 26, 27, 28, 29, 30, 31, 32, 33, 34, 35, 36, 37, 38, 39, 40, 41, 42, 43, 44, 45, 46, 47, 48, 49, 50, 51, 52, 53, 54, 55, 56, 57, 58, 59, 60, 61, 62, 63, 64, 65, 66, 67, 68, 69, 70, 71, 72, 73, 74, 75, 76, 77, 78, 79, 80, 81, 82, 83, 84, 85, 86, 87, 88, 89, 90, 91, 92, 93, 94, 95, 96, 97, 98, 99, 100, 101, 102, 103, 104, 105, 106, 107, 108, 109, 110, 111, 112, 113, 114, 115, 116, 117, 118, 119, 120, 121, 122, 123, 124, 125, 126, 127, 128, 129, 130, 131, 132, 133, 134, 135, 136, 137, 138, 139, 140, 141, 142, 143, 144, 145, 146, 147, 148, 149, 150, 151, 152, 153, 154, 155, 156, 157, 158, 159, 160, 161, 162, 163, 164, 165, 166, 167, 168, 169, 170, 171, 172, 253, 254, 255, 256, 257, 258, 259, 260, 261, 262, 263, 264, 265, 266, 267, 268, 269, 270, 271, 272, 273, 274, 275, 276, 277, 278, 279, 280, 281, 282, 283, 284, 285, 286, 287, 288, 289, 290, 291, 292, 293, 294, 295, 296, 297, 298, 299, 300, 301, 302, 303, 304, 305, 306, 307, 308, 309, 310, 311, 312, 313, 314, 315, 316, 317, 318, 319, 320, 321, 322, 323, 324, 325, 326, 327] (by decide +kernel) (by decide +kernel)
set_option maxRecDepth 20000 in
theorem gX11_best_X11_tables : GoodIn wsX11_best (wsV RX11 175 RX11 yX11_tables wsX11_tables) := goodIn_app (goodIn_of _ (by decide +kernel)) ggX11_best_X11_tables
set_option maxRecDepth 20000 in
theorem ggX11_best_X6_search : GoodIn wsX11_best wsX6_search := goodIn_r _ [176, 26, 177, 178, 179, 24, 180, 181, 182, 183, 184, 185, 186, 187, 188, 189, 190, 191, 192, 193, 194, 195, 196, 197, 198, 199, 200, 201, 202, 203, 204, 28, 37, 38, 39, 205, 206, 207, 33, 208, 209, 210, 10, 211, 212, 213, 214, 215, 216, 217, 218, 219, 220, 221, 222, 54, 223, 224, 53, 55, 225, 226, 227, 228, 229, 230, 231, 232, 233, 234, 235, 236, 237, 238, 239, 240, 241, 27, 242, 243, 244, 245, 29, 246, 247, 248, 249, 267, 268, 269, 270, 271, 272, 273, 274, 275, 276, 277, 278, 279, 280, 281] (by decide +kernel) (by decide +kernel)
set_option maxRecDepth 20000 in
theorem gX11_best_X6_search : GoodIn wsX11_best (wsV RX11 194 RX6 yX6_search wsX6_search) := goodIn_app (goodIn_of _ (by decide +kernel)) ggX11_best_X6_search
set_option maxRecDepth 20000 in
theorem ggX11_best_X11_seatIn : GoodIn wsX11_best wsX11_seatIn := goodIn_r _ [252] (by decide +kernel) (by decide +kernel)
set_option maxRecDepth 20000 in
theorem gX11_best_X11_seatIn : GoodIn wsX11_best (va_wsS RX11 117 yX11_seatIn wsX11_seatIn) := goodIn_app (goodIn_of _ (by decide +kernel)) ggX11_best_X11_seatIn
theorem dX11_best_0 : decode cX11_best 0 = .ok (.iload_n 1, 1) := by decide +kernel
theorem dX11_best_1 : decode cX11_best 1 = .ok (.bipush (-2), 2) := by decide +kernel
theorem dX11_best_3 : decode cX11_best 3 = .ok (.if_icmp .lt 14, 3) := by decide +kernel
theorem dX11_best_6 : decode cX11_best 6 = .ok (.iload_n 1, 1) := by decide +kernel
theorem dX11_best_7 : decode cX11_best 7 = .ok (.aload_n 0, 1) := by decide +kernel
theorem dX11_best_8 : decode cX11_best 8 = .ok (.getfield 12, 3) := by decide +kernel
theorem dX11_best_11 : decode cX11_best 11 = .ok (.getfield 66, 3) := by decide +kernel
theorem dX11_best_14 : decode cX11_best 14 = .ok (.if_icmp .lt 6, 3) := by decide +kernel
theorem dX11_best_17 : decode cX11_best 17 = .ok (.ldc 153, 2) := by decide +kernel
theorem dX11_best_19 : decode cX11_best 19 = .ok (.ireturn, 1) := by decide +kernel
theorem dX11_best_20 : decode cX11_best 20 = .ok (.aload_n 0, 1) := by decide +kernel
theorem dX11_best_21 : decode cX11_best 21 = .ok (.getfield 12, 3) := by decide +kernel
theorem dX11_best_24 : decode cX11_best 24 = .ok (.getfield 66, 3) := by decide +kernel
theorem dX11_best_27 : decode cX11_best 27 = .ok (.iconst 5, 1) := by decide +kernel
theorem dX11_best_28 : decode cX11_best 28 = .ok (.if_icmp .le 6, 3) := by decide +kernel
theorem dX11_best_31 : decode cX11_best 31 = .ok (.bipush (-9), 2) := by decide +kernel
theorem dX11_best_33 : decode cX11_best 33 = .ok (.ireturn, 1) := by decide +kernel
theorem dX11_best_34 : decode cX11_best 34 = .ok (.aload_n 0, 1) := by decide +kernel
theorem dX11_best_35 : decode cX11_best 35 = .ok (.invokevirtual 175, 3) := by decide +kernel
theorem dX11_best_38 : decode cX11_best 38 = .ok (.astore_n 2, 1) := by decide +kernel
theorem dX11_best_39 : decode cX11_best 39 = .ok (.aload_n 2, 1) := by decide +kernel
theorem dX11_best_40 : decode cX11_best 40 = .ok (.aload_n 0, 1) := by decide +kernel
theorem dX11_best_41 : decode cX11_best 41 = .ok (.getfield 12, 3) := by decide +kernel
theorem dX11_best_44 : decode cX11_best 44 = .ok (.iconst 2, 1) := by decide +kernel
theorem dX11_best_45 : decode cX11_best 45 = .ok (.invokevirtual 194, 3) := by decide +kernel
theorem dX11_best_48 : decode cX11_best 48 = .ok (.iload_n 1, 1) := by decide +kernel
theorem dX11_best_49 : decode cX11_best 49 = .ok (.bipush (-2), 2) := by decide +kernel
theorem dX11_best_51 : decode cX11_best 51 = .ok (.if_icmp .ne 8, 3) := by decide +kernel
theorem dX11_best_54 : decode cX11_best 54 = .ok (.aload_n 2, 1) := by decide +kernel
theorem dX11_best_55 : decode cX11_best 55 = .ok (.getfield 198, 3) := by decide +kernel
theorem dX11_best_58 : decode cX11_best 58 = .ok (.ireturn, 1) := by decide +kernel
theorem dX11_best_59 : decode cX11_best 59 = .ok (.iload_n 1, 1) := by decide +kernel
theorem dX11_best_60 : decode cX11_best 60 = .ok (.iconst (-1), 1) := by decide +kernel
theorem dX11_best_61 : decode cX11_best 61 = .ok (.if_icmp .ne 10, 3) := by decide +kernel
theorem dX11_best_64 : decode cX11_best 64 = .ok (.aload_n 2, 1) := by decide +kernel
theorem dX11_best_65 : decode cX11_best 65 = .ok (.getfield 201, 3) := by decide +kernel
theorem dX11_best_68 : decode cX11_best 68 = .ok (.goto 11, 3) := by decide +kernel
theorem dX11_best_71 : decode cX11_best 71 = .ok (.aload_n 2, 1) := by decide +kernel
theorem dX11_best_72 : decode cX11_best 72 = .ok (.getfield 204, 3) := by decide +kernel
theorem dX11_best_75 : decode cX11_best 75 = .ok (.iload_n 1, 1) := by decide +kernel
theorem dX11_best_76 : decode cX11_best 76 = .ok (.invokestatic 117, 3) := by decide +kernel
theorem dX11_best_79 : decode cX11_best 79 = .ok (.ireturn, 1) := by decide +kernel
set_option maxRecDepth 20000 in
theorem ggX11_cost_X11_tables : GoodIn wsX11_cost wsX11_tables := goodIn_r _ [8, 9, 10, 1, 11, 12, 13, 14, 7, 15, 16, 17, 18, 19, 20, 21, 22, 23, 24, 25, 26, 27, 28, 29, 30, 31, 32, 33, 34, 35, 36, 37, 38, 39, 40, 41, 42, 43, 44, 45, 46, 47, 48, 49, 50, 51, 52, 53, 54, 55, 56, 57, 58, 59, 60, 61, 62, 63, 64, 65, 66, 67, 68, 69, 70, 71, 72, 73, 74, 75, 76, 77, 78, 79, 80, 81, 82, 83, 84, 85, 86, 87, 88, 89, 90, 91, 92, 93, 94, 95, 96, 97, 98, 99, 100, 101, 102, 103, 104, 105, 106, 107, 108, 109, 110, 111, 112, 113, 114, 115, 116, 117, 118, 119, 120, 121, 122, 123, 124, 125, 126, 127, 128, 129, 130, 131, 132, 133, 134, 135, 136, 137, 138, 139, 140, 141, 142, 143, 144, 145, 146, 147, 148, 149, 150, 151, 152, 153, 154, 155, 156, 157, 158, 159, 160, 161, 162, 163, 164, 165, 166, 167, 168, 169, 247, 248, 249, 250, 251, 252, 253, 254, 255, 256, 257, 258, 259, 260, 261, 262, 263, 264, 265, 266, 267, 268, 269, 270, 271, 272, 273, 274, 275, 276, 277, 278, 279, 280, 281, 282, 283, 284, 285, 286, 287, 288, 289, 290, 291, 292, 293, 294, 295, 296, 297, 298, 299, 300, 301, 302, 303, 304, 305, 306, 307, 308, 309, 310, 311, 312, 313, 314, 315, 316, 317, 318, 319, 320, 321] (by decide +kernel) (by decide +kernel)
set_option maxRecDepth 20000 in
theorem gX11_cost_X11_tables : GoodIn wsX11_cost (wsV RX11 175 RX11 yX11_tables wsX11_tables) := goodIn_app (goodIn_of _ (by decide +kernel)) ggX11_cost_X11_tables
set_option maxRecDepth 20000 in
theorem ggX11_cost_X6_search : GoodIn wsX11_cost wsX6_search := goodIn_r _ [173, 23, 174, 175, 176, 21, 177, 178, 179, 180, 181, 182, 183, 184, 185, 186, 187, 188, 189, 190, 191, 192, 193, 194, 195, 196, 197, 198, 199, 200, 201, 25, 34, 35, 36, 202, 203, 204, 30, 205, 206, 207, 7, 208, 209, 210, 211, 212, 213, 214, 215, 216, 217, 218, 219, 51, 220, 221, 50, 52, 222, 223, 224, 225, 226, 227, 228, 229, 230, 231, 232, 233, 234, 235, 236, 237, 238, 24, 239, 240, 241, 242, 26, 243, 244, 245, 246, 261, 262, 263, 264, 265, 266, 267, 268, 269, 270, 271, 272, 273, 274, 275] (by decide +kernel) (by decide +kernel)
set_option maxRecDepth 20000 in
theorem gX11_cost_X6_search : GoodIn wsX11_cost (wsV RX11 194 RX6 yX6_search wsX6_search) := goodIn_app (goodIn_of _ (by decide +kernel)) ggX11_cost_X6_search
theorem dX11_cost_0 : decode cX11_cost 0 = .ok (.iload_n 1, 1) := by decide +kernel
theorem dX11_cost_1 : decode cX11_cost 1 = .ok (.ifCond .eq 10, 3) := by decide +kernel
theorem dX11_cost_4 : decode cX11_cost 4 = .ok (.iload_n 1, 1) := by decide +kernel
theorem dX11_cost_5 : decode cX11_cost 5 = .ok (.iconst 1, 1) := by decide +kernel
theorem dX11_cost_6 : decode cX11_cost 6 = .ok (.if_icmp .eq 5, 3) := by decide +kernel
theorem dX11_cost_9 : decode cX11_cost 9 = .ok (.iconst (-1), 1) := by decide +kernel
theorem dX11_cost_10 : decode cX11_cost 10 = .ok (.ireturn, 1) := by decide +kernel
theorem dX11_cost_11 : decode cX11_cost 11 = .ok (.aload_n 0, 1) := by decide +kernel
theorem dX11_cost_12 : decode cX11_cost 12 = .ok (.getfield 12, 3) := by decide +kernel
theorem dX11_cost_15 : decode cX11_cost 15 = .ok (.getfield 66, 3) := by decide +kernel
theorem dX11_cost_18 : decode cX11_cost 18 = .ok (.iconst 5, 1) := by decide +kernel
theorem dX11_cost_19 : decode cX11_cost 19 = .ok (.if_icmp .le 6, 3) := by decide +kernel
theorem dX11_cost_22 : decode cX11_cost 22 = .ok (.bipush (-9), 2) := by decide +kernel
theorem dX11_cost_24 : decode cX11_cost 24 = .ok (.ireturn, 1) := by decide +kernel
theorem dX11_cost_25 : decode cX11_cost 25 = .ok (.aload_n 0, 1) := by decide +kernel
theorem dX11_cost_26 : decode cX11_cost 26 = .ok (.invokevirtual 175, 3) := by decide +kernel
theorem dX11_cost_29 : decode cX11_cost 29 = .ok (.astore_n 2, 1) := by decide +kernel
theorem dX11_cost_30 : decode cX11_cost 30 = .ok (.aload_n 2, 1) := by decide +kernel
theorem dX11_cost_31 : decode cX11_cost 31 = .ok (.aload_n 0, 1) := by decide +kernel
theorem dX11_cost_32 : decode cX11_cost 32 = .ok (.getfield 12, 3) := by decide +kernel
theorem dX11_cost_35 : decode cX11_cost 35 = .ok (.iconst 2, 1) := by decide +kernel
theorem dX11_cost_36 : decode cX11_cost 36 = .ok (.invokevirtual 194, 3) := by decide +kernel
theorem dX11_cost_39 : decode cX11_cost 39 = .ok (.aload_n 2, 1) := by decide +kernel
theorem dX11_cost_40 : decode cX11_cost 40 = .ok (.getfield 201, 3) := by decide +kernel
theorem dX11_cost_43 : decode cX11_cost 43 = .ok (.istore_n 3, 1) := by decide +kernel
theorem dX11_cost_44 : decode cX11_cost 44 = .ok (.aload_n 2, 1) := by decide +kernel
theorem dX11_cost_45 : decode cX11_cost 45 = .ok (.aload_n 0, 1) := by decide +kernel
theorem dX11_cost_46 : decode cX11_cost 46 = .ok (.getfield 12, 3) := by decide +kernel
theorem dX11_cost_49 : decode cX11_cost 49 = .ok (.iload_n 1, 1) := by decide +kernel
theorem dX11_cost_50 : decode cX11_cost 50 = .ok (.invokevirtual 194, 3) := by decide +kernel
theorem dX11_cost_53 : decode cX11_cost 53 = .ok (.aload_n 2, 1) := by decide +kernel
theorem dX11_cost_54 : decode cX11_cost 54 = .ok (.getfield 201, 3) := by decide +kernel
theorem dX11_cost_57 : decode cX11_cost 57 = .ok (.iload_n 3, 1) := by decide +kernel
theorem dX11_cost_58 : decode cX11_cost 58 = .ok (.isub, 1) := by decide +kernel
theorem dX11_cost_59 : decode cX11_cost 59 = .ok (.ireturn, 1) := by decide +kernel
set_option maxRecDepth 20000 in
theorem ggX11_talk_X7_arePupils : GoodIn wsX11_talk wsX7_arePupils := goodIn_r _ [6, 7, 82, 83, 84, 85, 86, 87, 88] (by decide +kernel) (by decide +kernel)
set_option maxRecDepth 20000 in
theorem gX11_talk_X7_arePupils : GoodIn wsX11_talk (wsV RX11 207 RX7 yX7_arePupils wsX7_arePupils) := goodIn_app (goodIn_of _ (by decide +kernel)) ggX11_talk_X7_arePupils
set_option maxRecDepth 20000 in
theorem ggX11_talk_X11_talkersIn : GoodIn wsX11_talk wsX11_talkersIn := goodIn_r _ [12, 1, 13, 14, 15, 16, 11, 17, 18, 19, 20, 21, 22, 23, 24, 25, 26, 27, 28, 5, 29, 30, 31, 32, 33, 34, 35, 36, 37, 38, 39, 40, 7, 41, 42, 43, 44, 45, 46, 47, 48, 49, 50, 51, 52, 53, 54, 55, 56, 57, 58, 59, 60, 61, 62, 63, 64, 65, 66, 67, 68, 69, 70, 71, 72, 73, 74, 75, 76, 77, 78, 79, 80, 81, 82, 83, 84, 85, 86, 87, 88, 89, 90, 91, 92, 93, 94, 95, 96, 97, 98, 99, 100, 101, 102, 103, 104, 105, 106, 107, 108, 109, 110, 111, 112, 113, 114, 115, 116, 117, 118, 119, 120, 121, 122, 123, 124, 125, 126, 127, 128, 129, 130, 131, 132, 133, 134] (by decide +kernel) (by decide +kernel)
set_option maxRecDepth 20000 in
theorem gX11_talk_X11_talkersIn : GoodIn wsX11_talk (wsV RX11 210 RX11 yX11_talkersIn wsX11_talkersIn) := goodIn_app (goodIn_of _ (by decide +kernel)) ggX11_talk_X11_talkersIn
theorem dX11_talk_0 : decode cX11_talk 0 = .ok (.aload_n 0, 1) := by decide +kernel
theorem dX11_talk_1 : decode cX11_talk 1 = .ok (.getfield 12, 3) := by decide +kernel
theorem dX11_talk_4 : decode cX11_talk 4 = .ok (.iload_n 1, 1) := by decide +kernel
theorem dX11_talk_5 : decode cX11_talk 5 = .ok (.invokevirtual 207, 3) := by decide +kernel
theorem dX11_talk_8 : decode cX11_talk 8 = .ok (.ifCond .eq 13, 3) := by decide +kernel
theorem dX11_talk_11 : decode cX11_talk 11 = .ok (.iload_n 2, 1) := by decide +kernel
theorem dX11_talk_12 : decode cX11_talk 12 = .ok (.ifCond .lt 9, 3) := by decide +kernel
theorem dX11_talk_15 : decode cX11_talk 15 = .ok (.iload_n 2, 1) := by decide +kernel
theorem dX11_talk_16 : decode cX11_talk 16 = .ok (.bipush 60, 2) := by decide +kernel
theorem dX11_talk_18 : decode cX11_talk 18 = .ok (.if_icmp .le 6, 3) := by decide +kernel
theorem dX11_talk_21 : decode cX11_talk 21 = .ok (.bipush (-2), 2) := by decide +kernel
theorem dX11_talk_23 : decode cX11_talk 23 = .ok (.ireturn, 1) := by decide +kernel
theorem dX11_talk_24 : decode cX11_talk 24 = .ok (.aload_n 0, 1) := by decide +kernel
theorem dX11_talk_25 : decode cX11_talk 25 = .ok (.iload_n 1, 1) := by decide +kernel
theorem dX11_talk_26 : decode cX11_talk 26 = .ok (.iload_n 2, 1) := by decide +kernel
theorem dX11_talk_27 : decode cX11_talk 27 = .ok (.invokevirtual 210, 3) := by decide +kernel
theorem dX11_talk_30 : decode cX11_talk 30 = .ok (.ireturn, 1) := by decide +kernel
set_option maxRecDepth 20000 in
theorem ggX11_noise_X7_arePupils : GoodIn wsX11_noise wsX7_arePupils := goodIn_r _ [6, 7, 90, 91, 92, 93, 94, 95, 96] (by decide +kernel) (by decide +kernel)
set_option maxRecDepth 20000 in
theorem gX11_noise_X7_arePupils : GoodIn wsX11_noise (wsV RX11 207 RX7 yX7_arePupils wsX7_arePupils) := goodIn_app (goodIn_of _ (by decide +kernel)) ggX11_noise_X7_arePupils
set_option maxRecDepth 20000 in
theorem ggX11_noise_X11_talkersIn : GoodIn wsX11_noise wsX11_talkersIn := goodIn_r _ [12, 1, 13, 14, 15, 16, 11, 17, 18, 19, 20, 21, 22, 23, 24, 25, 26, 27, 28, 5, 29, 30, 31, 32, 33, 34, 35, 36, 37, 38, 39, 40, 7, 41, 42, 43, 44, 45, 46, 47, 48, 49, 50, 51, 52, 53, 54, 55, 56, 57, 58, 59, 60, 61, 62, 63, 64, 65, 66, 67, 76, 77, 78, 79, 80, 81, 82, 83, 84, 85, 86, 87, 88, 89, 90, 91, 92, 93, 94, 95, 96, 97, 98, 99, 100, 101, 102, 103, 104, 105, 106, 107, 108, 109, 110, 111, 112, 113, 114, 115, 116, 117, 118, 119, 120, 121, 122, 123, 124, 125, 126, 127, 128, 129, 130, 131, 132, 133, 134, 135, 136, 137, 138, 139, 140, 141, 142] (by decide +kernel) (by decide +kernel)
set_option maxRecDepth 20000 in
theorem gX11_noise_X11_talkersIn : GoodIn wsX11_noise (wsV RX11 210 RX11 yX11_talkersIn wsX11_talkersIn) := goodIn_app (goodIn_of _ (by decide +kernel)) ggX11_noise_X11_talkersIn
set_option maxRecDepth 20000 in
theorem ggX11_noise_X7_loudness : GoodIn wsX11_noise wsX7_loudness := goodIn_r _ [71, 7, 59, 11, 60, 64, 65, 66, 5, 67, 36, 37, 38, 39, 40, 41, 90, 91, 92, 93, 94, 95, 96, 108, 109, 110, 111, 112, 113, 114, 115, 116, 117, 118, 119, 120, 121, 122, 123, 124, 125, 126, 127, 128, 129, 130, 131, 132, 133, 134, 135, 136, 137, 138, 139, 140, 141, 142] (by decide +kernel) (by decide +kernel)
set_option maxRecDepth 20000 in
theorem gX11_noise_X7_loudness : GoodIn wsX11_noise (wsV RX11 214 RX7 yX7_loudness wsX7_loudness) := goodIn_app (goodIn_of _ (by decide +kernel)) ggX11_noise_X7_loudness
set_option maxRecDepth 20000 in
theorem ggX11_noise_X11_firstStill : GoodIn wsX11_noise wsX11_firstStill := goodIn_r _ [75, 1, 13, 14, 15, 16, 11, 17, 18, 19, 20, 21, 22, 23, 24, 25, 26, 27, 28, 5, 29, 30, 31, 32, 33, 34, 35, 36, 37, 38, 39, 40, 7, 41, 42, 43, 44, 45, 46, 47, 48, 49, 50, 51, 52, 53, 54, 55, 56, 57, 58, 59, 60, 61, 62, 63, 64, 65, 66, 67, 76, 77, 78, 79, 80, 81, 82, 83, 84, 85, 86, 87, 88, 89, 90, 91, 92, 93, 94, 95, 96, 97, 98, 99, 100, 101, 102, 103, 104, 105, 106, 107, 108, 109, 110, 111, 112, 113, 114, 115, 116, 117, 118, 119, 120, 121, 122, 123, 124, 125, 126, 127, 128, 129, 130, 131, 132, 133, 134, 135, 136, 137, 138, 139, 140, 141, 142] (by decide +kernel) (by decide +kernel)
set_option maxRecDepth 20000 in
theorem gX11_noise_X11_firstStill : GoodIn wsX11_noise (wsV RX11 217 RX11 yX11_firstStill wsX11_firstStill) := goodIn_app (goodIn_of _ (by decide +kernel)) ggX11_noise_X11_firstStill
theorem dX11_noise_0 : decode cX11_noise 0 = .ok (.iload_n 3, 1) := by decide +kernel
theorem dX11_noise_1 : decode cX11_noise 1 = .ok (.ifCond .eq 10, 3) := by decide +kernel
theorem dX11_noise_4 : decode cX11_noise 4 = .ok (.iload_n 3, 1) := by decide +kernel
theorem dX11_noise_5 : decode cX11_noise 5 = .ok (.iconst 1, 1) := by decide +kernel
theorem dX11_noise_6 : decode cX11_noise 6 = .ok (.if_icmp .eq 5, 3) := by decide +kernel
theorem dX11_noise_9 : decode cX11_noise 9 = .ok (.iconst (-1), 1) := by decide +kernel
theorem dX11_noise_10 : decode cX11_noise 10 = .ok (.ireturn, 1) := by decide +kernel
theorem dX11_noise_11 : decode cX11_noise 11 = .ok (.aload_n 0, 1) := by decide +kernel
theorem dX11_noise_12 : decode cX11_noise 12 = .ok (.getfield 12, 3) := by decide +kernel
theorem dX11_noise_15 : decode cX11_noise 15 = .ok (.iload_n 1, 1) := by decide +kernel
theorem dX11_noise_16 : decode cX11_noise 16 = .ok (.invokevirtual 207, 3) := by decide +kernel
theorem dX11_noise_19 : decode cX11_noise 19 = .ok (.ifCond .eq 13, 3) := by decide +kernel
theorem dX11_noise_22 : decode cX11_noise 22 = .ok (.iload_n 2, 1) := by decide +kernel
theorem dX11_noise_23 : decode cX11_noise 23 = .ok (.ifCond .lt 9, 3) := by decide +kernel
theorem dX11_noise_26 : decode cX11_noise 26 = .ok (.iload_n 2, 1) := by decide +kernel
theorem dX11_noise_27 : decode cX11_noise 27 = .ok (.bipush 60, 2) := by decide +kernel
theorem dX11_noise_29 : decode cX11_noise 29 = .ok (.if_icmp .le 6, 3) := by decide +kernel
theorem dX11_noise_32 : decode cX11_noise 32 = .ok (.bipush (-2), 2) := by decide +kernel
theorem dX11_noise_34 : decode cX11_noise 34 = .ok (.ireturn, 1) := by decide +kernel
theorem dX11_noise_35 : decode cX11_noise 35 = .ok (.iload_n 3, 1) := by decide +kernel
theorem dX11_noise_36 : decode cX11_noise 36 = .ok (.ifCond .ne 19, 3) := by decide +kernel
theorem dX11_noise_39 : decode cX11_noise 39 = .ok (.aload_n 0, 1) := by decide +kernel
theorem dX11_noise_40 : decode cX11_noise 40 = .ok (.getfield 12, 3) := by decide +kernel
theorem dX11_noise_43 : decode cX11_noise 43 = .ok (.aload_n 0, 1) := by decide +kernel
theorem dX11_noise_44 : decode cX11_noise 44 = .ok (.iload_n 1, 1) := by decide +kernel
theorem dX11_noise_45 : decode cX11_noise 45 = .ok (.iload_n 2, 1) := by decide +kernel
theorem dX11_noise_46 : decode cX11_noise 46 = .ok (.invokevirtual 210, 3) := by decide +kernel
theorem dX11_noise_49 : decode cX11_noise 49 = .ok (.invokevirtual 214, 3) := by decide +kernel
theorem dX11_noise_52 : decode cX11_noise 52 = .ok (.goto 8, 3) := by decide +kernel
theorem dX11_noise_55 : decode cX11_noise 55 = .ok (.aload_n 0, 1) := by decide +kernel
theorem dX11_noise_56 : decode cX11_noise 56 = .ok (.iload_n 1, 1) := by decide +kernel
theorem dX11_noise_57 : decode cX11_noise 57 = .ok (.invokevirtual 217, 3) := by decide +kernel
theorem dX11_noise_60 : decode cX11_noise 60 = .ok (.ireturn, 1) := by decide +kernel
set_option maxRecDepth 20000 in
theorem ggX11_carries_X7_arePupils : GoodIn wsX11_carries wsX7_arePupils := goodIn_r _ [7, 8, 87, 88, 89, 90, 91, 92, 93] (by decide +kernel) (by decide +kernel)
set_option maxRecDepth 20000 in
theorem gX11_carries_X7_arePupils : GoodIn wsX11_carries (wsV RX11 207 RX7 yX7_arePupils wsX7_arePupils) := goodIn_app (goodIn_of _ (by decide +kernel)) ggX11_carries_X7_arePupils
set_option maxRecDepth 20000 in
theorem ggX11_carries_X11_noiseWithout : GoodIn wsX11_carries wsX11_noiseWithout := goodIn_r _ [13, 1, 14, 15, 16, 17, 12, 18, 19, 20, 21, 22, 23, 24, 25, 26, 27, 28, 29, 6, 30, 8, 31, 32, 33, 34, 35, 36, 37, 38, 39, 40, 41, 42, 43, 44, 45, 46, 47, 48, 49, 50, 51, 52, 53, 54, 55, 56, 57, 58, 59, 60, 61, 62, 63, 64, 65, 66, 67, 68, 69, 70, 71, 72, 73, 74, 75, 76, 77, 78, 79, 80, 81, 82, 83, 84, 85, 86, 87, 88, 89, 90, 91, 92, 93, 94, 95, 96, 97, 98, 99, 100, 101, 102, 103, 104, 105, 106, 107, 108, 109, 110, 111, 112, 113, 114, 115, 116, 117, 118, 119, 120, 121, 122, 123, 124, 125, 126, 127, 128, 129, 130, 131, 132, 133, 134, 135, 136, 137, 138, 139] (by decide +kernel) (by decide +kernel)
set_option maxRecDepth 20000 in
theorem gX11_carries_X11_noiseWithout : GoodIn wsX11_carries (wsV RX11 220 RX11 yX11_noiseWithout wsX11_noiseWithout) := goodIn_app (goodIn_of _ (by decide +kernel)) ggX11_carries_X11_noiseWithout
theorem dX11_carries_0 : decode cX11_carries 0 = .ok (.aload_n 0, 1) := by decide +kernel
theorem dX11_carries_1 : decode cX11_carries 1 = .ok (.getfield 12, 3) := by decide +kernel
theorem dX11_carries_4 : decode cX11_carries 4 = .ok (.iload_n 1, 1) := by decide +kernel
theorem dX11_carries_5 : decode cX11_carries 5 = .ok (.invokevirtual 207, 3) := by decide +kernel
theorem dX11_carries_8 : decode cX11_carries 8 = .ok (.ifCond .eq 13, 3) := by decide +kernel
theorem dX11_carries_11 : decode cX11_carries 11 = .ok (.iload_n 2, 1) := by decide +kernel
theorem dX11_carries_12 : decode cX11_carries 12 = .ok (.ifCond .lt 9, 3) := by decide +kernel
theorem dX11_carries_15 : decode cX11_carries 15 = .ok (.iload_n 2, 1) := by decide +kernel
theorem dX11_carries_16 : decode cX11_carries 16 = .ok (.bipush 30, 2) := by decide +kernel
theorem dX11_carries_18 : decode cX11_carries 18 = .ok (.if_icmp .le 6, 3) := by decide +kernel
theorem dX11_carries_21 : decode cX11_carries 21 = .ok (.bipush (-2), 2) := by decide +kernel
theorem dX11_carries_23 : decode cX11_carries 23 = .ok (.ireturn, 1) := by decide +kernel
theorem dX11_carries_24 : decode cX11_carries 24 = .ok (.aload_n 0, 1) := by decide +kernel
theorem dX11_carries_25 : decode cX11_carries 25 = .ok (.getfield 12, 3) := by decide +kernel
theorem dX11_carries_28 : decode cX11_carries 28 = .ok (.getfield 66, 3) := by decide +kernel
theorem dX11_carries_31 : decode cX11_carries 31 = .ok (.ifCond .ne 6, 3) := by decide +kernel
theorem dX11_carries_34 : decode cX11_carries 34 = .ok (.bipush (-5), 2) := by decide +kernel
theorem dX11_carries_36 : decode cX11_carries 36 = .ok (.ireturn, 1) := by decide +kernel
theorem dX11_carries_37 : decode cX11_carries 37 = .ok (.iconst 0, 1) := by decide +kernel
theorem dX11_carries_38 : decode cX11_carries 38 = .ok (.istore_n 3, 1) := by decide +kernel
theorem dX11_carries_39 : decode cX11_carries 39 = .ok (.aload_n 0, 1) := by decide +kernel
theorem dX11_carries_40 : decode cX11_carries 40 = .ok (.iconst 0, 1) := by decide +kernel
theorem dX11_carries_41 : decode cX11_carries 41 = .ok (.iload_n 1, 1) := by decide +kernel
theorem dX11_carries_42 : decode cX11_carries 42 = .ok (.iload_n 2, 1) := by decide +kernel
theorem dX11_carries_43 : decode cX11_carries 43 = .ok (.invokevirtual 220, 3) := by decide +kernel
theorem dX11_carries_46 : decode cX11_carries 46 = .ok (.istore 4, 2) := by decide +kernel
theorem dX11_carries_48 : decode cX11_carries 48 = .ok (.iconst 1, 1) := by decide +kernel
theorem dX11_carries_49 : decode cX11_carries 49 = .ok (.istore 5, 2) := by decide +kernel
theorem dX11_carries_51 : decode cX11_carries 51 = .ok (.iload 5, 2) := by decide +kernel
theorem dX11_carries_53 : decode cX11_carries 53 = .ok (.aload_n 0, 1) := by decide +kernel
theorem dX11_carries_54 : decode cX11_carries 54 = .ok (.getfield 12, 3) := by decide +kernel
theorem dX11_carries_57 : decode cX11_carries 57 = .ok (.getfield 66, 3) := by decide +kernel
theorem dX11_carries_60 : decode cX11_carries 60 = .ok (.if_icmp .ge 33, 3) := by decide +kernel
theorem dX11_carries_63 : decode cX11_carries 63 = .ok (.aload_n 0, 1) := by decide +kernel
theorem dX11_carries_64 : decode cX11_carries 64 = .ok (.iload 5, 2) := by decide +kernel
theorem dX11_carries_66 : decode cX11_carries 66 = .ok (.iload_n 1, 1) := by decide +kernel
theorem dX11_carries_67 : decode cX11_carries 67 = .ok (.iload_n 2, 1) := by decide +kernel
theorem dX11_carries_68 : decode cX11_carries 68 = .ok (.invokevirtual 220, 3) := by decide +kernel
theorem dX11_carries_71 : decode cX11_carries 71 = .ok (.istore 6, 2) := by decide +kernel
theorem dX11_carries_73 : decode cX11_carries 73 = .ok (.iload 6, 2) := by decide +kernel
theorem dX11_carries_75 : decode cX11_carries 75 = .ok (.iload 4, 2) := by decide +kernel
theorem dX11_carries_77 : decode cX11_carries 77 = .ok (.if_icmp .ge 10, 3) := by decide +kernel
theorem dX11_carries_80 : decode cX11_carries 80 = .ok (.iload 5, 2) := by decide +kernel
theorem dX11_carries_82 : decode cX11_carries 82 = .ok (.istore_n 3, 1) := by decide +kernel
theorem dX11_carries_83 : decode cX11_carries 83 = .ok (.iload 6, 2) := by decide +kernel
theorem dX11_carries_85 : decode cX11_carries 85 = .ok (.istore 4, 2) := by decide +kernel
theorem dX11_carries_87 : decode cX11_carries 87 = .ok (.iinc 5 1, 3) := by decide +kernel
theorem dX11_carries_90 : decode cX11_carries 90 = .ok (.goto (-39), 3) := by decide +kernel
theorem dX11_carries_93 : decode cX11_carries 93 = .ok (.iload_n 3, 1) := by decide +kernel
theorem dX11_carries_94 : decode cX11_carries 94 = .ok (.ireturn, 1) := by decide +kernel
set_option maxRecDepth 20000 in
theorem ggX11_named_X7_at : GoodIn wsX11_named wsX7_at := goodIn_r _ [6, 7, 8, 32, 33, 34, 35, 36, 37, 38] (by decide +kernel) (by decide +kernel)
set_option maxRecDepth 20000 in
theorem gX11_named_X7_at : GoodIn wsX11_named (wsV RX11 82 RX7 yX7_at wsX7_at) := goodIn_app (goodIn_of _ (by decide +kernel)) ggX11_named_X7_at
set_option maxRecDepth 20000 in
theorem ggX11_named_X7_namersOf : GoodIn wsX11_named wsX7_namersOf := goodIn_r _ [12, 7, 13, 14, 15, 5, 16, 17, 32, 33, 34, 35, 36, 37, 38] (by decide +kernel) (by decide +kernel)
set_option maxRecDepth 20000 in
theorem gX11_named_X7_namersOf : GoodIn wsX11_named (wsV RX11 224 RX7 yX7_namersOf wsX7_namersOf) := goodIn_app (goodIn_of _ (by decide +kernel)) ggX11_named_X7_namersOf
theorem dX11_named_0 : decode cX11_named 0 = .ok (.aload_n 0, 1) := by decide +kernel
theorem dX11_named_1 : decode cX11_named 1 = .ok (.getfield 12, 3) := by decide +kernel
theorem dX11_named_4 : decode cX11_named 4 = .ok (.iload_n 1, 1) := by decide +kernel
theorem dX11_named_5 : decode cX11_named 5 = .ok (.invokevirtual 82, 3) := by decide +kernel
theorem dX11_named_8 : decode cX11_named 8 = .ok (.ifnonnull 7, 3) := by decide +kernel
theorem dX11_named_11 : decode cX11_named 11 = .ok (.iconst (-1), 1) := by decide +kernel
theorem dX11_named_12 : decode cX11_named 12 = .ok (.goto 11, 3) := by decide +kernel
theorem dX11_named_15 : decode cX11_named 15 = .ok (.aload_n 0, 1) := by decide +kernel
theorem dX11_named_16 : decode cX11_named 16 = .ok (.getfield 12, 3) := by decide +kernel
theorem dX11_named_19 : decode cX11_named 19 = .ok (.iload_n 1, 1) := by decide +kernel
theorem dX11_named_20 : decode cX11_named 20 = .ok (.invokevirtual 224, 3) := by decide +kernel
theorem dX11_named_23 : decode cX11_named 23 = .ok (.ireturn, 1) := by decide +kernel
set_option maxRecDepth 20000 in
theorem ggX11_slips_X7_aloneBits : GoodIn wsX11_slips wsX7_aloneBits := goodIn_r _ [6, 7, 8, 9, 10, 5, 11, 12, 13, 14, 15, 16, 53, 54, 55, 56, 57, 58, 59] (by decide +kernel) (by decide +kernel)
set_option maxRecDepth 20000 in
theorem gX11_slips_X7_aloneBits : GoodIn wsX11_slips (wsV RX11 227 RX7 yX7_aloneBits wsX7_aloneBits) := goodIn_app (goodIn_of _ (by decide +kernel)) ggX11_slips_X7_aloneBits
set_option maxRecDepth 20000 in
theorem ggX11_slips_X7_closedBits : GoodIn wsX11_slips wsX7_closedBits := goodIn_r _ [20, 7, 21, 22, 23, 24, 25, 26, 27, 28, 29, 30, 5, 31, 32, 33, 34, 35, 36, 37, 38, 16, 53, 54, 55, 56, 57, 58, 59] (by decide +kernel) (by decide +kernel)
set_option maxRecDepth 20000 in
theorem gX11_slips_X7_closedBits : GoodIn wsX11_slips (wsV RX11 230 RX7 yX7_closedBits wsX7_closedBits) := goodIn_app (goodIn_of _ (by decide +kernel)) ggX11_slips_X7_closedBits
theorem dX11_slips_0 : decode cX11_slips 0 = .ok (.iload_n 1, 1) := by decide +kernel
theorem dX11_slips_1 : decode cX11_slips 1 = .ok (.lookupswitch 43 #[(0, 27), (1, 35)], 27) := by decide +kernel
theorem dX11_slips_28 : decode cX11_slips 28 = .ok (.aload_n 0, 1) := by decide +kernel
theorem dX11_slips_29 : decode cX11_slips 29 = .ok (.getfield 12, 3) := by decide +kernel
theorem dX11_slips_32 : decode cX11_slips 32 = .ok (.invokevirtual 227, 3) := by decide +kernel
theorem dX11_slips_35 : decode cX11_slips 35 = .ok (.ireturn, 1) := by decide +kernel
theorem dX11_slips_36 : decode cX11_slips 36 = .ok (.aload_n 0, 1) := by decide +kernel
theorem dX11_slips_37 : decode cX11_slips 37 = .ok (.getfield 12, 3) := by decide +kernel
theorem dX11_slips_40 : decode cX11_slips 40 = .ok (.invokevirtual 230, 3) := by decide +kernel
theorem dX11_slips_43 : decode cX11_slips 43 = .ok (.ireturn, 1) := by decide +kernel
theorem dX11_slips_44 : decode cX11_slips 44 = .ok (.iconst (-1), 1) := by decide +kernel
theorem dX11_slips_45 : decode cX11_slips 45 = .ok (.ireturn, 1) := by decide +kernel
set_option maxRecDepth 20000 in
theorem ggX11_month_X7_putDown : GoodIn wsX11_month wsX7_putDown := goodIn_r _ [6, 7, 8, 9, 10, 11, 5, 12, 13, 14, 15, 16, 17, 18, 19, 20, 21, 22, 23, 24, 25, 26, 27, 28, 29, 30, 45, 46, 47, 48, 49, 50, 51] (by decide +kernel) (by decide +kernel)
set_option maxRecDepth 20000 in
theorem gX11_month_X7_putDown : GoodIn wsX11_month (wsV RX11 233 RX7 yX7_putDown wsX7_putDown) := goodIn_app (goodIn_of _ (by decide +kernel)) ggX11_month_X7_putDown
theorem dX11_month_0 : decode cX11_month 0 = .ok (.aload_n 0, 1) := by decide +kernel
theorem dX11_month_1 : decode cX11_month 1 = .ok (.getfield 12, 3) := by decide +kernel
theorem dX11_month_4 : decode cX11_month 4 = .ok (.invokevirtual 233, 3) := by decide +kernel
theorem dX11_month_7 : decode cX11_month 7 = .ok (.ireturn, 1) := by decide +kernel
set_option maxRecDepth 20000 in
theorem ggX11_lacks_J13_bitCount_95d88 : GoodIn wsX11_lacks wsJ13_bitCount_95d88 := goodIn_r _ [7, 8, 9, 10] (by decide +kernel) (by decide +kernel)
set_option maxRecDepth 20000 in
theorem gX11_lacks_J13_bitCount_95d88 : GoodIn wsX11_lacks (va_wsS RX11 240 yJ13_bitCount_95d88 wsJ13_bitCount_95d88) := goodIn_app (goodIn_of _ (by decide +kernel)) ggX11_lacks_J13_bitCount_95d88
theorem dX11_lacks_0 : decode cX11_lacks 0 = .ok (.aload_n 0, 1) := by decide +kernel
theorem dX11_lacks_1 : decode cX11_lacks 1 = .ok (.getfield 12, 3) := by decide +kernel
theorem dX11_lacks_4 : decode cX11_lacks 4 = .ok (.getfield 66, 3) := by decide +kernel
theorem dX11_lacks_7 : decode cX11_lacks 7 = .ok (.aload_n 0, 1) := by decide +kernel
theorem dX11_lacks_8 : decode cX11_lacks 8 = .ok (.getfield 12, 3) := by decide +kernel
theorem dX11_lacks_11 : decode cX11_lacks 11 = .ok (.getfield 66, 3) := by decide +kernel
theorem dX11_lacks_14 : decode cX11_lacks 14 = .ok (.iconst 1, 1) := by decide +kernel
theorem dX11_lacks_15 : decode cX11_lacks 15 = .ok (.isub, 1) := by decide +kernel
theorem dX11_lacks_16 : decode cX11_lacks 16 = .ok (.imul, 1) := by decide +kernel
theorem dX11_lacks_17 : decode cX11_lacks 17 = .ok (.iconst 2, 1) := by decide +kernel
theorem dX11_lacks_18 : decode cX11_lacks 18 = .ok (.idiv, 1) := by decide +kernel
theorem dX11_lacks_19 : decode cX11_lacks 19 = .ok (.aload_n 0, 1) := by decide +kernel
theorem dX11_lacks_20 : decode cX11_lacks 20 = .ok (.getfield 12, 3) := by decide +kernel
theorem dX11_lacks_23 : decode cX11_lacks 23 = .ok (.getfield 236, 3) := by decide +kernel
theorem dX11_lacks_26 : decode cX11_lacks 26 = .ok (.invokestatic 240, 3) := by decide +kernel
theorem dX11_lacks_29 : decode cX11_lacks 29 = .ok (.isub, 1) := by decide +kernel
theorem dX11_lacks_30 : decode cX11_lacks 30 = .ok (.istore_n 2, 1) := by decide +kernel
theorem dX11_lacks_31 : decode cX11_lacks 31 = .ok (.iload_n 1, 1) := by decide +kernel
theorem dX11_lacks_32 : decode cX11_lacks 32 = .ok (.lookupswitch 40 #[(0, 28), (1, 30)], 28) := by decide +kernel
theorem dX11_lacks_60 : decode cX11_lacks 60 = .ok (.iload_n 2, 1) := by decide +kernel
theorem dX11_lacks_61 : decode cX11_lacks 61 = .ok (.ireturn, 1) := by decide +kernel
theorem dX11_lacks_62 : decode cX11_lacks 62 = .ok (.iload_n 2, 1) := by decide +kernel
theorem dX11_lacks_63 : decode cX11_lacks 63 = .ok (.ifCond .ne 7, 3) := by decide +kernel
theorem dX11_lacks_66 : decode cX11_lacks 66 = .ok (.iconst 1, 1) := by decide +kernel
theorem dX11_lacks_67 : decode cX11_lacks 67 = .ok (.goto 4, 3) := by decide +kernel
theorem dX11_lacks_70 : decode cX11_lacks 70 = .ok (.iconst 0, 1) := by decide +kernel
theorem dX11_lacks_71 : decode cX11_lacks 71 = .ok (.ireturn, 1) := by decide +kernel
theorem dX11_lacks_72 : decode cX11_lacks 72 = .ok (.iconst (-1), 1) := by decide +kernel
theorem dX11_lacks_73 : decode cX11_lacks 73 = .ok (.ireturn, 1) := by decide +kernel
set_option maxRecDepth 20000 in
theorem ggX11_next_X6_search : GoodIn wsX11_next wsX6_search := goodIn_r _ [11, 12, 13, 14, 15, 10, 16, 17, 18, 19, 20, 21, 22, 23, 24, 25, 26, 27, 28, 29, 30, 31, 32, 33, 34, 35, 36, 37, 38, 39, 40, 41, 42, 43, 44, 45, 46, 47, 48, 49, 50, 51, 52, 53, 54, 55, 56, 57, 58, 59, 60, 61, 62, 63, 64, 65, 66, 67, 68, 69, 70, 71, 72, 73, 74, 75, 76, 77, 78, 79, 80, 81, 82, 83, 84, 85, 86, 87, 88, 89, 90, 91, 92, 93, 94, 95, 96, 114, 115, 116, 117, 118, 119, 120, 121, 122, 123, 124, 125, 126, 127, 128] (by decide +kernel) (by decide +kernel)
set_option maxRecDepth 20000 in
theorem gX11_next_X6_search : GoodIn wsX11_next (wsV RX11 194 RX6 yX6_search wsX6_search) := goodIn_app (goodIn_of _ (by decide +kernel)) ggX11_next_X6_search
set_option maxRecDepth 20000 in
theorem ggX11_next_X11_seatIn : GoodIn wsX11_next wsX11_seatIn := goodIn_r _ [99] (by decide +kernel) (by decide +kernel)
set_option maxRecDepth 20000 in
theorem gX11_next_X11_seatIn : GoodIn wsX11_next (va_wsS RX11 117 yX11_seatIn wsX11_seatIn) := goodIn_app (goodIn_of _ (by decide +kernel)) ggX11_next_X11_seatIn
theorem dX11_next_0 : decode cX11_next 0 = .ok (.iload_n 1, 1) := by decide +kernel
theorem dX11_next_1 : decode cX11_next 1 = .ok (.iconst (-1), 1) := by decide +kernel
theorem dX11_next_2 : decode cX11_next 2 = .ok (.if_icmp .lt 14, 3) := by decide +kernel
theorem dX11_next_5 : decode cX11_next 5 = .ok (.iload_n 1, 1) := by decide +kernel
theorem dX11_next_6 : decode cX11_next 6 = .ok (.aload_n 0, 1) := by decide +kernel
theorem dX11_next_7 : decode cX11_next 7 = .ok (.getfield 12, 3) := by decide +kernel
theorem dX11_next_10 : decode cX11_next 10 = .ok (.getfield 66, 3) := by decide +kernel
theorem dX11_next_13 : decode cX11_next 13 = .ok (.if_icmp .lt 6, 3) := by decide +kernel
theorem dX11_next_16 : decode cX11_next 16 = .ok (.ldc 153, 2) := by decide +kernel
theorem dX11_next_18 : decode cX11_next 18 = .ok (.ireturn, 1) := by decide +kernel
theorem dX11_next_19 : decode cX11_next 19 = .ok (.aload_n 0, 1) := by decide +kernel
theorem dX11_next_20 : decode cX11_next 20 = .ok (.getfield 12, 3) := by decide +kernel
theorem dX11_next_23 : decode cX11_next 23 = .ok (.getfield 66, 3) := by decide +kernel
theorem dX11_next_26 : decode cX11_next 26 = .ok (.bipush 6, 2) := by decide +kernel
theorem dX11_next_28 : decode cX11_next 28 = .ok (.if_icmp .le 6, 3) := by decide +kernel
theorem dX11_next_31 : decode cX11_next 31 = .ok (.bipush (-9), 2) := by decide +kernel
theorem dX11_next_33 : decode cX11_next 33 = .ok (.ireturn, 1) := by decide +kernel
theorem dX11_next_34 : decode cX11_next 34 = .ok (.aload_n 0, 1) := by decide +kernel
theorem dX11_next_35 : decode cX11_next 35 = .ok (.getfield 39, 3) := by decide +kernel
theorem dX11_next_38 : decode cX11_next 38 = .ok (.aload_n 0, 1) := by decide +kernel
theorem dX11_next_39 : decode cX11_next 39 = .ok (.getfield 12, 3) := by decide +kernel
theorem dX11_next_42 : decode cX11_next 42 = .ok (.iconst 3, 1) := by decide +kernel
theorem dX11_next_43 : decode cX11_next 43 = .ok (.invokevirtual 194, 3) := by decide +kernel
theorem dX11_next_46 : decode cX11_next 46 = .ok (.iload_n 1, 1) := by decide +kernel
theorem dX11_next_47 : decode cX11_next 47 = .ok (.iconst (-1), 1) := by decide +kernel
theorem dX11_next_48 : decode cX11_next 48 = .ok (.if_icmp .ne 13, 3) := by decide +kernel
theorem dX11_next_51 : decode cX11_next 51 = .ok (.aload_n 0, 1) := by decide +kernel
theorem dX11_next_52 : decode cX11_next 52 = .ok (.getfield 39, 3) := by decide +kernel
theorem dX11_next_55 : decode cX11_next 55 = .ok (.getfield 201, 3) := by decide +kernel
theorem dX11_next_58 : decode cX11_next 58 = .ok (.goto 14, 3) := by decide +kernel
theorem dX11_next_61 : decode cX11_next 61 = .ok (.aload_n 0, 1) := by decide +kernel
theorem dX11_next_62 : decode cX11_next 62 = .ok (.getfield 39, 3) := by decide +kernel
theorem dX11_next_65 : decode cX11_next 65 = .ok (.getfield 204, 3) := by decide +kernel
theorem dX11_next_68 : decode cX11_next 68 = .ok (.iload_n 1, 1) := by decide +kernel
theorem dX11_next_69 : decode cX11_next 69 = .ok (.invokestatic 117, 3) := by decide +kernel
theorem dX11_next_72 : decode cX11_next 72 = .ok (.ireturn, 1) := by decide +kernel
set_option maxRecDepth 20000 in
theorem ggX11_mean_X11_tables : GoodIn wsX11_mean wsX11_tables := goodIn_r _ [11, 12, 13, 2, 14, 15, 16, 17, 10, 18, 19, 20, 21, 22, 23, 24, 25, 26, 27, 28, 29, 30, 31, 32, 33, 34, 35, 36, 37, 38, 39, 40, 41, 42, 43, 44, 45, 46, 47, 48, 49, 50, 51, 52, 53, 54, 55, 56, 57, 58, 59, 60, 61, 62, 63, 64, 65, 66, 67, 68, 69, 70, 71, 72, 73, 74, 75, 76, 77, 78, 79, 80, 81, 82, 83, 84, 85, 86, 87, 88, 89, 90, 91, 92, 93, 94, 95, 96, 97, 98, 99, 100, 101, 102, 103, 104, 105, 106, 107, 108, 109, 110, 111, 112, 113, 114, 115, 116, 117, 118, 119, 120, 121, 122, 123, 124, 125, 126, 127, 128, 129, 130, 131, 132, 133, 134, 135, 136, 137, 138, 139, 140, 141, 142, 143, 144, 145, 146, 147, 148, 149, 150, 151, 152, 153, 154, 155, 156, 157, 158, 159, 160, 161, 162, 163, 164, 165, 166, 167, 168, 169, 170, 171, 172, 181, 182, 183, 184, 185, 186, 187, 188, 189, 190, 191, 192, 193, 194, 195, 196, 197, 198, 199, 200, 201, 202, 203, 204, 205, 206, 207, 208, 209, 210, 211, 212, 213, 214, 215, 216, 217, 218, 219, 220, 221, 222, 223, 224, 225, 226, 227, 228, 229, 230, 231, 232, 233, 234, 235, 236, 237, 238, 239, 240, 241, 242, 243, 244, 245, 246, 247, 248, 249, 250, 251, 252, 253, 254, 255] (by decide +kernel) (by decide +kernel)
set_option maxRecDepth 20000 in
theorem gX11_mean_X11_tables : GoodIn wsX11_mean (wsV RX11 175 RX11 yX11_tables wsX11_tables) := goodIn_app (goodIn_of _ (by decide +kernel)) ggX11_mean_X11_tables
set_option maxRecDepth 20000 in
theorem ggX11_mean_X6_worthOfAllPairs : GoodIn wsX11_mean wsX6_worthOfAllPairs := goodIn_r _ [176, 177, 178, 179, 24, 180, 27, 37, 38, 39, 202, 203, 204, 205, 206, 207, 208, 209] (by decide +kernel) (by decide +kernel)
set_option maxRecDepth 20000 in
theorem gX11_mean_X6_worthOfAllPairs : GoodIn wsX11_mean (wsV RX11 246 RX6 yX6_worthOfAllPairs wsX6_worthOfAllPairs) := goodIn_app (goodIn_of _ (by decide +kernel)) ggX11_mean_X6_worthOfAllPairs
theorem dX11_mean_0 : decode cX11_mean 0 = .ok (.iload_n 1, 1) := by decide +kernel
theorem dX11_mean_1 : decode cX11_mean 1 = .ok (.ifCond .eq 12, 3) := by decide +kernel
theorem dX11_mean_4 : decode cX11_mean 4 = .ok (.iload_n 1, 1) := by decide +kernel
theorem dX11_mean_5 : decode cX11_mean 5 = .ok (.iconst 1, 1) := by decide +kernel
theorem dX11_mean_6 : decode cX11_mean 6 = .ok (.if_icmp .eq 7, 3) := by decide +kernel
theorem dX11_mean_9 : decode cX11_mean 9 = .ok (.ldc2_w 244, 3) := by decide +kernel
theorem dX11_mean_12 : decode cX11_mean 12 = .ok (.lreturn, 1) := by decide +kernel
theorem dX11_mean_13 : decode cX11_mean 13 = .ok (.aload_n 0, 1) := by decide +kernel
theorem dX11_mean_14 : decode cX11_mean 14 = .ok (.invokevirtual 175, 3) := by decide +kernel
theorem dX11_mean_17 : decode cX11_mean 17 = .ok (.aload_n 0, 1) := by decide +kernel
theorem dX11_mean_18 : decode cX11_mean 18 = .ok (.getfield 12, 3) := by decide +kernel
theorem dX11_mean_21 : decode cX11_mean 21 = .ok (.getfield 66, 3) := by decide +kernel
theorem dX11_mean_24 : decode cX11_mean 24 = .ok (.invokevirtual 246, 3) := by decide +kernel
theorem dX11_mean_27 : decode cX11_mean 27 = .ok (.lstore_n 2, 1) := by decide +kernel
theorem dX11_mean_28 : decode cX11_mean 28 = .ok (.ldc2_w 250, 3) := by decide +kernel
theorem dX11_mean_31 : decode cX11_mean 31 = .ok (.lstore 4, 2) := by decide +kernel
theorem dX11_mean_33 : decode cX11_mean 33 = .ok (.lload_n 2, 1) := by decide +kernel
theorem dX11_mean_34 : decode cX11_mean 34 = .ok (.ldc2_w 252, 3) := by decide +kernel
theorem dX11_mean_37 : decode cX11_mean 37 = .ok (.lrem, 1) := by decide +kernel
theorem dX11_mean_38 : decode cX11_mean 38 = .ok (.lconst 0, 1) := by decide +kernel
theorem dX11_mean_39 : decode cX11_mean 39 = .ok (.lcmp, 1) := by decide +kernel
theorem dX11_mean_40 : decode cX11_mean 40 = .ok (.ifCond .ne 17, 3) := by decide +kernel
theorem dX11_mean_43 : decode cX11_mean 43 = .ok (.lload_n 2, 1) := by decide +kernel
theorem dX11_mean_44 : decode cX11_mean 44 = .ok (.ldc2_w 252, 3) := by decide +kernel
theorem dX11_mean_47 : decode cX11_mean 47 = .ok (.ldiv, 1) := by decide +kernel
theorem dX11_mean_48 : decode cX11_mean 48 = .ok (.lstore_n 2, 1) := by decide +kernel
theorem dX11_mean_49 : decode cX11_mean 49 = .ok (.lload 4, 2) := by decide +kernel
theorem dX11_mean_51 : decode cX11_mean 51 = .ok (.ldc2_w 252, 3) := by decide +kernel
theorem dX11_mean_54 : decode cX11_mean 54 = .ok (.ldiv, 1) := by decide +kernel
theorem dX11_mean_55 : decode cX11_mean 55 = .ok (.lstore 4, 2) := by decide +kernel
theorem dX11_mean_57 : decode cX11_mean 57 = .ok (.lload_n 2, 1) := by decide +kernel
theorem dX11_mean_58 : decode cX11_mean 58 = .ok (.ldc2_w 254, 3) := by decide +kernel
theorem dX11_mean_61 : decode cX11_mean 61 = .ok (.lrem, 1) := by decide +kernel
theorem dX11_mean_62 : decode cX11_mean 62 = .ok (.lconst 0, 1) := by decide +kernel
theorem dX11_mean_63 : decode cX11_mean 63 = .ok (.lcmp, 1) := by decide +kernel
theorem dX11_mean_64 : decode cX11_mean 64 = .ok (.ifCond .ne 17, 3) := by decide +kernel
theorem dX11_mean_67 : decode cX11_mean 67 = .ok (.lload_n 2, 1) := by decide +kernel
theorem dX11_mean_68 : decode cX11_mean 68 = .ok (.ldc2_w 254, 3) := by decide +kernel
theorem dX11_mean_71 : decode cX11_mean 71 = .ok (.ldiv, 1) := by decide +kernel
theorem dX11_mean_72 : decode cX11_mean 72 = .ok (.lstore_n 2, 1) := by decide +kernel
theorem dX11_mean_73 : decode cX11_mean 73 = .ok (.lload 4, 2) := by decide +kernel
theorem dX11_mean_75 : decode cX11_mean 75 = .ok (.ldc2_w 254, 3) := by decide +kernel
theorem dX11_mean_78 : decode cX11_mean 78 = .ok (.ldiv, 1) := by decide +kernel
theorem dX11_mean_79 : decode cX11_mean 79 = .ok (.lstore 4, 2) := by decide +kernel
theorem dX11_mean_81 : decode cX11_mean 81 = .ok (.iload_n 1, 1) := by decide +kernel
theorem dX11_mean_82 : decode cX11_mean 82 = .ok (.ifCond .ne 7, 3) := by decide +kernel
theorem dX11_mean_85 : decode cX11_mean 85 = .ok (.lload_n 2, 1) := by decide +kernel
theorem dX11_mean_86 : decode cX11_mean 86 = .ok (.goto 5, 3) := by decide +kernel
theorem dX11_mean_89 : decode cX11_mean 89 = .ok (.lload 4, 2) := by decide +kernel
theorem dX11_mean_91 : decode cX11_mean 91 = .ok (.lreturn, 1) := by decide +kernel
set_option maxRecDepth 20000 in
theorem ggX11_both_X11_isPair : GoodIn wsX11_both wsX11_isPair := goodIn_r _ [6, 7, 8, 9, 10, 11, 12, 13, 14, 25, 26, 27, 28, 29, 30, 31, 32, 33, 34, 35, 36, 37, 38, 39, 40, 41, 42, 43, 44, 45] (by decide +kernel) (by decide +kernel)
set_option maxRecDepth 20000 in
theorem gX11_both_X11_isPair : GoodIn wsX11_both (wsV RX11 256 RX11 yX11_isPair wsX11_isPair) := goodIn_app (goodIn_of _ (by decide +kernel)) ggX11_both_X11_isPair
set_option maxRecDepth 20000 in
theorem ggX11_both_X11_pairBits : GoodIn wsX11_both wsX11_pairBits := goodIn_r _ [17] (by decide +kernel) (by decide +kernel)
set_option maxRecDepth 20000 in
theorem gX11_both_X11_pairBits : GoodIn wsX11_both (va_wsS RX11 259 yX11_pairBits wsX11_pairBits) := goodIn_app (goodIn_of _ (by decide +kernel)) ggX11_both_X11_pairBits
set_option maxRecDepth 20000 in
theorem ggX11_both_J6_bitCount_0f7a4 : GoodIn wsX11_both wsJ6_bitCount_0f7a4 := goodIn_r _ [21, 22, 23, 24] (by decide +kernel) (by decide +kernel)
set_option maxRecDepth 20000 in
theorem gX11_both_J6_bitCount_0f7a4 : GoodIn wsX11_both (va_wsS RX11 262 yJ6_bitCount_0f7a4 wsJ6_bitCount_0f7a4) := goodIn_app (goodIn_of _ (by decide +kernel)) ggX11_both_J6_bitCount_0f7a4
theorem dX11_both_0 : decode cX11_both 0 = .ok (.aload_n 0, 1) := by decide +kernel
theorem dX11_both_1 : decode cX11_both 1 = .ok (.iload_n 1, 1) := by decide +kernel
theorem dX11_both_2 : decode cX11_both 2 = .ok (.invokevirtual 256, 3) := by decide +kernel
theorem dX11_both_5 : decode cX11_both 5 = .ok (.ifCond .eq 20, 3) := by decide +kernel
theorem dX11_both_8 : decode cX11_both 8 = .ok (.aload_n 0, 1) := by decide +kernel
theorem dX11_both_9 : decode cX11_both 9 = .ok (.iload_n 2, 1) := by decide +kernel
theorem dX11_both_10 : decode cX11_both 10 = .ok (.invokevirtual 256, 3) := by decide +kernel
theorem dX11_both_13 : decode cX11_both 13 = .ok (.ifCond .eq 12, 3) := by decide +kernel
theorem dX11_both_16 : decode cX11_both 16 = .ok (.iload_n 3, 1) := by decide +kernel
theorem dX11_both_17 : decode cX11_both 17 = .ok (.ifCond .eq 12, 3) := by decide +kernel
theorem dX11_both_20 : decode cX11_both 20 = .ok (.iload_n 3, 1) := by decide +kernel
theorem dX11_both_21 : decode cX11_both 21 = .ok (.iconst 1, 1) := by decide +kernel
theorem dX11_both_22 : decode cX11_both 22 = .ok (.if_icmp .eq 7, 3) := by decide +kernel
theorem dX11_both_25 : decode cX11_both 25 = .ok (.ldc2_w 244, 3) := by decide +kernel
theorem dX11_both_28 : decode cX11_both 28 = .ok (.lreturn, 1) := by decide +kernel
theorem dX11_both_29 : decode cX11_both 29 = .ok (.iload_n 1, 1) := by decide +kernel
theorem dX11_both_30 : decode cX11_both 30 = .ok (.invokestatic 259, 3) := by decide +kernel
theorem dX11_both_33 : decode cX11_both 33 = .ok (.iload_n 2, 1) := by decide +kernel
theorem dX11_both_34 : decode cX11_both 34 = .ok (.invokestatic 259, 3) := by decide +kernel
theorem dX11_both_37 : decode cX11_both 37 = .ok (.iand, 1) := by decide +kernel
theorem dX11_both_38 : decode cX11_both 38 = .ok (.invokestatic 262, 3) := by decide +kernel
theorem dX11_both_41 : decode cX11_both 41 = .ok (.istore 4, 2) := by decide +kernel
theorem dX11_both_43 : decode cX11_both 43 = .ok (.iload 4, 2) := by decide +kernel
theorem dX11_both_45 : decode cX11_both 45 = .ok (.iconst 1, 1) := by decide +kernel
theorem dX11_both_46 : decode cX11_both 46 = .ok (.if_icmp .ne 6, 3) := by decide +kernel
theorem dX11_both_49 : decode cX11_both 49 = .ok (.iload_n 3, 1) := by decide +kernel
theorem dX11_both_50 : decode cX11_both 50 = .ok (.i2l, 1) := by decide +kernel
theorem dX11_both_51 : decode cX11_both 51 = .ok (.lreturn, 1) := by decide +kernel
theorem dX11_both_52 : decode cX11_both 52 = .ok (.iload 4, 2) := by decide +kernel
theorem dX11_both_54 : decode cX11_both 54 = .ok (.iconst 2, 1) := by decide +kernel
theorem dX11_both_55 : decode cX11_both 55 = .ok (.if_icmp .ne 8, 3) := by decide +kernel
theorem dX11_both_58 : decode cX11_both 58 = .ok (.bipush 7, 2) := by decide +kernel
theorem dX11_both_60 : decode cX11_both 60 = .ok (.goto 5, 3) := by decide +kernel
theorem dX11_both_63 : decode cX11_both 63 = .ok (.bipush 35, 2) := by decide +kernel
theorem dX11_both_65 : decode cX11_both 65 = .ok (.istore 5, 2) := by decide +kernel
theorem dX11_both_67 : decode cX11_both 67 = .ok (.iload_n 3, 1) := by decide +kernel
theorem dX11_both_68 : decode cX11_both 68 = .ok (.ifCond .ne 7, 3) := by decide +kernel
theorem dX11_both_71 : decode cX11_both 71 = .ok (.lconst 1, 1) := by decide +kernel
theorem dX11_both_72 : decode cX11_both 72 = .ok (.goto 6, 3) := by decide +kernel
theorem dX11_both_75 : decode cX11_both 75 = .ok (.iload 5, 2) := by decide +kernel
theorem dX11_both_77 : decode cX11_both 77 = .ok (.i2l, 1) := by decide +kernel
theorem dX11_both_78 : decode cX11_both 78 = .ok (.lreturn, 1) := by decide +kernel
set_option maxRecDepth 20000 in
theorem ggX11_judge_X11_isTape : GoodIn wsX11_judge wsX11_isTape := goodIn_r _ [10] (by decide +kernel) (by decide +kernel)
set_option maxRecDepth 20000 in
theorem gX11_judge_X11_isTape : GoodIn wsX11_judge (va_wsS RX11 266 yX11_isTape wsX11_isTape) := goodIn_app (goodIn_of _ (by decide +kernel)) ggX11_judge_X11_isTape
set_option maxRecDepth 20000 in
theorem ggX11_judge_X11_isPlace : GoodIn wsX11_judge wsX11_isPlace := goodIn_r _ [14, 4, 5, 7, 8, 9, 10, 18, 19, 20, 21, 22, 23, 24, 25, 26, 27, 28, 29, 30, 31] (by decide +kernel) (by decide +kernel)
set_option maxRecDepth 20000 in
theorem gX11_judge_X11_isPlace : GoodIn wsX11_judge (wsV RX11 269 RX11 yX11_isPlace wsX11_isPlace) := goodIn_app (goodIn_of _ (by decide +kernel)) ggX11_judge_X11_isPlace
set_option maxRecDepth 20000 in
theorem ggX11_judge_X11_seatIn : GoodIn wsX11_judge wsX11_seatIn := goodIn_r _ [17] (by decide +kernel) (by decide +kernel)
set_option maxRecDepth 20000 in
theorem gX11_judge_X11_seatIn : GoodIn wsX11_judge (va_wsS RX11 117 yX11_seatIn wsX11_seatIn) := goodIn_app (goodIn_of _ (by decide +kernel)) ggX11_judge_X11_seatIn
theorem dX11_judge_0 : decode cX11_judge 0 = .ok (.iload_n 1, 1) := by decide +kernel
theorem dX11_judge_1 : decode cX11_judge 1 = .ok (.invokestatic 266, 3) := by decide +kernel
theorem dX11_judge_4 : decode cX11_judge 4 = .ok (.ifCond .ne 5, 3) := by decide +kernel
theorem dX11_judge_7 : decode cX11_judge 7 = .ok (.iconst (-1), 1) := by decide +kernel
theorem dX11_judge_8 : decode cX11_judge 8 = .ok (.ireturn, 1) := by decide +kernel
theorem dX11_judge_9 : decode cX11_judge 9 = .ok (.aload_n 0, 1) := by decide +kernel
theorem dX11_judge_10 : decode cX11_judge 10 = .ok (.getfield 55, 3) := by decide +kernel
theorem dX11_judge_13 : decode cX11_judge 13 = .ok (.iload_n 1, 1) := by decide +kernel
theorem dX11_judge_14 : decode cX11_judge 14 = .ok (.iaload, 1) := by decide +kernel
theorem dX11_judge_15 : decode cX11_judge 15 = .ok (.iconst (-1), 1) := by decide +kernel
theorem dX11_judge_16 : decode cX11_judge 16 = .ok (.if_icmp .eq 16, 3) := by decide +kernel
theorem dX11_judge_19 : decode cX11_judge 19 = .ok (.aload_n 0, 1) := by decide +kernel
theorem dX11_judge_20 : decode cX11_judge 20 = .ok (.getfield 55, 3) := by decide +kernel
theorem dX11_judge_23 : decode cX11_judge 23 = .ok (.iload_n 1, 1) := by decide +kernel
theorem dX11_judge_24 : decode cX11_judge 24 = .ok (.iaload, 1) := by decide +kernel
theorem dX11_judge_25 : decode cX11_judge 25 = .ok (.iconst 1, 1) := by decide +kernel
theorem dX11_judge_26 : decode cX11_judge 26 = .ok (.if_icmp .eq 6, 3) := by decide +kernel
theorem dX11_judge_29 : decode cX11_judge 29 = .ok (.bipush (-12), 2) := by decide +kernel
theorem dX11_judge_31 : decode cX11_judge 31 = .ok (.ireturn, 1) := by decide +kernel
theorem dX11_judge_32 : decode cX11_judge 32 = .ok (.iconst 0, 1) := by decide +kernel
theorem dX11_judge_33 : decode cX11_judge 33 = .ok (.istore_n 3, 1) := by decide +kernel
theorem dX11_judge_34 : decode cX11_judge 34 = .ok (.iload_n 3, 1) := by decide +kernel
theorem dX11_judge_35 : decode cX11_judge 35 = .ok (.aload_n 0, 1) := by decide +kernel
theorem dX11_judge_36 : decode cX11_judge 36 = .ok (.getfield 12, 3) := by decide +kernel
theorem dX11_judge_39 : decode cX11_judge 39 = .ok (.getfield 66, 3) := by decide +kernel
theorem dX11_judge_42 : decode cX11_judge 42 = .ok (.if_icmp .ge 69, 3) := by decide +kernel
theorem dX11_judge_45 : decode cX11_judge 45 = .ok (.iload_n 2, 1) := by decide +kernel
theorem dX11_judge_46 : decode cX11_judge 46 = .ok (.ifCond .lt 26, 3) := by decide +kernel
theorem dX11_judge_49 : decode cX11_judge 49 = .ok (.iload_n 2, 1) := by decide +kernel
theorem dX11_judge_50 : decode cX11_judge 50 = .ok (.aload_n 0, 1) := by decide +kernel
theorem dX11_judge_51 : decode cX11_judge 51 = .ok (.getfield 59, 3) := by decide +kernel
theorem dX11_judge_54 : decode cX11_judge 54 = .ok (.iload_n 1, 1) := by decide +kernel
theorem dX11_judge_55 : decode cX11_judge 55 = .ok (.iaload, 1) := by decide +kernel
theorem dX11_judge_56 : decode cX11_judge 56 = .ok (.iload_n 3, 1) := by decide +kernel
theorem dX11_judge_57 : decode cX11_judge 57 = .ok (.isub, 1) := by decide +kernel
theorem dX11_judge_58 : decode cX11_judge 58 = .ok (.if_icmp .ge 14, 3) := by decide +kernel
theorem dX11_judge_61 : decode cX11_judge 61 = .ok (.aload_n 0, 1) := by decide +kernel
theorem dX11_judge_62 : decode cX11_judge 62 = .ok (.iload_n 1, 1) := by decide +kernel
theorem dX11_judge_63 : decode cX11_judge 63 = .ok (.iload_n 2, 1) := by decide +kernel
theorem dX11_judge_64 : decode cX11_judge 64 = .ok (.iload_n 3, 1) := by decide +kernel
theorem dX11_judge_65 : decode cX11_judge 65 = .ok (.iadd, 1) := by decide +kernel
theorem dX11_judge_66 : decode cX11_judge 66 = .ok (.invokevirtual 269, 3) := by decide +kernel
theorem dX11_judge_69 : decode cX11_judge 69 = .ok (.ifCond .ne 8, 3) := by decide +kernel
theorem dX11_judge_72 : decode cX11_judge 72 = .ok (.bipush 100, 2) := by decide +kernel
theorem dX11_judge_74 : decode cX11_judge 74 = .ok (.iload_n 3, 1) := by decide +kernel
theorem dX11_judge_75 : decode cX11_judge 75 = .ok (.iadd, 1) := by decide +kernel
theorem dX11_judge_76 : decode cX11_judge 76 = .ok (.ireturn, 1) := by decide +kernel
theorem dX11_judge_77 : decode cX11_judge 77 = .ok (.aload_n 0, 1) := by decide +kernel
theorem dX11_judge_78 : decode cX11_judge 78 = .ok (.getfield 52, 3) := by decide +kernel
theorem dX11_judge_81 : decode cX11_judge 81 = .ok (.iload_n 1, 1) := by decide +kernel
theorem dX11_judge_82 : decode cX11_judge 82 = .ok (.aaload, 1) := by decide +kernel
theorem dX11_judge_83 : decode cX11_judge 83 = .ok (.iload_n 2, 1) := by decide +kernel
theorem dX11_judge_84 : decode cX11_judge 84 = .ok (.iload_n 3, 1) := by decide +kernel
theorem dX11_judge_85 : decode cX11_judge 85 = .ok (.iadd, 1) := by decide +kernel
theorem dX11_judge_86 : decode cX11_judge 86 = .ok (.laload, 1) := by decide +kernel
theorem dX11_judge_87 : decode cX11_judge 87 = .ok (.aload_n 0, 1) := by decide +kernel
theorem dX11_judge_88 : decode cX11_judge 88 = .ok (.getfield 12, 3) := by decide +kernel
theorem dX11_judge_91 : decode cX11_judge 91 = .ok (.getfield 114, 3) := by decide +kernel
theorem dX11_judge_94 : decode cX11_judge 94 = .ok (.iload_n 3, 1) := by decide +kernel
theorem dX11_judge_95 : decode cX11_judge 95 = .ok (.invokestatic 117, 3) := by decide +kernel
theorem dX11_judge_98 : decode cX11_judge 98 = .ok (.i2l, 1) := by decide +kernel
theorem dX11_judge_99 : decode cX11_judge 99 = .ok (.lcmp, 1) := by decide +kernel
theorem dX11_judge_100 : decode cX11_judge 100 = .ok (.ifCond .eq 5, 3) := by decide +kernel
theorem dX11_judge_103 : decode cX11_judge 103 = .ok (.iload_n 3, 1) := by decide +kernel
theorem dX11_judge_104 : decode cX11_judge 104 = .ok (.ireturn, 1) := by decide +kernel
theorem dX11_judge_105 : decode cX11_judge 105 = .ok (.iinc 3 1, 3) := by decide +kernel
theorem dX11_judge_108 : decode cX11_judge 108 = .ok (.goto (-74), 3) := by decide +kernel
theorem dX11_judge_111 : decode cX11_judge 111 = .ok (.bipush (-5), 2) := by decide +kernel
theorem dX11_judge_113 : decode cX11_judge 113 = .ok (.ireturn, 1) := by decide +kernel
set_option maxRecDepth 20000 in
theorem ggX11_image_X7_copy : GoodIn wsX11_image wsX7_copy := goodIn_r _ [9, 10, 11, 12, 13, 14, 15, 16, 31, 32, 33, 34, 35, 36, 37] (by decide +kernel) (by decide +kernel)
set_option maxRecDepth 20000 in
theorem gX11_image_X7_copy : GoodIn wsX11_image (wsV RX11 273 RX7 yX7_copy wsX7_copy) := goodIn_app (goodIn_of _ (by decide +kernel)) ggX11_image_X7_copy
theorem dX11_image_0 : decode cX11_image 0 = .ok (.aload_n 0, 1) := by decide +kernel
theorem dX11_image_1 : decode cX11_image 1 = .ok (.getfield 18, 3) := by decide +kernel
theorem dX11_image_4 : decode cX11_image 4 = .ok (.aload_n 0, 1) := by decide +kernel
theorem dX11_image_5 : decode cX11_image 5 = .ok (.getfield 12, 3) := by decide +kernel
theorem dX11_image_8 : decode cX11_image 8 = .ok (.invokevirtual 273, 3) := by decide +kernel
theorem dX11_image_11 : decode cX11_image 11 = .ok (.aload_n 0, 1) := by decide +kernel
theorem dX11_image_12 : decode cX11_image 12 = .ok (.iconst 1, 1) := by decide +kernel
theorem dX11_image_13 : decode cX11_image 13 = .ok (.putfield 277, 3) := by decide +kernel
theorem dX11_image_16 : decode cX11_image 16 = .ok (.aload_n 0, 1) := by decide +kernel
theorem dX11_image_17 : decode cX11_image 17 = .ok (.getfield 12, 3) := by decide +kernel
theorem dX11_image_20 : decode cX11_image 20 = .ok (.getfield 66, 3) := by decide +kernel
theorem dX11_image_23 : decode cX11_image 23 = .ok (.ireturn, 1) := by decide +kernel
set_option maxRecDepth 20000 in
theorem ggX11_undo_X7_copy : GoodIn wsX11_undo wsX7_copy := goodIn_r _ [10, 11, 12, 13, 14, 15, 16, 17, 32, 33, 34, 35, 36, 37, 38] (by decide +kernel) (by decide +kernel)
set_option maxRecDepth 20000 in
theorem gX11_undo_X7_copy : GoodIn wsX11_undo (wsV RX11 273 RX7 yX7_copy wsX7_copy) := goodIn_app (goodIn_of _ (by decide +kernel)) ggX11_undo_X7_copy
theorem dX11_undo_0 : decode cX11_undo 0 = .ok (.aload_n 0, 1) := by decide +kernel
theorem dX11_undo_1 : decode cX11_undo 1 = .ok (.getfield 277, 3) := by decide +kernel
theorem dX11_undo_4 : decode cX11_undo 4 = .ok (.ifCond .ne 6, 3) := by decide +kernel
theorem dX11_undo_7 : decode cX11_undo 7 = .ok (.bipush (-3), 2) := by decide +kernel
theorem dX11_undo_9 : decode cX11_undo 9 = .ok (.ireturn, 1) := by decide +kernel
theorem dX11_undo_10 : decode cX11_undo 10 = .ok (.aload_n 0, 1) := by decide +kernel
theorem dX11_undo_11 : decode cX11_undo 11 = .ok (.getfield 12, 3) := by decide +kernel
theorem dX11_undo_14 : decode cX11_undo 14 = .ok (.aload_n 0, 1) := by decide +kernel
theorem dX11_undo_15 : decode cX11_undo 15 = .ok (.getfield 18, 3) := by decide +kernel
theorem dX11_undo_18 : decode cX11_undo 18 = .ok (.invokevirtual 273, 3) := by decide +kernel
theorem dX11_undo_21 : decode cX11_undo 21 = .ok (.aload_n 0, 1) := by decide +kernel
theorem dX11_undo_22 : decode cX11_undo 22 = .ok (.iconst 0, 1) := by decide +kernel
theorem dX11_undo_23 : decode cX11_undo 23 = .ok (.putfield 78, 3) := by decide +kernel
theorem dX11_undo_26 : decode cX11_undo 26 = .ok (.aload_n 0, 1) := by decide +kernel
theorem dX11_undo_27 : decode cX11_undo 27 = .ok (.getfield 12, 3) := by decide +kernel
theorem dX11_undo_30 : decode cX11_undo 30 = .ok (.getfield 66, 3) := by decide +kernel
theorem dX11_undo_33 : decode cX11_undo 33 = .ok (.ireturn, 1) := by decide +kernel
set_option maxRecDepth 20000 in
theorem ggX11_act_X9_clear : GoodIn wsX11_act wsX9_clear := goodIn_r _ [7, 8, 126, 127] (by decide +kernel) (by decide +kernel)
set_option maxRecDepth 20000 in
theorem gX11_act_X9_clear : GoodIn wsX11_act (wsV RX11 280 RX9 yX9_clear wsX9_clear) := goodIn_app (goodIn_of _ (by decide +kernel)) ggX11_act_X9_clear
set_option maxRecDepth 20000 in
theorem ggX11_act_X7_at : GoodIn wsX11_act wsX7_at := goodIn_r _ [13, 14, 15, 128, 129, 130, 131, 132, 133, 134] (by decide +kernel) (by decide +kernel)
set_option maxRecDepth 20000 in
theorem gX11_act_X7_at : GoodIn wsX11_act (wsV RX11 82 RX7 yX7_at wsX7_at) := goodIn_app (goodIn_of _ (by decide +kernel)) ggX11_act_X7_at
set_option maxRecDepth 20000 in
theorem ggX11_act_X8_sits : GoodIn wsX11_act wsX8_sits := goodIn_r _ [22, 23, 24, 25, 6, 26, 8, 27, 28, 17, 29, 30, 31, 32, 33, 34, 126, 127, 135, 136, 137, 138, 139, 140, 141, 142, 143, 144, 145, 146, 147, 148, 149, 150, 151, 152, 153, 154, 155, 156, 157, 158, 159, 160, 161, 162, 163, 164, 165, 166, 167, 168, 169] (by decide +kernel) (by decide +kernel)
set_option maxRecDepth 20000 in
theorem gX11_act_X8_sits_u283X0 : GoodIn wsX11_act (va_wsO RX11 283 RX0 "WhoSitsBy$Pupil" ⟨"WhoSitsBy$Pupil", "sits", "(ILWhoSitsBy$Trace;)I"⟩ yX8_sits wsX8_sits) := goodIn_app (goodIn_of _ (by decide +kernel)) ggX11_act_X8_sits
set_option maxRecDepth 20000 in
theorem ggX11_act_X4_sits : GoodIn wsX11_act wsX4_sits := goodIn_r _ [32, 33, 34, 24, 25, 6, 26, 8, 27, 135, 136, 137, 138, 139, 140, 141, 142, 143, 144, 145, 146, 147, 148, 149, 150, 151, 152, 153, 154, 155, 156, 157, 158, 159, 160, 161, 162, 163, 164, 165, 166, 167, 168, 169, 126, 127] (by decide +kernel) (by decide +kernel)
set_option maxRecDepth 20000 in
theorem gX11_act_X4_sits_u283X1 : GoodIn wsX11_act (va_wsU RX11 283 RX1 "WhoSitsBy$Pupil" ⟨"WhoSitsBy$Pupil", "sits", "(ILWhoSitsBy$Trace;)I"⟩ yX4_sits wsX4_sits) := goodIn_app (goodIn_of _ (by decide +kernel)) ggX11_act_X4_sits
set_option maxRecDepth 20000 in
theorem ggX11_act_X2_sits : GoodIn wsX11_act wsX2_sits := goodIn_r _ [39, 40, 41, 42, 24, 25, 6, 26, 8, 27, 135, 136, 137, 138, 139, 140, 141, 142, 143, 144, 145, 146, 147, 148, 149, 150, 151, 152, 153, 154, 155, 156, 157, 158, 159, 160, 161, 162, 163, 164, 165, 166, 167, 168, 169, 126, 127] (by decide +kernel) (by decide +kernel)
set_option maxRecDepth 20000 in
theorem gX11_act_X2_sits_u283X2 : GoodIn wsX11_act (va_wsO RX11 283 RX2 "WhoSitsBy$Pupil" ⟨"WhoSitsBy$Pupil", "sits", "(ILWhoSitsBy$Trace;)I"⟩ yX2_sits wsX2_sits) := goodIn_app (goodIn_of _ (by decide +kernel)) ggX11_act_X2_sits
set_option maxRecDepth 20000 in
theorem ggX11_act_X3_sits : GoodIn wsX11_act wsX3_sits := goodIn_r _ [46, 47, 24, 25, 6, 26, 8, 27, 126, 127] (by decide +kernel) (by decide +kernel)
set_option maxRecDepth 20000 in
theorem gX11_act_X3_sits_u283X3 : GoodIn wsX11_act (va_wsO RX11 283 RX3 "WhoSitsBy$Pupil" ⟨"WhoSitsBy$Pupil", "sits", "(ILWhoSitsBy$Trace;)I"⟩ yX3_sits wsX3_sits) := goodIn_app (goodIn_of _ (by decide +kernel)) ggX11_act_X3_sits
set_option maxRecDepth 20000 in
theorem gX11_act_X4_sits : GoodIn wsX11_act (wsV RX11 283 RX4 yX4_sits wsX4_sits) := goodIn_app (goodIn_of _ (by decide +kernel)) ggX11_act_X4_sits
set_option maxRecDepth 20000 in
theorem gX11_act_X8_sits_u283X8 : GoodIn wsX11_act (va_wsO RX11 283 RX8 "WhoSitsBy$Pupil" ⟨"WhoSitsBy$Pupil", "sits", "(ILWhoSitsBy$Trace;)I"⟩ yX8_sits wsX8_sits) := goodIn_app (goodIn_of _ (by decide +kernel)) ggX11_act_X8_sits
set_option maxRecDepth 20000 in
theorem gX11_act_X4_sits_u283X10 : GoodIn wsX11_act (va_wsU RX11 283 RX10 "WhoSitsBy$Pupil" ⟨"WhoSitsBy$Pupil", "sits", "(ILWhoSitsBy$Trace;)I"⟩ yX4_sits wsX4_sits) := goodIn_app (goodIn_of _ (by decide +kernel)) ggX11_act_X4_sits
set_option maxRecDepth 20000 in
theorem ggX11_act_X4_talks : GoodIn wsX11_act wsX4_talks := goodIn_r _ [56, 57, 34, 24, 25, 6, 26, 8, 27, 58, 17, 18, 19, 20, 21, 22, 23, 28, 29, 30, 31, 32, 33, 35, 36, 37, 38, 39, 40, 41, 42, 43, 44, 45, 46, 47, 59, 49, 50, 51, 135, 136, 137, 138, 139, 140, 141, 142, 143, 144, 145, 146, 147, 148, 149, 150, 151, 152, 153, 154, 155, 156, 157, 158, 159, 160, 161, 162, 163, 164, 165, 166, 167, 168, 169, 126, 127] (by decide +kernel) (by decide +kernel)
set_option maxRecDepth 20000 in
theorem gX11_act_X4_talks_u287X0 : GoodIn wsX11_act (va_wsU RX11 287 RX0 "WhoSitsBy$Pupil" ⟨"WhoSitsBy$Pupil", "talks", "(ILWhoSitsBy$Trace;)I"⟩ yX4_talks wsX4_talks) := goodIn_app (goodIn_of _ (by decide +kernel)) ggX11_act_X4_talks
set_option maxRecDepth 20000 in
theorem ggX11_act_X1_talks : GoodIn wsX11_act wsX1_talks := goodIn_r _ [64, 65, 24, 25, 6, 26, 8, 27, 66, 53, 67, 55, 31, 56, 57, 34, 58, 17, 18, 19, 20, 21, 22, 23, 28, 29, 30, 32, 33, 35, 36, 37, 38, 39, 40, 41, 42, 43, 44, 45, 46, 47, 59, 49, 50, 51, 126, 127, 135, 136, 137, 138, 139, 140, 141, 142, 143, 144, 145, 146, 147, 148, 149, 150, 151, 152, 153, 154, 155, 156, 157, 158, 159, 160, 161, 162, 163, 164, 165, 166, 167, 168, 169] (by decide +kernel) (by decide +kernel)
set_option maxRecDepth 20000 in
theorem gX11_act_X1_talks_u287X1 : GoodIn wsX11_act (va_wsO RX11 287 RX1 "WhoSitsBy$Pupil" ⟨"WhoSitsBy$Pupil", "talks", "(ILWhoSitsBy$Trace;)I"⟩ yX1_talks wsX1_talks) := goodIn_app (goodIn_of _ (by decide +kernel)) ggX11_act_X1_talks
set_option maxRecDepth 20000 in
theorem ggX11_act_X2_talks : GoodIn wsX11_act wsX2_talks := goodIn_r _ [70, 42, 24, 25, 6, 26, 8, 27, 126, 127] (by decide +kernel) (by decide +kernel)
set_option maxRecDepth 20000 in
theorem gX11_act_X2_talks_u287X2 : GoodIn wsX11_act (va_wsO RX11 287 RX2 "WhoSitsBy$Pupil" ⟨"WhoSitsBy$Pupil", "talks", "(ILWhoSitsBy$Trace;)I"⟩ yX2_talks wsX2_talks) := goodIn_app (goodIn_of _ (by decide +kernel)) ggX11_act_X2_talks
set_option maxRecDepth 20000 in
theorem ggX11_act_X3_talks : GoodIn wsX11_act wsX3_talks := goodIn_r _ [73, 47, 24, 25, 6, 26, 8, 27, 74, 75, 76, 62, 63, 64, 65, 66, 53, 67, 55, 31, 56, 57, 34, 58, 17, 18, 19, 20, 21, 22, 23, 28, 29, 30, 32, 33, 35, 36, 37, 38, 39, 40, 41, 42, 43, 44, 45, 46, 59, 49, 50, 51, 126, 127, 135, 136, 137, 138, 139, 140, 141, 142, 143, 144, 145, 146, 147, 148, 149, 150, 151, 152, 153, 154, 155, 156, 157, 158, 159, 160, 161, 162, 163, 164, 165, 166, 167, 168, 169] (by decide +kernel) (by decide +kernel)
set_option maxRecDepth 20000 in
theorem gX11_act_X3_talks_u287X3 : GoodIn wsX11_act (va_wsO RX11 287 RX3 "WhoSitsBy$Pupil" ⟨"WhoSitsBy$Pupil", "talks", "(ILWhoSitsBy$Trace;)I"⟩ yX3_talks wsX3_talks) := goodIn_app (goodIn_of _ (by decide +kernel)) ggX11_act_X3_talks
set_option maxRecDepth 20000 in
theorem gX11_act_X4_talks : GoodIn wsX11_act (wsV RX11 287 RX4 yX4_talks wsX4_talks) := goodIn_app (goodIn_of _ (by decide +kernel)) ggX11_act_X4_talks
set_option maxRecDepth 20000 in
theorem gX11_act_X4_talks_u287X8 : GoodIn wsX11_act (va_wsU RX11 287 RX8 "WhoSitsBy$Pupil" ⟨"WhoSitsBy$Pupil", "talks", "(ILWhoSitsBy$Trace;)I"⟩ yX4_talks wsX4_talks) := goodIn_app (goodIn_of _ (by decide +kernel)) ggX11_act_X4_talks
set_option maxRecDepth 20000 in
theorem gX11_act_X4_talks_u287X10 : GoodIn wsX11_act (va_wsU RX11 287 RX10 "WhoSitsBy$Pupil" ⟨"WhoSitsBy$Pupil", "talks", "(ILWhoSitsBy$Trace;)I"⟩ yX4_talks wsX4_talks) := goodIn_app (goodIn_of _ (by decide +kernel)) ggX11_act_X4_talks
set_option maxRecDepth 20000 in
theorem ggX11_act_X0_tells : GoodIn wsX11_act wsX0_tells := goodIn_r _ [87, 88, 89, 90, 24, 25, 6, 26, 8, 27, 135, 136, 137, 138, 139, 140, 141, 142, 143, 144, 145, 146, 147, 148, 149, 150, 151, 152, 153, 154, 155, 156, 157, 158, 159, 160, 161, 162, 163, 164, 165, 166, 167, 168, 169, 126, 127] (by decide +kernel) (by decide +kernel)
set_option maxRecDepth 20000 in
theorem gX11_act_X0_tells_u290X0 : GoodIn wsX11_act (va_wsO RX11 290 RX0 "WhoSitsBy$Pupil" ⟨"WhoSitsBy$Pupil", "tells", "(ILWhoSitsBy$Trace;)I"⟩ yX0_tells wsX0_tells) := goodIn_app (goodIn_of _ (by decide +kernel)) ggX11_act_X0_tells
set_option maxRecDepth 20000 in
theorem ggX11_act_X4_tells : GoodIn wsX11_act wsX4_tells := goodIn_r _ [91, 34, 24, 25, 6, 26, 8, 27, 94, 53, 54, 55, 31, 56, 57, 58, 17, 18, 19, 20, 21, 22, 23, 28, 29, 30, 32, 33, 35, 36, 37, 38, 39, 40, 41, 42, 43, 44, 45, 46, 47, 59, 49, 50, 51, 60, 61, 62, 63, 64, 65, 66, 67, 68, 69, 70, 71, 72, 73, 74, 75, 76, 95, 78, 79, 80, 126, 127, 135, 136, 137, 138, 139, 140, 141, 142, 143, 144, 145, 146, 147, 148, 149, 150, 151, 152, 153, 154, 155, 156, 157, 158, 159, 160, 161, 162, 163, 164, 165, 166, 167, 168, 169] (by decide +kernel) (by decide +kernel)
set_option maxRecDepth 20000 in
theorem gX11_act_X4_tells_u290X1 : GoodIn wsX11_act (va_wsU RX11 290 RX1 "WhoSitsBy$Pupil" ⟨"WhoSitsBy$Pupil", "tells", "(ILWhoSitsBy$Trace;)I"⟩ yX4_tells wsX4_tells) := goodIn_app (goodIn_of _ (by decide +kernel)) ggX11_act_X4_tells
set_option maxRecDepth 20000 in
theorem ggX11_act_X10_tells : GoodIn wsX11_act wsX10_tells := goodIn_r _ [99, 100, 24, 25, 6, 26, 8, 27, 101, 82, 102, 93, 31, 91, 34, 94, 53, 54, 55, 56, 57, 58, 17, 18, 19, 20, 21, 22, 23, 28, 29, 30, 32, 33, 35, 36, 37, 38, 39, 40, 41, 42, 43, 44, 45, 46, 47, 59, 49, 50, 51, 60, 61, 62, 63, 64, 65, 66, 67, 68, 69, 70, 71, 72, 73, 74, 75, 76, 95, 78, 79, 80, 103, 104, 105, 106, 126, 127, 135, 136, 137, 138, 139, 140, 141, 142, 143, 144, 145, 146, 147, 148, 149, 150, 151, 152, 153, 154, 155, 156, 157, 158, 159, 160, 161, 162, 163, 164, 165, 166, 167, 168, 169] (by decide +kernel) (by decide +kernel)
set_option maxRecDepth 20000 in
theorem gX11_act_X10_tells_u290X2 : GoodIn wsX11_act (va_wsO RX11 290 RX2 "WhoSitsBy$Pupil" ⟨"WhoSitsBy$Pupil", "tells", "(ILWhoSitsBy$Trace;)I"⟩ yX10_tells wsX10_tells) := goodIn_app (goodIn_of _ (by decide +kernel)) ggX11_act_X10_tells
set_option maxRecDepth 20000 in
theorem gX11_act_X4_tells_u290X3 : GoodIn wsX11_act (va_wsU RX11 290 RX3 "WhoSitsBy$Pupil" ⟨"WhoSitsBy$Pupil", "tells", "(ILWhoSitsBy$Trace;)I"⟩ yX4_tells wsX4_tells) := goodIn_app (goodIn_of _ (by decide +kernel)) ggX11_act_X4_tells
set_option maxRecDepth 20000 in
theorem gX11_act_X4_tells : GoodIn wsX11_act (wsV RX11 290 RX4 yX4_tells wsX4_tells) := goodIn_app (goodIn_of _ (by decide +kernel)) ggX11_act_X4_tells
set_option maxRecDepth 20000 in
theorem gX11_act_X4_tells_u290X8 : GoodIn wsX11_act (va_wsU RX11 290 RX8 "WhoSitsBy$Pupil" ⟨"WhoSitsBy$Pupil", "tells", "(ILWhoSitsBy$Trace;)I"⟩ yX4_tells wsX4_tells) := goodIn_app (goodIn_of _ (by decide +kernel)) ggX11_act_X4_tells
set_option maxRecDepth 20000 in
theorem gX11_act_X10_tells_u290X10 : GoodIn wsX11_act (va_wsO RX11 290 RX10 "WhoSitsBy$Pupil" ⟨"WhoSitsBy$Pupil", "tells", "(ILWhoSitsBy$Trace;)I"⟩ yX10_tells wsX10_tells) := goodIn_app (goodIn_of _ (by decide +kernel)) ggX11_act_X10_tells
theorem dX11_act_0 : decode cX11_act 0 = .ok (.aload_n 0, 1) := by decide +kernel
theorem dX11_act_1 : decode cX11_act 1 = .ok (.getfield 46, 3) := by decide +kernel
theorem dX11_act_4 : decode cX11_act 4 = .ok (.invokevirtual 280, 3) := by decide +kernel
theorem dX11_act_7 : decode cX11_act 7 = .ok (.aload_n 0, 1) := by decide +kernel
theorem dX11_act_8 : decode cX11_act 8 = .ok (.getfield 12, 3) := by decide +kernel
theorem dX11_act_11 : decode cX11_act 11 = .ok (.iload_n 1, 1) := by decide +kernel
theorem dX11_act_12 : decode cX11_act 12 = .ok (.invokevirtual 82, 3) := by decide +kernel
theorem dX11_act_15 : decode cX11_act 15 = .ok (.astore 4, 2) := by decide +kernel
theorem dX11_act_17 : decode cX11_act 17 = .ok (.aload 4, 2) := by decide +kernel
theorem dX11_act_19 : decode cX11_act 19 = .ok (.ifnonnull 5, 3) := by decide +kernel
theorem dX11_act_22 : decode cX11_act 22 = .ok (.iconst 0, 1) := by decide +kernel
theorem dX11_act_23 : decode cX11_act 23 = .ok (.ireturn, 1) := by decide +kernel
theorem dX11_act_24 : decode cX11_act 24 = .ok (.iload_n 2, 1) := by decide +kernel
theorem dX11_act_25 : decode cX11_act 25 = .ok (.tableswitch 60 0 2 #[27, 38, 49], 27) := by decide +kernel
theorem dX11_act_52 : decode cX11_act 52 = .ok (.aload 4, 2) := by decide +kernel
theorem dX11_act_54 : decode cX11_act 54 = .ok (.iload_n 3, 1) := by decide +kernel
theorem dX11_act_55 : decode cX11_act 55 = .ok (.aload_n 0, 1) := by decide +kernel
theorem dX11_act_56 : decode cX11_act 56 = .ok (.getfield 46, 3) := by decide +kernel
theorem dX11_act_59 : decode cX11_act 59 = .ok (.invokevirtual 283, 3) := by decide +kernel
theorem dX11_act_62 : decode cX11_act 62 = .ok (.ireturn, 1) := by decide +kernel
theorem dX11_act_63 : decode cX11_act 63 = .ok (.aload 4, 2) := by decide +kernel
theorem dX11_act_65 : decode cX11_act 65 = .ok (.iload_n 3, 1) := by decide +kernel
theorem dX11_act_66 : decode cX11_act 66 = .ok (.aload_n 0, 1) := by decide +kernel
theorem dX11_act_67 : decode cX11_act 67 = .ok (.getfield 46, 3) := by decide +kernel
theorem dX11_act_70 : decode cX11_act 70 = .ok (.invokevirtual 287, 3) := by decide +kernel
theorem dX11_act_73 : decode cX11_act 73 = .ok (.ireturn, 1) := by decide +kernel
theorem dX11_act_74 : decode cX11_act 74 = .ok (.aload 4, 2) := by decide +kernel
theorem dX11_act_76 : decode cX11_act 76 = .ok (.iload_n 3, 1) := by decide +kernel
theorem dX11_act_77 : decode cX11_act 77 = .ok (.aload_n 0, 1) := by decide +kernel
theorem dX11_act_78 : decode cX11_act 78 = .ok (.getfield 46, 3) := by decide +kernel
theorem dX11_act_81 : decode cX11_act 81 = .ok (.invokevirtual 290, 3) := by decide +kernel
theorem dX11_act_84 : decode cX11_act 84 = .ok (.ireturn, 1) := by decide +kernel
theorem dX11_act_85 : decode cX11_act 85 = .ok (.iconst 0, 1) := by decide +kernel
theorem dX11_act_86 : decode cX11_act 86 = .ok (.ireturn, 1) := by decide +kernel
set_option maxRecDepth 20000 in
theorem ggX11_trace_X9_body : GoodIn wsX11_trace wsX9_body := goodIn_r _ [6, 7, 8, 23, 24] (by decide +kernel) (by decide +kernel)
set_option maxRecDepth 20000 in
theorem gX11_trace_X9_body : GoodIn wsX11_trace (wsV RX11 293 RX9 yX9_body wsX9_body) := goodIn_app (goodIn_of _ (by decide +kernel)) ggX11_trace_X9_body
theorem dX11_trace_0 : decode cX11_trace 0 = .ok (.aload_n 0, 1) := by decide +kernel
theorem dX11_trace_1 : decode cX11_trace 1 = .ok (.getfield 46, 3) := by decide +kernel
theorem dX11_trace_4 : decode cX11_trace 4 = .ok (.iload_n 1, 1) := by decide +kernel
theorem dX11_trace_5 : decode cX11_trace 5 = .ok (.invokevirtual 293, 3) := by decide +kernel
theorem dX11_trace_8 : decode cX11_trace 8 = .ok (.ireturn, 1) := by decide +kernel
set_option maxRecDepth 20000 in
theorem ggX11_taken_X7_at : GoodIn wsX11_taken wsX7_at := goodIn_r _ [6, 7, 8, 65, 66, 67, 68, 69, 70, 71] (by decide +kernel) (by decide +kernel)
set_option maxRecDepth 20000 in
theorem gX11_taken_X7_at : GoodIn wsX11_taken (wsV RX11 82 RX7 yX7_at wsX7_at) := goodIn_app (goodIn_of _ (by decide +kernel)) ggX11_taken_X7_at
set_option maxRecDepth 20000 in
theorem ggX11_taken_X11_isOfKind : GoodIn wsX11_taken wsX11_isOfKind := goodIn_r _ [12, 13, 14, 15, 16, 17, 18] (by decide +kernel) (by decide +kernel)
set_option maxRecDepth 20000 in
theorem gX11_taken_X11_isOfKind : GoodIn wsX11_taken (va_wsS RX11 296 yX11_isOfKind wsX11_isOfKind) := goodIn_app (goodIn_of _ (by decide +kernel)) ggX11_taken_X11_isOfKind
set_option maxRecDepth 20000 in
theorem ggX11_taken_X0_kind : GoodIn wsX11_taken wsX0_kind := goodIn_r _ [25] (by decide +kernel) (by decide +kernel)
set_option maxRecDepth 20000 in
theorem gX11_taken_X0_kind_u86X0 : GoodIn wsX11_taken (va_wsO RX11 86 RX0 "WhoSitsBy$Pupil" ⟨"WhoSitsBy$Pupil", "kind", "()I"⟩ yX0_kind wsX0_kind) := goodIn_app (goodIn_of _ (by decide +kernel)) ggX11_taken_X0_kind
set_option maxRecDepth 20000 in
theorem ggX11_taken_X1_kind : GoodIn wsX11_taken wsX1_kind := goodIn_r _ [30] (by decide +kernel) (by decide +kernel)
set_option maxRecDepth 20000 in
theorem gX11_taken_X1_kind_u86X1 : GoodIn wsX11_taken (va_wsO RX11 86 RX1 "WhoSitsBy$Pupil" ⟨"WhoSitsBy$Pupil", "kind", "()I"⟩ yX1_kind wsX1_kind) := goodIn_app (goodIn_of _ (by decide +kernel)) ggX11_taken_X1_kind
set_option maxRecDepth 20000 in
theorem ggX11_taken_X2_kind : GoodIn wsX11_taken wsX2_kind := goodIn_r _ [34] (by decide +kernel) (by decide +kernel)
set_option maxRecDepth 20000 in
theorem gX11_taken_X2_kind_u86X2 : GoodIn wsX11_taken (va_wsO RX11 86 RX2 "WhoSitsBy$Pupil" ⟨"WhoSitsBy$Pupil", "kind", "()I"⟩ yX2_kind wsX2_kind) := goodIn_app (goodIn_of _ (by decide +kernel)) ggX11_taken_X2_kind
set_option maxRecDepth 20000 in
theorem ggX11_taken_X3_kind : GoodIn wsX11_taken wsX3_kind := goodIn_r _ [38] (by decide +kernel) (by decide +kernel)
set_option maxRecDepth 20000 in
theorem gX11_taken_X3_kind_u86X3 : GoodIn wsX11_taken (va_wsO RX11 86 RX3 "WhoSitsBy$Pupil" ⟨"WhoSitsBy$Pupil", "kind", "()I"⟩ yX3_kind wsX3_kind) := goodIn_app (goodIn_of _ (by decide +kernel)) ggX11_taken_X3_kind
set_option maxRecDepth 20000 in
theorem ggX11_taken_X4_kind : GoodIn wsX11_taken wsX4_kind := goodIn_r _ [26] (by decide +kernel) (by decide +kernel)
set_option maxRecDepth 20000 in
theorem gX11_taken_X4_kind : GoodIn wsX11_taken (wsV RX11 86 RX4 yX4_kind wsX4_kind) := goodIn_app (goodIn_of _ (by decide +kernel)) ggX11_taken_X4_kind
set_option maxRecDepth 20000 in
theorem ggX11_taken_X8_kind : GoodIn wsX11_taken wsX8_kind := goodIn_r _ [46] (by decide +kernel) (by decide +kernel)
set_option maxRecDepth 20000 in
theorem gX11_taken_X8_kind_u86X8 : GoodIn wsX11_taken (va_wsO RX11 86 RX8 "WhoSitsBy$Pupil" ⟨"WhoSitsBy$Pupil", "kind", "()I"⟩ yX8_kind wsX8_kind) := goodIn_app (goodIn_of _ (by decide +kernel)) ggX11_taken_X8_kind
set_option maxRecDepth 20000 in
theorem ggX11_taken_X10_kind : GoodIn wsX11_taken wsX10_kind := goodIn_r _ [50] (by decide +kernel) (by decide +kernel)
set_option maxRecDepth 20000 in
theorem gX11_taken_X10_kind_u86X10 : GoodIn wsX11_taken (va_wsO RX11 86 RX10 "WhoSitsBy$Pupil" ⟨"WhoSitsBy$Pupil", "kind", "()I"⟩ yX10_kind wsX10_kind) := goodIn_app (goodIn_of _ (by decide +kernel)) ggX11_taken_X10_kind
theorem dX11_taken_0 : decode cX11_taken 0 = .ok (.iload_n 2, 1) := by decide +kernel
theorem dX11_taken_1 : decode cX11_taken 1 = .ok (.ifCond .lt 9, 3) := by decide +kernel
theorem dX11_taken_4 : decode cX11_taken 4 = .ok (.iload_n 2, 1) := by decide +kernel
theorem dX11_taken_5 : decode cX11_taken 5 = .ok (.bipush 6, 2) := by decide +kernel
theorem dX11_taken_7 : decode cX11_taken 7 = .ok (.if_icmp .le 6, 3) := by decide +kernel
theorem dX11_taken_10 : decode cX11_taken 10 = .ok (.bipush (-2), 2) := by decide +kernel
theorem dX11_taken_12 : decode cX11_taken 12 = .ok (.ireturn, 1) := by decide +kernel
theorem dX11_taken_13 : decode cX11_taken 13 = .ok (.aload_n 0, 1) := by decide +kernel
theorem dX11_taken_14 : decode cX11_taken 14 = .ok (.getfield 12, 3) := by decide +kernel
theorem dX11_taken_17 : decode cX11_taken 17 = .ok (.iload_n 1, 1) := by decide +kernel
theorem dX11_taken_18 : decode cX11_taken 18 = .ok (.invokevirtual 82, 3) := by decide +kernel
theorem dX11_taken_21 : decode cX11_taken 21 = .ok (.astore_n 3, 1) := by decide +kernel
theorem dX11_taken_22 : decode cX11_taken 22 = .ok (.aload_n 3, 1) := by decide +kernel
theorem dX11_taken_23 : decode cX11_taken 23 = .ok (.ifnonnull 6, 3) := by decide +kernel
theorem dX11_taken_26 : decode cX11_taken 26 = .ok (.bipush (-11), 2) := by decide +kernel
theorem dX11_taken_28 : decode cX11_taken 28 = .ok (.ireturn, 1) := by decide +kernel
theorem dX11_taken_29 : decode cX11_taken 29 = .ok (.aload_n 3, 1) := by decide +kernel
theorem dX11_taken_30 : decode cX11_taken 30 = .ok (.iload_n 2, 1) := by decide +kernel
theorem dX11_taken_31 : decode cX11_taken 31 = .ok (.invokestatic 296, 3) := by decide +kernel
theorem dX11_taken_34 : decode cX11_taken 34 = .ok (.ifCond .eq 10, 3) := by decide +kernel
theorem dX11_taken_37 : decode cX11_taken 37 = .ok (.aload_n 3, 1) := by decide +kernel
theorem dX11_taken_38 : decode cX11_taken 38 = .ok (.invokevirtual 86, 3) := by decide +kernel
theorem dX11_taken_41 : decode cX11_taken 41 = .ok (.goto 5, 3) := by decide +kernel
theorem dX11_taken_44 : decode cX11_taken 44 = .ok (.bipush (-12), 2) := by decide +kernel
theorem dX11_taken_46 : decode cX11_taken 46 = .ok (.ireturn, 1) := by decide +kernel
set_option maxRecDepth 20000 in
theorem ggX11_count_J13_bitCount_95d88 : GoodIn wsX11_count wsJ13_bitCount_95d88 := goodIn_r _ [11, 12, 13, 14] (by decide +kernel) (by decide +kernel)
set_option maxRecDepth 20000 in
theorem gX11_count_J13_bitCount_95d88 : GoodIn wsX11_count (va_wsS RX11 240 yJ13_bitCount_95d88 wsJ13_bitCount_95d88) := goodIn_app (goodIn_of _ (by decide +kernel)) ggX11_count_J13_bitCount_95d88
theorem dX11_count_0 : decode cX11_count 0 = .ok (.iload_n 1, 1) := by decide +kernel
theorem dX11_count_1 : decode cX11_count 1 = .ok (.tableswitch 72 0 4 #[35, 43, 48, 59, 64], 35) := by decide +kernel
theorem dX11_count_36 : decode cX11_count 36 = .ok (.aload_n 0, 1) := by decide +kernel
theorem dX11_count_37 : decode cX11_count 37 = .ok (.getfield 12, 3) := by decide +kernel
theorem dX11_count_40 : decode cX11_count 40 = .ok (.getfield 66, 3) := by decide +kernel
theorem dX11_count_43 : decode cX11_count 43 = .ok (.ireturn, 1) := by decide +kernel
theorem dX11_count_44 : decode cX11_count 44 = .ok (.aload_n 0, 1) := by decide +kernel
theorem dX11_count_45 : decode cX11_count 45 = .ok (.getfield 139, 3) := by decide +kernel
theorem dX11_count_48 : decode cX11_count 48 = .ok (.ireturn, 1) := by decide +kernel
theorem dX11_count_49 : decode cX11_count 49 = .ok (.aload_n 0, 1) := by decide +kernel
theorem dX11_count_50 : decode cX11_count 50 = .ok (.getfield 12, 3) := by decide +kernel
theorem dX11_count_53 : decode cX11_count 53 = .ok (.getfield 236, 3) := by decide +kernel
theorem dX11_count_56 : decode cX11_count 56 = .ok (.invokestatic 240, 3) := by decide +kernel
theorem dX11_count_59 : decode cX11_count 59 = .ok (.ireturn, 1) := by decide +kernel
theorem dX11_count_60 : decode cX11_count 60 = .ok (.aload_n 0, 1) := by decide +kernel
theorem dX11_count_61 : decode cX11_count 61 = .ok (.getfield 136, 3) := by decide +kernel
theorem dX11_count_64 : decode cX11_count 64 = .ok (.ireturn, 1) := by decide +kernel
theorem dX11_count_65 : decode cX11_count 65 = .ok (.aload_n 0, 1) := by decide +kernel
theorem dX11_count_66 : decode cX11_count 66 = .ok (.getfield 46, 3) := by decide +kernel
theorem dX11_count_69 : decode cX11_count 69 = .ok (.getfield 300, 3) := by decide +kernel
theorem dX11_count_72 : decode cX11_count 72 = .ok (.ireturn, 1) := by decide +kernel
theorem dX11_count_73 : decode cX11_count 73 = .ok (.bipush (-2), 2) := by decide +kernel
theorem dX11_count_75 : decode cX11_count 75 = .ok (.ireturn, 1) := by decide +kernel
set_option maxRecDepth 20000 in
theorem ggX11_tape_X11_isTape : GoodIn wsX11_tape wsX11_isTape := goodIn_r _ [7] (by decide +kernel) (by decide +kernel)
set_option maxRecDepth 20000 in
theorem gX11_tape_X11_isTape : GoodIn wsX11_tape (va_wsS RX11 266 yX11_isTape wsX11_isTape) := goodIn_app (goodIn_of _ (by decide +kernel)) ggX11_tape_X11_isTape
theorem dX11_tape_0 : decode cX11_tape 0 = .ok (.iload_n 1, 1) := by decide +kernel
theorem dX11_tape_1 : decode cX11_tape 1 = .ok (.invokestatic 266, 3) := by decide +kernel
theorem dX11_tape_4 : decode cX11_tape 4 = .ok (.ifCond .ne 5, 3) := by decide +kernel
theorem dX11_tape_7 : decode cX11_tape 7 = .ok (.iconst (-1), 1) := by decide +kernel
theorem dX11_tape_8 : decode cX11_tape 8 = .ok (.ireturn, 1) := by decide +kernel
theorem dX11_tape_9 : decode cX11_tape 9 = .ok (.iload_n 2, 1) := by decide +kernel
theorem dX11_tape_10 : decode cX11_tape 10 = .ok (.iconst (-1), 1) := by decide +kernel
theorem dX11_tape_11 : decode cX11_tape 11 = .ok (.if_icmp .lt 19, 3) := by decide +kernel
theorem dX11_tape_14 : decode cX11_tape 14 = .ok (.iload_n 2, 1) := by decide +kernel
theorem dX11_tape_15 : decode cX11_tape 15 = .ok (.iconst 4, 1) := by decide +kernel
theorem dX11_tape_16 : decode cX11_tape 16 = .ok (.if_icmp .gt 14, 3) := by decide +kernel
theorem dX11_tape_19 : decode cX11_tape 19 = .ok (.iload_n 2, 1) := by decide +kernel
theorem dX11_tape_20 : decode cX11_tape 20 = .ok (.iconst (-1), 1) := by decide +kernel
theorem dX11_tape_21 : decode cX11_tape 21 = .ok (.if_icmp .eq 12, 3) := by decide +kernel
theorem dX11_tape_24 : decode cX11_tape 24 = .ok (.iload_n 3, 1) := by decide +kernel
theorem dX11_tape_25 : decode cX11_tape 25 = .ok (.bipush 60, 2) := by decide +kernel
theorem dX11_tape_27 : decode cX11_tape 27 = .ok (.if_icmp .le 6, 3) := by decide +kernel
theorem dX11_tape_30 : decode cX11_tape 30 = .ok (.bipush (-2), 2) := by decide +kernel
theorem dX11_tape_32 : decode cX11_tape 32 = .ok (.ireturn, 1) := by decide +kernel
theorem dX11_tape_33 : decode cX11_tape 33 = .ok (.iload_n 2, 1) := by decide +kernel
theorem dX11_tape_34 : decode cX11_tape 34 = .ok (.iconst (-1), 1) := by decide +kernel
theorem dX11_tape_35 : decode cX11_tape 35 = .ok (.if_icmp .eq 10, 3) := by decide +kernel
theorem dX11_tape_38 : decode cX11_tape 38 = .ok (.iload_n 3, 1) := by decide +kernel
theorem dX11_tape_39 : decode cX11_tape 39 = .ok (.ifCond .ge 6, 3) := by decide +kernel
theorem dX11_tape_42 : decode cX11_tape 42 = .ok (.bipush (-14), 2) := by decide +kernel
theorem dX11_tape_44 : decode cX11_tape 44 = .ok (.ireturn, 1) := by decide +kernel
theorem dX11_tape_45 : decode cX11_tape 45 = .ok (.aload_n 0, 1) := by decide +kernel
theorem dX11_tape_46 : decode cX11_tape 46 = .ok (.getfield 55, 3) := by decide +kernel
theorem dX11_tape_49 : decode cX11_tape 49 = .ok (.iload_n 1, 1) := by decide +kernel
theorem dX11_tape_50 : decode cX11_tape 50 = .ok (.iload_n 2, 1) := by decide +kernel
theorem dX11_tape_51 : decode cX11_tape 51 = .ok (.iastore, 1) := by decide +kernel
theorem dX11_tape_52 : decode cX11_tape 52 = .ok (.aload_n 0, 1) := by decide +kernel
theorem dX11_tape_53 : decode cX11_tape 53 = .ok (.getfield 59, 3) := by decide +kernel
theorem dX11_tape_56 : decode cX11_tape 56 = .ok (.iload_n 1, 1) := by decide +kernel
theorem dX11_tape_57 : decode cX11_tape 57 = .ok (.iload_n 2, 1) := by decide +kernel
theorem dX11_tape_58 : decode cX11_tape 58 = .ok (.iconst (-1), 1) := by decide +kernel
theorem dX11_tape_59 : decode cX11_tape 59 = .ok (.if_icmp .ne 7, 3) := by decide +kernel
theorem dX11_tape_62 : decode cX11_tape 62 = .ok (.iconst 0, 1) := by decide +kernel
theorem dX11_tape_63 : decode cX11_tape 63 = .ok (.goto 4, 3) := by decide +kernel
theorem dX11_tape_66 : decode cX11_tape 66 = .ok (.iload_n 3, 1) := by decide +kernel
theorem dX11_tape_67 : decode cX11_tape 67 = .ok (.iastore, 1) := by decide +kernel
theorem dX11_tape_68 : decode cX11_tape 68 = .ok (.iconst 0, 1) := by decide +kernel
theorem dX11_tape_69 : decode cX11_tape 69 = .ok (.istore 4, 2) := by decide +kernel
theorem dX11_tape_71 : decode cX11_tape 71 = .ok (.iload 4, 2) := by decide +kernel
theorem dX11_tape_73 : decode cX11_tape 73 = .ok (.aload_n 0, 1) := by decide +kernel
theorem dX11_tape_74 : decode cX11_tape 74 = .ok (.getfield 52, 3) := by decide +kernel
theorem dX11_tape_77 : decode cX11_tape 77 = .ok (.iload_n 1, 1) := by decide +kernel
theorem dX11_tape_78 : decode cX11_tape 78 = .ok (.aaload, 1) := by decide +kernel
theorem dX11_tape_79 : decode cX11_tape 79 = .ok (.arraylength, 1) := by decide +kernel
theorem dX11_tape_80 : decode cX11_tape 80 = .ok (.if_icmp .ge 19, 3) := by decide +kernel
theorem dX11_tape_83 : decode cX11_tape 83 = .ok (.aload_n 0, 1) := by decide +kernel
theorem dX11_tape_84 : decode cX11_tape 84 = .ok (.getfield 52, 3) := by decide +kernel
theorem dX11_tape_87 : decode cX11_tape 87 = .ok (.iload_n 1, 1) := by decide +kernel
theorem dX11_tape_88 : decode cX11_tape 88 = .ok (.aaload, 1) := by decide +kernel
theorem dX11_tape_89 : decode cX11_tape 89 = .ok (.iload 4, 2) := by decide +kernel
theorem dX11_tape_91 : decode cX11_tape 91 = .ok (.lconst 0, 1) := by decide +kernel
theorem dX11_tape_92 : decode cX11_tape 92 = .ok (.lastore, 1) := by decide +kernel
theorem dX11_tape_93 : decode cX11_tape 93 = .ok (.iinc 4 1, 3) := by decide +kernel
theorem dX11_tape_96 : decode cX11_tape 96 = .ok (.goto (-25), 3) := by decide +kernel
theorem dX11_tape_99 : decode cX11_tape 99 = .ok (.iconst 1, 1) := by decide +kernel
theorem dX11_tape_100 : decode cX11_tape 100 = .ok (.ireturn, 1) := by decide +kernel
set_option maxRecDepth 20000 in
theorem ggX11_item_X11_isTape : GoodIn wsX11_item wsX11_isTape := goodIn_r _ [6] (by decide +kernel) (by decide +kernel)
set_option maxRecDepth 20000 in
theorem gX11_item_X11_isTape : GoodIn wsX11_item (va_wsS RX11 266 yX11_isTape wsX11_isTape) := goodIn_app (goodIn_of _ (by decide +kernel)) ggX11_item_X11_isTape
set_option maxRecDepth 20000 in
theorem ggX11_item_X11_isPlace : GoodIn wsX11_item wsX11_isPlace := goodIn_r _ [10, 11, 2, 3, 4, 5, 6, 15, 16, 17, 18, 19, 20, 21, 22, 23, 24, 25, 26, 27, 28] (by decide +kernel) (by decide +kernel)
set_option maxRecDepth 20000 in
theorem gX11_item_X11_isPlace : GoodIn wsX11_item (wsV RX11 269 RX11 yX11_isPlace wsX11_isPlace) := goodIn_app (goodIn_of _ (by decide +kernel)) ggX11_item_X11_isPlace
set_option maxRecDepth 20000 in
theorem ggX11_item_X11_asSort : GoodIn wsX11_item wsX11_asSort := goodIn_r _ [14] (by decide +kernel) (by decide +kernel)
set_option maxRecDepth 20000 in
theorem gX11_item_X11_asSort : GoodIn wsX11_item (va_wsS RX11 303 yX11_asSort wsX11_asSort) := goodIn_app (goodIn_of _ (by decide +kernel)) ggX11_item_X11_asSort
theorem dX11_item_0 : decode cX11_item 0 = .ok (.iload_n 1, 1) := by decide +kernel
theorem dX11_item_1 : decode cX11_item 1 = .ok (.invokestatic 266, 3) := by decide +kernel
theorem dX11_item_4 : decode cX11_item 4 = .ok (.ifCond .ne 5, 3) := by decide +kernel
theorem dX11_item_7 : decode cX11_item 7 = .ok (.iconst (-1), 1) := by decide +kernel
theorem dX11_item_8 : decode cX11_item 8 = .ok (.ireturn, 1) := by decide +kernel
theorem dX11_item_9 : decode cX11_item 9 = .ok (.aload_n 0, 1) := by decide +kernel
theorem dX11_item_10 : decode cX11_item 10 = .ok (.getfield 55, 3) := by decide +kernel
theorem dX11_item_13 : decode cX11_item 13 = .ok (.iload_n 1, 1) := by decide +kernel
theorem dX11_item_14 : decode cX11_item 14 = .ok (.iaload, 1) := by decide +kernel
theorem dX11_item_15 : decode cX11_item 15 = .ok (.iconst (-1), 1) := by decide +kernel
theorem dX11_item_16 : decode cX11_item 16 = .ok (.if_icmp .ne 6, 3) := by decide +kernel
theorem dX11_item_19 : decode cX11_item 19 = .ok (.bipush (-11), 2) := by decide +kernel
theorem dX11_item_21 : decode cX11_item 21 = .ok (.ireturn, 1) := by decide +kernel
theorem dX11_item_22 : decode cX11_item 22 = .ok (.aload_n 0, 1) := by decide +kernel
theorem dX11_item_23 : decode cX11_item 23 = .ok (.iload_n 1, 1) := by decide +kernel
theorem dX11_item_24 : decode cX11_item 24 = .ok (.iload_n 2, 1) := by decide +kernel
theorem dX11_item_25 : decode cX11_item 25 = .ok (.invokevirtual 269, 3) := by decide +kernel
theorem dX11_item_28 : decode cX11_item 28 = .ok (.ifCond .ne 6, 3) := by decide +kernel
theorem dX11_item_31 : decode cX11_item 31 = .ok (.bipush (-13), 2) := by decide +kernel
theorem dX11_item_33 : decode cX11_item 33 = .ok (.ireturn, 1) := by decide +kernel
theorem dX11_item_34 : decode cX11_item 34 = .ok (.aload_n 0, 1) := by decide +kernel
theorem dX11_item_35 : decode cX11_item 35 = .ok (.getfield 52, 3) := by decide +kernel
theorem dX11_item_38 : decode cX11_item 38 = .ok (.iload_n 1, 1) := by decide +kernel
theorem dX11_item_39 : decode cX11_item 39 = .ok (.aaload, 1) := by decide +kernel
theorem dX11_item_40 : decode cX11_item 40 = .ok (.iload_n 2, 1) := by decide +kernel
theorem dX11_item_41 : decode cX11_item 41 = .ok (.aload_n 0, 1) := by decide +kernel
theorem dX11_item_42 : decode cX11_item 42 = .ok (.getfield 55, 3) := by decide +kernel
theorem dX11_item_45 : decode cX11_item 45 = .ok (.iload_n 1, 1) := by decide +kernel
theorem dX11_item_46 : decode cX11_item 46 = .ok (.iaload, 1) := by decide +kernel
theorem dX11_item_47 : decode cX11_item 47 = .ok (.lload_n 3, 1) := by decide +kernel
theorem dX11_item_48 : decode cX11_item 48 = .ok (.invokestatic 303, 3) := by decide +kernel
theorem dX11_item_51 : decode cX11_item 51 = .ok (.lastore, 1) := by decide +kernel
theorem dX11_item_52 : decode cX11_item 52 = .ok (.iconst 1, 1) := by decide +kernel
theorem dX11_item_53 : decode cX11_item 53 = .ok (.ireturn, 1) := by decide +kernel
set_option maxRecDepth 20000 in
theorem ggX11_read_X11_isTape : GoodIn wsX11_read wsX11_isTape := goodIn_r _ [6] (by decide +kernel) (by decide +kernel)
set_option maxRecDepth 20000 in
theorem gX11_read_X11_isTape : GoodIn wsX11_read (va_wsS RX11 266 yX11_isTape wsX11_isTape) := goodIn_app (goodIn_of _ (by decide +kernel)) ggX11_read_X11_isTape
set_option maxRecDepth 20000 in
theorem ggX11_read_X11_isPlace : GoodIn wsX11_read wsX11_isPlace := goodIn_r _ [10, 11, 1, 3, 4, 5, 6, 12, 13, 14, 15, 16, 17, 18, 19, 20, 21, 22, 23, 24, 25] (by decide +kernel) (by decide +kernel)
set_option maxRecDepth 20000 in
theorem gX11_read_X11_isPlace : GoodIn wsX11_read (wsV RX11 269 RX11 yX11_isPlace wsX11_isPlace) := goodIn_app (goodIn_of _ (by decide +kernel)) ggX11_read_X11_isPlace
theorem dX11_read_0 : decode cX11_read 0 = .ok (.iload_n 1, 1) := by decide +kernel
theorem dX11_read_1 : decode cX11_read 1 = .ok (.invokestatic 266, 3) := by decide +kernel
theorem dX11_read_4 : decode cX11_read 4 = .ok (.ifCond .eq 23, 3) := by decide +kernel
theorem dX11_read_7 : decode cX11_read 7 = .ok (.aload_n 0, 1) := by decide +kernel
theorem dX11_read_8 : decode cX11_read 8 = .ok (.iload_n 1, 1) := by decide +kernel
theorem dX11_read_9 : decode cX11_read 9 = .ok (.iload_n 2, 1) := by decide +kernel
theorem dX11_read_10 : decode cX11_read 10 = .ok (.invokevirtual 269, 3) := by decide +kernel
theorem dX11_read_13 : decode cX11_read 13 = .ok (.ifCond .eq 14, 3) := by decide +kernel
theorem dX11_read_16 : decode cX11_read 16 = .ok (.aload_n 0, 1) := by decide +kernel
theorem dX11_read_17 : decode cX11_read 17 = .ok (.getfield 52, 3) := by decide +kernel
theorem dX11_read_20 : decode cX11_read 20 = .ok (.iload_n 1, 1) := by decide +kernel
theorem dX11_read_21 : decode cX11_read 21 = .ok (.aaload, 1) := by decide +kernel
theorem dX11_read_22 : decode cX11_read 22 = .ok (.iload_n 2, 1) := by decide +kernel
theorem dX11_read_23 : decode cX11_read 23 = .ok (.laload, 1) := by decide +kernel
theorem dX11_read_24 : decode cX11_read 24 = .ok (.goto 6, 3) := by decide +kernel
theorem dX11_read_27 : decode cX11_read 27 = .ok (.ldc2_w 244, 3) := by decide +kernel
theorem dX11_read_30 : decode cX11_read 30 = .ok (.lreturn, 1) := by decide +kernel
set_option maxRecDepth 20000 in
theorem ggX11_shift_X11_isTape : GoodIn wsX11_shift wsX11_isTape := goodIn_r _ [10] (by decide +kernel) (by decide +kernel)
set_option maxRecDepth 20000 in
theorem gX11_shift_X11_isTape : GoodIn wsX11_shift (va_wsS RX11 266 yX11_isTape wsX11_isTape) := goodIn_app (goodIn_of _ (by decide +kernel)) ggX11_shift_X11_isTape
set_option maxRecDepth 20000 in
theorem ggX11_shift_X11_isStretch : GoodIn wsX11_shift wsX11_isStretch := goodIn_r _ [14, 15, 2, 7, 8, 9, 10, 16, 17, 18, 19, 20, 21, 22, 23, 24, 25, 26, 27, 28, 29] (by decide +kernel) (by decide +kernel)
set_option maxRecDepth 20000 in
theorem gX11_shift_X11_isStretch : GoodIn wsX11_shift (wsV RX11 307 RX11 yX11_isStretch wsX11_isStretch) := goodIn_app (goodIn_of _ (by decide +kernel)) ggX11_shift_X11_isStretch
theorem dX11_shift_0 : decode cX11_shift 0 = .ok (.iload_n 1, 1) := by decide +kernel
theorem dX11_shift_1 : decode cX11_shift 1 = .ok (.invokestatic 266, 3) := by decide +kernel
theorem dX11_shift_4 : decode cX11_shift 4 = .ok (.ifCond .eq 10, 3) := by decide +kernel
theorem dX11_shift_7 : decode cX11_shift 7 = .ok (.iload_n 3, 1) := by decide +kernel
theorem dX11_shift_8 : decode cX11_shift 8 = .ok (.invokestatic 266, 3) := by decide +kernel
theorem dX11_shift_11 : decode cX11_shift 11 = .ok (.ifCond .ne 5, 3) := by decide +kernel
theorem dX11_shift_14 : decode cX11_shift 14 = .ok (.iconst (-1), 1) := by decide +kernel
theorem dX11_shift_15 : decode cX11_shift 15 = .ok (.ireturn, 1) := by decide +kernel
theorem dX11_shift_16 : decode cX11_shift 16 = .ok (.aload_n 0, 1) := by decide +kernel
theorem dX11_shift_17 : decode cX11_shift 17 = .ok (.getfield 55, 3) := by decide +kernel
theorem dX11_shift_20 : decode cX11_shift 20 = .ok (.iload_n 1, 1) := by decide +kernel
theorem dX11_shift_21 : decode cX11_shift 21 = .ok (.iaload, 1) := by decide +kernel
theorem dX11_shift_22 : decode cX11_shift 22 = .ok (.iconst (-1), 1) := by decide +kernel
theorem dX11_shift_23 : decode cX11_shift 23 = .ok (.if_icmp .eq 13, 3) := by decide +kernel
theorem dX11_shift_26 : decode cX11_shift 26 = .ok (.aload_n 0, 1) := by decide +kernel
theorem dX11_shift_27 : decode cX11_shift 27 = .ok (.getfield 55, 3) := by decide +kernel
theorem dX11_shift_30 : decode cX11_shift 30 = .ok (.iload_n 3, 1) := by decide +kernel
theorem dX11_shift_31 : decode cX11_shift 31 = .ok (.iaload, 1) := by decide +kernel
theorem dX11_shift_32 : decode cX11_shift 32 = .ok (.iconst (-1), 1) := by decide +kernel
theorem dX11_shift_33 : decode cX11_shift 33 = .ok (.if_icmp .ne 6, 3) := by decide +kernel
theorem dX11_shift_36 : decode cX11_shift 36 = .ok (.bipush (-11), 2) := by decide +kernel
theorem dX11_shift_38 : decode cX11_shift 38 = .ok (.ireturn, 1) := by decide +kernel
theorem dX11_shift_39 : decode cX11_shift 39 = .ok (.aload_n 0, 1) := by decide +kernel
theorem dX11_shift_40 : decode cX11_shift 40 = .ok (.getfield 55, 3) := by decide +kernel
theorem dX11_shift_43 : decode cX11_shift 43 = .ok (.iload_n 1, 1) := by decide +kernel
theorem dX11_shift_44 : decode cX11_shift 44 = .ok (.iaload, 1) := by decide +kernel
theorem dX11_shift_45 : decode cX11_shift 45 = .ok (.aload_n 0, 1) := by decide +kernel
theorem dX11_shift_46 : decode cX11_shift 46 = .ok (.getfield 55, 3) := by decide +kernel
theorem dX11_shift_49 : decode cX11_shift 49 = .ok (.iload_n 3, 1) := by decide +kernel
theorem dX11_shift_50 : decode cX11_shift 50 = .ok (.iaload, 1) := by decide +kernel
theorem dX11_shift_51 : decode cX11_shift 51 = .ok (.if_icmp .eq 6, 3) := by decide +kernel
theorem dX11_shift_54 : decode cX11_shift 54 = .ok (.bipush (-12), 2) := by decide +kernel
theorem dX11_shift_56 : decode cX11_shift 56 = .ok (.ireturn, 1) := by decide +kernel
theorem dX11_shift_57 : decode cX11_shift 57 = .ok (.aload_n 0, 1) := by decide +kernel
theorem dX11_shift_58 : decode cX11_shift 58 = .ok (.iload_n 1, 1) := by decide +kernel
theorem dX11_shift_59 : decode cX11_shift 59 = .ok (.iload_n 2, 1) := by decide +kernel
theorem dX11_shift_60 : decode cX11_shift 60 = .ok (.iload 5, 2) := by decide +kernel
theorem dX11_shift_62 : decode cX11_shift 62 = .ok (.invokevirtual 307, 3) := by decide +kernel
theorem dX11_shift_65 : decode cX11_shift 65 = .ok (.ifCond .eq 15, 3) := by decide +kernel
theorem dX11_shift_68 : decode cX11_shift 68 = .ok (.aload_n 0, 1) := by decide +kernel
theorem dX11_shift_69 : decode cX11_shift 69 = .ok (.iload_n 3, 1) := by decide +kernel
theorem dX11_shift_70 : decode cX11_shift 70 = .ok (.iload 4, 2) := by decide +kernel
theorem dX11_shift_72 : decode cX11_shift 72 = .ok (.iload 5, 2) := by decide +kernel
theorem dX11_shift_74 : decode cX11_shift 74 = .ok (.invokevirtual 307, 3) := by decide +kernel
theorem dX11_shift_77 : decode cX11_shift 77 = .ok (.ifCond .ne 6, 3) := by decide +kernel
theorem dX11_shift_80 : decode cX11_shift 80 = .ok (.bipush (-13), 2) := by decide +kernel
theorem dX11_shift_82 : decode cX11_shift 82 = .ok (.ireturn, 1) := by decide +kernel
theorem dX11_shift_83 : decode cX11_shift 83 = .ok (.aload_n 0, 1) := by decide +kernel
theorem dX11_shift_84 : decode cX11_shift 84 = .ok (.getfield 52, 3) := by decide +kernel
theorem dX11_shift_87 : decode cX11_shift 87 = .ok (.iload_n 1, 1) := by decide +kernel
theorem dX11_shift_88 : decode cX11_shift 88 = .ok (.aaload, 1) := by decide +kernel
theorem dX11_shift_89 : decode cX11_shift 89 = .ok (.iload_n 2, 1) := by decide +kernel
theorem dX11_shift_90 : decode cX11_shift 90 = .ok (.aload_n 0, 1) := by decide +kernel
theorem dX11_shift_91 : decode cX11_shift 91 = .ok (.getfield 52, 3) := by decide +kernel
theorem dX11_shift_94 : decode cX11_shift 94 = .ok (.iload_n 3, 1) := by decide +kernel
theorem dX11_shift_95 : decode cX11_shift 95 = .ok (.aaload, 1) := by decide +kernel
theorem dX11_shift_96 : decode cX11_shift 96 = .ok (.iload 4, 2) := by decide +kernel
theorem dX11_shift_98 : decode cX11_shift 98 = .ok (.iload 5, 2) := by decide +kernel
theorem dX11_shift_100 : decode cX11_shift 100 = .ok (.invokestatic 311, 3) := by decide +kernel
theorem dX11_shift_103 : decode cX11_shift 103 = .ok (.iload 5, 2) := by decide +kernel
theorem dX11_shift_105 : decode cX11_shift 105 = .ok (.ireturn, 1) := by decide +kernel
theorem dX11_isDigit_0 : decode cX11_isDigit 0 = .ok (.iload_n 0, 1) := by decide +kernel
theorem dX11_isDigit_1 : decode cX11_isDigit 1 = .ok (.ifCond .lt 13, 3) := by decide +kernel
theorem dX11_isDigit_4 : decode cX11_isDigit 4 = .ok (.iload_n 0, 1) := by decide +kernel
theorem dX11_isDigit_5 : decode cX11_isDigit 5 = .ok (.bipush 9, 2) := by decide +kernel
theorem dX11_isDigit_7 : decode cX11_isDigit 7 = .ok (.if_icmp .gt 7, 3) := by decide +kernel
theorem dX11_isDigit_10 : decode cX11_isDigit 10 = .ok (.iconst 1, 1) := by decide +kernel
theorem dX11_isDigit_11 : decode cX11_isDigit 11 = .ok (.goto 4, 3) := by decide +kernel
theorem dX11_isDigit_14 : decode cX11_isDigit 14 = .ok (.iconst 0, 1) := by decide +kernel
theorem dX11_isDigit_15 : decode cX11_isDigit 15 = .ok (.ireturn, 1) := by decide +kernel
theorem dX11_orNobody_0 : decode cX11_orNobody 0 = .ok (.iload_n 0, 1) := by decide +kernel
theorem dX11_orNobody_1 : decode cX11_orNobody 1 = .ok (.ifCond .ge 8, 3) := by decide +kernel
theorem dX11_orNobody_4 : decode cX11_orNobody 4 = .ok (.bipush (-5), 2) := by decide +kernel
theorem dX11_orNobody_6 : decode cX11_orNobody 6 = .ok (.goto 4, 3) := by decide +kernel
theorem dX11_orNobody_9 : decode cX11_orNobody 9 = .ok (.iload_n 0, 1) := by decide +kernel
theorem dX11_orNobody_10 : decode cX11_orNobody 10 = .ok (.ireturn, 1) := by decide +kernel
theorem dX11_hasBit_0 : decode cX11_hasBit 0 = .ok (.iload_n 1, 1) := by decide +kernel
theorem dX11_hasBit_1 : decode cX11_hasBit 1 = .ok (.ifCond .lt 21, 3) := by decide +kernel
theorem dX11_hasBit_4 : decode cX11_hasBit 4 = .ok (.iload_n 1, 1) := by decide +kernel
theorem dX11_hasBit_5 : decode cX11_hasBit 5 = .ok (.bipush 8, 2) := by decide +kernel
theorem dX11_hasBit_7 : decode cX11_hasBit 7 = .ok (.if_icmp .ge 15, 3) := by decide +kernel
theorem dX11_hasBit_10 : decode cX11_hasBit 10 = .ok (.iload_n 0, 1) := by decide +kernel
theorem dX11_hasBit_11 : decode cX11_hasBit 11 = .ok (.iload_n 1, 1) := by decide +kernel
theorem dX11_hasBit_12 : decode cX11_hasBit 12 = .ok (.ishr, 1) := by decide +kernel
theorem dX11_hasBit_13 : decode cX11_hasBit 13 = .ok (.iconst 1, 1) := by decide +kernel
theorem dX11_hasBit_14 : decode cX11_hasBit 14 = .ok (.iand, 1) := by decide +kernel
theorem dX11_hasBit_15 : decode cX11_hasBit 15 = .ok (.ifCond .eq 7, 3) := by decide +kernel
theorem dX11_hasBit_18 : decode cX11_hasBit 18 = .ok (.iconst 1, 1) := by decide +kernel
theorem dX11_hasBit_19 : decode cX11_hasBit 19 = .ok (.goto 4, 3) := by decide +kernel
theorem dX11_hasBit_22 : decode cX11_hasBit 22 = .ok (.iconst 0, 1) := by decide +kernel
theorem dX11_hasBit_23 : decode cX11_hasBit 23 = .ok (.ireturn, 1) := by decide +kernel
theorem dX11_seatIn_0 : decode cX11_seatIn 0 = .ok (.iconst 0, 1) := by decide +kernel
theorem dX11_seatIn_1 : decode cX11_seatIn 1 = .ok (.istore_n 2, 1) := by decide +kernel
theorem dX11_seatIn_2 : decode cX11_seatIn 2 = .ok (.iload_n 2, 1) := by decide +kernel
theorem dX11_seatIn_3 : decode cX11_seatIn 3 = .ok (.aload_n 0, 1) := by decide +kernel
theorem dX11_seatIn_4 : decode cX11_seatIn 4 = .ok (.arraylength, 1) := by decide +kernel
theorem dX11_seatIn_5 : decode cX11_seatIn 5 = .ok (.if_icmp .ge 18, 3) := by decide +kernel
theorem dX11_seatIn_8 : decode cX11_seatIn 8 = .ok (.aload_n 0, 1) := by decide +kernel
theorem dX11_seatIn_9 : decode cX11_seatIn 9 = .ok (.iload_n 2, 1) := by decide +kernel
theorem dX11_seatIn_10 : decode cX11_seatIn 10 = .ok (.iaload, 1) := by decide +kernel
theorem dX11_seatIn_11 : decode cX11_seatIn 11 = .ok (.iload_n 1, 1) := by decide +kernel
theorem dX11_seatIn_12 : decode cX11_seatIn 12 = .ok (.if_icmp .ne 5, 3) := by decide +kernel
theorem dX11_seatIn_15 : decode cX11_seatIn 15 = .ok (.iload_n 2, 1) := by decide +kernel
theorem dX11_seatIn_16 : decode cX11_seatIn 16 = .ok (.ireturn, 1) := by decide +kernel
theorem dX11_seatIn_17 : decode cX11_seatIn 17 = .ok (.iinc 2 1, 3) := by decide +kernel
theorem dX11_seatIn_20 : decode cX11_seatIn 20 = .ok (.goto (-18), 3) := by decide +kernel
theorem dX11_seatIn_23 : decode cX11_seatIn 23 = .ok (.iconst (-1), 1) := by decide +kernel
theorem dX11_seatIn_24 : decode cX11_seatIn 24 = .ok (.ireturn, 1) := by decide +kernel
theorem dX11_exchange_0 : decode cX11_exchange 0 = .ok (.iload_n 1, 1) := by decide +kernel
theorem dX11_exchange_1 : decode cX11_exchange 1 = .ok (.ifCond .lt 19, 3) := by decide +kernel
theorem dX11_exchange_4 : decode cX11_exchange 4 = .ok (.iload_n 1, 1) := by decide +kernel
theorem dX11_exchange_5 : decode cX11_exchange 5 = .ok (.aload_n 0, 1) := by decide +kernel
theorem dX11_exchange_6 : decode cX11_exchange 6 = .ok (.arraylength, 1) := by decide +kernel
theorem dX11_exchange_7 : decode cX11_exchange 7 = .ok (.if_icmp .ge 13, 3) := by decide +kernel
theorem dX11_exchange_10 : decode cX11_exchange 10 = .ok (.iload_n 2, 1) := by decide +kernel
theorem dX11_exchange_11 : decode cX11_exchange 11 = .ok (.ifCond .lt 9, 3) := by decide +kernel
theorem dX11_exchange_14 : decode cX11_exchange 14 = .ok (.iload_n 2, 1) := by decide +kernel
theorem dX11_exchange_15 : decode cX11_exchange 15 = .ok (.aload_n 0, 1) := by decide +kernel
theorem dX11_exchange_16 : decode cX11_exchange 16 = .ok (.arraylength, 1) := by decide +kernel
theorem dX11_exchange_17 : decode cX11_exchange 17 = .ok (.if_icmp .lt 4, 3) := by decide +kernel
theorem dX11_exchange_20 : decode cX11_exchange 20 = .ok (.return_, 1) := by decide +kernel
theorem dX11_exchange_21 : decode cX11_exchange 21 = .ok (.aload_n 0, 1) := by decide +kernel
theorem dX11_exchange_22 : decode cX11_exchange 22 = .ok (.iload_n 1, 1) := by decide +kernel
theorem dX11_exchange_23 : decode cX11_exchange 23 = .ok (.iaload, 1) := by decide +kernel
theorem dX11_exchange_24 : decode cX11_exchange 24 = .ok (.istore_n 3, 1) := by decide +kernel
theorem dX11_exchange_25 : decode cX11_exchange 25 = .ok (.aload_n 0, 1) := by decide +kernel
theorem dX11_exchange_26 : decode cX11_exchange 26 = .ok (.iload_n 1, 1) := by decide +kernel
theorem dX11_exchange_27 : decode cX11_exchange 27 = .ok (.aload_n 0, 1) := by decide +kernel
theorem dX11_exchange_28 : decode cX11_exchange 28 = .ok (.iload_n 2, 1) := by decide +kernel
theorem dX11_exchange_29 : decode cX11_exchange 29 = .ok (.iaload, 1) := by decide +kernel
theorem dX11_exchange_30 : decode cX11_exchange 30 = .ok (.iastore, 1) := by decide +kernel
theorem dX11_exchange_31 : decode cX11_exchange 31 = .ok (.aload_n 0, 1) := by decide +kernel
theorem dX11_exchange_32 : decode cX11_exchange 32 = .ok (.iload_n 2, 1) := by decide +kernel
theorem dX11_exchange_33 : decode cX11_exchange 33 = .ok (.iload_n 3, 1) := by decide +kernel
theorem dX11_exchange_34 : decode cX11_exchange 34 = .ok (.iastore, 1) := by decide +kernel
theorem dX11_exchange_35 : decode cX11_exchange 35 = .ok (.return_, 1) := by decide +kernel
theorem dX11_sittersAt_0 : decode cX11_sittersAt 0 = .ok (.iconst 2, 1) := by decide +kernel
theorem dX11_sittersAt_1 : decode cX11_sittersAt 1 = .ok (.iload_n 1, 1) := by decide +kernel
theorem dX11_sittersAt_2 : decode cX11_sittersAt 2 = .ok (.imul, 1) := by decide +kernel
theorem dX11_sittersAt_3 : decode cX11_sittersAt 3 = .ok (.istore_n 2, 1) := by decide +kernel
theorem dX11_sittersAt_4 : decode cX11_sittersAt 4 = .ok (.iload_n 2, 1) := by decide +kernel
theorem dX11_sittersAt_5 : decode cX11_sittersAt 5 = .ok (.ifCond .lt 11, 3) := by decide +kernel
theorem dX11_sittersAt_8 : decode cX11_sittersAt 8 = .ok (.iload_n 2, 1) := by decide +kernel
theorem dX11_sittersAt_9 : decode cX11_sittersAt 9 = .ok (.iconst 1, 1) := by decide +kernel
theorem dX11_sittersAt_10 : decode cX11_sittersAt 10 = .ok (.iadd, 1) := by decide +kernel
theorem dX11_sittersAt_11 : decode cX11_sittersAt 11 = .ok (.aload_n 0, 1) := by decide +kernel
theorem dX11_sittersAt_12 : decode cX11_sittersAt 12 = .ok (.arraylength, 1) := by decide +kernel
theorem dX11_sittersAt_13 : decode cX11_sittersAt 13 = .ok (.if_icmp .lt 5, 3) := by decide +kernel
theorem dX11_sittersAt_16 : decode cX11_sittersAt 16 = .ok (.iconst 0, 1) := by decide +kernel
theorem dX11_sittersAt_17 : decode cX11_sittersAt 17 = .ok (.ireturn, 1) := by decide +kernel
theorem dX11_sittersAt_18 : decode cX11_sittersAt 18 = .ok (.aload_n 0, 1) := by decide +kernel
theorem dX11_sittersAt_19 : decode cX11_sittersAt 19 = .ok (.iload_n 2, 1) := by decide +kernel
theorem dX11_sittersAt_20 : decode cX11_sittersAt 20 = .ok (.iaload, 1) := by decide +kernel
theorem dX11_sittersAt_21 : decode cX11_sittersAt 21 = .ok (.iconst (-1), 1) := by decide +kernel
theorem dX11_sittersAt_22 : decode cX11_sittersAt 22 = .ok (.if_icmp .ne 7, 3) := by decide +kernel
theorem dX11_sittersAt_25 : decode cX11_sittersAt 25 = .ok (.iconst 0, 1) := by decide +kernel
theorem dX11_sittersAt_26 : decode cX11_sittersAt 26 = .ok (.goto 4, 3) := by decide +kernel
theorem dX11_sittersAt_29 : decode cX11_sittersAt 29 = .ok (.iconst 1, 1) := by decide +kernel
theorem dX11_sittersAt_30 : decode cX11_sittersAt 30 = .ok (.aload_n 0, 1) := by decide +kernel
theorem dX11_sittersAt_31 : decode cX11_sittersAt 31 = .ok (.iload_n 2, 1) := by decide +kernel
theorem dX11_sittersAt_32 : decode cX11_sittersAt 32 = .ok (.iconst 1, 1) := by decide +kernel
theorem dX11_sittersAt_33 : decode cX11_sittersAt 33 = .ok (.iadd, 1) := by decide +kernel
theorem dX11_sittersAt_34 : decode cX11_sittersAt 34 = .ok (.iaload, 1) := by decide +kernel
theorem dX11_sittersAt_35 : decode cX11_sittersAt 35 = .ok (.iconst (-1), 1) := by decide +kernel
theorem dX11_sittersAt_36 : decode cX11_sittersAt 36 = .ok (.if_icmp .ne 7, 3) := by decide +kernel
theorem dX11_sittersAt_39 : decode cX11_sittersAt 39 = .ok (.iconst 0, 1) := by decide +kernel
theorem dX11_sittersAt_40 : decode cX11_sittersAt 40 = .ok (.goto 4, 3) := by decide +kernel
theorem dX11_sittersAt_43 : decode cX11_sittersAt 43 = .ok (.iconst 1, 1) := by decide +kernel
theorem dX11_sittersAt_44 : decode cX11_sittersAt 44 = .ok (.iadd, 1) := by decide +kernel
theorem dX11_sittersAt_45 : decode cX11_sittersAt 45 = .ok (.ireturn, 1) := by decide +kernel
set_option maxRecDepth 20000 in
theorem ggX11_made_X1_init : GoodIn wsX11_made wsX1_init := goodIn_r _ [24, 25, 26, 21, 27, 28, 29, 30, 31, 32, 33, 34, 35, 77, 78, 79, 80, 81, 57, 58, 59, 60, 61, 82, 83, 84, 85, 86, 72, 73, 74, 75, 76, 87, 88, 89, 90, 91, 62, 63, 64, 65, 66, 67, 68, 69, 70, 71] (by decide +kernel) (by decide +kernel)
set_option maxRecDepth 20000 in
theorem gX11_made_X1_init : GoodIn wsX11_made (wsX1_init) := ggX11_made_X1_init
set_option maxRecDepth 20000 in
theorem ggX11_made_X8_init : GoodIn wsX11_made wsX8_init := goodIn_r _ [38, 39, 26, 21, 27, 28, 29, 30, 31, 32, 33, 34, 35, 77, 78, 79, 80, 81, 57, 58, 59, 60, 61, 82, 83, 84, 85, 86, 72, 73, 74, 75, 76, 87, 88, 89, 90, 91, 62, 63, 64, 65, 66, 67, 68, 69, 70, 71] (by decide +kernel) (by decide +kernel)
set_option maxRecDepth 20000 in
theorem gX11_made_X8_init : GoodIn wsX11_made (wsX8_init) := ggX11_made_X8_init
set_option maxRecDepth 20000 in
theorem ggX11_made_X10_init : GoodIn wsX11_made wsX10_init := goodIn_r _ [42, 43, 26, 21, 27, 28, 29, 30, 31, 32, 33, 34, 35, 77, 78, 79, 80, 81, 57, 58, 59, 60, 61, 82, 83, 84, 85, 86, 72, 73, 74, 75, 76, 87, 88, 89, 90, 91, 62, 63, 64, 65, 66, 67, 68, 69, 70, 71] (by decide +kernel) (by decide +kernel)
set_option maxRecDepth 20000 in
theorem gX11_made_X10_init : GoodIn wsX11_made (wsX10_init) := ggX11_made_X10_init
set_option maxRecDepth 20000 in
theorem ggX11_made_X3_init : GoodIn wsX11_made wsX3_init := goodIn_r _ [46, 47, 23, 3, 24, 25, 26, 21, 27, 28, 29, 30, 31, 32, 33, 34, 35, 77, 78, 79, 80, 81, 57, 58, 59, 60, 61, 82, 83, 84, 85, 86, 72, 73, 74, 75, 76, 87, 88, 89, 90, 91, 62, 63, 64, 65, 66, 67, 68, 69, 70, 71] (by decide +kernel) (by decide +kernel)
set_option maxRecDepth 20000 in
theorem gX11_made_X3_init : GoodIn wsX11_made (wsX3_init) := ggX11_made_X3_init
set_option maxRecDepth 20000 in
theorem ggX11_made_X0_init : GoodIn wsX11_made wsX0_init := goodIn_r _ [50, 51, 37, 6, 38, 39, 26, 21, 27, 28, 29, 30, 31, 32, 33, 34, 35, 77, 78, 79, 80, 81, 57, 58, 59, 60, 61, 82, 83, 84, 85, 86, 72, 73, 74, 75, 76, 87, 88, 89, 90, 91, 62, 63, 64, 65, 66, 67, 68, 69, 70, 71] (by decide +kernel) (by decide +kernel)
set_option maxRecDepth 20000 in
theorem gX11_made_X0_init : GoodIn wsX11_made (wsX0_init) := ggX11_made_X0_init
set_option maxRecDepth 20000 in
theorem ggX11_made_X2_init : GoodIn wsX11_made wsX2_init := goodIn_r _ [54, 55, 41, 9, 42, 43, 26, 21, 27, 28, 29, 30, 31, 32, 33, 34, 35, 77, 78, 79, 80, 81, 57, 58, 59, 60, 61, 82, 83, 84, 85, 86, 72, 73, 74, 75, 76, 87, 88, 89, 90, 91, 62, 63, 64, 65, 66, 67, 68, 69, 70, 71] (by decide +kernel) (by decide +kernel)
set_option maxRecDepth 20000 in
theorem gX11_made_X2_init : GoodIn wsX11_made (wsX2_init) := ggX11_made_X2_init
set_option maxRecDepth 20000 in
theorem ggX11_made_X4_init : GoodIn wsX11_made wsX4_init := goodIn_r _ [27, 28, 29, 30, 31, 32, 33, 34, 35, 77, 78, 79, 80, 81, 57, 58, 59, 60, 61, 82, 83, 84, 85, 86, 72, 73, 74, 75, 76, 87, 88, 89, 90, 91, 62, 63, 64, 65, 66, 67, 68, 69, 70, 71] (by decide +kernel) (by decide +kernel)
set_option maxRecDepth 20000 in
theorem gX11_made_X4_init : GoodIn wsX11_made (wsX4_init) := ggX11_made_X4_init
theorem dX11_made_0 : decode cX11_made 0 = .ok (.iload_n 0, 1) := by decide +kernel
theorem dX11_made_1 : decode cX11_made 1 = .ok (.tableswitch 129 1 6 #[39, 54, 69, 84, 99, 114], 39) := by decide +kernel
theorem dX11_made_40 : decode cX11_made 40 = .ok (.new 317, 3) := by decide +kernel
theorem dX11_made_43 : decode cX11_made 43 = .ok (.dup, 1) := by decide +kernel
theorem dX11_made_44 : decode cX11_made 44 = .ok (.iload_n 1, 1) := by decide +kernel
theorem dX11_made_45 : decode cX11_made 45 = .ok (.iload_n 2, 1) := by decide +kernel
theorem dX11_made_46 : decode cX11_made 46 = .ok (.iload_n 3, 1) := by decide +kernel
theorem dX11_made_47 : decode cX11_made 47 = .ok (.iload 4, 2) := by decide +kernel
theorem dX11_made_49 : decode cX11_made 49 = .ok (.iload 5, 2) := by decide +kernel
theorem dX11_made_51 : decode cX11_made 51 = .ok (.invokespecial 319, 3) := by decide +kernel
theorem dX11_made_54 : decode cX11_made 54 = .ok (.areturn, 1) := by decide +kernel
theorem dX11_made_55 : decode cX11_made 55 = .ok (.new 322, 3) := by decide +kernel
theorem dX11_made_58 : decode cX11_made 58 = .ok (.dup, 1) := by decide +kernel
theorem dX11_made_59 : decode cX11_made 59 = .ok (.iload_n 1, 1) := by decide +kernel
theorem dX11_made_60 : decode cX11_made 60 = .ok (.iload_n 2, 1) := by decide +kernel
theorem dX11_made_61 : decode cX11_made 61 = .ok (.iload_n 3, 1) := by decide +kernel
theorem dX11_made_62 : decode cX11_made 62 = .ok (.iload 4, 2) := by decide +kernel
theorem dX11_made_64 : decode cX11_made 64 = .ok (.iload 5, 2) := by decide +kernel
theorem dX11_made_66 : decode cX11_made 66 = .ok (.invokespecial 324, 3) := by decide +kernel
theorem dX11_made_69 : decode cX11_made 69 = .ok (.areturn, 1) := by decide +kernel
theorem dX11_made_70 : decode cX11_made 70 = .ok (.new 325, 3) := by decide +kernel
theorem dX11_made_73 : decode cX11_made 73 = .ok (.dup, 1) := by decide +kernel
theorem dX11_made_74 : decode cX11_made 74 = .ok (.iload_n 1, 1) := by decide +kernel
theorem dX11_made_75 : decode cX11_made 75 = .ok (.iload_n 2, 1) := by decide +kernel
theorem dX11_made_76 : decode cX11_made 76 = .ok (.iload_n 3, 1) := by decide +kernel
theorem dX11_made_77 : decode cX11_made 77 = .ok (.iload 4, 2) := by decide +kernel
theorem dX11_made_79 : decode cX11_made 79 = .ok (.iload 5, 2) := by decide +kernel
theorem dX11_made_81 : decode cX11_made 81 = .ok (.invokespecial 327, 3) := by decide +kernel
theorem dX11_made_84 : decode cX11_made 84 = .ok (.areturn, 1) := by decide +kernel
theorem dX11_made_85 : decode cX11_made 85 = .ok (.new 328, 3) := by decide +kernel
theorem dX11_made_88 : decode cX11_made 88 = .ok (.dup, 1) := by decide +kernel
theorem dX11_made_89 : decode cX11_made 89 = .ok (.iload_n 1, 1) := by decide +kernel
theorem dX11_made_90 : decode cX11_made 90 = .ok (.iload_n 2, 1) := by decide +kernel
theorem dX11_made_91 : decode cX11_made 91 = .ok (.iload_n 3, 1) := by decide +kernel
theorem dX11_made_92 : decode cX11_made 92 = .ok (.iload 4, 2) := by decide +kernel
theorem dX11_made_94 : decode cX11_made 94 = .ok (.iload 5, 2) := by decide +kernel
theorem dX11_made_96 : decode cX11_made 96 = .ok (.invokespecial 330, 3) := by decide +kernel
theorem dX11_made_99 : decode cX11_made 99 = .ok (.areturn, 1) := by decide +kernel
theorem dX11_made_100 : decode cX11_made 100 = .ok (.new 331, 3) := by decide +kernel
theorem dX11_made_103 : decode cX11_made 103 = .ok (.dup, 1) := by decide +kernel
theorem dX11_made_104 : decode cX11_made 104 = .ok (.iload_n 1, 1) := by decide +kernel
theorem dX11_made_105 : decode cX11_made 105 = .ok (.iload_n 2, 1) := by decide +kernel
theorem dX11_made_106 : decode cX11_made 106 = .ok (.iload_n 3, 1) := by decide +kernel
theorem dX11_made_107 : decode cX11_made 107 = .ok (.iload 4, 2) := by decide +kernel
theorem dX11_made_109 : decode cX11_made 109 = .ok (.iload 5, 2) := by decide +kernel
theorem dX11_made_111 : decode cX11_made 111 = .ok (.invokespecial 333, 3) := by decide +kernel
theorem dX11_made_114 : decode cX11_made 114 = .ok (.areturn, 1) := by decide +kernel
theorem dX11_made_115 : decode cX11_made 115 = .ok (.new 334, 3) := by decide +kernel
theorem dX11_made_118 : decode cX11_made 118 = .ok (.dup, 1) := by decide +kernel
theorem dX11_made_119 : decode cX11_made 119 = .ok (.iload_n 1, 1) := by decide +kernel
theorem dX11_made_120 : decode cX11_made 120 = .ok (.iload_n 2, 1) := by decide +kernel
theorem dX11_made_121 : decode cX11_made 121 = .ok (.iload_n 3, 1) := by decide +kernel
theorem dX11_made_122 : decode cX11_made 122 = .ok (.iload 4, 2) := by decide +kernel
theorem dX11_made_124 : decode cX11_made 124 = .ok (.iload 5, 2) := by decide +kernel
theorem dX11_made_126 : decode cX11_made 126 = .ok (.invokespecial 336, 3) := by decide +kernel
theorem dX11_made_129 : decode cX11_made 129 = .ok (.areturn, 1) := by decide +kernel
theorem dX11_made_130 : decode cX11_made 130 = .ok (.new 87, 3) := by decide +kernel
theorem dX11_made_133 : decode cX11_made 133 = .ok (.dup, 1) := by decide +kernel
theorem dX11_made_134 : decode cX11_made 134 = .ok (.iload_n 1, 1) := by decide +kernel
theorem dX11_made_135 : decode cX11_made 135 = .ok (.iload_n 2, 1) := by decide +kernel
theorem dX11_made_136 : decode cX11_made 136 = .ok (.iload_n 3, 1) := by decide +kernel
theorem dX11_made_137 : decode cX11_made 137 = .ok (.iload 4, 2) := by decide +kernel
theorem dX11_made_139 : decode cX11_made 139 = .ok (.iload 5, 2) := by decide +kernel
theorem dX11_made_141 : decode cX11_made 141 = .ok (.invokespecial 337, 3) := by decide +kernel
theorem dX11_made_144 : decode cX11_made 144 = .ok (.areturn, 1) := by decide +kernel
theorem dX11_isOfKind_0 : decode cX11_isOfKind 0 = .ok (.iload_n 1, 1) := by decide +kernel
theorem dX11_isOfKind_1 : decode cX11_isOfKind 1 = .ok (.tableswitch 75 0 6 #[43, 45, 50, 55, 60, 65, 70], 43) := by decide +kernel
theorem dX11_isOfKind_44 : decode cX11_isOfKind 44 = .ok (.iconst 1, 1) := by decide +kernel
theorem dX11_isOfKind_45 : decode cX11_isOfKind 45 = .ok (.ireturn, 1) := by decide +kernel
theorem dX11_isOfKind_46 : decode cX11_isOfKind 46 = .ok (.aload_n 0, 1) := by decide +kernel
theorem dX11_isOfKind_47 : decode cX11_isOfKind 47 = .ok (.instanceof 317, 3) := by decide +kernel
theorem dX11_isOfKind_50 : decode cX11_isOfKind 50 = .ok (.ireturn, 1) := by decide +kernel
theorem dX11_isOfKind_51 : decode cX11_isOfKind 51 = .ok (.aload_n 0, 1) := by decide +kernel
theorem dX11_isOfKind_52 : decode cX11_isOfKind 52 = .ok (.instanceof 322, 3) := by decide +kernel
theorem dX11_isOfKind_55 : decode cX11_isOfKind 55 = .ok (.ireturn, 1) := by decide +kernel
theorem dX11_isOfKind_56 : decode cX11_isOfKind 56 = .ok (.aload_n 0, 1) := by decide +kernel
theorem dX11_isOfKind_57 : decode cX11_isOfKind 57 = .ok (.instanceof 325, 3) := by decide +kernel
theorem dX11_isOfKind_60 : decode cX11_isOfKind 60 = .ok (.ireturn, 1) := by decide +kernel
theorem dX11_isOfKind_61 : decode cX11_isOfKind 61 = .ok (.aload_n 0, 1) := by decide +kernel
theorem dX11_isOfKind_62 : decode cX11_isOfKind 62 = .ok (.instanceof 328, 3) := by decide +kernel
theorem dX11_isOfKind_65 : decode cX11_isOfKind 65 = .ok (.ireturn, 1) := by decide +kernel
theorem dX11_isOfKind_66 : decode cX11_isOfKind 66 = .ok (.aload_n 0, 1) := by decide +kernel
theorem dX11_isOfKind_67 : decode cX11_isOfKind 67 = .ok (.instanceof 331, 3) := by decide +kernel
theorem dX11_isOfKind_70 : decode cX11_isOfKind 70 = .ok (.ireturn, 1) := by decide +kernel
theorem dX11_isOfKind_71 : decode cX11_isOfKind 71 = .ok (.aload_n 0, 1) := by decide +kernel
theorem dX11_isOfKind_72 : decode cX11_isOfKind 72 = .ok (.instanceof 334, 3) := by decide +kernel
theorem dX11_isOfKind_75 : decode cX11_isOfKind 75 = .ok (.ireturn, 1) := by decide +kernel
theorem dX11_isOfKind_76 : decode cX11_isOfKind 76 = .ok (.iconst 0, 1) := by decide +kernel
theorem dX11_isOfKind_77 : decode cX11_isOfKind 77 = .ok (.ireturn, 1) := by decide +kernel
theorem dX11_roomAt_0 : decode cX11_roomAt 0 = .ok (.iload_n 1, 1) := by decide +kernel
theorem dX11_roomAt_1 : decode cX11_roomAt 1 = .ok (.ifCond .lt 21, 3) := by decide +kernel
theorem dX11_roomAt_4 : decode cX11_roomAt 4 = .ok (.iload_n 1, 1) := by decide +kernel
theorem dX11_roomAt_5 : decode cX11_roomAt 5 = .ok (.aload_n 0, 1) := by decide +kernel
theorem dX11_roomAt_6 : decode cX11_roomAt 6 = .ok (.getfield 27, 3) := by decide +kernel
theorem dX11_roomAt_9 : decode cX11_roomAt 9 = .ok (.arraylength, 1) := by decide +kernel
theorem dX11_roomAt_10 : decode cX11_roomAt 10 = .ok (.if_icmp .ge 12, 3) := by decide +kernel
theorem dX11_roomAt_13 : decode cX11_roomAt 13 = .ok (.aload_n 0, 1) := by decide +kernel
theorem dX11_roomAt_14 : decode cX11_roomAt 14 = .ok (.getfield 27, 3) := by decide +kernel
theorem dX11_roomAt_17 : decode cX11_roomAt 17 = .ok (.iload_n 1, 1) := by decide +kernel
theorem dX11_roomAt_18 : decode cX11_roomAt 18 = .ok (.aaload, 1) := by decide +kernel
theorem dX11_roomAt_19 : decode cX11_roomAt 19 = .ok (.goto 7, 3) := by decide +kernel
theorem dX11_roomAt_22 : decode cX11_roomAt 22 = .ok (.aload_n 0, 1) := by decide +kernel
theorem dX11_roomAt_23 : decode cX11_roomAt 23 = .ok (.getfield 32, 3) := by decide +kernel
theorem dX11_roomAt_26 : decode cX11_roomAt 26 = .ok (.astore_n 2, 1) := by decide +kernel
theorem dX11_roomAt_27 : decode cX11_roomAt 27 = .ok (.aload_n 2, 1) := by decide +kernel
theorem dX11_roomAt_28 : decode cX11_roomAt 28 = .ok (.ifnonnull 10, 3) := by decide +kernel
theorem dX11_roomAt_31 : decode cX11_roomAt 31 = .ok (.aload_n 0, 1) := by decide +kernel
theorem dX11_roomAt_32 : decode cX11_roomAt 32 = .ok (.getfield 32, 3) := by decide +kernel
theorem dX11_roomAt_35 : decode cX11_roomAt 35 = .ok (.goto 4, 3) := by decide +kernel
theorem dX11_roomAt_38 : decode cX11_roomAt 38 = .ok (.aload_n 2, 1) := by decide +kernel
theorem dX11_roomAt_39 : decode cX11_roomAt 39 = .ok (.areturn, 1) := by decide +kernel
set_option maxRecDepth 20000 in
theorem ggX11_tables_X11_roomAt : GoodIn wsX11_tables wsX11_roomAt := goodIn_r _ [9, 10, 11, 164, 165, 166, 167, 168, 169, 170, 171, 172, 173, 174, 175, 176, 177] (by decide +kernel) (by decide +kernel)
set_option maxRecDepth 20000 in
theorem gX11_tables_X11_roomAt : GoodIn wsX11_tables (wsV RX11 142 RX11 yX11_roomAt wsX11_roomAt) := goodIn_app (goodIn_of _ (by decide +kernel)) ggX11_tables_X11_roomAt
set_option maxRecDepth 20000 in
theorem ggX11_tables_X6_fill : GoodIn wsX11_tables wsX6_fill := goodIn_r _ [16, 17, 18, 19, 20, 21, 22, 23, 24, 25, 26, 27, 28, 29, 15, 30, 31, 32, 33, 34, 35, 36, 37, 38, 39, 40, 41, 42, 43, 44, 45, 46, 47, 48, 49, 50, 51, 52, 53, 54, 55, 56, 57, 58, 59, 60, 61, 62, 63, 64, 65, 66, 67, 68, 69, 70, 71, 72, 73, 74, 75, 76, 77, 78, 79, 80, 81, 82, 83, 84, 85, 86, 87, 88, 89, 90, 91, 92, 93, 94, 95, 96, 97, 98, 99, 100, 101, 102, 103, 104, 105, 106, 107, 108, 109, 110, 111, 112, 113, 114, 115, 116, 117, 118, 119, 120, 121, 122, 123, 124, 125, 126, 127, 128, 129, 130, 131, 132, 133, 134, 135, 136, 137, 138, 139, 140, 141, 142, 143, 144, 145, 146, 147, 148, 149, 150, 151, 152, 153, 154, 155, 156, 157, 158, 159, 160, 161, 162, 163, 178, 179, 180, 181, 182, 183, 184, 185, 186, 187, 188, 189, 190, 191, 192, 193, 194, 195, 196, 197, 198, 199, 200, 201, 202, 203, 204, 205, 206, 207, 208, 209, 210, 211, 212, 213, 214, 215, 216, 217, 218, 219, 220, 221, 222, 223, 224, 225, 226, 227, 228, 229, 230, 231, 232, 233, 234, 235, 236, 237, 238] (by decide +kernel) (by decide +kernel)
set_option maxRecDepth 20000 in
theorem gX11_tables_X6_fill : GoodIn wsX11_tables (wsV RX11 338 RX6 yX6_fill wsX6_fill) := goodIn_app (goodIn_of _ (by decide +kernel)) ggX11_tables_X6_fill
theorem dX11_tables_0 : decode cX11_tables 0 = .ok (.aload_n 0, 1) := by decide +kernel
theorem dX11_tables_1 : decode cX11_tables 1 = .ok (.getfield 78, 3) := by decide +kernel
theorem dX11_tables_4 : decode cX11_tables 4 = .ok (.ifCond .ne 30, 3) := by decide +kernel
theorem dX11_tables_7 : decode cX11_tables 7 = .ok (.aload_n 0, 1) := by decide +kernel
theorem dX11_tables_8 : decode cX11_tables 8 = .ok (.getfield 39, 3) := by decide +kernel
theorem dX11_tables_11 : decode cX11_tables 11 = .ok (.aload_n 0, 1) := by decide +kernel
theorem dX11_tables_12 : decode cX11_tables 12 = .ok (.getfield 12, 3) := by decide +kernel
theorem dX11_tables_15 : decode cX11_tables 15 = .ok (.aload_n 0, 1) := by decide +kernel
theorem dX11_tables_16 : decode cX11_tables 16 = .ok (.aload_n 0, 1) := by decide +kernel
theorem dX11_tables_17 : decode cX11_tables 17 = .ok (.getfield 12, 3) := by decide +kernel
theorem dX11_tables_20 : decode cX11_tables 20 = .ok (.getfield 150, 3) := by decide +kernel
theorem dX11_tables_23 : decode cX11_tables 23 = .ok (.invokevirtual 142, 3) := by decide +kernel
theorem dX11_tables_26 : decode cX11_tables 26 = .ok (.invokevirtual 338, 3) := by decide +kernel
theorem dX11_tables_29 : decode cX11_tables 29 = .ok (.aload_n 0, 1) := by decide +kernel
theorem dX11_tables_30 : decode cX11_tables 30 = .ok (.iconst 1, 1) := by decide +kernel
theorem dX11_tables_31 : decode cX11_tables 31 = .ok (.putfield 78, 3) := by decide +kernel
theorem dX11_tables_34 : decode cX11_tables 34 = .ok (.aload_n 0, 1) := by decide +kernel
theorem dX11_tables_35 : decode cX11_tables 35 = .ok (.getfield 39, 3) := by decide +kernel
theorem dX11_tables_38 : decode cX11_tables 38 = .ok (.areturn, 1) := by decide +kernel
set_option maxRecDepth 20000 in
theorem ggX11_acrossOf_X11_seatIn : GoodIn wsX11_acrossOf wsX11_seatIn := goodIn_r _ [6] (by decide +kernel) (by decide +kernel)
set_option maxRecDepth 20000 in
theorem gX11_acrossOf_X11_seatIn : GoodIn wsX11_acrossOf (va_wsS RX11 117 yX11_seatIn wsX11_seatIn) := goodIn_app (goodIn_of _ (by decide +kernel)) ggX11_acrossOf_X11_seatIn
set_option maxRecDepth 20000 in
theorem ggX11_acrossOf_X11_sittersAt : GoodIn wsX11_acrossOf wsX11_sittersAt := goodIn_r _ [9] (by decide +kernel) (by decide +kernel)
set_option maxRecDepth 20000 in
theorem gX11_acrossOf_X11_sittersAt : GoodIn wsX11_acrossOf (va_wsS RX11 342 yX11_sittersAt wsX11_sittersAt) := goodIn_app (goodIn_of _ (by decide +kernel)) ggX11_acrossOf_X11_sittersAt
theorem dX11_acrossOf_0 : decode cX11_acrossOf 0 = .ok (.aload_n 0, 1) := by decide +kernel
theorem dX11_acrossOf_1 : decode cX11_acrossOf 1 = .ok (.getfield 12, 3) := by decide +kernel
theorem dX11_acrossOf_4 : decode cX11_acrossOf 4 = .ok (.getfield 114, 3) := by decide +kernel
theorem dX11_acrossOf_7 : decode cX11_acrossOf 7 = .ok (.iload_n 1, 1) := by decide +kernel
theorem dX11_acrossOf_8 : decode cX11_acrossOf 8 = .ok (.invokestatic 117, 3) := by decide +kernel
theorem dX11_acrossOf_11 : decode cX11_acrossOf 11 = .ok (.iconst 2, 1) := by decide +kernel
theorem dX11_acrossOf_12 : decode cX11_acrossOf 12 = .ok (.idiv, 1) := by decide +kernel
theorem dX11_acrossOf_13 : decode cX11_acrossOf 13 = .ok (.istore_n 2, 1) := by decide +kernel
theorem dX11_acrossOf_14 : decode cX11_acrossOf 14 = .ok (.aload_n 0, 1) := by decide +kernel
theorem dX11_acrossOf_15 : decode cX11_acrossOf 15 = .ok (.getfield 12, 3) := by decide +kernel
theorem dX11_acrossOf_18 : decode cX11_acrossOf 18 = .ok (.getfield 114, 3) := by decide +kernel
theorem dX11_acrossOf_21 : decode cX11_acrossOf 21 = .ok (.iload_n 2, 1) := by decide +kernel
theorem dX11_acrossOf_22 : decode cX11_acrossOf 22 = .ok (.iconst 1, 1) := by decide +kernel
theorem dX11_acrossOf_23 : decode cX11_acrossOf 23 = .ok (.ixor, 1) := by decide +kernel
theorem dX11_acrossOf_24 : decode cX11_acrossOf 24 = .ok (.invokestatic 342, 3) := by decide +kernel
theorem dX11_acrossOf_27 : decode cX11_acrossOf 27 = .ok (.ireturn, 1) := by decide +kernel
set_option maxRecDepth 20000 in
theorem ggX11_talkersIn_X11_roomAt : GoodIn wsX11_talkersIn wsX11_roomAt := goodIn_r _ [7, 8, 9, 60, 61, 62, 63, 64, 65, 66, 67, 68, 69, 70, 71, 72, 73] (by decide +kernel) (by decide +kernel)
set_option maxRecDepth 20000 in
theorem gX11_talkersIn_X11_roomAt : GoodIn wsX11_talkersIn (wsV RX11 142 RX11 yX11_roomAt wsX11_roomAt) := goodIn_app (goodIn_of _ (by decide +kernel)) ggX11_talkersIn_X11_roomAt
set_option maxRecDepth 20000 in
theorem ggX11_talkersIn_X5_hush : GoodIn wsX11_talkersIn wsX5_hush := goodIn_r _ [14, 15, 81, 82, 83, 84, 85, 86, 87, 88, 89, 90, 91] (by decide +kernel) (by decide +kernel)
set_option maxRecDepth 20000 in
theorem gX11_talkersIn_X5_hush : GoodIn wsX11_talkersIn (wsV RX11 187 RX5 yX5_hush wsX5_hush) := goodIn_app (goodIn_of _ (by decide +kernel)) ggX11_talkersIn_X5_hush
set_option maxRecDepth 20000 in
theorem ggX11_talkersIn_X7_talkersAfter : GoodIn wsX11_talkersIn wsX7_talkersAfter := goodIn_r _ [20, 21, 22, 23, 24, 19, 25, 26, 27, 28, 29, 30, 31, 32, 33, 34, 35, 36, 37, 38, 39, 40, 41, 42, 43, 44, 45, 46, 47, 48, 49, 50, 51, 6, 52, 53, 54, 55, 56, 57, 58, 59, 74, 75, 76, 77, 78, 79, 80, 92, 93, 94, 95, 96, 97, 98, 99, 100, 101, 102, 103, 104, 105, 106, 107, 108, 109, 110, 111, 112, 113, 114, 115, 116, 117, 118, 119, 120, 121, 122, 123, 124, 125, 126] (by decide +kernel) (by decide +kernel)
set_option maxRecDepth 20000 in
theorem gX11_talkersIn_X7_talkersAfter : GoodIn wsX11_talkersIn (wsV RX11 345 RX7 yX7_talkersAfter wsX7_talkersAfter) := goodIn_app (goodIn_of _ (by decide +kernel)) ggX11_talkersIn_X7_talkersAfter
theorem dX11_talkersIn_0 : decode cX11_talkersIn 0 = .ok (.aload_n 0, 1) := by decide +kernel
theorem dX11_talkersIn_1 : decode cX11_talkersIn 1 = .ok (.aload_n 0, 1) := by decide +kernel
theorem dX11_talkersIn_2 : decode cX11_talkersIn 2 = .ok (.getfield 12, 3) := by decide +kernel
theorem dX11_talkersIn_5 : decode cX11_talkersIn 5 = .ok (.getfield 150, 3) := by decide +kernel
theorem dX11_talkersIn_8 : decode cX11_talkersIn 8 = .ok (.invokevirtual 142, 3) := by decide +kernel
theorem dX11_talkersIn_11 : decode cX11_talkersIn 11 = .ok (.invokevirtual 187, 3) := by decide +kernel
theorem dX11_talkersIn_14 : decode cX11_talkersIn 14 = .ok (.istore_n 3, 1) := by decide +kernel
theorem dX11_talkersIn_15 : decode cX11_talkersIn 15 = .ok (.iload_n 1, 1) := by decide +kernel
theorem dX11_talkersIn_16 : decode cX11_talkersIn 16 = .ok (.istore 4, 2) := by decide +kernel
theorem dX11_talkersIn_18 : decode cX11_talkersIn 18 = .ok (.iconst 0, 1) := by decide +kernel
theorem dX11_talkersIn_19 : decode cX11_talkersIn 19 = .ok (.istore 5, 2) := by decide +kernel
theorem dX11_talkersIn_21 : decode cX11_talkersIn 21 = .ok (.iload 5, 2) := by decide +kernel
theorem dX11_talkersIn_23 : decode cX11_talkersIn 23 = .ok (.iload_n 2, 1) := by decide +kernel
theorem dX11_talkersIn_24 : decode cX11_talkersIn 24 = .ok (.if_icmp .ge 22, 3) := by decide +kernel
theorem dX11_talkersIn_27 : decode cX11_talkersIn 27 = .ok (.aload_n 0, 1) := by decide +kernel
theorem dX11_talkersIn_28 : decode cX11_talkersIn 28 = .ok (.getfield 12, 3) := by decide +kernel
theorem dX11_talkersIn_31 : decode cX11_talkersIn 31 = .ok (.iload 4, 2) := by decide +kernel
theorem dX11_talkersIn_33 : decode cX11_talkersIn 33 = .ok (.iload_n 3, 1) := by decide +kernel
theorem dX11_talkersIn_34 : decode cX11_talkersIn 34 = .ok (.iconst (-1), 1) := by decide +kernel
theorem dX11_talkersIn_35 : decode cX11_talkersIn 35 = .ok (.invokevirtual 345, 3) := by decide +kernel
theorem dX11_talkersIn_38 : decode cX11_talkersIn 38 = .ok (.istore 4, 2) := by decide +kernel
theorem dX11_talkersIn_40 : decode cX11_talkersIn 40 = .ok (.iinc 5 1, 3) := by decide +kernel
theorem dX11_talkersIn_43 : decode cX11_talkersIn 43 = .ok (.goto (-22), 3) := by decide +kernel
theorem dX11_talkersIn_46 : decode cX11_talkersIn 46 = .ok (.iload 4, 2) := by decide +kernel
theorem dX11_talkersIn_48 : decode cX11_talkersIn 48 = .ok (.ireturn, 1) := by decide +kernel
set_option maxRecDepth 20000 in
theorem ggX11_firstStill_X11_roomAt : GoodIn wsX11_firstStill wsX11_roomAt := goodIn_r _ [7, 8, 9, 60, 61, 62, 63, 64, 65, 66, 67, 68, 69, 70, 71, 72, 73] (by decide +kernel) (by decide +kernel)
set_option maxRecDepth 20000 in
theorem gX11_firstStill_X11_roomAt : GoodIn wsX11_firstStill (wsV RX11 142 RX11 yX11_roomAt wsX11_roomAt) := goodIn_app (goodIn_of _ (by decide +kernel)) ggX11_firstStill_X11_roomAt
set_option maxRecDepth 20000 in
theorem ggX11_firstStill_X5_hush : GoodIn wsX11_firstStill wsX5_hush := goodIn_r _ [14, 15, 81, 82, 83, 84, 85, 86, 87, 88, 89, 90, 91] (by decide +kernel) (by decide +kernel)
set_option maxRecDepth 20000 in
theorem gX11_firstStill_X5_hush : GoodIn wsX11_firstStill (wsV RX11 187 RX5 yX5_hush wsX5_hush) := goodIn_app (goodIn_of _ (by decide +kernel)) ggX11_firstStill_X5_hush
set_option maxRecDepth 20000 in
theorem ggX11_firstStill_X7_talkersAfter : GoodIn wsX11_firstStill wsX7_talkersAfter := goodIn_r _ [20, 21, 22, 23, 24, 19, 25, 26, 27, 28, 29, 30, 31, 32, 33, 34, 35, 36, 37, 38, 39, 40, 41, 42, 43, 44, 45, 46, 47, 48, 49, 50, 51, 6, 52, 53, 54, 55, 56, 57, 58, 59, 74, 75, 76, 77, 78, 79, 80, 92, 93, 94, 95, 96, 97, 98, 99, 100, 101, 102, 103, 104, 105, 106, 107, 108, 109, 110, 111, 112, 113, 114, 115, 116, 117, 118, 119, 120, 121, 122, 123, 124, 125, 126] (by decide +kernel) (by decide +kernel)
set_option maxRecDepth 20000 in
theorem gX11_firstStill_X7_talkersAfter : GoodIn wsX11_firstStill (wsV RX11 345 RX7 yX7_talkersAfter wsX7_talkersAfter) := goodIn_app (goodIn_of _ (by decide +kernel)) ggX11_firstStill_X7_talkersAfter
theorem dX11_firstStill_0 : decode cX11_firstStill 0 = .ok (.aload_n 0, 1) := by decide +kernel
theorem dX11_firstStill_1 : decode cX11_firstStill 1 = .ok (.aload_n 0, 1) := by decide +kernel
theorem dX11_firstStill_2 : decode cX11_firstStill 2 = .ok (.getfield 12, 3) := by decide +kernel
theorem dX11_firstStill_5 : decode cX11_firstStill 5 = .ok (.getfield 150, 3) := by decide +kernel
theorem dX11_firstStill_8 : decode cX11_firstStill 8 = .ok (.invokevirtual 142, 3) := by decide +kernel
theorem dX11_firstStill_11 : decode cX11_firstStill 11 = .ok (.invokevirtual 187, 3) := by decide +kernel
theorem dX11_firstStill_14 : decode cX11_firstStill 14 = .ok (.istore_n 2, 1) := by decide +kernel
theorem dX11_firstStill_15 : decode cX11_firstStill 15 = .ok (.iload_n 1, 1) := by decide +kernel
theorem dX11_firstStill_16 : decode cX11_firstStill 16 = .ok (.istore_n 3, 1) := by decide +kernel
theorem dX11_firstStill_17 : decode cX11_firstStill 17 = .ok (.iconst 0, 1) := by decide +kernel
theorem dX11_firstStill_18 : decode cX11_firstStill 18 = .ok (.istore 4, 2) := by decide +kernel
theorem dX11_firstStill_20 : decode cX11_firstStill 20 = .ok (.iload 4, 2) := by decide +kernel
theorem dX11_firstStill_22 : decode cX11_firstStill 22 = .ok (.bipush 60, 2) := by decide +kernel
theorem dX11_firstStill_24 : decode cX11_firstStill 24 = .ok (.if_icmp .gt 27, 3) := by decide +kernel
theorem dX11_firstStill_27 : decode cX11_firstStill 27 = .ok (.iload_n 3, 1) := by decide +kernel
theorem dX11_firstStill_28 : decode cX11_firstStill 28 = .ok (.ifCond .ne 6, 3) := by decide +kernel
theorem dX11_firstStill_31 : decode cX11_firstStill 31 = .ok (.iload 4, 2) := by decide +kernel
theorem dX11_firstStill_33 : decode cX11_firstStill 33 = .ok (.ireturn, 1) := by decide +kernel
theorem dX11_firstStill_34 : decode cX11_firstStill 34 = .ok (.aload_n 0, 1) := by decide +kernel
theorem dX11_firstStill_35 : decode cX11_firstStill 35 = .ok (.getfield 12, 3) := by decide +kernel
theorem dX11_firstStill_38 : decode cX11_firstStill 38 = .ok (.iload_n 3, 1) := by decide +kernel
theorem dX11_firstStill_39 : decode cX11_firstStill 39 = .ok (.iload_n 2, 1) := by decide +kernel
theorem dX11_firstStill_40 : decode cX11_firstStill 40 = .ok (.iconst (-1), 1) := by decide +kernel
theorem dX11_firstStill_41 : decode cX11_firstStill 41 = .ok (.invokevirtual 345, 3) := by decide +kernel
theorem dX11_firstStill_44 : decode cX11_firstStill 44 = .ok (.istore_n 3, 1) := by decide +kernel
theorem dX11_firstStill_45 : decode cX11_firstStill 45 = .ok (.iinc 4 1, 3) := by decide +kernel
theorem dX11_firstStill_48 : decode cX11_firstStill 48 = .ok (.goto (-28), 3) := by decide +kernel
theorem dX11_firstStill_51 : decode cX11_firstStill 51 = .ok (.bipush (-5), 2) := by decide +kernel
theorem dX11_firstStill_53 : decode cX11_firstStill 53 = .ok (.ireturn, 1) := by decide +kernel
set_option maxRecDepth 20000 in
theorem ggX11_noiseWithout_X11_roomAt : GoodIn wsX11_noiseWithout wsX11_roomAt := goodIn_r _ [7, 8, 9, 64, 65, 66, 67, 68, 69, 70, 71, 72, 73, 74, 75, 76, 77] (by decide +kernel) (by decide +kernel)
set_option maxRecDepth 20000 in
theorem gX11_noiseWithout_X11_roomAt : GoodIn wsX11_noiseWithout (wsV RX11 142 RX11 yX11_roomAt wsX11_roomAt) := goodIn_app (goodIn_of _ (by decide +kernel)) ggX11_noiseWithout_X11_roomAt
set_option maxRecDepth 20000 in
theorem ggX11_noiseWithout_X5_hush : GoodIn wsX11_noiseWithout wsX5_hush := goodIn_r _ [14, 15, 85, 86, 87, 88, 89, 90, 91, 92, 93, 94, 95] (by decide +kernel) (by decide +kernel)
set_option maxRecDepth 20000 in
theorem gX11_noiseWithout_X5_hush : GoodIn wsX11_noiseWithout (wsV RX11 187 RX5 yX5_hush wsX5_hush) := goodIn_app (goodIn_of _ (by decide +kernel)) ggX11_noiseWithout_X5_hush
set_option maxRecDepth 20000 in
theorem ggX11_noiseWithout_X7_loudness : GoodIn wsX11_noiseWithout wsX7_loudness := goodIn_r _ [20, 21, 22, 6, 23, 24, 25, 26, 19, 27, 28, 29, 30, 31, 32, 33, 78, 79, 80, 81, 82, 83, 84, 96, 97, 98, 99, 100, 101, 102, 103, 104, 105, 106, 107, 108, 109, 110, 111, 112, 113, 114, 115, 116, 117, 118, 119, 120, 121, 122, 123, 124, 125, 126, 127, 128, 129, 130] (by decide +kernel) (by decide +kernel)
set_option maxRecDepth 20000 in
theorem gX11_noiseWithout_X7_loudness : GoodIn wsX11_noiseWithout (wsV RX11 214 RX7 yX7_loudness wsX7_loudness) := goodIn_app (goodIn_of _ (by decide +kernel)) ggX11_noiseWithout_X7_loudness
set_option maxRecDepth 20000 in
theorem ggX11_noiseWithout_X7_talkersAfter : GoodIn wsX11_noiseWithout wsX7_talkersAfter := goodIn_r _ [37, 38, 39, 40, 41, 19, 42, 43, 28, 29, 30, 31, 32, 21, 33, 44, 45, 46, 47, 48, 49, 50, 51, 52, 53, 54, 55, 56, 57, 58, 59, 60, 22, 6, 23, 61, 62, 63, 24, 25, 26, 27, 78, 79, 80, 81, 82, 83, 84, 96, 97, 98, 99, 100, 101, 102, 103, 104, 105, 106, 107, 108, 109, 110, 111, 112, 113, 114, 115, 116, 117, 118, 119, 120, 121, 122, 123, 124, 125, 126, 127, 128, 129, 130] (by decide +kernel) (by decide +kernel)
set_option maxRecDepth 20000 in
theorem gX11_noiseWithout_X7_talkersAfter : GoodIn wsX11_noiseWithout (wsV RX11 345 RX7 yX7_talkersAfter wsX7_talkersAfter) := goodIn_app (goodIn_of _ (by decide +kernel)) ggX11_noiseWithout_X7_talkersAfter
theorem dX11_noiseWithout_0 : decode cX11_noiseWithout 0 = .ok (.aload_n 0, 1) := by decide +kernel
theorem dX11_noiseWithout_1 : decode cX11_noiseWithout 1 = .ok (.aload_n 0, 1) := by decide +kernel
theorem dX11_noiseWithout_2 : decode cX11_noiseWithout 2 = .ok (.getfield 12, 3) := by decide +kernel
theorem dX11_noiseWithout_5 : decode cX11_noiseWithout 5 = .ok (.getfield 150, 3) := by decide +kernel
theorem dX11_noiseWithout_8 : decode cX11_noiseWithout 8 = .ok (.invokevirtual 142, 3) := by decide +kernel
theorem dX11_noiseWithout_11 : decode cX11_noiseWithout 11 = .ok (.invokevirtual 187, 3) := by decide +kernel
theorem dX11_noiseWithout_14 : decode cX11_noiseWithout 14 = .ok (.istore 4, 2) := by decide +kernel
theorem dX11_noiseWithout_16 : decode cX11_noiseWithout 16 = .ok (.iload_n 2, 1) := by decide +kernel
theorem dX11_noiseWithout_17 : decode cX11_noiseWithout 17 = .ok (.iconst 1, 1) := by decide +kernel
theorem dX11_noiseWithout_18 : decode cX11_noiseWithout 18 = .ok (.iload_n 1, 1) := by decide +kernel
theorem dX11_noiseWithout_19 : decode cX11_noiseWithout 19 = .ok (.ishl, 1) := by decide +kernel
theorem dX11_noiseWithout_20 : decode cX11_noiseWithout 20 = .ok (.iconst (-1), 1) := by decide +kernel
theorem dX11_noiseWithout_21 : decode cX11_noiseWithout 21 = .ok (.ixor, 1) := by decide +kernel
theorem dX11_noiseWithout_22 : decode cX11_noiseWithout 22 = .ok (.iand, 1) := by decide +kernel
theorem dX11_noiseWithout_23 : decode cX11_noiseWithout 23 = .ok (.istore 5, 2) := by decide +kernel
theorem dX11_noiseWithout_25 : decode cX11_noiseWithout 25 = .ok (.aload_n 0, 1) := by decide +kernel
theorem dX11_noiseWithout_26 : decode cX11_noiseWithout 26 = .ok (.getfield 12, 3) := by decide +kernel
theorem dX11_noiseWithout_29 : decode cX11_noiseWithout 29 = .ok (.iload 5, 2) := by decide +kernel
theorem dX11_noiseWithout_31 : decode cX11_noiseWithout 31 = .ok (.invokevirtual 214, 3) := by decide +kernel
theorem dX11_noiseWithout_34 : decode cX11_noiseWithout 34 = .ok (.istore 6, 2) := by decide +kernel
theorem dX11_noiseWithout_36 : decode cX11_noiseWithout 36 = .ok (.iconst 0, 1) := by decide +kernel
theorem dX11_noiseWithout_37 : decode cX11_noiseWithout 37 = .ok (.istore 7, 2) := by decide +kernel
theorem dX11_noiseWithout_39 : decode cX11_noiseWithout 39 = .ok (.iload 7, 2) := by decide +kernel
theorem dX11_noiseWithout_41 : decode cX11_noiseWithout 41 = .ok (.iload_n 3, 1) := by decide +kernel
theorem dX11_noiseWithout_42 : decode cX11_noiseWithout 42 = .ok (.if_icmp .ge 37, 3) := by decide +kernel
theorem dX11_noiseWithout_45 : decode cX11_noiseWithout 45 = .ok (.aload_n 0, 1) := by decide +kernel
theorem dX11_noiseWithout_46 : decode cX11_noiseWithout 46 = .ok (.getfield 12, 3) := by decide +kernel
theorem dX11_noiseWithout_49 : decode cX11_noiseWithout 49 = .ok (.iload 5, 2) := by decide +kernel
theorem dX11_noiseWithout_51 : decode cX11_noiseWithout 51 = .ok (.iload 4, 2) := by decide +kernel
theorem dX11_noiseWithout_53 : decode cX11_noiseWithout 53 = .ok (.iload_n 1, 1) := by decide +kernel
theorem dX11_noiseWithout_54 : decode cX11_noiseWithout 54 = .ok (.invokevirtual 345, 3) := by decide +kernel
theorem dX11_noiseWithout_57 : decode cX11_noiseWithout 57 = .ok (.istore 5, 2) := by decide +kernel
theorem dX11_noiseWithout_59 : decode cX11_noiseWithout 59 = .ok (.iload 6, 2) := by decide +kernel
theorem dX11_noiseWithout_61 : decode cX11_noiseWithout 61 = .ok (.aload_n 0, 1) := by decide +kernel
theorem dX11_noiseWithout_62 : decode cX11_noiseWithout 62 = .ok (.getfield 12, 3) := by decide +kernel
theorem dX11_noiseWithout_65 : decode cX11_noiseWithout 65 = .ok (.iload 5, 2) := by decide +kernel
theorem dX11_noiseWithout_67 : decode cX11_noiseWithout 67 = .ok (.invokevirtual 214, 3) := by decide +kernel
theorem dX11_noiseWithout_70 : decode cX11_noiseWithout 70 = .ok (.iadd, 1) := by decide +kernel
theorem dX11_noiseWithout_71 : decode cX11_noiseWithout 71 = .ok (.istore 6, 2) := by decide +kernel
theorem dX11_noiseWithout_73 : decode cX11_noiseWithout 73 = .ok (.iinc 7 1, 3) := by decide +kernel
theorem dX11_noiseWithout_76 : decode cX11_noiseWithout 76 = .ok (.goto (-37), 3) := by decide +kernel
theorem dX11_noiseWithout_79 : decode cX11_noiseWithout 79 = .ok (.iload 6, 2) := by decide +kernel
theorem dX11_noiseWithout_81 : decode cX11_noiseWithout 81 = .ok (.ireturn, 1) := by decide +kernel
set_option maxRecDepth 20000 in
theorem ggX11_isPair_X7_at : GoodIn wsX11_isPair wsX7_at := goodIn_r _ [6, 7, 8, 23, 24, 25, 26, 27, 28, 29] (by decide +kernel) (by decide +kernel)
set_option maxRecDepth 20000 in
theorem gX11_isPair_X7_at : GoodIn wsX11_isPair (wsV RX11 82 RX7 yX7_at wsX7_at) := goodIn_app (goodIn_of _ (by decide +kernel)) ggX11_isPair_X7_at
theorem dX11_isPair_0 : decode cX11_isPair 0 = .ok (.iload_n 1, 1) := by decide +kernel
theorem dX11_isPair_1 : decode cX11_isPair 1 = .ok (.ifCond .lt 46, 3) := by decide +kernel
theorem dX11_isPair_4 : decode cX11_isPair 4 = .ok (.aload_n 0, 1) := by decide +kernel
theorem dX11_isPair_5 : decode cX11_isPair 5 = .ok (.getfield 12, 3) := by decide +kernel
theorem dX11_isPair_8 : decode cX11_isPair 8 = .ok (.iload_n 1, 1) := by decide +kernel
theorem dX11_isPair_9 : decode cX11_isPair 9 = .ok (.bipush 10, 2) := by decide +kernel
theorem dX11_isPair_11 : decode cX11_isPair 11 = .ok (.idiv, 1) := by decide +kernel
theorem dX11_isPair_12 : decode cX11_isPair 12 = .ok (.invokevirtual 82, 3) := by decide +kernel
theorem dX11_isPair_15 : decode cX11_isPair 15 = .ok (.ifnull 32, 3) := by decide +kernel
theorem dX11_isPair_18 : decode cX11_isPair 18 = .ok (.aload_n 0, 1) := by decide +kernel
theorem dX11_isPair_19 : decode cX11_isPair 19 = .ok (.getfield 12, 3) := by decide +kernel
theorem dX11_isPair_22 : decode cX11_isPair 22 = .ok (.iload_n 1, 1) := by decide +kernel
theorem dX11_isPair_23 : decode cX11_isPair 23 = .ok (.bipush 10, 2) := by decide +kernel
theorem dX11_isPair_25 : decode cX11_isPair 25 = .ok (.irem, 1) := by decide +kernel
theorem dX11_isPair_26 : decode cX11_isPair 26 = .ok (.invokevirtual 82, 3) := by decide +kernel
theorem dX11_isPair_29 : decode cX11_isPair 29 = .ok (.ifnull 18, 3) := by decide +kernel
theorem dX11_isPair_32 : decode cX11_isPair 32 = .ok (.iload_n 1, 1) := by decide +kernel
theorem dX11_isPair_33 : decode cX11_isPair 33 = .ok (.bipush 10, 2) := by decide +kernel
theorem dX11_isPair_35 : decode cX11_isPair 35 = .ok (.idiv, 1) := by decide +kernel
theorem dX11_isPair_36 : decode cX11_isPair 36 = .ok (.iload_n 1, 1) := by decide +kernel
theorem dX11_isPair_37 : decode cX11_isPair 37 = .ok (.bipush 10, 2) := by decide +kernel
theorem dX11_isPair_39 : decode cX11_isPair 39 = .ok (.irem, 1) := by decide +kernel
theorem dX11_isPair_40 : decode cX11_isPair 40 = .ok (.if_icmp .eq 7, 3) := by decide +kernel
theorem dX11_isPair_43 : decode cX11_isPair 43 = .ok (.iconst 1, 1) := by decide +kernel
theorem dX11_isPair_44 : decode cX11_isPair 44 = .ok (.goto 4, 3) := by decide +kernel
theorem dX11_isPair_47 : decode cX11_isPair 47 = .ok (.iconst 0, 1) := by decide +kernel
theorem dX11_isPair_48 : decode cX11_isPair 48 = .ok (.ireturn, 1) := by decide +kernel
theorem dX11_pairBits_0 : decode cX11_pairBits 0 = .ok (.iconst 1, 1) := by decide +kernel
theorem dX11_pairBits_1 : decode cX11_pairBits 1 = .ok (.iload_n 0, 1) := by decide +kernel
theorem dX11_pairBits_2 : decode cX11_pairBits 2 = .ok (.bipush 10, 2) := by decide +kernel
theorem dX11_pairBits_4 : decode cX11_pairBits 4 = .ok (.idiv, 1) := by decide +kernel
theorem dX11_pairBits_5 : decode cX11_pairBits 5 = .ok (.ishl, 1) := by decide +kernel
theorem dX11_pairBits_6 : decode cX11_pairBits 6 = .ok (.iconst 1, 1) := by decide +kernel
theorem dX11_pairBits_7 : decode cX11_pairBits 7 = .ok (.iload_n 0, 1) := by decide +kernel
theorem dX11_pairBits_8 : decode cX11_pairBits 8 = .ok (.bipush 10, 2) := by decide +kernel
theorem dX11_pairBits_10 : decode cX11_pairBits 10 = .ok (.irem, 1) := by decide +kernel
theorem dX11_pairBits_11 : decode cX11_pairBits 11 = .ok (.ishl, 1) := by decide +kernel
theorem dX11_pairBits_12 : decode cX11_pairBits 12 = .ok (.ior, 1) := by decide +kernel
theorem dX11_pairBits_13 : decode cX11_pairBits 13 = .ok (.ireturn, 1) := by decide +kernel
theorem dX11_isTape_0 : decode cX11_isTape 0 = .ok (.iload_n 0, 1) := by decide +kernel
theorem dX11_isTape_1 : decode cX11_isTape 1 = .ok (.ifCond .lt 13, 3) := by decide +kernel
theorem dX11_isTape_4 : decode cX11_isTape 4 = .ok (.iload_n 0, 1) := by decide +kernel
theorem dX11_isTape_5 : decode cX11_isTape 5 = .ok (.bipush 6, 2) := by decide +kernel
theorem dX11_isTape_7 : decode cX11_isTape 7 = .ok (.if_icmp .ge 7, 3) := by decide +kernel
theorem dX11_isTape_10 : decode cX11_isTape 10 = .ok (.iconst 1, 1) := by decide +kernel
theorem dX11_isTape_11 : decode cX11_isTape 11 = .ok (.goto 4, 3) := by decide +kernel
theorem dX11_isTape_14 : decode cX11_isTape 14 = .ok (.iconst 0, 1) := by decide +kernel
theorem dX11_isTape_15 : decode cX11_isTape 15 = .ok (.ireturn, 1) := by decide +kernel
set_option maxRecDepth 20000 in
theorem ggX11_isPlace_X11_isTape : GoodIn wsX11_isPlace wsX11_isTape := goodIn_r _ [6] (by decide +kernel) (by decide +kernel)
set_option maxRecDepth 20000 in
theorem gX11_isPlace_X11_isTape : GoodIn wsX11_isPlace (va_wsS RX11 266 yX11_isTape wsX11_isTape) := goodIn_app (goodIn_of _ (by decide +kernel)) ggX11_isPlace_X11_isTape
theorem dX11_isPlace_0 : decode cX11_isPlace 0 = .ok (.iload_n 1, 1) := by decide +kernel
theorem dX11_isPlace_1 : decode cX11_isPlace 1 = .ok (.invokestatic 266, 3) := by decide +kernel
theorem dX11_isPlace_4 : decode cX11_isPlace 4 = .ok (.ifCond .eq 32, 3) := by decide +kernel
theorem dX11_isPlace_7 : decode cX11_isPlace 7 = .ok (.iload_n 2, 1) := by decide +kernel
theorem dX11_isPlace_8 : decode cX11_isPlace 8 = .ok (.ifCond .lt 28, 3) := by decide +kernel
theorem dX11_isPlace_11 : decode cX11_isPlace 11 = .ok (.iload_n 2, 1) := by decide +kernel
theorem dX11_isPlace_12 : decode cX11_isPlace 12 = .ok (.aload_n 0, 1) := by decide +kernel
theorem dX11_isPlace_13 : decode cX11_isPlace 13 = .ok (.getfield 59, 3) := by decide +kernel
theorem dX11_isPlace_16 : decode cX11_isPlace 16 = .ok (.iload_n 1, 1) := by decide +kernel
theorem dX11_isPlace_17 : decode cX11_isPlace 17 = .ok (.iaload, 1) := by decide +kernel
theorem dX11_isPlace_18 : decode cX11_isPlace 18 = .ok (.if_icmp .ge 18, 3) := by decide +kernel
theorem dX11_isPlace_21 : decode cX11_isPlace 21 = .ok (.iload_n 2, 1) := by decide +kernel
theorem dX11_isPlace_22 : decode cX11_isPlace 22 = .ok (.aload_n 0, 1) := by decide +kernel
theorem dX11_isPlace_23 : decode cX11_isPlace 23 = .ok (.getfield 52, 3) := by decide +kernel
theorem dX11_isPlace_26 : decode cX11_isPlace 26 = .ok (.iload_n 1, 1) := by decide +kernel
theorem dX11_isPlace_27 : decode cX11_isPlace 27 = .ok (.aaload, 1) := by decide +kernel
theorem dX11_isPlace_28 : decode cX11_isPlace 28 = .ok (.arraylength, 1) := by decide +kernel
theorem dX11_isPlace_29 : decode cX11_isPlace 29 = .ok (.if_icmp .ge 7, 3) := by decide +kernel
theorem dX11_isPlace_32 : decode cX11_isPlace 32 = .ok (.iconst 1, 1) := by decide +kernel
theorem dX11_isPlace_33 : decode cX11_isPlace 33 = .ok (.goto 4, 3) := by decide +kernel
theorem dX11_isPlace_36 : decode cX11_isPlace 36 = .ok (.iconst 0, 1) := by decide +kernel
theorem dX11_isPlace_37 : decode cX11_isPlace 37 = .ok (.ireturn, 1) := by decide +kernel
set_option maxRecDepth 20000 in
theorem ggX11_isStretch_X11_isTape : GoodIn wsX11_isStretch wsX11_isTape := goodIn_r _ [6] (by decide +kernel) (by decide +kernel)
set_option maxRecDepth 20000 in
theorem gX11_isStretch_X11_isTape : GoodIn wsX11_isStretch (va_wsS RX11 266 yX11_isTape wsX11_isTape) := goodIn_app (goodIn_of _ (by decide +kernel)) ggX11_isStretch_X11_isTape
theorem dX11_isStretch_0 : decode cX11_isStretch 0 = .ok (.iload_n 1, 1) := by decide +kernel
theorem dX11_isStretch_1 : decode cX11_isStretch 1 = .ok (.invokestatic 266, 3) := by decide +kernel
theorem dX11_isStretch_4 : decode cX11_isStretch 4 = .ok (.ifCond .eq 48, 3) := by decide +kernel
theorem dX11_isStretch_7 : decode cX11_isStretch 7 = .ok (.iload_n 2, 1) := by decide +kernel
theorem dX11_isStretch_8 : decode cX11_isStretch 8 = .ok (.ifCond .lt 44, 3) := by decide +kernel
theorem dX11_isStretch_11 : decode cX11_isStretch 11 = .ok (.iload_n 3, 1) := by decide +kernel
theorem dX11_isStretch_12 : decode cX11_isStretch 12 = .ok (.ifCond .lt 40, 3) := by decide +kernel
theorem dX11_isStretch_15 : decode cX11_isStretch 15 = .ok (.iload_n 2, 1) := by decide +kernel
theorem dX11_isStretch_16 : decode cX11_isStretch 16 = .ok (.i2l, 1) := by decide +kernel
theorem dX11_isStretch_17 : decode cX11_isStretch 17 = .ok (.iload_n 3, 1) := by decide +kernel
theorem dX11_isStretch_18 : decode cX11_isStretch 18 = .ok (.i2l, 1) := by decide +kernel
theorem dX11_isStretch_19 : decode cX11_isStretch 19 = .ok (.ladd, 1) := by decide +kernel
theorem dX11_isStretch_20 : decode cX11_isStretch 20 = .ok (.aload_n 0, 1) := by decide +kernel
theorem dX11_isStretch_21 : decode cX11_isStretch 21 = .ok (.getfield 59, 3) := by decide +kernel
theorem dX11_isStretch_24 : decode cX11_isStretch 24 = .ok (.iload_n 1, 1) := by decide +kernel
theorem dX11_isStretch_25 : decode cX11_isStretch 25 = .ok (.iaload, 1) := by decide +kernel
theorem dX11_isStretch_26 : decode cX11_isStretch 26 = .ok (.i2l, 1) := by decide +kernel
theorem dX11_isStretch_27 : decode cX11_isStretch 27 = .ok (.lcmp, 1) := by decide +kernel
theorem dX11_isStretch_28 : decode cX11_isStretch 28 = .ok (.ifCond .gt 24, 3) := by decide +kernel
theorem dX11_isStretch_31 : decode cX11_isStretch 31 = .ok (.iload_n 2, 1) := by decide +kernel
theorem dX11_isStretch_32 : decode cX11_isStretch 32 = .ok (.i2l, 1) := by decide +kernel
theorem dX11_isStretch_33 : decode cX11_isStretch 33 = .ok (.iload_n 3, 1) := by decide +kernel
theorem dX11_isStretch_34 : decode cX11_isStretch 34 = .ok (.i2l, 1) := by decide +kernel
theorem dX11_isStretch_35 : decode cX11_isStretch 35 = .ok (.ladd, 1) := by decide +kernel
theorem dX11_isStretch_36 : decode cX11_isStretch 36 = .ok (.aload_n 0, 1) := by decide +kernel
theorem dX11_isStretch_37 : decode cX11_isStretch 37 = .ok (.getfield 52, 3) := by decide +kernel
theorem dX11_isStretch_40 : decode cX11_isStretch 40 = .ok (.iload_n 1, 1) := by decide +kernel
theorem dX11_isStretch_41 : decode cX11_isStretch 41 = .ok (.aaload, 1) := by decide +kernel
theorem dX11_isStretch_42 : decode cX11_isStretch 42 = .ok (.arraylength, 1) := by decide +kernel
theorem dX11_isStretch_43 : decode cX11_isStretch 43 = .ok (.i2l, 1) := by decide +kernel
theorem dX11_isStretch_44 : decode cX11_isStretch 44 = .ok (.lcmp, 1) := by decide +kernel
theorem dX11_isStretch_45 : decode cX11_isStretch 45 = .ok (.ifCond .gt 7, 3) := by decide +kernel
theorem dX11_isStretch_48 : decode cX11_isStretch 48 = .ok (.iconst 1, 1) := by decide +kernel
theorem dX11_isStretch_49 : decode cX11_isStretch 49 = .ok (.goto 4, 3) := by decide +kernel
theorem dX11_isStretch_52 : decode cX11_isStretch 52 = .ok (.iconst 0, 1) := by decide +kernel
theorem dX11_isStretch_53 : decode cX11_isStretch 53 = .ok (.ireturn, 1) := by decide +kernel
theorem dX11_asSort_0 : decode cX11_asSort 0 = .ok (.iload_n 0, 1) := by decide +kernel
theorem dX11_asSort_1 : decode cX11_asSort 1 = .ok (.tableswitch 61 0 4 #[35, 40, 45, 61, 49], 35) := by decide +kernel
theorem dX11_asSort_36 : decode cX11_asSort 36 = .ok (.lload_n 1, 1) := by decide +kernel
theorem dX11_asSort_37 : decode cX11_asSort 37 = .ok (.l2i, 1) := by decide +kernel
theorem dX11_asSort_38 : decode cX11_asSort 38 = .ok (.i2b, 1) := by decide +kernel
theorem dX11_asSort_39 : decode cX11_asSort 39 = .ok (.i2l, 1) := by decide +kernel
theorem dX11_asSort_40 : decode cX11_asSort 40 = .ok (.lreturn, 1) := by decide +kernel
theorem dX11_asSort_41 : decode cX11_asSort 41 = .ok (.lload_n 1, 1) := by decide +kernel
theorem dX11_asSort_42 : decode cX11_asSort 42 = .ok (.l2i, 1) := by decide +kernel
theorem dX11_asSort_43 : decode cX11_asSort 43 = .ok (.i2s, 1) := by decide +kernel
theorem dX11_asSort_44 : decode cX11_asSort 44 = .ok (.i2l, 1) := by decide +kernel
theorem dX11_asSort_45 : decode cX11_asSort 45 = .ok (.lreturn, 1) := by decide +kernel
theorem dX11_asSort_46 : decode cX11_asSort 46 = .ok (.lload_n 1, 1) := by decide +kernel
theorem dX11_asSort_47 : decode cX11_asSort 47 = .ok (.l2i, 1) := by decide +kernel
theorem dX11_asSort_48 : decode cX11_asSort 48 = .ok (.i2l, 1) := by decide +kernel
theorem dX11_asSort_49 : decode cX11_asSort 49 = .ok (.lreturn, 1) := by decide +kernel
theorem dX11_asSort_50 : decode cX11_asSort 50 = .ok (.lload_n 1, 1) := by decide +kernel
theorem dX11_asSort_51 : decode cX11_asSort 51 = .ok (.lconst 0, 1) := by decide +kernel
theorem dX11_asSort_52 : decode cX11_asSort 52 = .ok (.lcmp, 1) := by decide +kernel
theorem dX11_asSort_53 : decode cX11_asSort 53 = .ok (.ifCond .eq 7, 3) := by decide +kernel
theorem dX11_asSort_56 : decode cX11_asSort 56 = .ok (.lconst 1, 1) := by decide +kernel
theorem dX11_asSort_57 : decode cX11_asSort 57 = .ok (.goto 4, 3) := by decide +kernel
theorem dX11_asSort_60 : decode cX11_asSort 60 = .ok (.lconst 0, 1) := by decide +kernel
theorem dX11_asSort_61 : decode cX11_asSort 61 = .ok (.lreturn, 1) := by decide +kernel
theorem dX11_asSort_62 : decode cX11_asSort 62 = .ok (.lload_n 1, 1) := by decide +kernel
theorem dX11_asSort_63 : decode cX11_asSort 63 = .ok (.lreturn, 1) := by decide +kernel
