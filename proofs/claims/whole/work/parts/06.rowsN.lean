set_option maxRecDepth 20000 in
theorem gX8_about_X8_isOver : GoodIn wsX8_about (va_wsS RX8 149 yX8_isOver wsX8_isOver) := goodIn_app (goodIn_of _ (by decide +kernel)) ggX8_about_X8_isOver
set_option maxRecDepth 20000 in
theorem ggX8_about_X8_points : GoodIn wsX8_about wsX8_points := goodIn_r _ [17, 18, 19, 5, 20, 21, 22, 23, 24, 25, 26, 27, 28, 29] (by decide +kernel) (by decide +kernel)
set_option maxRecDepth 20000 in
theorem gX8_about_X8_points : GoodIn wsX8_about (va_wsS RX8 125 yX8_points wsX8_points) := goodIn_app (goodIn_of _ (by decide +kernel)) ggX8_about_X8_points
set_option maxRecDepth 20000 in
theorem ggX8_about_X8_toldOf : GoodIn wsX8_about wsX8_toldOf := goodIn_r _ [32] (by decide +kernel) (by decide +kernel)
set_option maxRecDepth 20000 in
theorem gX8_about_X8_toldOf : GoodIn wsX8_about (va_wsS RX8 104 yX8_toldOf wsX8_toldOf) := goodIn_app (goodIn_of _ (by decide +kernel)) ggX8_about_X8_toldOf
set_option maxRecDepth 20000 in
theorem ggX8_about_X8_standing : GoodIn wsX8_about wsX8_standing := goodIn_r _ [35] (by decide +kernel) (by decide +kernel)
set_option maxRecDepth 20000 in
theorem gX8_about_X8_standing : GoodIn wsX8_about (va_wsS RX8 173 yX8_standing wsX8_standing) := goodIn_app (goodIn_of _ (by decide +kernel)) ggX8_about_X8_standing
theorem dX8_about_0 : decode cX8_about 0 = .ok (.aload_n 0, 1) := by decide +kernel
theorem dX8_about_1 : decode cX8_about 1 = .ok (.iload_n 1, 1) := by decide +kernel
theorem dX8_about_2 : decode cX8_about 2 = .ok (.i2l, 1) := by decide +kernel
theorem dX8_about_3 : decode cX8_about 3 = .ok (.lconst 0, 1) := by decide +kernel
theorem dX8_about_4 : decode cX8_about 4 = .ok (.ldc2_w 46, 3) := by decide +kernel
theorem dX8_about_7 : decode cX8_about 7 = .ok (.invokestatic 48, 3) := by decide +kernel
theorem dX8_about_10 : decode cX8_about 10 = .ok (.ifCond .eq 7, 3) := by decide +kernel
theorem dX8_about_13 : decode cX8_about 13 = .ok (.iconst 0, 1) := by decide +kernel
theorem dX8_about_14 : decode cX8_about 14 = .ok (.goto 4, 3) := by decide +kernel
theorem dX8_about_17 : decode cX8_about 17 = .ok (.iconst 1, 1) := by decide +kernel
theorem dX8_about_18 : decode cX8_about 18 = .ok (.invokevirtual 135, 3) := by decide +kernel
theorem dX8_about_21 : decode cX8_about 21 = .ok (.ifCond .eq 5, 3) := by decide +kernel
theorem dX8_about_24 : decode cX8_about 24 = .ok (.iconst 0, 1) := by decide +kernel
theorem dX8_about_25 : decode cX8_about 25 = .ok (.ireturn, 1) := by decide +kernel
theorem dX8_about_26 : decode cX8_about 26 = .ok (.iload_n 1, 1) := by decide +kernel
theorem dX8_about_27 : decode cX8_about 27 = .ok (.tableswitch 139 0 9 #[53, 61, 91, 99, 139, 139, 139, 107, 115, 123], 53) := by decide +kernel
theorem dX8_about_80 : decode cX8_about 80 = .ok (.aload_n 0, 1) := by decide +kernel
theorem dX8_about_81 : decode cX8_about 81 = .ok (.getfield 13, 3) := by decide +kernel
theorem dX8_about_84 : decode cX8_about 84 = .ok (.bipush 52, 2) := by decide +kernel
theorem dX8_about_86 : decode cX8_about 86 = .ok (.iaload, 1) := by decide +kernel
theorem dX8_about_87 : decode cX8_about 87 = .ok (.ireturn, 1) := by decide +kernel
theorem dX8_about_88 : decode cX8_about 88 = .ok (.aload_n 0, 1) := by decide +kernel
theorem dX8_about_89 : decode cX8_about 89 = .ok (.getfield 13, 3) := by decide +kernel
theorem dX8_about_92 : decode cX8_about 92 = .ok (.invokestatic 149, 3) := by decide +kernel
theorem dX8_about_95 : decode cX8_about 95 = .ok (.ifCond .eq 7, 3) := by decide +kernel
theorem dX8_about_98 : decode cX8_about 98 = .ok (.iconst 0, 1) := by decide +kernel
theorem dX8_about_99 : decode cX8_about 99 = .ok (.goto 18, 3) := by decide +kernel
theorem dX8_about_102 : decode cX8_about 102 = .ok (.aload_n 0, 1) := by decide +kernel
theorem dX8_about_103 : decode cX8_about 103 = .ok (.getfield 13, 3) := by decide +kernel
theorem dX8_about_106 : decode cX8_about 106 = .ok (.bipush 63, 2) := by decide +kernel
theorem dX8_about_108 : decode cX8_about 108 = .ok (.aload_n 0, 1) := by decide +kernel
theorem dX8_about_109 : decode cX8_about 109 = .ok (.getfield 13, 3) := by decide +kernel
theorem dX8_about_112 : decode cX8_about 112 = .ok (.bipush 52, 2) := by decide +kernel
theorem dX8_about_114 : decode cX8_about 114 = .ok (.iaload, 1) := by decide +kernel
theorem dX8_about_115 : decode cX8_about 115 = .ok (.iadd, 1) := by decide +kernel
theorem dX8_about_116 : decode cX8_about 116 = .ok (.iaload, 1) := by decide +kernel
theorem dX8_about_117 : decode cX8_about 117 = .ok (.ireturn, 1) := by decide +kernel
theorem dX8_about_118 : decode cX8_about 118 = .ok (.aload_n 0, 1) := by decide +kernel
theorem dX8_about_119 : decode cX8_about 119 = .ok (.getfield 13, 3) := by decide +kernel
theorem dX8_about_122 : decode cX8_about 122 = .ok (.bipush 51, 2) := by decide +kernel
theorem dX8_about_124 : decode cX8_about 124 = .ok (.iaload, 1) := by decide +kernel
theorem dX8_about_125 : decode cX8_about 125 = .ok (.ireturn, 1) := by decide +kernel
theorem dX8_about_126 : decode cX8_about 126 = .ok (.aload_n 0, 1) := by decide +kernel
theorem dX8_about_127 : decode cX8_about 127 = .ok (.getfield 13, 3) := by decide +kernel
theorem dX8_about_130 : decode cX8_about 130 = .ok (.invokestatic 125, 3) := by decide +kernel
theorem dX8_about_133 : decode cX8_about 133 = .ok (.ireturn, 1) := by decide +kernel
theorem dX8_about_134 : decode cX8_about 134 = .ok (.aload_n 0, 1) := by decide +kernel
theorem dX8_about_135 : decode cX8_about 135 = .ok (.getfield 13, 3) := by decide +kernel
theorem dX8_about_138 : decode cX8_about 138 = .ok (.invokestatic 104, 3) := by decide +kernel
theorem dX8_about_141 : decode cX8_about 141 = .ok (.ireturn, 1) := by decide +kernel
theorem dX8_about_142 : decode cX8_about 142 = .ok (.aload_n 0, 1) := by decide +kernel
theorem dX8_about_143 : decode cX8_about 143 = .ok (.getfield 13, 3) := by decide +kernel
theorem dX8_about_146 : decode cX8_about 146 = .ok (.invokestatic 173, 3) := by decide +kernel
theorem dX8_about_149 : decode cX8_about 149 = .ok (.ireturn, 1) := by decide +kernel
theorem dX8_about_150 : decode cX8_about 150 = .ok (.aload_n 0, 1) := by decide +kernel
theorem dX8_about_151 : decode cX8_about 151 = .ok (.getfield 13, 3) := by decide +kernel
theorem dX8_about_154 : decode cX8_about 154 = .ok (.invokestatic 149, 3) := by decide +kernel
theorem dX8_about_157 : decode cX8_about 157 = .ok (.ifCond .eq 7, 3) := by decide +kernel
theorem dX8_about_160 : decode cX8_about 160 = .ok (.iconst 1, 1) := by decide +kernel
theorem dX8_about_161 : decode cX8_about 161 = .ok (.goto 4, 3) := by decide +kernel
theorem dX8_about_164 : decode cX8_about 164 = .ok (.iconst 0, 1) := by decide +kernel
theorem dX8_about_165 : decode cX8_about 165 = .ok (.ireturn, 1) := by decide +kernel
theorem dX8_about_166 : decode cX8_about 166 = .ok (.aload_n 0, 1) := by decide +kernel
theorem dX8_about_167 : decode cX8_about 167 = .ok (.getfield 13, 3) := by decide +kernel
theorem dX8_about_170 : decode cX8_about 170 = .ok (.bipush 73, 2) := by decide +kernel
theorem dX8_about_172 : decode cX8_about 172 = .ok (.iload_n 1, 1) := by decide +kernel
theorem dX8_about_173 : decode cX8_about 173 = .ok (.iadd, 1) := by decide +kernel
theorem dX8_about_174 : decode cX8_about 174 = .ok (.iconst 4, 1) := by decide +kernel
theorem dX8_about_175 : decode cX8_about 175 = .ok (.isub, 1) := by decide +kernel
theorem dX8_about_176 : decode cX8_about 176 = .ok (.iaload, 1) := by decide +kernel
theorem dX8_about_177 : decode cX8_about 177 = .ok (.ireturn, 1) := by decide +kernel
set_option maxRecDepth 20000 in
theorem ggX8_pin_X8_isPin : GoodIn wsX8_pin wsX8_isPin := goodIn_r _ [6, 7, 8, 9, 5, 10] (by decide +kernel) (by decide +kernel)
set_option maxRecDepth 20000 in
theorem gX8_pin_X8_isPin : GoodIn wsX8_pin (va_wsS RX8 176 yX8_isPin wsX8_isPin) := goodIn_app (goodIn_of _ (by decide +kernel)) ggX8_pin_X8_isPin
set_option maxRecDepth 20000 in
theorem ggX8_pin_X8_in : GoodIn wsX8_pin wsX8_in := goodIn_r _ [10] (by decide +kernel) (by decide +kernel)
set_option maxRecDepth 20000 in
theorem gX8_pin_X8_in : GoodIn wsX8_pin (va_wsS RX8 48 yX8_in wsX8_in) := goodIn_app (goodIn_of _ (by decide +kernel)) ggX8_pin_X8_in
set_option maxRecDepth 20000 in
theorem ggX8_pin_X8_refused : GoodIn wsX8_pin wsX8_refused := goodIn_r _ [14, 15, 25, 26, 27, 28, 29, 30, 31, 32, 33, 34, 35, 36, 37] (by decide +kernel) (by decide +kernel)
set_option maxRecDepth 20000 in
theorem gX8_pin_X8_refused : GoodIn wsX8_pin (wsV RX8 135 RX8 yX8_refused wsX8_refused) := goodIn_app (goodIn_of _ (by decide +kernel)) ggX8_pin_X8_refused
set_option maxRecDepth 20000 in
theorem ggX8_pin_X8_boardOf : GoodIn wsX8_pin wsX8_boardOf := goodIn_r _ [18, 19, 20, 5, 21, 22, 23, 24] (by decide +kernel) (by decide +kernel)
set_option maxRecDepth 20000 in
theorem gX8_pin_X8_boardOf : GoodIn wsX8_pin (va_wsS RX8 65 yX8_boardOf wsX8_boardOf) := goodIn_app (goodIn_of _ (by decide +kernel)) ggX8_pin_X8_boardOf
theorem dX8_pin_0 : decode cX8_pin 0 = .ok (.aload_n 0, 1) := by decide +kernel
theorem dX8_pin_1 : decode cX8_pin 1 = .ok (.iload_n 1, 1) := by decide +kernel
theorem dX8_pin_2 : decode cX8_pin 2 = .ok (.invokestatic 176, 3) := by decide +kernel
theorem dX8_pin_5 : decode cX8_pin 5 = .ok (.ifCond .ne 7, 3) := by decide +kernel
theorem dX8_pin_8 : decode cX8_pin 8 = .ok (.iconst 1, 1) := by decide +kernel
theorem dX8_pin_9 : decode cX8_pin 9 = .ok (.goto 20, 3) := by decide +kernel
theorem dX8_pin_12 : decode cX8_pin 12 = .ok (.iload_n 2, 1) := by decide +kernel
theorem dX8_pin_13 : decode cX8_pin 13 = .ok (.i2l, 1) := by decide +kernel
theorem dX8_pin_14 : decode cX8_pin 14 = .ok (.lconst 0, 1) := by decide +kernel
theorem dX8_pin_15 : decode cX8_pin 15 = .ok (.ldc2_w 71, 3) := by decide +kernel
theorem dX8_pin_18 : decode cX8_pin 18 = .ok (.invokestatic 48, 3) := by decide +kernel
theorem dX8_pin_21 : decode cX8_pin 21 = .ok (.ifCond .eq 7, 3) := by decide +kernel
theorem dX8_pin_24 : decode cX8_pin 24 = .ok (.iconst 0, 1) := by decide +kernel
theorem dX8_pin_25 : decode cX8_pin 25 = .ok (.goto 4, 3) := by decide +kernel
theorem dX8_pin_28 : decode cX8_pin 28 = .ok (.iconst 2, 1) := by decide +kernel
theorem dX8_pin_29 : decode cX8_pin 29 = .ok (.invokevirtual 135, 3) := by decide +kernel
theorem dX8_pin_32 : decode cX8_pin 32 = .ok (.ifCond .eq 5, 3) := by decide +kernel
theorem dX8_pin_35 : decode cX8_pin 35 = .ok (.iconst 0, 1) := by decide +kernel
theorem dX8_pin_36 : decode cX8_pin 36 = .ok (.ireturn, 1) := by decide +kernel
theorem dX8_pin_37 : decode cX8_pin 37 = .ok (.iload_n 2, 1) := by decide +kernel
theorem dX8_pin_38 : decode cX8_pin 38 = .ok (.ifCond .ne 14, 3) := by decide +kernel
theorem dX8_pin_41 : decode cX8_pin 41 = .ok (.aload_n 0, 1) := by decide +kernel
theorem dX8_pin_42 : decode cX8_pin 42 = .ok (.getfield 13, 3) := by decide +kernel
theorem dX8_pin_45 : decode cX8_pin 45 = .ok (.iconst 0, 1) := by decide +kernel
theorem dX8_pin_46 : decode cX8_pin 46 = .ok (.iload_n 1, 1) := by decide +kernel
theorem dX8_pin_47 : decode cX8_pin 47 = .ok (.iadd, 1) := by decide +kernel
theorem dX8_pin_48 : decode cX8_pin 48 = .ok (.iaload, 1) := by decide +kernel
theorem dX8_pin_49 : decode cX8_pin 49 = .ok (.goto 45, 3) := by decide +kernel
theorem dX8_pin_52 : decode cX8_pin 52 = .ok (.iload_n 2, 1) := by decide +kernel
theorem dX8_pin_53 : decode cX8_pin 53 = .ok (.iconst 1, 1) := by decide +kernel
theorem dX8_pin_54 : decode cX8_pin 54 = .ok (.if_icmp .ne 15, 3) := by decide +kernel
theorem dX8_pin_57 : decode cX8_pin 57 = .ok (.aload_n 0, 1) := by decide +kernel
theorem dX8_pin_58 : decode cX8_pin 58 = .ok (.getfield 13, 3) := by decide +kernel
theorem dX8_pin_61 : decode cX8_pin 61 = .ok (.bipush 10, 2) := by decide +kernel
theorem dX8_pin_63 : decode cX8_pin 63 = .ok (.iload_n 1, 1) := by decide +kernel
theorem dX8_pin_64 : decode cX8_pin 64 = .ok (.iadd, 1) := by decide +kernel
theorem dX8_pin_65 : decode cX8_pin 65 = .ok (.iaload, 1) := by decide +kernel
theorem dX8_pin_66 : decode cX8_pin 66 = .ok (.goto 28, 3) := by decide +kernel
theorem dX8_pin_69 : decode cX8_pin 69 = .ok (.iload_n 2, 1) := by decide +kernel
theorem dX8_pin_70 : decode cX8_pin 70 = .ok (.iconst 2, 1) := by decide +kernel
theorem dX8_pin_71 : decode cX8_pin 71 = .ok (.if_icmp .ne 14, 3) := by decide +kernel
theorem dX8_pin_74 : decode cX8_pin 74 = .ok (.aload_n 0, 1) := by decide +kernel
theorem dX8_pin_75 : decode cX8_pin 75 = .ok (.getfield 13, 3) := by decide +kernel
theorem dX8_pin_78 : decode cX8_pin 78 = .ok (.iload_n 1, 1) := by decide +kernel
theorem dX8_pin_79 : decode cX8_pin 79 = .ok (.invokestatic 65, 3) := by decide +kernel
theorem dX8_pin_82 : decode cX8_pin 82 = .ok (.goto 12, 3) := by decide +kernel
theorem dX8_pin_85 : decode cX8_pin 85 = .ok (.aload_n 0, 1) := by decide +kernel
theorem dX8_pin_86 : decode cX8_pin 86 = .ok (.getfield 13, 3) := by decide +kernel
theorem dX8_pin_89 : decode cX8_pin 89 = .ok (.bipush 20, 2) := by decide +kernel
theorem dX8_pin_91 : decode cX8_pin 91 = .ok (.iload_n 1, 1) := by decide +kernel
theorem dX8_pin_92 : decode cX8_pin 92 = .ok (.iadd, 1) := by decide +kernel
theorem dX8_pin_93 : decode cX8_pin 93 = .ok (.iaload, 1) := by decide +kernel
theorem dX8_pin_94 : decode cX8_pin 94 = .ok (.ireturn, 1) := by decide +kernel
set_option maxRecDepth 20000 in
theorem ggX8_frame_X8_in : GoodIn wsX8_frame wsX8_in := goodIn_r _ [7] (by decide +kernel) (by decide +kernel)
set_option maxRecDepth 20000 in
theorem gX8_frame_X8_in : GoodIn wsX8_frame (va_wsS RX8 48 yX8_in wsX8_in) := goodIn_app (goodIn_of _ (by decide +kernel)) ggX8_frame_X8_in
set_option maxRecDepth 20000 in
theorem ggX8_frame_X8_refused : GoodIn wsX8_frame wsX8_refused := goodIn_r _ [11, 12, 25, 26, 27, 28, 29, 30, 31, 32, 33, 34, 35, 36, 37] (by decide +kernel) (by decide +kernel)
set_option maxRecDepth 20000 in
theorem gX8_frame_X8_refused : GoodIn wsX8_frame (wsV RX8 135 RX8 yX8_refused wsX8_refused) := goodIn_app (goodIn_of _ (by decide +kernel)) ggX8_frame_X8_refused
set_option maxRecDepth 20000 in
theorem ggX8_frame_X8_pointsOf : GoodIn wsX8_frame wsX8_pointsOf := goodIn_r _ [15, 16, 17, 6, 18, 19, 20, 21, 22, 23, 24] (by decide +kernel) (by decide +kernel)
set_option maxRecDepth 20000 in
theorem gX8_frame_X8_pointsOf : GoodIn wsX8_frame (va_wsS RX8 98 yX8_pointsOf wsX8_pointsOf) := goodIn_app (goodIn_of _ (by decide +kernel)) ggX8_frame_X8_pointsOf
set_option maxRecDepth 20000 in
theorem ggX8_frame_X8_markOf : GoodIn wsX8_frame wsX8_markOf := goodIn_r _ [21, 16, 17, 6, 18] (by decide +kernel) (by decide +kernel)
set_option maxRecDepth 20000 in
theorem gX8_frame_X8_markOf : GoodIn wsX8_frame (va_wsS RX8 92 yX8_markOf wsX8_markOf) := goodIn_app (goodIn_of _ (by decide +kernel)) ggX8_frame_X8_markOf
theorem dX8_frame_0 : decode cX8_frame 0 = .ok (.aload_n 0, 1) := by decide +kernel
theorem dX8_frame_1 : decode cX8_frame 1 = .ok (.iload_n 1, 1) := by decide +kernel
theorem dX8_frame_2 : decode cX8_frame 2 = .ok (.i2l, 1) := by decide +kernel
theorem dX8_frame_3 : decode cX8_frame 3 = .ok (.lconst 0, 1) := by decide +kernel
theorem dX8_frame_4 : decode cX8_frame 4 = .ok (.ldc2_w 46, 3) := by decide +kernel
theorem dX8_frame_7 : decode cX8_frame 7 = .ok (.invokestatic 48, 3) := by decide +kernel
theorem dX8_frame_10 : decode cX8_frame 10 = .ok (.ifCond .ne 7, 3) := by decide +kernel
theorem dX8_frame_13 : decode cX8_frame 13 = .ok (.iconst 1, 1) := by decide +kernel
theorem dX8_frame_14 : decode cX8_frame 14 = .ok (.goto 20, 3) := by decide +kernel
theorem dX8_frame_17 : decode cX8_frame 17 = .ok (.iload_n 2, 1) := by decide +kernel
theorem dX8_frame_18 : decode cX8_frame 18 = .ok (.i2l, 1) := by decide +kernel
theorem dX8_frame_19 : decode cX8_frame 19 = .ok (.lconst 0, 1) := by decide +kernel
theorem dX8_frame_20 : decode cX8_frame 20 = .ok (.ldc2_w 56, 3) := by decide +kernel
theorem dX8_frame_23 : decode cX8_frame 23 = .ok (.invokestatic 48, 3) := by decide +kernel
theorem dX8_frame_26 : decode cX8_frame 26 = .ok (.ifCond .eq 7, 3) := by decide +kernel
theorem dX8_frame_29 : decode cX8_frame 29 = .ok (.iconst 0, 1) := by decide +kernel
theorem dX8_frame_30 : decode cX8_frame 30 = .ok (.goto 4, 3) := by decide +kernel
theorem dX8_frame_33 : decode cX8_frame 33 = .ok (.iconst 2, 1) := by decide +kernel
theorem dX8_frame_34 : decode cX8_frame 34 = .ok (.invokevirtual 135, 3) := by decide +kernel
theorem dX8_frame_37 : decode cX8_frame 37 = .ok (.ifCond .eq 5, 3) := by decide +kernel
theorem dX8_frame_40 : decode cX8_frame 40 = .ok (.iconst 0, 1) := by decide +kernel
theorem dX8_frame_41 : decode cX8_frame 41 = .ok (.ireturn, 1) := by decide +kernel
theorem dX8_frame_42 : decode cX8_frame 42 = .ok (.iload_n 2, 1) := by decide +kernel
theorem dX8_frame_43 : decode cX8_frame 43 = .ok (.ifCond .ne 15, 3) := by decide +kernel
theorem dX8_frame_46 : decode cX8_frame 46 = .ok (.aload_n 0, 1) := by decide +kernel
theorem dX8_frame_47 : decode cX8_frame 47 = .ok (.getfield 13, 3) := by decide +kernel
theorem dX8_frame_50 : decode cX8_frame 50 = .ok (.bipush 63, 2) := by decide +kernel
theorem dX8_frame_52 : decode cX8_frame 52 = .ok (.iload_n 1, 1) := by decide +kernel
theorem dX8_frame_53 : decode cX8_frame 53 = .ok (.iadd, 1) := by decide +kernel
theorem dX8_frame_54 : decode cX8_frame 54 = .ok (.iaload, 1) := by decide +kernel
theorem dX8_frame_55 : decode cX8_frame 55 = .ok (.goto 27, 3) := by decide +kernel
theorem dX8_frame_58 : decode cX8_frame 58 = .ok (.iload_n 2, 1) := by decide +kernel
theorem dX8_frame_59 : decode cX8_frame 59 = .ok (.iconst 1, 1) := by decide +kernel
theorem dX8_frame_60 : decode cX8_frame 60 = .ok (.if_icmp .ne 14, 3) := by decide +kernel
theorem dX8_frame_63 : decode cX8_frame 63 = .ok (.aload_n 0, 1) := by decide +kernel
theorem dX8_frame_64 : decode cX8_frame 64 = .ok (.getfield 13, 3) := by decide +kernel
theorem dX8_frame_67 : decode cX8_frame 67 = .ok (.iload_n 1, 1) := by decide +kernel
theorem dX8_frame_68 : decode cX8_frame 68 = .ok (.invokestatic 98, 3) := by decide +kernel
theorem dX8_frame_71 : decode cX8_frame 71 = .ok (.goto 11, 3) := by decide +kernel
theorem dX8_frame_74 : decode cX8_frame 74 = .ok (.aload_n 0, 1) := by decide +kernel
theorem dX8_frame_75 : decode cX8_frame 75 = .ok (.getfield 13, 3) := by decide +kernel
theorem dX8_frame_78 : decode cX8_frame 78 = .ok (.iload_n 1, 1) := by decide +kernel
theorem dX8_frame_79 : decode cX8_frame 79 = .ok (.invokestatic 92, 3) := by decide +kernel
theorem dX8_frame_82 : decode cX8_frame 82 = .ok (.ireturn, 1) := by decide +kernel
set_option maxRecDepth 20000 in
theorem ggX8_taken_X8_in : GoodIn wsX8_taken wsX8_in := goodIn_r _ [5] (by decide +kernel) (by decide +kernel)
set_option maxRecDepth 20000 in
theorem gX8_taken_X8_in : GoodIn wsX8_taken (va_wsS RX8 48 yX8_in wsX8_in) := goodIn_app (goodIn_of _ (by decide +kernel)) ggX8_taken_X8_in
set_option maxRecDepth 20000 in
theorem ggX8_taken_X8_refused : GoodIn wsX8_taken wsX8_refused := goodIn_r _ [9, 10, 11, 12, 13, 14, 15, 16, 17, 18, 19, 20, 21, 22, 23] (by decide +kernel) (by decide +kernel)
set_option maxRecDepth 20000 in
theorem gX8_taken_X8_refused : GoodIn wsX8_taken (wsV RX8 135 RX8 yX8_refused wsX8_refused) := goodIn_app (goodIn_of _ (by decide +kernel)) ggX8_taken_X8_refused
theorem dX8_taken_0 : decode cX8_taken 0 = .ok (.aload_n 0, 1) := by decide +kernel
theorem dX8_taken_1 : decode cX8_taken 1 = .ok (.iload_n 1, 1) := by decide +kernel
theorem dX8_taken_2 : decode cX8_taken 2 = .ok (.i2l, 1) := by decide +kernel
theorem dX8_taken_3 : decode cX8_taken 3 = .ok (.lconst 0, 1) := by decide +kernel
theorem dX8_taken_4 : decode cX8_taken 4 = .ok (.aload_n 0, 1) := by decide +kernel
theorem dX8_taken_5 : decode cX8_taken 5 = .ok (.getfield 13, 3) := by decide +kernel
theorem dX8_taken_8 : decode cX8_taken 8 = .ok (.bipush 51, 2) := by decide +kernel
theorem dX8_taken_10 : decode cX8_taken 10 = .ok (.iaload, 1) := by decide +kernel
theorem dX8_taken_11 : decode cX8_taken 11 = .ok (.iconst 1, 1) := by decide +kernel
theorem dX8_taken_12 : decode cX8_taken 12 = .ok (.isub, 1) := by decide +kernel
theorem dX8_taken_13 : decode cX8_taken 13 = .ok (.i2l, 1) := by decide +kernel
theorem dX8_taken_14 : decode cX8_taken 14 = .ok (.invokestatic 48, 3) := by decide +kernel
theorem dX8_taken_17 : decode cX8_taken 17 = .ok (.ifCond .eq 7, 3) := by decide +kernel
theorem dX8_taken_20 : decode cX8_taken 20 = .ok (.iconst 0, 1) := by decide +kernel
theorem dX8_taken_21 : decode cX8_taken 21 = .ok (.goto 4, 3) := by decide +kernel
theorem dX8_taken_24 : decode cX8_taken 24 = .ok (.iconst 1, 1) := by decide +kernel
theorem dX8_taken_25 : decode cX8_taken 25 = .ok (.invokevirtual 135, 3) := by decide +kernel
theorem dX8_taken_28 : decode cX8_taken 28 = .ok (.ifCond .eq 5, 3) := by decide +kernel
theorem dX8_taken_31 : decode cX8_taken 31 = .ok (.iconst 0, 1) := by decide +kernel
theorem dX8_taken_32 : decode cX8_taken 32 = .ok (.ireturn, 1) := by decide +kernel
theorem dX8_taken_33 : decode cX8_taken 33 = .ok (.aload_n 0, 1) := by decide +kernel
theorem dX8_taken_34 : decode cX8_taken 34 = .ok (.getfield 13, 3) := by decide +kernel
theorem dX8_taken_37 : decode cX8_taken 37 = .ok (.bipush 30, 2) := by decide +kernel
theorem dX8_taken_39 : decode cX8_taken 39 = .ok (.iload_n 1, 1) := by decide +kernel
theorem dX8_taken_40 : decode cX8_taken 40 = .ok (.iadd, 1) := by decide +kernel
theorem dX8_taken_41 : decode cX8_taken 41 = .ok (.iaload, 1) := by decide +kernel
theorem dX8_taken_42 : decode cX8_taken 42 = .ok (.ireturn, 1) := by decide +kernel
set_option maxRecDepth 20000 in
theorem ggX8_setting_X8_in : GoodIn wsX8_setting wsX8_in := goodIn_r _ [6] (by decide +kernel) (by decide +kernel)
set_option maxRecDepth 20000 in
theorem gX8_setting_X8_in : GoodIn wsX8_setting (va_wsS RX8 48 yX8_in wsX8_in) := goodIn_app (goodIn_of _ (by decide +kernel)) ggX8_setting_X8_in
set_option maxRecDepth 20000 in
theorem ggX8_setting_X8_refused : GoodIn wsX8_setting wsX8_refused := goodIn_r _ [10, 11, 12, 13, 14, 15, 16, 17, 18, 19, 20, 21, 22, 23, 24] (by decide +kernel) (by decide +kernel)
set_option maxRecDepth 20000 in
theorem gX8_setting_X8_refused : GoodIn wsX8_setting (wsV RX8 135 RX8 yX8_refused wsX8_refused) := goodIn_app (goodIn_of _ (by decide +kernel)) ggX8_setting_X8_refused
theorem dX8_setting_0 : decode cX8_setting 0 = .ok (.aload_n 0, 1) := by decide +kernel
theorem dX8_setting_1 : decode cX8_setting 1 = .ok (.iload_n 1, 1) := by decide +kernel
theorem dX8_setting_2 : decode cX8_setting 2 = .ok (.i2l, 1) := by decide +kernel
theorem dX8_setting_3 : decode cX8_setting 3 = .ok (.lconst 0, 1) := by decide +kernel
theorem dX8_setting_4 : decode cX8_setting 4 = .ok (.ldc2_w 56, 3) := by decide +kernel
theorem dX8_setting_7 : decode cX8_setting 7 = .ok (.invokestatic 48, 3) := by decide +kernel
theorem dX8_setting_10 : decode cX8_setting 10 = .ok (.ifCond .eq 7, 3) := by decide +kernel
theorem dX8_setting_13 : decode cX8_setting 13 = .ok (.iconst 0, 1) := by decide +kernel
theorem dX8_setting_14 : decode cX8_setting 14 = .ok (.goto 4, 3) := by decide +kernel
theorem dX8_setting_17 : decode cX8_setting 17 = .ok (.iconst 1, 1) := by decide +kernel
theorem dX8_setting_18 : decode cX8_setting 18 = .ok (.invokevirtual 135, 3) := by decide +kernel
theorem dX8_setting_21 : decode cX8_setting 21 = .ok (.ifCond .eq 5, 3) := by decide +kernel
theorem dX8_setting_24 : decode cX8_setting 24 = .ok (.iconst 0, 1) := by decide +kernel
theorem dX8_setting_25 : decode cX8_setting 25 = .ok (.ireturn, 1) := by decide +kernel
theorem dX8_setting_26 : decode cX8_setting 26 = .ok (.aload_n 0, 1) := by decide +kernel
theorem dX8_setting_27 : decode cX8_setting 27 = .ok (.getfield 13, 3) := by decide +kernel
theorem dX8_setting_30 : decode cX8_setting 30 = .ok (.bipush 76, 2) := by decide +kernel
theorem dX8_setting_32 : decode cX8_setting 32 = .ok (.iload_n 1, 1) := by decide +kernel
theorem dX8_setting_33 : decode cX8_setting 33 = .ok (.iadd, 1) := by decide +kernel
theorem dX8_setting_34 : decode cX8_setting 34 = .ok (.iaload, 1) := by decide +kernel
theorem dX8_setting_35 : decode cX8_setting 35 = .ok (.ireturn, 1) := by decide +kernel
set_option maxRecDepth 20000 in
theorem ggX8_remember_X8_copyState : GoodIn wsX8_remember wsX8_copyState := goodIn_r _ [7] (by decide +kernel) (by decide +kernel)
set_option maxRecDepth 20000 in
theorem gX8_remember_X8_copyState : GoodIn wsX8_remember (va_wsS RX8 166 yX8_copyState wsX8_copyState) := goodIn_app (goodIn_of _ (by decide +kernel)) ggX8_remember_X8_copyState
theorem dX8_remember_0 : decode cX8_remember 0 = .ok (.aload_n 0, 1) := by decide +kernel
theorem dX8_remember_1 : decode cX8_remember 1 = .ok (.getfield 170, 3) := by decide +kernel
theorem dX8_remember_4 : decode cX8_remember 4 = .ok (.bipush 14, 2) := by decide +kernel
theorem dX8_remember_6 : decode cX8_remember 6 = .ok (.if_icmp .ne 43, 3) := by decide +kernel
theorem dX8_remember_9 : decode cX8_remember 9 = .ok (.iconst 0, 1) := by decide +kernel
theorem dX8_remember_10 : decode cX8_remember 10 = .ok (.istore_n 1, 1) := by decide +kernel
theorem dX8_remember_11 : decode cX8_remember 11 = .ok (.iload_n 1, 1) := by decide +kernel
theorem dX8_remember_12 : decode cX8_remember 12 = .ok (.sipush 1027, 3) := by decide +kernel
theorem dX8_remember_15 : decode cX8_remember 15 = .ok (.if_icmp .ge 24, 3) := by decide +kernel
theorem dX8_remember_18 : decode cX8_remember 18 = .ok (.aload_n 0, 1) := by decide +kernel
theorem dX8_remember_19 : decode cX8_remember 19 = .ok (.getfield 19, 3) := by decide +kernel
theorem dX8_remember_22 : decode cX8_remember 22 = .ok (.iload_n 1, 1) := by decide +kernel
theorem dX8_remember_23 : decode cX8_remember 23 = .ok (.aload_n 0, 1) := by decide +kernel
theorem dX8_remember_24 : decode cX8_remember 24 = .ok (.getfield 19, 3) := by decide +kernel
theorem dX8_remember_27 : decode cX8_remember 27 = .ok (.iload_n 1, 1) := by decide +kernel
theorem dX8_remember_28 : decode cX8_remember 28 = .ok (.bipush 79, 2) := by decide +kernel
theorem dX8_remember_30 : decode cX8_remember 30 = .ok (.iadd, 1) := by decide +kernel
theorem dX8_remember_31 : decode cX8_remember 31 = .ok (.iaload, 1) := by decide +kernel
theorem dX8_remember_32 : decode cX8_remember 32 = .ok (.iastore, 1) := by decide +kernel
theorem dX8_remember_33 : decode cX8_remember 33 = .ok (.iinc 1 1, 3) := by decide +kernel
theorem dX8_remember_36 : decode cX8_remember 36 = .ok (.goto (-25), 3) := by decide +kernel
theorem dX8_remember_39 : decode cX8_remember 39 = .ok (.aload_n 0, 1) := by decide +kernel
theorem dX8_remember_40 : decode cX8_remember 40 = .ok (.dup, 1) := by decide +kernel
theorem dX8_remember_41 : decode cX8_remember 41 = .ok (.getfield 170, 3) := by decide +kernel
theorem dX8_remember_44 : decode cX8_remember 44 = .ok (.iconst 1, 1) := by decide +kernel
theorem dX8_remember_45 : decode cX8_remember 45 = .ok (.isub, 1) := by decide +kernel
theorem dX8_remember_46 : decode cX8_remember 46 = .ok (.putfield 170, 3) := by decide +kernel
theorem dX8_remember_49 : decode cX8_remember 49 = .ok (.aload_n 0, 1) := by decide +kernel
theorem dX8_remember_50 : decode cX8_remember 50 = .ok (.getfield 13, 3) := by decide +kernel
theorem dX8_remember_53 : decode cX8_remember 53 = .ok (.iconst 0, 1) := by decide +kernel
theorem dX8_remember_54 : decode cX8_remember 54 = .ok (.aload_n 0, 1) := by decide +kernel
theorem dX8_remember_55 : decode cX8_remember 55 = .ok (.getfield 19, 3) := by decide +kernel
theorem dX8_remember_58 : decode cX8_remember 58 = .ok (.bipush 79, 2) := by decide +kernel
theorem dX8_remember_60 : decode cX8_remember 60 = .ok (.aload_n 0, 1) := by decide +kernel
theorem dX8_remember_61 : decode cX8_remember 61 = .ok (.getfield 170, 3) := by decide +kernel
theorem dX8_remember_64 : decode cX8_remember 64 = .ok (.imul, 1) := by decide +kernel
theorem dX8_remember_65 : decode cX8_remember 65 = .ok (.invokestatic 166, 3) := by decide +kernel
theorem dX8_remember_68 : decode cX8_remember 68 = .ok (.aload_n 0, 1) := by decide +kernel
theorem dX8_remember_69 : decode cX8_remember 69 = .ok (.dup, 1) := by decide +kernel
theorem dX8_remember_70 : decode cX8_remember 70 = .ok (.getfield 170, 3) := by decide +kernel
theorem dX8_remember_73 : decode cX8_remember 73 = .ok (.iconst 1, 1) := by decide +kernel
theorem dX8_remember_74 : decode cX8_remember 74 = .ok (.iadd, 1) := by decide +kernel
theorem dX8_remember_75 : decode cX8_remember 75 = .ok (.putfield 170, 3) := by decide +kernel
theorem dX8_remember_78 : decode cX8_remember 78 = .ok (.return_, 1) := by decide +kernel
set_option maxRecDepth 20000 in
theorem ggX8_begin_X8_remember : GoodIn wsX8_begin wsX8_remember := goodIn_r _ [7, 8, 9, 2, 10, 11, 6, 12, 34, 35, 36, 37, 38, 39, 40, 41, 42, 43, 44, 45, 46] (by decide +kernel) (by decide +kernel)
set_option maxRecDepth 20000 in
theorem gX8_begin_X8_remember : GoodIn wsX8_begin (wsV RX8 179 RX8 yX8_remember wsX8_remember) := goodIn_app (goodIn_of _ (by decide +kernel)) ggX8_begin_X8_remember
set_option maxRecDepth 20000 in
theorem ggX8_begin_X8_beginOn : GoodIn wsX8_begin wsX8_beginOn := goodIn_r _ [15, 16, 17, 6, 18, 19, 20, 21, 22, 23, 24, 25, 26, 27, 28, 29, 30, 31, 32, 33] (by decide +kernel) (by decide +kernel)
set_option maxRecDepth 20000 in
theorem gX8_begin_X8_beginOn : GoodIn wsX8_begin (va_wsS RX8 182 yX8_beginOn wsX8_beginOn) := goodIn_app (goodIn_of _ (by decide +kernel)) ggX8_begin_X8_beginOn
theorem dX8_begin_0 : decode cX8_begin 0 = .ok (.aload_n 0, 1) := by decide +kernel
theorem dX8_begin_1 : decode cX8_begin 1 = .ok (.iconst 0, 1) := by decide +kernel
theorem dX8_begin_2 : decode cX8_begin 2 = .ok (.putfield 39, 3) := by decide +kernel
theorem dX8_begin_5 : decode cX8_begin 5 = .ok (.aload_n 0, 1) := by decide +kernel
theorem dX8_begin_6 : decode cX8_begin 6 = .ok (.invokevirtual 179, 3) := by decide +kernel
theorem dX8_begin_9 : decode cX8_begin 9 = .ok (.aload_n 0, 1) := by decide +kernel
theorem dX8_begin_10 : decode cX8_begin 10 = .ok (.getfield 13, 3) := by decide +kernel
theorem dX8_begin_13 : decode cX8_begin 13 = .ok (.invokestatic 182, 3) := by decide +kernel
theorem dX8_begin_16 : decode cX8_begin 16 = .ok (.ireturn, 1) := by decide +kernel
set_option maxRecDepth 20000 in
theorem ggX8_roll_X8_isBall : GoodIn wsX8_roll wsX8_isBall := goodIn_r _ [6, 7, 8, 9, 10, 11, 5, 12] (by decide +kernel) (by decide +kernel)
set_option maxRecDepth 20000 in
theorem gX8_roll_X8_isBall : GoodIn wsX8_roll (va_wsS RX8 185 yX8_isBall wsX8_isBall) := goodIn_app (goodIn_of _ (by decide +kernel)) ggX8_roll_X8_isBall
set_option maxRecDepth 20000 in
theorem ggX8_roll_X8_in : GoodIn wsX8_roll wsX8_in := goodIn_r _ [12] (by decide +kernel) (by decide +kernel)
set_option maxRecDepth 20000 in
theorem gX8_roll_X8_in : GoodIn wsX8_roll (va_wsS RX8 48 yX8_in wsX8_in) := goodIn_app (goodIn_of _ (by decide +kernel)) ggX8_roll_X8_in
set_option maxRecDepth 20000 in
theorem ggX8_roll_X8_isOver : GoodIn wsX8_roll wsX8_isOver := goodIn_r _ [15] (by decide +kernel) (by decide +kernel)
set_option maxRecDepth 20000 in
theorem gX8_roll_X8_isOver : GoodIn wsX8_roll (va_wsS RX8 149 yX8_isOver wsX8_isOver) := goodIn_app (goodIn_of _ (by decide +kernel)) ggX8_roll_X8_isOver
set_option maxRecDepth 20000 in
theorem ggX8_roll_X8_refused : GoodIn wsX8_roll wsX8_refused := goodIn_r _ [19, 20, 94, 95, 96, 97, 98, 99, 100, 101, 102, 103, 104, 105, 106] (by decide +kernel) (by decide +kernel)
set_option maxRecDepth 20000 in
theorem gX8_roll_X8_refused : GoodIn wsX8_roll (wsV RX8 135 RX8 yX8_refused wsX8_refused) := goodIn_app (goodIn_of _ (by decide +kernel)) ggX8_roll_X8_refused
set_option maxRecDepth 20000 in
theorem ggX8_roll_X8_remember : GoodIn wsX8_roll wsX8_remember := goodIn_r _ [24, 25, 26, 2, 27, 28, 5, 29, 94, 95, 96, 97, 98, 99, 100, 101, 102, 103, 104, 105, 106] (by decide +kernel) (by decide +kernel)
set_option maxRecDepth 20000 in
theorem gX8_roll_X8_remember : GoodIn wsX8_roll (wsV RX8 179 RX8 yX8_remember wsX8_remember) := goodIn_app (goodIn_of _ (by decide +kernel)) ggX8_roll_X8_remember
set_option maxRecDepth 20000 in
theorem ggX8_roll_X8_throwOn : GoodIn wsX8_roll wsX8_throwOn := goodIn_r _ [33, 34, 35, 5, 36, 37, 38, 39, 40, 41, 42, 43, 44, 45, 46, 47, 48, 49, 50, 51, 52, 53, 54, 55, 56, 57, 58, 8, 9, 59, 60, 61, 62, 63, 64, 10, 11, 12, 65, 66, 67, 68, 69, 70, 71, 72, 73, 74, 75, 76, 77, 78, 79, 80, 81, 82, 83, 84, 85, 86, 87, 88, 89, 90, 91, 92, 93, 94, 95, 96, 97, 98, 99, 100, 101, 102, 103, 104, 105, 106] (by decide +kernel) (by decide +kernel)
set_option maxRecDepth 20000 in
theorem gX8_roll_X8_throwOn : GoodIn wsX8_roll (wsV RX8 156 RX8 yX8_throwOn wsX8_throwOn) := goodIn_app (goodIn_of _ (by decide +kernel)) ggX8_roll_X8_throwOn
theorem dX8_roll_0 : decode cX8_roll 0 = .ok (.aload_n 0, 1) := by decide +kernel
theorem dX8_roll_1 : decode cX8_roll 1 = .ok (.iload_n 1, 1) := by decide +kernel
theorem dX8_roll_2 : decode cX8_roll 2 = .ok (.iload_n 2, 1) := by decide +kernel
theorem dX8_roll_3 : decode cX8_roll 3 = .ok (.invokestatic 185, 3) := by decide +kernel
theorem dX8_roll_6 : decode cX8_roll 6 = .ok (.ifCond .eq 15, 3) := by decide +kernel
theorem dX8_roll_9 : decode cX8_roll 9 = .ok (.iload_n 3, 1) := by decide +kernel
theorem dX8_roll_10 : decode cX8_roll 10 = .ok (.i2l, 1) := by decide +kernel
theorem dX8_roll_11 : decode cX8_roll 11 = .ok (.lconst 1, 1) := by decide +kernel
theorem dX8_roll_12 : decode cX8_roll 12 = .ok (.ldc2_w 189, 3) := by decide +kernel
theorem dX8_roll_15 : decode cX8_roll 15 = .ok (.invokestatic 48, 3) := by decide +kernel
theorem dX8_roll_18 : decode cX8_roll 18 = .ok (.ifCond .ne 7, 3) := by decide +kernel
theorem dX8_roll_21 : decode cX8_roll 21 = .ok (.iconst 1, 1) := by decide +kernel
theorem dX8_roll_22 : decode cX8_roll 22 = .ok (.goto 18, 3) := by decide +kernel
theorem dX8_roll_25 : decode cX8_roll 25 = .ok (.aload_n 0, 1) := by decide +kernel
theorem dX8_roll_26 : decode cX8_roll 26 = .ok (.getfield 13, 3) := by decide +kernel
theorem dX8_roll_29 : decode cX8_roll 29 = .ok (.invokestatic 149, 3) := by decide +kernel
theorem dX8_roll_32 : decode cX8_roll 32 = .ok (.ifCond .eq 7, 3) := by decide +kernel
theorem dX8_roll_35 : decode cX8_roll 35 = .ok (.iconst 2, 1) := by decide +kernel
theorem dX8_roll_36 : decode cX8_roll 36 = .ok (.goto 4, 3) := by decide +kernel
theorem dX8_roll_39 : decode cX8_roll 39 = .ok (.iconst 0, 1) := by decide +kernel
theorem dX8_roll_40 : decode cX8_roll 40 = .ok (.invokevirtual 135, 3) := by decide +kernel
theorem dX8_roll_43 : decode cX8_roll 43 = .ok (.ifCond .eq 5, 3) := by decide +kernel
theorem dX8_roll_46 : decode cX8_roll 46 = .ok (.iconst 0, 1) := by decide +kernel
theorem dX8_roll_47 : decode cX8_roll 47 = .ok (.ireturn, 1) := by decide +kernel
theorem dX8_roll_48 : decode cX8_roll 48 = .ok (.aload_n 0, 1) := by decide +kernel
theorem dX8_roll_49 : decode cX8_roll 49 = .ok (.invokevirtual 179, 3) := by decide +kernel
theorem dX8_roll_52 : decode cX8_roll 52 = .ok (.aload_n 0, 1) := by decide +kernel
theorem dX8_roll_53 : decode cX8_roll 53 = .ok (.aload_n 0, 1) := by decide +kernel
theorem dX8_roll_54 : decode cX8_roll 54 = .ok (.getfield 13, 3) := by decide +kernel
theorem dX8_roll_57 : decode cX8_roll 57 = .ok (.iload_n 1, 1) := by decide +kernel
theorem dX8_roll_58 : decode cX8_roll 58 = .ok (.iload_n 2, 1) := by decide +kernel
theorem dX8_roll_59 : decode cX8_roll 59 = .ok (.iload_n 3, 1) := by decide +kernel
theorem dX8_roll_60 : decode cX8_roll 60 = .ok (.iload 4, 2) := by decide +kernel
theorem dX8_roll_62 : decode cX8_roll 62 = .ok (.invokevirtual 156, 3) := by decide +kernel
theorem dX8_roll_65 : decode cX8_roll 65 = .ok (.ireturn, 1) := by decide +kernel
theorem dX8_touchOn_0 : decode cX8_touchOn 0 = .ok (.aload_n 0, 1) := by decide +kernel
theorem dX8_touchOn_1 : decode cX8_touchOn 1 = .ok (.iconst 0, 1) := by decide +kernel
theorem dX8_touchOn_2 : decode cX8_touchOn 2 = .ok (.iload_n 1, 1) := by decide +kernel
theorem dX8_touchOn_3 : decode cX8_touchOn 3 = .ok (.iadd, 1) := by decide +kernel
theorem dX8_touchOn_4 : decode cX8_touchOn 4 = .ok (.iaload, 1) := by decide +kernel
theorem dX8_touchOn_5 : decode cX8_touchOn 5 = .ok (.istore_n 3, 1) := by decide +kernel
theorem dX8_touchOn_6 : decode cX8_touchOn 6 = .ok (.aload_n 0, 1) := by decide +kernel
theorem dX8_touchOn_7 : decode cX8_touchOn 7 = .ok (.iconst 0, 1) := by decide +kernel
theorem dX8_touchOn_8 : decode cX8_touchOn 8 = .ok (.iload_n 1, 1) := by decide +kernel
theorem dX8_touchOn_9 : decode cX8_touchOn 9 = .ok (.iadd, 1) := by decide +kernel
theorem dX8_touchOn_10 : decode cX8_touchOn 10 = .ok (.iload_n 2, 1) := by decide +kernel
theorem dX8_touchOn_11 : decode cX8_touchOn 11 = .ok (.iastore, 1) := by decide +kernel
theorem dX8_touchOn_12 : decode cX8_touchOn 12 = .ok (.iload_n 3, 1) := by decide +kernel
theorem dX8_touchOn_13 : decode cX8_touchOn 13 = .ok (.ireturn, 1) := by decide +kernel
set_option maxRecDepth 20000 in
theorem ggX8_touch_X8_isPin : GoodIn wsX8_touch wsX8_isPin := goodIn_r _ [6, 7, 8, 9, 5, 10] (by decide +kernel) (by decide +kernel)
set_option maxRecDepth 20000 in
theorem gX8_touch_X8_isPin : GoodIn wsX8_touch (va_wsS RX8 176 yX8_isPin wsX8_isPin) := goodIn_app (goodIn_of _ (by decide +kernel)) ggX8_touch_X8_isPin
set_option maxRecDepth 20000 in
theorem ggX8_touch_X8_in : GoodIn wsX8_touch wsX8_in := goodIn_r _ [10] (by decide +kernel) (by decide +kernel)
set_option maxRecDepth 20000 in
theorem gX8_touch_X8_in : GoodIn wsX8_touch (va_wsS RX8 48 yX8_in wsX8_in) := goodIn_app (goodIn_of _ (by decide +kernel)) ggX8_touch_X8_in
set_option maxRecDepth 20000 in
theorem ggX8_touch_X8_refused : GoodIn wsX8_touch wsX8_refused := goodIn_r _ [14, 15, 28, 29, 30, 31, 32, 33, 34, 35, 36, 37, 38, 39, 40] (by decide +kernel) (by decide +kernel)
set_option maxRecDepth 20000 in
theorem gX8_touch_X8_refused : GoodIn wsX8_touch (wsV RX8 135 RX8 yX8_refused wsX8_refused) := goodIn_app (goodIn_of _ (by decide +kernel)) ggX8_touch_X8_refused
set_option maxRecDepth 20000 in
theorem ggX8_touch_X8_remember : GoodIn wsX8_touch wsX8_remember := goodIn_r _ [19, 20, 21, 2, 22, 23, 5, 24, 28, 29, 30, 31, 32, 33, 34, 35, 36, 37, 38, 39, 40] (by decide +kernel) (by decide +kernel)
set_option maxRecDepth 20000 in
theorem gX8_touch_X8_remember : GoodIn wsX8_touch (wsV RX8 179 RX8 yX8_remember wsX8_remember) := goodIn_app (goodIn_of _ (by decide +kernel)) ggX8_touch_X8_remember
set_option maxRecDepth 20000 in
theorem ggX8_touch_X8_touchOn : GoodIn wsX8_touch wsX8_touchOn := goodIn_r _ [27] (by decide +kernel) (by decide +kernel)
set_option maxRecDepth 20000 in
theorem gX8_touch_X8_touchOn : GoodIn wsX8_touch (va_wsS RX8 191 yX8_touchOn wsX8_touchOn) := goodIn_app (goodIn_of _ (by decide +kernel)) ggX8_touch_X8_touchOn
theorem dX8_touch_0 : decode cX8_touch 0 = .ok (.aload_n 0, 1) := by decide +kernel
theorem dX8_touch_1 : decode cX8_touch 1 = .ok (.iload_n 1, 1) := by decide +kernel
theorem dX8_touch_2 : decode cX8_touch 2 = .ok (.invokestatic 176, 3) := by decide +kernel
theorem dX8_touch_5 : decode cX8_touch 5 = .ok (.ifCond .ne 7, 3) := by decide +kernel
theorem dX8_touch_8 : decode cX8_touch 8 = .ok (.iconst 1, 1) := by decide +kernel
theorem dX8_touch_9 : decode cX8_touch 9 = .ok (.goto 36, 3) := by decide +kernel
theorem dX8_touch_12 : decode cX8_touch 12 = .ok (.iload_n 2, 1) := by decide +kernel
theorem dX8_touch_13 : decode cX8_touch 13 = .ok (.i2l, 1) := by decide +kernel
theorem dX8_touch_14 : decode cX8_touch 14 = .ok (.lconst 0, 1) := by decide +kernel
theorem dX8_touch_15 : decode cX8_touch 15 = .ok (.ldc2_w 71, 3) := by decide +kernel
theorem dX8_touch_18 : decode cX8_touch 18 = .ok (.invokestatic 48, 3) := by decide +kernel
theorem dX8_touch_21 : decode cX8_touch 21 = .ok (.ifCond .ne 7, 3) := by decide +kernel
theorem dX8_touch_24 : decode cX8_touch 24 = .ok (.iconst 2, 1) := by decide +kernel
theorem dX8_touch_25 : decode cX8_touch 25 = .ok (.goto 20, 3) := by decide +kernel
theorem dX8_touch_28 : decode cX8_touch 28 = .ok (.aload_n 0, 1) := by decide +kernel
theorem dX8_touch_29 : decode cX8_touch 29 = .ok (.getfield 13, 3) := by decide +kernel
theorem dX8_touch_32 : decode cX8_touch 32 = .ok (.iconst 0, 1) := by decide +kernel
theorem dX8_touch_33 : decode cX8_touch 33 = .ok (.iload_n 1, 1) := by decide +kernel
theorem dX8_touch_34 : decode cX8_touch 34 = .ok (.iadd, 1) := by decide +kernel
theorem dX8_touch_35 : decode cX8_touch 35 = .ok (.iaload, 1) := by decide +kernel
theorem dX8_touch_36 : decode cX8_touch 36 = .ok (.iconst 4, 1) := by decide +kernel
theorem dX8_touch_37 : decode cX8_touch 37 = .ok (.if_icmp .ne 7, 3) := by decide +kernel
theorem dX8_touch_40 : decode cX8_touch 40 = .ok (.iconst 3, 1) := by decide +kernel
theorem dX8_touch_41 : decode cX8_touch 41 = .ok (.goto 4, 3) := by decide +kernel
theorem dX8_touch_44 : decode cX8_touch 44 = .ok (.iconst 0, 1) := by decide +kernel
theorem dX8_touch_45 : decode cX8_touch 45 = .ok (.invokevirtual 135, 3) := by decide +kernel
theorem dX8_touch_48 : decode cX8_touch 48 = .ok (.ifCond .eq 5, 3) := by decide +kernel
theorem dX8_touch_51 : decode cX8_touch 51 = .ok (.iconst 0, 1) := by decide +kernel
theorem dX8_touch_52 : decode cX8_touch 52 = .ok (.ireturn, 1) := by decide +kernel
theorem dX8_touch_53 : decode cX8_touch 53 = .ok (.aload_n 0, 1) := by decide +kernel
theorem dX8_touch_54 : decode cX8_touch 54 = .ok (.invokevirtual 179, 3) := by decide +kernel
theorem dX8_touch_57 : decode cX8_touch 57 = .ok (.aload_n 0, 1) := by decide +kernel
theorem dX8_touch_58 : decode cX8_touch 58 = .ok (.getfield 13, 3) := by decide +kernel
theorem dX8_touch_61 : decode cX8_touch 61 = .ok (.iload_n 1, 1) := by decide +kernel
theorem dX8_touch_62 : decode cX8_touch 62 = .ok (.iload_n 2, 1) := by decide +kernel
theorem dX8_touch_63 : decode cX8_touch 63 = .ok (.invokestatic 191, 3) := by decide +kernel
theorem dX8_touch_66 : decode cX8_touch 66 = .ok (.ireturn, 1) := by decide +kernel
set_option maxRecDepth 20000 in
theorem ggX8_set_X8_isSetting : GoodIn wsX8_set wsX8_isSetting := goodIn_r _ [5, 6, 7, 8, 9, 4, 10] (by decide +kernel) (by decide +kernel)
set_option maxRecDepth 20000 in
theorem gX8_set_X8_isSetting : GoodIn wsX8_set (va_wsS RX8 194 yX8_isSetting wsX8_isSetting) := goodIn_app (goodIn_of _ (by decide +kernel)) ggX8_set_X8_isSetting
set_option maxRecDepth 20000 in
theorem ggX8_set_X8_refused : GoodIn wsX8_set wsX8_refused := goodIn_r _ [14, 15, 25, 26, 27, 28, 29, 30, 31, 32, 33, 34, 35, 36, 37] (by decide +kernel) (by decide +kernel)
set_option maxRecDepth 20000 in
theorem gX8_set_X8_refused : GoodIn wsX8_set (wsV RX8 135 RX8 yX8_refused wsX8_refused) := goodIn_app (goodIn_of _ (by decide +kernel)) ggX8_set_X8_refused
set_option maxRecDepth 20000 in
theorem ggX8_set_X8_remember : GoodIn wsX8_set wsX8_remember := goodIn_r _ [19, 20, 21, 1, 22, 23, 4, 24, 25, 26, 27, 28, 29, 30, 31, 32, 33, 34, 35, 36, 37] (by decide +kernel) (by decide +kernel)
set_option maxRecDepth 20000 in
theorem gX8_set_X8_remember : GoodIn wsX8_set (wsV RX8 179 RX8 yX8_remember wsX8_remember) := goodIn_app (goodIn_of _ (by decide +kernel)) ggX8_set_X8_remember
theorem dX8_set_0 : decode cX8_set 0 = .ok (.aload_n 0, 1) := by decide +kernel
theorem dX8_set_1 : decode cX8_set 1 = .ok (.iload_n 1, 1) := by decide +kernel
theorem dX8_set_2 : decode cX8_set 2 = .ok (.iload_n 2, 1) := by decide +kernel
theorem dX8_set_3 : decode cX8_set 3 = .ok (.invokestatic 194, 3) := by decide +kernel
theorem dX8_set_6 : decode cX8_set 6 = .ok (.ifCond .eq 7, 3) := by decide +kernel
theorem dX8_set_9 : decode cX8_set 9 = .ok (.iconst 0, 1) := by decide +kernel
theorem dX8_set_10 : decode cX8_set 10 = .ok (.goto 4, 3) := by decide +kernel
theorem dX8_set_13 : decode cX8_set 13 = .ok (.iconst 1, 1) := by decide +kernel
theorem dX8_set_14 : decode cX8_set 14 = .ok (.invokevirtual 135, 3) := by decide +kernel
theorem dX8_set_17 : decode cX8_set 17 = .ok (.ifCond .eq 5, 3) := by decide +kernel
theorem dX8_set_20 : decode cX8_set 20 = .ok (.iconst 0, 1) := by decide +kernel
theorem dX8_set_21 : decode cX8_set 21 = .ok (.ireturn, 1) := by decide +kernel
theorem dX8_set_22 : decode cX8_set 22 = .ok (.aload_n 0, 1) := by decide +kernel
theorem dX8_set_23 : decode cX8_set 23 = .ok (.invokevirtual 179, 3) := by decide +kernel
theorem dX8_set_26 : decode cX8_set 26 = .ok (.aload_n 0, 1) := by decide +kernel
theorem dX8_set_27 : decode cX8_set 27 = .ok (.getfield 13, 3) := by decide +kernel
theorem dX8_set_30 : decode cX8_set 30 = .ok (.bipush 76, 2) := by decide +kernel
theorem dX8_set_32 : decode cX8_set 32 = .ok (.iload_n 1, 1) := by decide +kernel
theorem dX8_set_33 : decode cX8_set 33 = .ok (.iadd, 1) := by decide +kernel
theorem dX8_set_34 : decode cX8_set 34 = .ok (.iaload, 1) := by decide +kernel
theorem dX8_set_35 : decode cX8_set 35 = .ok (.istore_n 3, 1) := by decide +kernel
theorem dX8_set_36 : decode cX8_set 36 = .ok (.aload_n 0, 1) := by decide +kernel
theorem dX8_set_37 : decode cX8_set 37 = .ok (.getfield 13, 3) := by decide +kernel
theorem dX8_set_40 : decode cX8_set 40 = .ok (.bipush 76, 2) := by decide +kernel
theorem dX8_set_42 : decode cX8_set 42 = .ok (.iload_n 1, 1) := by decide +kernel
theorem dX8_set_43 : decode cX8_set 43 = .ok (.iadd, 1) := by decide +kernel
theorem dX8_set_44 : decode cX8_set 44 = .ok (.iload_n 2, 1) := by decide +kernel
theorem dX8_set_45 : decode cX8_set 45 = .ok (.iastore, 1) := by decide +kernel
theorem dX8_set_46 : decode cX8_set 46 = .ok (.iload_n 3, 1) := by decide +kernel
theorem dX8_set_47 : decode cX8_set 47 = .ok (.ireturn, 1) := by decide +kernel
set_option maxRecDepth 20000 in
theorem ggX8_undo_X8_refused : GoodIn wsX8_undo wsX8_refused := goodIn_r _ [8, 9, 13, 14, 15, 16, 17, 18, 19, 20, 21, 22, 23, 24, 25] (by decide +kernel) (by decide +kernel)
set_option maxRecDepth 20000 in
theorem gX8_undo_X8_refused : GoodIn wsX8_undo (wsV RX8 135 RX8 yX8_refused wsX8_refused) := goodIn_app (goodIn_of _ (by decide +kernel)) ggX8_undo_X8_refused
set_option maxRecDepth 20000 in
theorem ggX8_undo_X8_copyState : GoodIn wsX8_undo wsX8_copyState := goodIn_r _ [12] (by decide +kernel) (by decide +kernel)
set_option maxRecDepth 20000 in
theorem gX8_undo_X8_copyState : GoodIn wsX8_undo (va_wsS RX8 166 yX8_copyState wsX8_copyState) := goodIn_app (goodIn_of _ (by decide +kernel)) ggX8_undo_X8_copyState
theorem dX8_undo_0 : decode cX8_undo 0 = .ok (.aload_n 0, 1) := by decide +kernel
theorem dX8_undo_1 : decode cX8_undo 1 = .ok (.aload_n 0, 1) := by decide +kernel
theorem dX8_undo_2 : decode cX8_undo 2 = .ok (.getfield 170, 3) := by decide +kernel
theorem dX8_undo_5 : decode cX8_undo 5 = .ok (.ifCond .ne 7, 3) := by decide +kernel
theorem dX8_undo_8 : decode cX8_undo 8 = .ok (.iconst 1, 1) := by decide +kernel
theorem dX8_undo_9 : decode cX8_undo 9 = .ok (.goto 4, 3) := by decide +kernel
theorem dX8_undo_12 : decode cX8_undo 12 = .ok (.iconst 0, 1) := by decide +kernel
theorem dX8_undo_13 : decode cX8_undo 13 = .ok (.invokevirtual 135, 3) := by decide +kernel
theorem dX8_undo_16 : decode cX8_undo 16 = .ok (.ifCond .eq 5, 3) := by decide +kernel
theorem dX8_undo_19 : decode cX8_undo 19 = .ok (.iconst 0, 1) := by decide +kernel
theorem dX8_undo_20 : decode cX8_undo 20 = .ok (.ireturn, 1) := by decide +kernel
theorem dX8_undo_21 : decode cX8_undo 21 = .ok (.aload_n 0, 1) := by decide +kernel
theorem dX8_undo_22 : decode cX8_undo 22 = .ok (.dup, 1) := by decide +kernel
theorem dX8_undo_23 : decode cX8_undo 23 = .ok (.getfield 170, 3) := by decide +kernel
theorem dX8_undo_26 : decode cX8_undo 26 = .ok (.iconst 1, 1) := by decide +kernel
theorem dX8_undo_27 : decode cX8_undo 27 = .ok (.isub, 1) := by decide +kernel
theorem dX8_undo_28 : decode cX8_undo 28 = .ok (.putfield 170, 3) := by decide +kernel
theorem dX8_undo_31 : decode cX8_undo 31 = .ok (.aload_n 0, 1) := by decide +kernel
theorem dX8_undo_32 : decode cX8_undo 32 = .ok (.getfield 19, 3) := by decide +kernel
theorem dX8_undo_35 : decode cX8_undo 35 = .ok (.bipush 79, 2) := by decide +kernel
theorem dX8_undo_37 : decode cX8_undo 37 = .ok (.aload_n 0, 1) := by decide +kernel
theorem dX8_undo_38 : decode cX8_undo 38 = .ok (.getfield 170, 3) := by decide +kernel
theorem dX8_undo_41 : decode cX8_undo 41 = .ok (.imul, 1) := by decide +kernel
theorem dX8_undo_42 : decode cX8_undo 42 = .ok (.aload_n 0, 1) := by decide +kernel
theorem dX8_undo_43 : decode cX8_undo 43 = .ok (.getfield 13, 3) := by decide +kernel
theorem dX8_undo_46 : decode cX8_undo 46 = .ok (.iconst 0, 1) := by decide +kernel
theorem dX8_undo_47 : decode cX8_undo 47 = .ok (.invokestatic 166, 3) := by decide +kernel
theorem dX8_undo_50 : decode cX8_undo 50 = .ok (.aload_n 0, 1) := by decide +kernel
theorem dX8_undo_51 : decode cX8_undo 51 = .ok (.getfield 170, 3) := by decide +kernel
theorem dX8_undo_54 : decode cX8_undo 54 = .ok (.ireturn, 1) := by decide +kernel
set_option maxRecDepth 20000 in
theorem ggX8_tryBall_X8_copyState : GoodIn wsX8_tryBall wsX8_copyState := goodIn_r _ [6] (by decide +kernel) (by decide +kernel)
set_option maxRecDepth 20000 in
theorem gX8_tryBall_X8_copyState : GoodIn wsX8_tryBall (va_wsS RX8 166 yX8_copyState wsX8_copyState) := goodIn_app (goodIn_of _ (by decide +kernel)) ggX8_tryBall_X8_copyState
set_option maxRecDepth 20000 in
theorem ggX8_tryBall_X8_ball : GoodIn wsX8_tryBall wsX8_ball := goodIn_r _ [10, 11, 12, 13, 5, 14, 15, 16, 17, 18, 19, 20, 21, 22, 23, 24, 25, 26, 27, 28, 29, 30, 31, 32, 33, 34, 35, 36, 37, 38, 39, 46, 47, 48, 49, 50, 51, 52, 53, 54, 55, 56, 57, 58] (by decide +kernel) (by decide +kernel)
set_option maxRecDepth 20000 in
theorem gX8_tryBall_X8_ball : GoodIn wsX8_tryBall (wsV RX8 108 RX8 yX8_ball wsX8_ball) := goodIn_app (goodIn_of _ (by decide +kernel)) ggX8_tryBall_X8_ball
set_option maxRecDepth 20000 in
theorem ggX8_tryBall_X8_tell : GoodIn wsX8_tryBall wsX8_tell := goodIn_r _ [42] (by decide +kernel) (by decide +kernel)
set_option maxRecDepth 20000 in
theorem gX8_tryBall_X8_tell : GoodIn wsX8_tryBall (va_wsS RX8 112 yX8_tell wsX8_tell) := goodIn_app (goodIn_of _ (by decide +kernel)) ggX8_tryBall_X8_tell
set_option maxRecDepth 20000 in
theorem ggX8_tryBall_X8_toldOf : GoodIn wsX8_tryBall wsX8_toldOf := goodIn_r _ [45] (by decide +kernel) (by decide +kernel)
set_option maxRecDepth 20000 in
theorem gX8_tryBall_X8_toldOf : GoodIn wsX8_tryBall (va_wsS RX8 104 yX8_toldOf wsX8_toldOf) := goodIn_app (goodIn_of _ (by decide +kernel)) ggX8_tryBall_X8_toldOf
theorem dX8_tryBall_0 : decode cX8_tryBall 0 = .ok (.aload_n 0, 1) := by decide +kernel
theorem dX8_tryBall_1 : decode cX8_tryBall 1 = .ok (.getfield 13, 3) := by decide +kernel
theorem dX8_tryBall_4 : decode cX8_tryBall 4 = .ok (.iconst 0, 1) := by decide +kernel
theorem dX8_tryBall_5 : decode cX8_tryBall 5 = .ok (.aload_n 0, 1) := by decide +kernel
theorem dX8_tryBall_6 : decode cX8_tryBall 6 = .ok (.getfield 16, 3) := by decide +kernel
theorem dX8_tryBall_9 : decode cX8_tryBall 9 = .ok (.iconst 0, 1) := by decide +kernel
theorem dX8_tryBall_10 : decode cX8_tryBall 10 = .ok (.invokestatic 166, 3) := by decide +kernel
theorem dX8_tryBall_13 : decode cX8_tryBall 13 = .ok (.aload_n 0, 1) := by decide +kernel
theorem dX8_tryBall_14 : decode cX8_tryBall 14 = .ok (.aload_n 0, 1) := by decide +kernel
theorem dX8_tryBall_15 : decode cX8_tryBall 15 = .ok (.getfield 16, 3) := by decide +kernel
theorem dX8_tryBall_18 : decode cX8_tryBall 18 = .ok (.iload_n 1, 1) := by decide +kernel
theorem dX8_tryBall_19 : decode cX8_tryBall 19 = .ok (.iload_n 2, 1) := by decide +kernel
theorem dX8_tryBall_20 : decode cX8_tryBall 20 = .ok (.invokevirtual 108, 3) := by decide +kernel
theorem dX8_tryBall_23 : decode cX8_tryBall 23 = .ok (.aload_n 0, 1) := by decide +kernel
theorem dX8_tryBall_24 : decode cX8_tryBall 24 = .ok (.getfield 16, 3) := by decide +kernel
theorem dX8_tryBall_27 : decode cX8_tryBall 27 = .ok (.invokestatic 112, 3) := by decide +kernel
theorem dX8_tryBall_30 : decode cX8_tryBall 30 = .ok (.aload_n 0, 1) := by decide +kernel
theorem dX8_tryBall_31 : decode cX8_tryBall 31 = .ok (.getfield 13, 3) := by decide +kernel
theorem dX8_tryBall_34 : decode cX8_tryBall 34 = .ok (.invokestatic 104, 3) := by decide +kernel
theorem dX8_tryBall_37 : decode cX8_tryBall 37 = .ok (.aload_n 0, 1) := by decide +kernel
theorem dX8_tryBall_38 : decode cX8_tryBall 38 = .ok (.getfield 16, 3) := by decide +kernel
theorem dX8_tryBall_41 : decode cX8_tryBall 41 = .ok (.invokestatic 104, 3) := by decide +kernel
theorem dX8_tryBall_44 : decode cX8_tryBall 44 = .ok (.isub, 1) := by decide +kernel
theorem dX8_tryBall_45 : decode cX8_tryBall 45 = .ok (.ireturn, 1) := by decide +kernel
set_option maxRecDepth 20000 in
theorem ggX8_would_X8_isBall : GoodIn wsX8_would wsX8_isBall := goodIn_r _ [7, 8, 9, 10, 11, 12, 6, 13] (by decide +kernel) (by decide +kernel)
set_option maxRecDepth 20000 in
theorem gX8_would_X8_isBall : GoodIn wsX8_would (va_wsS RX8 185 yX8_isBall wsX8_isBall) := goodIn_app (goodIn_of _ (by decide +kernel)) ggX8_would_X8_isBall
set_option maxRecDepth 20000 in
theorem ggX8_would_X8_in : GoodIn wsX8_would wsX8_in := goodIn_r _ [13] (by decide +kernel) (by decide +kernel)
set_option maxRecDepth 20000 in
theorem gX8_would_X8_in : GoodIn wsX8_would (va_wsS RX8 48 yX8_in wsX8_in) := goodIn_app (goodIn_of _ (by decide +kernel)) ggX8_would_X8_in
set_option maxRecDepth 20000 in
theorem ggX8_would_X8_refused : GoodIn wsX8_would wsX8_refused := goodIn_r _ [17, 18, 59, 60, 61, 62, 63, 64, 65, 66, 67, 68, 69, 70, 71] (by decide +kernel) (by decide +kernel)
set_option maxRecDepth 20000 in
theorem gX8_would_X8_refused : GoodIn wsX8_would (wsV RX8 135 RX8 yX8_refused wsX8_refused) := goodIn_app (goodIn_of _ (by decide +kernel)) ggX8_would_X8_refused
set_option maxRecDepth 20000 in
theorem ggX8_would_X8_tryBall : GoodIn wsX8_would wsX8_tryBall := goodIn_r _ [22, 3, 2, 23, 24, 6, 25, 26, 27, 28, 29, 30, 31, 32, 33, 34, 35, 36, 37, 38, 1, 9, 10, 39, 40, 41, 42, 43, 44, 11, 12, 13, 45, 46, 47, 48, 49, 50, 51, 52, 53, 54, 55, 56, 57, 58, 59, 60, 61, 62, 63, 64, 65, 66, 67, 68, 69, 70, 71] (by decide +kernel) (by decide +kernel)
set_option maxRecDepth 20000 in
theorem gX8_would_X8_tryBall : GoodIn wsX8_would (wsV RX8 197 RX8 yX8_tryBall wsX8_tryBall) := goodIn_app (goodIn_of _ (by decide +kernel)) ggX8_would_X8_tryBall
theorem dX8_would_0 : decode cX8_would 0 = .ok (.aload_n 0, 1) := by decide +kernel
theorem dX8_would_1 : decode cX8_would 1 = .ok (.iload_n 1, 1) := by decide +kernel
theorem dX8_would_2 : decode cX8_would 2 = .ok (.iload_n 2, 1) := by decide +kernel
theorem dX8_would_3 : decode cX8_would 3 = .ok (.invokestatic 185, 3) := by decide +kernel
theorem dX8_would_6 : decode cX8_would 6 = .ok (.ifCond .eq 19, 3) := by decide +kernel
theorem dX8_would_9 : decode cX8_would 9 = .ok (.iload_n 3, 1) := by decide +kernel
theorem dX8_would_10 : decode cX8_would 10 = .ok (.i2l, 1) := by decide +kernel
theorem dX8_would_11 : decode cX8_would 11 = .ok (.lconst 0, 1) := by decide +kernel
theorem dX8_would_12 : decode cX8_would 12 = .ok (.ldc2_w 71, 3) := by decide +kernel
theorem dX8_would_15 : decode cX8_would 15 = .ok (.invokestatic 48, 3) := by decide +kernel
theorem dX8_would_18 : decode cX8_would 18 = .ok (.ifCond .eq 7, 3) := by decide +kernel
theorem dX8_would_21 : decode cX8_would 21 = .ok (.iconst 0, 1) := by decide +kernel
theorem dX8_would_22 : decode cX8_would 22 = .ok (.goto 4, 3) := by decide +kernel
theorem dX8_would_25 : decode cX8_would 25 = .ok (.iconst 1, 1) := by decide +kernel
theorem dX8_would_26 : decode cX8_would 26 = .ok (.invokevirtual 135, 3) := by decide +kernel
theorem dX8_would_29 : decode cX8_would 29 = .ok (.ifCond .eq 5, 3) := by decide +kernel
theorem dX8_would_32 : decode cX8_would 32 = .ok (.iconst 0, 1) := by decide +kernel
theorem dX8_would_33 : decode cX8_would 33 = .ok (.ireturn, 1) := by decide +kernel
theorem dX8_would_34 : decode cX8_would 34 = .ok (.aload_n 0, 1) := by decide +kernel
theorem dX8_would_35 : decode cX8_would 35 = .ok (.iload_n 1, 1) := by decide +kernel
theorem dX8_would_36 : decode cX8_would 36 = .ok (.iload_n 2, 1) := by decide +kernel
theorem dX8_would_37 : decode cX8_would 37 = .ok (.invokevirtual 197, 3) := by decide +kernel
theorem dX8_would_40 : decode cX8_would 40 = .ok (.istore 4, 2) := by decide +kernel
theorem dX8_would_42 : decode cX8_would 42 = .ok (.iconst 0, 1) := by decide +kernel
theorem dX8_would_43 : decode cX8_would 43 = .ok (.istore 5, 2) := by decide +kernel
theorem dX8_would_45 : decode cX8_would 45 = .ok (.iconst 0, 1) := by decide +kernel
theorem dX8_would_46 : decode cX8_would 46 = .ok (.istore 6, 2) := by decide +kernel
theorem dX8_would_48 : decode cX8_would 48 = .ok (.iconst 0, 1) := by decide +kernel
theorem dX8_would_49 : decode cX8_would 49 = .ok (.istore 7, 2) := by decide +kernel
theorem dX8_would_51 : decode cX8_would 51 = .ok (.iconst 0, 1) := by decide +kernel
theorem dX8_would_52 : decode cX8_would 52 = .ok (.istore 8, 2) := by decide +kernel
theorem dX8_would_54 : decode cX8_would 54 = .ok (.iload 8, 2) := by decide +kernel
theorem dX8_would_56 : decode cX8_would 56 = .ok (.bipush 10, 2) := by decide +kernel
theorem dX8_would_58 : decode cX8_would 58 = .ok (.if_icmp .ge 132, 3) := by decide +kernel
theorem dX8_would_61 : decode cX8_would 61 = .ok (.aload_n 0, 1) := by decide +kernel
theorem dX8_would_62 : decode cX8_would 62 = .ok (.getfield 16, 3) := by decide +kernel
theorem dX8_would_65 : decode cX8_would 65 = .ok (.iconst 0, 1) := by decide +kernel
theorem dX8_would_66 : decode cX8_would 66 = .ok (.iload 8, 2) := by decide +kernel
theorem dX8_would_68 : decode cX8_would 68 = .ok (.iadd, 1) := by decide +kernel
theorem dX8_would_69 : decode cX8_would 69 = .ok (.iaload, 1) := by decide +kernel
theorem dX8_would_70 : decode cX8_would 70 = .ok (.iconst 4, 1) := by decide +kernel
theorem dX8_would_71 : decode cX8_would 71 = .ok (.if_icmp .ne 7, 3) := by decide +kernel
theorem dX8_would_74 : decode cX8_would 74 = .ok (.iconst 1, 1) := by decide +kernel
theorem dX8_would_75 : decode cX8_would 75 = .ok (.goto 4, 3) := by decide +kernel
theorem dX8_would_78 : decode cX8_would 78 = .ok (.iconst 0, 1) := by decide +kernel
theorem dX8_would_79 : decode cX8_would 79 = .ok (.istore 9, 2) := by decide +kernel
theorem dX8_would_81 : decode cX8_would 81 = .ok (.iload 5, 2) := by decide +kernel
theorem dX8_would_83 : decode cX8_would 83 = .ok (.iload 9, 2) := by decide +kernel
theorem dX8_would_85 : decode cX8_would 85 = .ok (.ifCond .eq 23, 3) := by decide +kernel
theorem dX8_would_88 : decode cX8_would 88 = .ok (.aload_n 0, 1) := by decide +kernel
theorem dX8_would_89 : decode cX8_would 89 = .ok (.getfield 13, 3) := by decide +kernel
theorem dX8_would_92 : decode cX8_would 92 = .ok (.iconst 0, 1) := by decide +kernel
theorem dX8_would_93 : decode cX8_would 93 = .ok (.iload 8, 2) := by decide +kernel
theorem dX8_would_95 : decode cX8_would 95 = .ok (.iadd, 1) := by decide +kernel
theorem dX8_would_96 : decode cX8_would 96 = .ok (.iaload, 1) := by decide +kernel
theorem dX8_would_97 : decode cX8_would 97 = .ok (.iconst 4, 1) := by decide +kernel
theorem dX8_would_98 : decode cX8_would 98 = .ok (.if_icmp .eq 10, 3) := by decide +kernel
theorem dX8_would_101 : decode cX8_would 101 = .ok (.iconst 1, 1) := by decide +kernel
theorem dX8_would_102 : decode cX8_would 102 = .ok (.iload 8, 2) := by decide +kernel
theorem dX8_would_104 : decode cX8_would 104 = .ok (.ishl, 1) := by decide +kernel
theorem dX8_would_105 : decode cX8_would 105 = .ok (.goto 4, 3) := by decide +kernel
theorem dX8_would_108 : decode cX8_would 108 = .ok (.iconst 0, 1) := by decide +kernel
theorem dX8_would_109 : decode cX8_would 109 = .ok (.ior, 1) := by decide +kernel
theorem dX8_would_110 : decode cX8_would 110 = .ok (.istore 5, 2) := by decide +kernel
theorem dX8_would_112 : decode cX8_would 112 = .ok (.iload 6, 2) := by decide +kernel
theorem dX8_would_114 : decode cX8_would 114 = .ok (.iload 9, 2) := by decide +kernel
theorem dX8_would_116 : decode cX8_would 116 = .ok (.ifCond .ne 22, 3) := by decide +kernel
theorem dX8_would_119 : decode cX8_would 119 = .ok (.aload_n 0, 1) := by decide +kernel
theorem dX8_would_120 : decode cX8_would 120 = .ok (.getfield 16, 3) := by decide +kernel
theorem dX8_would_123 : decode cX8_would 123 = .ok (.iconst 0, 1) := by decide +kernel
theorem dX8_would_124 : decode cX8_would 124 = .ok (.iload 8, 2) := by decide +kernel
theorem dX8_would_126 : decode cX8_would 126 = .ok (.iadd, 1) := by decide +kernel
theorem dX8_would_127 : decode cX8_would 127 = .ok (.iaload, 1) := by decide +kernel
theorem dX8_would_128 : decode cX8_would 128 = .ok (.ifCond .le 10, 3) := by decide +kernel
theorem dX8_would_131 : decode cX8_would 131 = .ok (.iconst 1, 1) := by decide +kernel
theorem dX8_would_132 : decode cX8_would 132 = .ok (.iload 8, 2) := by decide +kernel
theorem dX8_would_134 : decode cX8_would 134 = .ok (.ishl, 1) := by decide +kernel
theorem dX8_would_135 : decode cX8_would 135 = .ok (.goto 4, 3) := by decide +kernel
theorem dX8_would_138 : decode cX8_would 138 = .ok (.iconst 0, 1) := by decide +kernel
theorem dX8_would_139 : decode cX8_would 139 = .ok (.ior, 1) := by decide +kernel
theorem dX8_would_140 : decode cX8_would 140 = .ok (.istore 6, 2) := by decide +kernel
theorem dX8_would_142 : decode cX8_would 142 = .ok (.iload 7, 2) := by decide +kernel
theorem dX8_would_144 : decode cX8_would 144 = .ok (.iload 9, 2) := by decide +kernel
theorem dX8_would_146 : decode cX8_would 146 = .ok (.ifCond .ne 34, 3) := by decide +kernel
theorem dX8_would_149 : decode cX8_would 149 = .ok (.aload_n 0, 1) := by decide +kernel
theorem dX8_would_150 : decode cX8_would 150 = .ok (.getfield 13, 3) := by decide +kernel
theorem dX8_would_153 : decode cX8_would 153 = .ok (.bipush 20, 2) := by decide +kernel
theorem dX8_would_155 : decode cX8_would 155 = .ok (.iload 8, 2) := by decide +kernel
theorem dX8_would_157 : decode cX8_would 157 = .ok (.iadd, 1) := by decide +kernel
theorem dX8_would_158 : decode cX8_would 158 = .ok (.iaload, 1) := by decide +kernel
theorem dX8_would_159 : decode cX8_would 159 = .ok (.iconst 1, 1) := by decide +kernel
theorem dX8_would_160 : decode cX8_would 160 = .ok (.if_icmp .ne 20, 3) := by decide +kernel
theorem dX8_would_163 : decode cX8_would 163 = .ok (.aload_n 0, 1) := by decide +kernel
theorem dX8_would_164 : decode cX8_would 164 = .ok (.getfield 16, 3) := by decide +kernel
theorem dX8_would_167 : decode cX8_would 167 = .ok (.bipush 20, 2) := by decide +kernel
theorem dX8_would_169 : decode cX8_would 169 = .ok (.iload 8, 2) := by decide +kernel
theorem dX8_would_171 : decode cX8_would 171 = .ok (.iadd, 1) := by decide +kernel
theorem dX8_would_172 : decode cX8_would 172 = .ok (.iaload, 1) := by decide +kernel
theorem dX8_would_173 : decode cX8_would 173 = .ok (.ifCond .ne 7, 3) := by decide +kernel
theorem dX8_would_176 : decode cX8_would 176 = .ok (.iconst 1, 1) := by decide +kernel
theorem dX8_would_177 : decode cX8_would 177 = .ok (.goto 4, 3) := by decide +kernel
theorem dX8_would_180 : decode cX8_would 180 = .ok (.iconst 0, 1) := by decide +kernel
theorem dX8_would_181 : decode cX8_would 181 = .ok (.iadd, 1) := by decide +kernel
theorem dX8_would_182 : decode cX8_would 182 = .ok (.istore 7, 2) := by decide +kernel
theorem dX8_would_184 : decode cX8_would 184 = .ok (.iinc 8 1, 3) := by decide +kernel
theorem dX8_would_187 : decode cX8_would 187 = .ok (.goto (-133), 3) := by decide +kernel
theorem dX8_would_190 : decode cX8_would 190 = .ok (.iload_n 3, 1) := by decide +kernel
theorem dX8_would_191 : decode cX8_would 191 = .ok (.ifCond .ne 8, 3) := by decide +kernel
theorem dX8_would_194 : decode cX8_would 194 = .ok (.iload 5, 2) := by decide +kernel
theorem dX8_would_196 : decode cX8_would 196 = .ok (.goto 25, 3) := by decide +kernel
theorem dX8_would_199 : decode cX8_would 199 = .ok (.iload_n 3, 1) := by decide +kernel
theorem dX8_would_200 : decode cX8_would 200 = .ok (.iconst 1, 1) := by decide +kernel
theorem dX8_would_201 : decode cX8_would 201 = .ok (.if_icmp .ne 8, 3) := by decide +kernel
theorem dX8_would_204 : decode cX8_would 204 = .ok (.iload 6, 2) := by decide +kernel
theorem dX8_would_206 : decode cX8_would 206 = .ok (.goto 15, 3) := by decide +kernel
theorem dX8_would_209 : decode cX8_would 209 = .ok (.iload_n 3, 1) := by decide +kernel
theorem dX8_would_210 : decode cX8_would 210 = .ok (.iconst 2, 1) := by decide +kernel
theorem dX8_would_211 : decode cX8_would 211 = .ok (.if_icmp .ne 8, 3) := by decide +kernel
theorem dX8_would_214 : decode cX8_would 214 = .ok (.iload 4, 2) := by decide +kernel
theorem dX8_would_216 : decode cX8_would 216 = .ok (.goto 5, 3) := by decide +kernel
theorem dX8_would_219 : decode cX8_would 219 = .ok (.iload 7, 2) := by decide +kernel
theorem dX8_would_221 : decode cX8_would 221 = .ok (.ireturn, 1) := by decide +kernel
set_option maxRecDepth 20000 in
theorem ggX8_bestBoard_X8_in : GoodIn wsX8_bestBoard wsX8_in := goodIn_r _ [6] (by decide +kernel) (by decide +kernel)
set_option maxRecDepth 20000 in
theorem gX8_bestBoard_X8_in : GoodIn wsX8_bestBoard (va_wsS RX8 48 yX8_in wsX8_in) := goodIn_app (goodIn_of _ (by decide +kernel)) ggX8_bestBoard_X8_in
set_option maxRecDepth 20000 in
theorem ggX8_bestBoard_X8_refused : GoodIn wsX8_bestBoard wsX8_refused := goodIn_r _ [10, 11, 55, 56, 57, 58, 59, 60, 61, 62, 63, 64, 65, 66, 67] (by decide +kernel) (by decide +kernel)
set_option maxRecDepth 20000 in
theorem gX8_bestBoard_X8_refused : GoodIn wsX8_bestBoard (wsV RX8 135 RX8 yX8_refused wsX8_refused) := goodIn_app (goodIn_of _ (by decide +kernel)) ggX8_bestBoard_X8_refused
set_option maxRecDepth 20000 in
theorem ggX8_bestBoard_X8_tryBall : GoodIn wsX8_bestBoard wsX8_tryBall := goodIn_r _ [15, 16, 17, 18, 19, 5, 20, 21, 22, 23, 24, 25, 26, 27, 28, 29, 30, 31, 32, 33, 34, 1, 2, 35, 36, 37, 38, 39, 40, 3, 4, 6, 41, 42, 43, 44, 45, 46, 47, 48, 49, 50, 51, 52, 53, 54, 55, 56, 57, 58, 59, 60, 61, 62, 63, 64, 65, 66, 67] (by decide +kernel) (by decide +kernel)
set_option maxRecDepth 20000 in
theorem gX8_bestBoard_X8_tryBall : GoodIn wsX8_bestBoard (wsV RX8 197 RX8 yX8_tryBall wsX8_tryBall) := goodIn_app (goodIn_of _ (by decide +kernel)) ggX8_bestBoard_X8_tryBall
theorem dX8_bestBoard_0 : decode cX8_bestBoard 0 = .ok (.aload_n 0, 1) := by decide +kernel
theorem dX8_bestBoard_1 : decode cX8_bestBoard 1 = .ok (.iload_n 1, 1) := by decide +kernel
theorem dX8_bestBoard_2 : decode cX8_bestBoard 2 = .ok (.i2l, 1) := by decide +kernel
theorem dX8_bestBoard_3 : decode cX8_bestBoard 3 = .ok (.ldc2_w 54, 3) := by decide +kernel
theorem dX8_bestBoard_6 : decode cX8_bestBoard 6 = .ok (.ldc2_w 56, 3) := by decide +kernel
theorem dX8_bestBoard_9 : decode cX8_bestBoard 9 = .ok (.invokestatic 48, 3) := by decide +kernel
theorem dX8_bestBoard_12 : decode cX8_bestBoard 12 = .ok (.ifCond .eq 7, 3) := by decide +kernel
theorem dX8_bestBoard_15 : decode cX8_bestBoard 15 = .ok (.iconst 0, 1) := by decide +kernel
theorem dX8_bestBoard_16 : decode cX8_bestBoard 16 = .ok (.goto 4, 3) := by decide +kernel
theorem dX8_bestBoard_19 : decode cX8_bestBoard 19 = .ok (.iconst 1, 1) := by decide +kernel
theorem dX8_bestBoard_20 : decode cX8_bestBoard 20 = .ok (.invokevirtual 135, 3) := by decide +kernel
theorem dX8_bestBoard_23 : decode cX8_bestBoard 23 = .ok (.ifCond .eq 5, 3) := by decide +kernel
theorem dX8_bestBoard_26 : decode cX8_bestBoard 26 = .ok (.iconst 0, 1) := by decide +kernel
theorem dX8_bestBoard_27 : decode cX8_bestBoard 27 = .ok (.ireturn, 1) := by decide +kernel
theorem dX8_bestBoard_28 : decode cX8_bestBoard 28 = .ok (.iconst 0, 1) := by decide +kernel
theorem dX8_bestBoard_29 : decode cX8_bestBoard 29 = .ok (.istore_n 2, 1) := by decide +kernel
theorem dX8_bestBoard_30 : decode cX8_bestBoard 30 = .ok (.aload_n 0, 1) := by decide +kernel
theorem dX8_bestBoard_31 : decode cX8_bestBoard 31 = .ok (.iconst 0, 1) := by decide +kernel
theorem dX8_bestBoard_32 : decode cX8_bestBoard 32 = .ok (.iload_n 1, 1) := by decide +kernel
theorem dX8_bestBoard_33 : decode cX8_bestBoard 33 = .ok (.invokevirtual 197, 3) := by decide +kernel
theorem dX8_bestBoard_36 : decode cX8_bestBoard 36 = .ok (.istore_n 3, 1) := by decide +kernel
theorem dX8_bestBoard_37 : decode cX8_bestBoard 37 = .ok (.iconst 1, 1) := by decide +kernel
theorem dX8_bestBoard_38 : decode cX8_bestBoard 38 = .ok (.istore 4, 2) := by decide +kernel
theorem dX8_bestBoard_40 : decode cX8_bestBoard 40 = .ok (.iload 4, 2) := by decide +kernel
theorem dX8_bestBoard_42 : decode cX8_bestBoard 42 = .ok (.bipush 40, 2) := by decide +kernel
theorem dX8_bestBoard_44 : decode cX8_bestBoard 44 = .ok (.if_icmp .gt 44, 3) := by decide +kernel
theorem dX8_bestBoard_47 : decode cX8_bestBoard 47 = .ok (.aload_n 0, 1) := by decide +kernel
theorem dX8_bestBoard_48 : decode cX8_bestBoard 48 = .ok (.iload 4, 2) := by decide +kernel
theorem dX8_bestBoard_50 : decode cX8_bestBoard 50 = .ok (.iload_n 1, 1) := by decide +kernel
theorem dX8_bestBoard_51 : decode cX8_bestBoard 51 = .ok (.invokevirtual 197, 3) := by decide +kernel
theorem dX8_bestBoard_54 : decode cX8_bestBoard 54 = .ok (.istore 5, 2) := by decide +kernel
theorem dX8_bestBoard_56 : decode cX8_bestBoard 56 = .ok (.iload 5, 2) := by decide +kernel
theorem dX8_bestBoard_58 : decode cX8_bestBoard 58 = .ok (.iload_n 3, 1) := by decide +kernel
theorem dX8_bestBoard_59 : decode cX8_bestBoard 59 = .ok (.if_icmp .le 8, 3) := by decide +kernel
theorem dX8_bestBoard_62 : decode cX8_bestBoard 62 = .ok (.iload 4, 2) := by decide +kernel
theorem dX8_bestBoard_64 : decode cX8_bestBoard 64 = .ok (.goto 4, 3) := by decide +kernel
theorem dX8_bestBoard_67 : decode cX8_bestBoard 67 = .ok (.iload_n 2, 1) := by decide +kernel
theorem dX8_bestBoard_68 : decode cX8_bestBoard 68 = .ok (.istore_n 2, 1) := by decide +kernel
theorem dX8_bestBoard_69 : decode cX8_bestBoard 69 = .ok (.iload 5, 2) := by decide +kernel
theorem dX8_bestBoard_71 : decode cX8_bestBoard 71 = .ok (.iload_n 3, 1) := by decide +kernel
theorem dX8_bestBoard_72 : decode cX8_bestBoard 72 = .ok (.if_icmp .le 8, 3) := by decide +kernel
theorem dX8_bestBoard_75 : decode cX8_bestBoard 75 = .ok (.iload 5, 2) := by decide +kernel
theorem dX8_bestBoard_77 : decode cX8_bestBoard 77 = .ok (.goto 4, 3) := by decide +kernel
theorem dX8_bestBoard_80 : decode cX8_bestBoard 80 = .ok (.iload_n 3, 1) := by decide +kernel
theorem dX8_bestBoard_81 : decode cX8_bestBoard 81 = .ok (.istore_n 3, 1) := by decide +kernel
theorem dX8_bestBoard_82 : decode cX8_bestBoard 82 = .ok (.iinc 4 1, 3) := by decide +kernel
theorem dX8_bestBoard_85 : decode cX8_bestBoard 85 = .ok (.goto (-45), 3) := by decide +kernel
theorem dX8_bestBoard_88 : decode cX8_bestBoard 88 = .ok (.iload_n 2, 1) := by decide +kernel
theorem dX8_bestBoard_89 : decode cX8_bestBoard 89 = .ok (.ireturn, 1) := by decide +kernel
set_option maxRecDepth 20000 in
theorem ggX8_slowest_X8_isStopped : GoodIn wsX8_slowest wsX8_isStopped := goodIn_r _ [6] (by decide +kernel) (by decide +kernel)
set_option maxRecDepth 20000 in
theorem gX8_slowest_X8_isStopped : GoodIn wsX8_slowest (va_wsS RX8 118 yX8_isStopped wsX8_isStopped) := goodIn_app (goodIn_of _ (by decide +kernel)) ggX8_slowest_X8_isStopped
theorem dX8_slowest_0 : decode cX8_slowest 0 = .ok (.aload_n 0, 1) := by decide +kernel
theorem dX8_slowest_1 : decode cX8_slowest 1 = .ok (.iconst 0, 1) := by decide +kernel
theorem dX8_slowest_2 : decode cX8_slowest 2 = .ok (.putfield 39, 3) := by decide +kernel
theorem dX8_slowest_5 : decode cX8_slowest 5 = .ok (.iconst 1, 1) := by decide +kernel
theorem dX8_slowest_6 : decode cX8_slowest 6 = .ok (.istore_n 1, 1) := by decide +kernel
theorem dX8_slowest_7 : decode cX8_slowest 7 = .ok (.aload_n 0, 1) := by decide +kernel
theorem dX8_slowest_8 : decode cX8_slowest 8 = .ok (.getfield 13, 3) := by decide +kernel
theorem dX8_slowest_11 : decode cX8_slowest 11 = .ok (.iload_n 1, 1) := by decide +kernel
theorem dX8_slowest_12 : decode cX8_slowest 12 = .ok (.invokestatic 118, 3) := by decide +kernel
theorem dX8_slowest_15 : decode cX8_slowest 15 = .ok (.ifCond .eq 9, 3) := by decide +kernel
theorem dX8_slowest_18 : decode cX8_slowest 18 = .ok (.iinc 1 1, 3) := by decide +kernel
theorem dX8_slowest_21 : decode cX8_slowest 21 = .ok (.goto (-14), 3) := by decide +kernel
theorem dX8_slowest_24 : decode cX8_slowest 24 = .ok (.iload_n 1, 1) := by decide +kernel
theorem dX8_slowest_25 : decode cX8_slowest 25 = .ok (.ireturn, 1) := by decide +kernel
set_option maxRecDepth 20000 in
theorem ggX8_goesOn_X8_isBall : GoodIn wsX8_goesOn wsX8_isBall := goodIn_r _ [6, 7, 8, 9, 10, 11, 5, 12] (by decide +kernel) (by decide +kernel)
set_option maxRecDepth 20000 in
theorem gX8_goesOn_X8_isBall : GoodIn wsX8_goesOn (va_wsS RX8 185 yX8_isBall wsX8_isBall) := goodIn_app (goodIn_of _ (by decide +kernel)) ggX8_goesOn_X8_isBall
set_option maxRecDepth 20000 in
theorem ggX8_goesOn_X8_refused : GoodIn wsX8_goesOn wsX8_refused := goodIn_r _ [16, 17, 90, 91, 92, 93, 94, 95, 96, 97, 98, 99, 100, 101, 102] (by decide +kernel) (by decide +kernel)
set_option maxRecDepth 20000 in
theorem gX8_goesOn_X8_refused : GoodIn wsX8_goesOn (wsV RX8 135 RX8 yX8_refused wsX8_refused) := goodIn_app (goodIn_of _ (by decide +kernel)) ggX8_goesOn_X8_refused
set_option maxRecDepth 20000 in
theorem ggX8_goesOn_X8_copyState : GoodIn wsX8_goesOn wsX8_copyState := goodIn_r _ [20] (by decide +kernel) (by decide +kernel)
set_option maxRecDepth 20000 in
theorem gX8_goesOn_X8_copyState : GoodIn wsX8_goesOn (va_wsS RX8 166 yX8_copyState wsX8_copyState) := goodIn_app (goodIn_of _ (by decide +kernel)) ggX8_goesOn_X8_copyState
set_option maxRecDepth 20000 in
theorem ggX8_goesOn_X8_isOver : GoodIn wsX8_goesOn wsX8_isOver := goodIn_r _ [23] (by decide +kernel) (by decide +kernel)
set_option maxRecDepth 20000 in
theorem gX8_goesOn_X8_isOver : GoodIn wsX8_goesOn (va_wsS RX8 149 yX8_isOver wsX8_isOver) := goodIn_app (goodIn_of _ (by decide +kernel)) ggX8_goesOn_X8_isOver
set_option maxRecDepth 20000 in
theorem ggX8_goesOn_X8_rollOn : GoodIn wsX8_goesOn wsX8_rollOn := goodIn_r _ [27, 28, 29, 30, 5, 31, 32, 33, 34, 35, 36, 37, 38, 39, 40, 41, 42, 43, 44, 45, 8, 9, 46, 47, 48, 49, 50, 51, 10, 11, 12, 52, 53, 54, 55, 56, 57, 58, 59, 60, 61, 62, 63, 64, 65, 66, 67, 68, 69, 70, 71, 72, 73, 74, 75, 76, 77, 78, 79, 80, 90, 91, 92, 93, 94, 95, 96, 97, 98, 99, 100, 101, 102] (by decide +kernel) (by decide +kernel)
set_option maxRecDepth 20000 in
theorem gX8_goesOn_X8_rollOn : GoodIn wsX8_goesOn (wsV RX8 121 RX8 yX8_rollOn wsX8_rollOn) := goodIn_app (goodIn_of _ (by decide +kernel)) ggX8_goesOn_X8_rollOn
set_option maxRecDepth 20000 in
theorem ggX8_goesOn_X8_points : GoodIn wsX8_goesOn wsX8_points := goodIn_r _ [83, 84, 85, 5, 86, 69, 70, 71, 66, 67, 68, 87, 88, 89] (by decide +kernel) (by decide +kernel)
set_option maxRecDepth 20000 in
theorem gX8_goesOn_X8_points : GoodIn wsX8_goesOn (va_wsS RX8 125 yX8_points wsX8_points) := goodIn_app (goodIn_of _ (by decide +kernel)) ggX8_goesOn_X8_points
theorem dX8_goesOn_0 : decode cX8_goesOn 0 = .ok (.aload_n 0, 1) := by decide +kernel
theorem dX8_goesOn_1 : decode cX8_goesOn 1 = .ok (.iload_n 1, 1) := by decide +kernel
theorem dX8_goesOn_2 : decode cX8_goesOn 2 = .ok (.iload_n 2, 1) := by decide +kernel
theorem dX8_goesOn_3 : decode cX8_goesOn 3 = .ok (.invokestatic 185, 3) := by decide +kernel
theorem dX8_goesOn_6 : decode cX8_goesOn 6 = .ok (.ifCond .eq 7, 3) := by decide +kernel
theorem dX8_goesOn_9 : decode cX8_goesOn 9 = .ok (.iconst 0, 1) := by decide +kernel
theorem dX8_goesOn_10 : decode cX8_goesOn 10 = .ok (.goto 4, 3) := by decide +kernel
theorem dX8_goesOn_13 : decode cX8_goesOn 13 = .ok (.iconst 1, 1) := by decide +kernel
theorem dX8_goesOn_14 : decode cX8_goesOn 14 = .ok (.invokevirtual 135, 3) := by decide +kernel
theorem dX8_goesOn_17 : decode cX8_goesOn 17 = .ok (.ifCond .eq 5, 3) := by decide +kernel
theorem dX8_goesOn_20 : decode cX8_goesOn 20 = .ok (.iconst 0, 1) := by decide +kernel
theorem dX8_goesOn_21 : decode cX8_goesOn 21 = .ok (.ireturn, 1) := by decide +kernel
theorem dX8_goesOn_22 : decode cX8_goesOn 22 = .ok (.aload_n 0, 1) := by decide +kernel
theorem dX8_goesOn_23 : decode cX8_goesOn 23 = .ok (.getfield 13, 3) := by decide +kernel
theorem dX8_goesOn_26 : decode cX8_goesOn 26 = .ok (.iconst 0, 1) := by decide +kernel
theorem dX8_goesOn_27 : decode cX8_goesOn 27 = .ok (.aload_n 0, 1) := by decide +kernel
theorem dX8_goesOn_28 : decode cX8_goesOn 28 = .ok (.getfield 16, 3) := by decide +kernel
theorem dX8_goesOn_31 : decode cX8_goesOn 31 = .ok (.iconst 0, 1) := by decide +kernel
theorem dX8_goesOn_32 : decode cX8_goesOn 32 = .ok (.invokestatic 166, 3) := by decide +kernel
theorem dX8_goesOn_35 : decode cX8_goesOn 35 = .ok (.aload_n 0, 1) := by decide +kernel
theorem dX8_goesOn_36 : decode cX8_goesOn 36 = .ok (.getfield 16, 3) := by decide +kernel
theorem dX8_goesOn_39 : decode cX8_goesOn 39 = .ok (.invokestatic 149, 3) := by decide +kernel
theorem dX8_goesOn_42 : decode cX8_goesOn 42 = .ok (.ifCond .ne 18, 3) := by decide +kernel
theorem dX8_goesOn_45 : decode cX8_goesOn 45 = .ok (.aload_n 0, 1) := by decide +kernel
theorem dX8_goesOn_46 : decode cX8_goesOn 46 = .ok (.aload_n 0, 1) := by decide +kernel
theorem dX8_goesOn_47 : decode cX8_goesOn 47 = .ok (.getfield 16, 3) := by decide +kernel
theorem dX8_goesOn_50 : decode cX8_goesOn 50 = .ok (.iload_n 1, 1) := by decide +kernel
theorem dX8_goesOn_51 : decode cX8_goesOn 51 = .ok (.iload_n 2, 1) := by decide +kernel
theorem dX8_goesOn_52 : decode cX8_goesOn 52 = .ok (.iconst 0, 1) := by decide +kernel
theorem dX8_goesOn_53 : decode cX8_goesOn 53 = .ok (.invokevirtual 121, 3) := by decide +kernel
theorem dX8_goesOn_56 : decode cX8_goesOn 56 = .ok (.pop, 1) := by decide +kernel
theorem dX8_goesOn_57 : decode cX8_goesOn 57 = .ok (.goto (-22), 3) := by decide +kernel
theorem dX8_goesOn_60 : decode cX8_goesOn 60 = .ok (.aload_n 0, 1) := by decide +kernel
theorem dX8_goesOn_61 : decode cX8_goesOn 61 = .ok (.getfield 16, 3) := by decide +kernel
theorem dX8_goesOn_64 : decode cX8_goesOn 64 = .ok (.invokestatic 125, 3) := by decide +kernel
theorem dX8_goesOn_67 : decode cX8_goesOn 67 = .ok (.ireturn, 1) := by decide +kernel
set_option maxRecDepth 20000 in
theorem ggX8_drops_X8_slips : GoodIn wsX8_drops wsX8_slips := goodIn_r _ [6] (by decide +kernel) (by decide +kernel)
set_option maxRecDepth 20000 in
theorem gX8_drops_X8_slips : GoodIn wsX8_drops (va_wsS RX8 85 yX8_slips wsX8_slips) := goodIn_app (goodIn_of _ (by decide +kernel)) ggX8_drops_X8_slips
theorem dX8_drops_0 : decode cX8_drops 0 = .ok (.aload_n 0, 1) := by decide +kernel
theorem dX8_drops_1 : decode cX8_drops 1 = .ok (.iconst 0, 1) := by decide +kernel
theorem dX8_drops_2 : decode cX8_drops 2 = .ok (.putfield 39, 3) := by decide +kernel
theorem dX8_drops_5 : decode cX8_drops 5 = .ok (.iconst 0, 1) := by decide +kernel
theorem dX8_drops_6 : decode cX8_drops 6 = .ok (.istore_n 1, 1) := by decide +kernel
theorem dX8_drops_7 : decode cX8_drops 7 = .ok (.iconst 0, 1) := by decide +kernel
theorem dX8_drops_8 : decode cX8_drops 8 = .ok (.istore_n 2, 1) := by decide +kernel
theorem dX8_drops_9 : decode cX8_drops 9 = .ok (.iload_n 2, 1) := by decide +kernel
theorem dX8_drops_10 : decode cX8_drops 10 = .ok (.bipush 10, 2) := by decide +kernel
theorem dX8_drops_12 : decode cX8_drops 12 = .ok (.if_icmp .ge 30, 3) := by decide +kernel
theorem dX8_drops_15 : decode cX8_drops 15 = .ok (.iload_n 1, 1) := by decide +kernel
theorem dX8_drops_16 : decode cX8_drops 16 = .ok (.aload_n 0, 1) := by decide +kernel
theorem dX8_drops_17 : decode cX8_drops 17 = .ok (.getfield 13, 3) := by decide +kernel
theorem dX8_drops_20 : decode cX8_drops 20 = .ok (.iload_n 2, 1) := by decide +kernel
theorem dX8_drops_21 : decode cX8_drops 21 = .ok (.invokestatic 85, 3) := by decide +kernel
theorem dX8_drops_24 : decode cX8_drops 24 = .ok (.ifCond .eq 9, 3) := by decide +kernel
theorem dX8_drops_27 : decode cX8_drops 27 = .ok (.iconst 1, 1) := by decide +kernel
theorem dX8_drops_28 : decode cX8_drops 28 = .ok (.iload_n 2, 1) := by decide +kernel
theorem dX8_drops_29 : decode cX8_drops 29 = .ok (.ishl, 1) := by decide +kernel
theorem dX8_drops_30 : decode cX8_drops 30 = .ok (.goto 4, 3) := by decide +kernel
theorem dX8_drops_33 : decode cX8_drops 33 = .ok (.iconst 0, 1) := by decide +kernel
theorem dX8_drops_34 : decode cX8_drops 34 = .ok (.ior, 1) := by decide +kernel
theorem dX8_drops_35 : decode cX8_drops 35 = .ok (.istore_n 1, 1) := by decide +kernel
theorem dX8_drops_36 : decode cX8_drops 36 = .ok (.iinc 2 1, 3) := by decide +kernel
theorem dX8_drops_39 : decode cX8_drops 39 = .ok (.goto (-30), 3) := by decide +kernel
theorem dX8_drops_42 : decode cX8_drops 42 = .ok (.iload_n 1, 1) := by decide +kernel
theorem dX8_drops_43 : decode cX8_drops 43 = .ok (.ireturn, 1) := by decide +kernel
set_option maxRecDepth 20000 in
theorem ggX8_command_X8_isBall : GoodIn wsX8_command wsX8_isBall := goodIn_r _ [6, 7, 8, 9, 10, 11, 5, 12] (by decide +kernel) (by decide +kernel)
set_option maxRecDepth 20000 in
theorem gX8_command_X8_isBall : GoodIn wsX8_command (va_wsS RX8 185 yX8_isBall wsX8_isBall) := goodIn_app (goodIn_of _ (by decide +kernel)) ggX8_command_X8_isBall
set_option maxRecDepth 20000 in
theorem ggX8_command_X8_isOver : GoodIn wsX8_command wsX8_isOver := goodIn_r _ [15] (by decide +kernel) (by decide +kernel)
set_option maxRecDepth 20000 in
theorem gX8_command_X8_isOver : GoodIn wsX8_command (va_wsS RX8 149 yX8_isOver wsX8_isOver) := goodIn_app (goodIn_of _ (by decide +kernel)) ggX8_command_X8_isOver
set_option maxRecDepth 20000 in
theorem ggX8_command_X8_rollOn : GoodIn wsX8_command wsX8_rollOn := goodIn_r _ [19, 20, 21, 22, 5, 23, 24, 25, 26, 27, 28, 29, 30, 31, 32, 33, 34, 35, 36, 2, 8, 9, 37, 38, 39, 40, 41, 42, 10, 11, 12, 43, 44, 45, 46, 47, 48, 49, 50, 51, 52, 53, 54, 55, 56, 57, 58, 59, 60, 61, 62, 63, 64, 65, 66, 67, 68, 69, 70, 71, 91, 92, 93, 94, 95, 96, 97, 98, 99, 100, 101, 102, 103] (by decide +kernel) (by decide +kernel)
set_option maxRecDepth 20000 in
theorem gX8_command_X8_rollOn : GoodIn wsX8_command (wsV RX8 121 RX8 yX8_rollOn wsX8_rollOn) := goodIn_app (goodIn_of _ (by decide +kernel)) ggX8_command_X8_rollOn
set_option maxRecDepth 20000 in
theorem ggX8_command_X8_in : GoodIn wsX8_command wsX8_in := goodIn_r _ [12] (by decide +kernel) (by decide +kernel)
set_option maxRecDepth 20000 in
theorem gX8_command_X8_in : GoodIn wsX8_command (va_wsS RX8 48 yX8_in wsX8_in) := goodIn_app (goodIn_of _ (by decide +kernel)) ggX8_command_X8_in
set_option maxRecDepth 20000 in
theorem ggX8_command_X8_touchOn : GoodIn wsX8_command wsX8_touchOn := goodIn_r _ [74] (by decide +kernel) (by decide +kernel)
set_option maxRecDepth 20000 in
theorem gX8_command_X8_touchOn : GoodIn wsX8_command (va_wsS RX8 191 yX8_touchOn wsX8_touchOn) := goodIn_app (goodIn_of _ (by decide +kernel)) ggX8_command_X8_touchOn
set_option maxRecDepth 20000 in
theorem ggX8_command_X8_isSetting : GoodIn wsX8_command wsX8_isSetting := goodIn_r _ [77, 2, 78, 10, 11, 5, 12] (by decide +kernel) (by decide +kernel)
set_option maxRecDepth 20000 in
theorem gX8_command_X8_isSetting : GoodIn wsX8_command (va_wsS RX8 194 yX8_isSetting wsX8_isSetting) := goodIn_app (goodIn_of _ (by decide +kernel)) ggX8_command_X8_isSetting
set_option maxRecDepth 20000 in
theorem ggX8_command_X8_beginOn : GoodIn wsX8_command wsX8_beginOn := goodIn_r _ [81, 82, 83, 5, 84, 85, 86, 87, 60, 61, 62, 57, 58, 59, 88, 89, 90, 63, 64, 65] (by decide +kernel) (by decide +kernel)
set_option maxRecDepth 20000 in
theorem gX8_command_X8_beginOn : GoodIn wsX8_command (va_wsS RX8 182 yX8_beginOn wsX8_beginOn) := goodIn_app (goodIn_of _ (by decide +kernel)) ggX8_command_X8_beginOn
set_option maxRecDepth 20000 in
theorem ggX8_command_X8_toldOf : GoodIn wsX8_command wsX8_toldOf := goodIn_r _ [23] (by decide +kernel) (by decide +kernel)
set_option maxRecDepth 20000 in
theorem gX8_command_X8_toldOf : GoodIn wsX8_command (va_wsS RX8 104 yX8_toldOf wsX8_toldOf) := goodIn_app (goodIn_of _ (by decide +kernel)) ggX8_command_X8_toldOf
set_option maxRecDepth 20000 in
theorem ggX8_command_X8_points : GoodIn wsX8_command wsX8_points := goodIn_r _ [84, 85, 86, 5, 87, 60, 61, 62, 57, 58, 59, 88, 89, 90] (by decide +kernel) (by decide +kernel)
set_option maxRecDepth 20000 in
theorem gX8_command_X8_points : GoodIn wsX8_command (va_wsS RX8 125 yX8_points wsX8_points) := goodIn_app (goodIn_of _ (by decide +kernel)) ggX8_command_X8_points
set_option maxRecDepth 20000 in
theorem ggX8_command_X8_markOf : GoodIn wsX8_command wsX8_markOf := goodIn_r _ [59, 60, 61, 5, 62] (by decide +kernel) (by decide +kernel)
set_option maxRecDepth 20000 in
theorem gX8_command_X8_markOf : GoodIn wsX8_command (va_wsS RX8 92 yX8_markOf wsX8_markOf) := goodIn_app (goodIn_of _ (by decide +kernel)) ggX8_command_X8_markOf
theorem dX8_command_0 : decode cX8_command 0 = .ok (.iload_n 2, 1) := by decide +kernel
theorem dX8_command_1 : decode cX8_command 1 = .ok (.sipush 1000, 3) := by decide +kernel
theorem dX8_command_4 : decode cX8_command 4 = .ok (.idiv, 1) := by decide +kernel
theorem dX8_command_5 : decode cX8_command 5 = .ok (.istore_n 3, 1) := by decide +kernel
theorem dX8_command_6 : decode cX8_command 6 = .ok (.iload_n 2, 1) := by decide +kernel
theorem dX8_command_7 : decode cX8_command 7 = .ok (.bipush 100, 2) := by decide +kernel
theorem dX8_command_9 : decode cX8_command 9 = .ok (.idiv, 1) := by decide +kernel
theorem dX8_command_10 : decode cX8_command 10 = .ok (.bipush 10, 2) := by decide +kernel
theorem dX8_command_12 : decode cX8_command 12 = .ok (.irem, 1) := by decide +kernel
theorem dX8_command_13 : decode cX8_command 13 = .ok (.istore 4, 2) := by decide +kernel
theorem dX8_command_15 : decode cX8_command 15 = .ok (.iload_n 2, 1) := by decide +kernel
theorem dX8_command_16 : decode cX8_command 16 = .ok (.bipush 100, 2) := by decide +kernel
theorem dX8_command_18 : decode cX8_command 18 = .ok (.idiv, 1) := by decide +kernel
theorem dX8_command_19 : decode cX8_command 19 = .ok (.istore 5, 2) := by decide +kernel
theorem dX8_command_21 : decode cX8_command 21 = .ok (.iload_n 2, 1) := by decide +kernel
theorem dX8_command_22 : decode cX8_command 22 = .ok (.bipush 10, 2) := by decide +kernel
theorem dX8_command_24 : decode cX8_command 24 = .ok (.idiv, 1) := by decide +kernel
theorem dX8_command_25 : decode cX8_command 25 = .ok (.bipush 10, 2) := by decide +kernel
theorem dX8_command_27 : decode cX8_command 27 = .ok (.irem, 1) := by decide +kernel
theorem dX8_command_28 : decode cX8_command 28 = .ok (.iconst 2, 1) := by decide +kernel
theorem dX8_command_29 : decode cX8_command 29 = .ok (.isub, 1) := by decide +kernel
theorem dX8_command_30 : decode cX8_command 30 = .ok (.istore 6, 2) := by decide +kernel
theorem dX8_command_32 : decode cX8_command 32 = .ok (.iload_n 2, 1) := by decide +kernel
theorem dX8_command_33 : decode cX8_command 33 = .ok (.bipush 100, 2) := by decide +kernel
theorem dX8_command_35 : decode cX8_command 35 = .ok (.irem, 1) := by decide +kernel
theorem dX8_command_36 : decode cX8_command 36 = .ok (.istore 7, 2) := by decide +kernel
theorem dX8_command_38 : decode cX8_command 38 = .ok (.iload_n 1, 1) := by decide +kernel
theorem dX8_command_39 : decode cX8_command 39 = .ok (.tableswitch 325 1 9 #[49, 49, 107, 156, 197, 217, 240, 270, 294], 49) := by decide +kernel
theorem dX8_command_88 : decode cX8_command 88 = .ok (.iload_n 2, 1) := by decide +kernel
theorem dX8_command_89 : decode cX8_command 89 = .ok (.bipush 10, 2) := by decide +kernel
theorem dX8_command_91 : decode cX8_command 91 = .ok (.irem, 1) := by decide +kernel
theorem dX8_command_92 : decode cX8_command 92 = .ok (.ifCond .ne 52, 3) := by decide +kernel
theorem dX8_command_95 : decode cX8_command 95 = .ok (.iload 5, 2) := by decide +kernel
theorem dX8_command_97 : decode cX8_command 97 = .ok (.iload 6, 2) := by decide +kernel
theorem dX8_command_99 : decode cX8_command 99 = .ok (.invokestatic 185, 3) := by decide +kernel
theorem dX8_command_102 : decode cX8_command 102 = .ok (.ifCond .eq 42, 3) := by decide +kernel
theorem dX8_command_105 : decode cX8_command 105 = .ok (.aload_n 0, 1) := by decide +kernel
theorem dX8_command_106 : decode cX8_command 106 = .ok (.getfield 16, 3) := by decide +kernel
theorem dX8_command_109 : decode cX8_command 109 = .ok (.invokestatic 149, 3) := by decide +kernel
theorem dX8_command_112 : decode cX8_command 112 = .ok (.ifCond .ne 32, 3) := by decide +kernel
theorem dX8_command_115 : decode cX8_command 115 = .ok (.aload_n 0, 1) := by decide +kernel
theorem dX8_command_116 : decode cX8_command 116 = .ok (.aload_n 0, 1) := by decide +kernel
theorem dX8_command_117 : decode cX8_command 117 = .ok (.getfield 16, 3) := by decide +kernel
theorem dX8_command_120 : decode cX8_command 120 = .ok (.iload 5, 2) := by decide +kernel
theorem dX8_command_122 : decode cX8_command 122 = .ok (.iload 6, 2) := by decide +kernel
theorem dX8_command_124 : decode cX8_command 124 = .ok (.iload_n 1, 1) := by decide +kernel
theorem dX8_command_125 : decode cX8_command 125 = .ok (.iconst 2, 1) := by decide +kernel
theorem dX8_command_126 : decode cX8_command 126 = .ok (.if_icmp .ne 7, 3) := by decide +kernel
theorem dX8_command_129 : decode cX8_command 129 = .ok (.iconst 1, 1) := by decide +kernel
theorem dX8_command_130 : decode cX8_command 130 = .ok (.goto 4, 3) := by decide +kernel
theorem dX8_command_133 : decode cX8_command 133 = .ok (.iconst 0, 1) := by decide +kernel
theorem dX8_command_134 : decode cX8_command 134 = .ok (.invokevirtual 121, 3) := by decide +kernel
theorem dX8_command_137 : decode cX8_command 137 = .ok (.ifCond .lt 7, 3) := by decide +kernel
theorem dX8_command_140 : decode cX8_command 140 = .ok (.iconst 1, 1) := by decide +kernel
theorem dX8_command_141 : decode cX8_command 141 = .ok (.goto 4, 3) := by decide +kernel
theorem dX8_command_144 : decode cX8_command 144 = .ok (.iconst 0, 1) := by decide +kernel
theorem dX8_command_145 : decode cX8_command 145 = .ok (.ireturn, 1) := by decide +kernel
theorem dX8_command_146 : decode cX8_command 146 = .ok (.iload 7, 2) := by decide +kernel
theorem dX8_command_148 : decode cX8_command 148 = .ok (.ifCond .ne 45, 3) := by decide +kernel
theorem dX8_command_151 : decode cX8_command 151 = .ok (.iload 4, 2) := by decide +kernel
theorem dX8_command_153 : decode cX8_command 153 = .ok (.i2l, 1) := by decide +kernel
theorem dX8_command_154 : decode cX8_command 154 = .ok (.lconst 0, 1) := by decide +kernel
theorem dX8_command_155 : decode cX8_command 155 = .ok (.ldc2_w 71, 3) := by decide +kernel
theorem dX8_command_158 : decode cX8_command 158 = .ok (.invokestatic 48, 3) := by decide +kernel
theorem dX8_command_161 : decode cX8_command 161 = .ok (.ifCond .eq 32, 3) := by decide +kernel
theorem dX8_command_164 : decode cX8_command 164 = .ok (.aload_n 0, 1) := by decide +kernel
theorem dX8_command_165 : decode cX8_command 165 = .ok (.getfield 16, 3) := by decide +kernel
theorem dX8_command_168 : decode cX8_command 168 = .ok (.iconst 0, 1) := by decide +kernel
theorem dX8_command_169 : decode cX8_command 169 = .ok (.iload_n 3, 1) := by decide +kernel
theorem dX8_command_170 : decode cX8_command 170 = .ok (.iadd, 1) := by decide +kernel
theorem dX8_command_171 : decode cX8_command 171 = .ok (.iaload, 1) := by decide +kernel
theorem dX8_command_172 : decode cX8_command 172 = .ok (.iconst 4, 1) := by decide +kernel
theorem dX8_command_173 : decode cX8_command 173 = .ok (.if_icmp .eq 20, 3) := by decide +kernel
theorem dX8_command_176 : decode cX8_command 176 = .ok (.aload_n 0, 1) := by decide +kernel
theorem dX8_command_177 : decode cX8_command 177 = .ok (.getfield 16, 3) := by decide +kernel
theorem dX8_command_180 : decode cX8_command 180 = .ok (.iload_n 3, 1) := by decide +kernel
theorem dX8_command_181 : decode cX8_command 181 = .ok (.iload 4, 2) := by decide +kernel
theorem dX8_command_183 : decode cX8_command 183 = .ok (.invokestatic 191, 3) := by decide +kernel
theorem dX8_command_186 : decode cX8_command 186 = .ok (.ifCond .lt 7, 3) := by decide +kernel
theorem dX8_command_189 : decode cX8_command 189 = .ok (.iconst 1, 1) := by decide +kernel
theorem dX8_command_190 : decode cX8_command 190 = .ok (.goto 4, 3) := by decide +kernel
theorem dX8_command_193 : decode cX8_command 193 = .ok (.iconst 0, 1) := by decide +kernel
theorem dX8_command_194 : decode cX8_command 194 = .ok (.ireturn, 1) := by decide +kernel
theorem dX8_command_195 : decode cX8_command 195 = .ok (.iload_n 2, 1) := by decide +kernel
theorem dX8_command_196 : decode cX8_command 196 = .ok (.bipush 10, 2) := by decide +kernel
theorem dX8_command_198 : decode cX8_command 198 = .ok (.irem, 1) := by decide +kernel
theorem dX8_command_199 : decode cX8_command 199 = .ok (.ifCond .gt 17, 3) := by decide +kernel
theorem dX8_command_202 : decode cX8_command 202 = .ok (.iload_n 3, 1) := by decide +kernel
theorem dX8_command_203 : decode cX8_command 203 = .ok (.iload_n 2, 1) := by decide +kernel
theorem dX8_command_204 : decode cX8_command 204 = .ok (.bipush 10, 2) := by decide +kernel
theorem dX8_command_206 : decode cX8_command 206 = .ok (.idiv, 1) := by decide +kernel
theorem dX8_command_207 : decode cX8_command 207 = .ok (.bipush 100, 2) := by decide +kernel
theorem dX8_command_209 : decode cX8_command 209 = .ok (.irem, 1) := by decide +kernel
theorem dX8_command_210 : decode cX8_command 210 = .ok (.invokestatic 194, 3) := by decide +kernel
theorem dX8_command_213 : decode cX8_command 213 = .ok (.ifCond .ne 5, 3) := by decide +kernel
theorem dX8_command_216 : decode cX8_command 216 = .ok (.iconst 0, 1) := by decide +kernel
theorem dX8_command_217 : decode cX8_command 217 = .ok (.ireturn, 1) := by decide +kernel
theorem dX8_command_218 : decode cX8_command 218 = .ok (.aload_n 0, 1) := by decide +kernel
theorem dX8_command_219 : decode cX8_command 219 = .ok (.getfield 16, 3) := by decide +kernel
theorem dX8_command_222 : decode cX8_command 222 = .ok (.bipush 76, 2) := by decide +kernel
theorem dX8_command_224 : decode cX8_command 224 = .ok (.iload_n 3, 1) := by decide +kernel
theorem dX8_command_225 : decode cX8_command 225 = .ok (.iadd, 1) := by decide +kernel
theorem dX8_command_226 : decode cX8_command 226 = .ok (.iload_n 2, 1) := by decide +kernel
theorem dX8_command_227 : decode cX8_command 227 = .ok (.bipush 10, 2) := by decide +kernel
theorem dX8_command_229 : decode cX8_command 229 = .ok (.idiv, 1) := by decide +kernel
theorem dX8_command_230 : decode cX8_command 230 = .ok (.bipush 100, 2) := by decide +kernel
theorem dX8_command_232 : decode cX8_command 232 = .ok (.irem, 1) := by decide +kernel
theorem dX8_command_233 : decode cX8_command 233 = .ok (.iastore, 1) := by decide +kernel
theorem dX8_command_234 : decode cX8_command 234 = .ok (.iconst 1, 1) := by decide +kernel
theorem dX8_command_235 : decode cX8_command 235 = .ok (.ireturn, 1) := by decide +kernel
theorem dX8_command_236 : decode cX8_command 236 = .ok (.iload_n 2, 1) := by decide +kernel
theorem dX8_command_237 : decode cX8_command 237 = .ok (.ifCond .ne 17, 3) := by decide +kernel
theorem dX8_command_240 : decode cX8_command 240 = .ok (.aload_n 0, 1) := by decide +kernel
theorem dX8_command_241 : decode cX8_command 241 = .ok (.getfield 16, 3) := by decide +kernel
theorem dX8_command_244 : decode cX8_command 244 = .ok (.invokestatic 182, 3) := by decide +kernel
theorem dX8_command_247 : decode cX8_command 247 = .ok (.ifCond .lt 7, 3) := by decide +kernel
theorem dX8_command_250 : decode cX8_command 250 = .ok (.iconst 1, 1) := by decide +kernel
theorem dX8_command_251 : decode cX8_command 251 = .ok (.goto 4, 3) := by decide +kernel
theorem dX8_command_254 : decode cX8_command 254 = .ok (.iconst 0, 1) := by decide +kernel
theorem dX8_command_255 : decode cX8_command 255 = .ok (.ireturn, 1) := by decide +kernel
theorem dX8_command_256 : decode cX8_command 256 = .ok (.iload_n 2, 1) := by decide +kernel
theorem dX8_command_257 : decode cX8_command 257 = .ok (.bipush 100, 2) := by decide +kernel
theorem dX8_command_259 : decode cX8_command 259 = .ok (.if_icmp .ge 18, 3) := by decide +kernel
theorem dX8_command_262 : decode cX8_command 262 = .ok (.aload_n 0, 1) := by decide +kernel
theorem dX8_command_263 : decode cX8_command 263 = .ok (.getfield 16, 3) := by decide +kernel
theorem dX8_command_266 : decode cX8_command 266 = .ok (.invokestatic 104, 3) := by decide +kernel
theorem dX8_command_269 : decode cX8_command 269 = .ok (.iload_n 2, 1) := by decide +kernel
theorem dX8_command_270 : decode cX8_command 270 = .ok (.if_icmp .gt 7, 3) := by decide +kernel
theorem dX8_command_273 : decode cX8_command 273 = .ok (.iconst 1, 1) := by decide +kernel
theorem dX8_command_274 : decode cX8_command 274 = .ok (.goto 4, 3) := by decide +kernel
theorem dX8_command_277 : decode cX8_command 277 = .ok (.iconst 0, 1) := by decide +kernel
theorem dX8_command_278 : decode cX8_command 278 = .ok (.ireturn, 1) := by decide +kernel
theorem dX8_command_279 : decode cX8_command 279 = .ok (.iload 7, 2) := by decide +kernel
theorem dX8_command_281 : decode cX8_command 281 = .ok (.ifCond .ne 26, 3) := by decide +kernel
theorem dX8_command_284 : decode cX8_command 284 = .ok (.iload 4, 2) := by decide +kernel
theorem dX8_command_286 : decode cX8_command 286 = .ok (.iconst 4, 1) := by decide +kernel
theorem dX8_command_287 : decode cX8_command 287 = .ok (.if_icmp .gt 20, 3) := by decide +kernel
theorem dX8_command_290 : decode cX8_command 290 = .ok (.aload_n 0, 1) := by decide +kernel
theorem dX8_command_291 : decode cX8_command 291 = .ok (.getfield 16, 3) := by decide +kernel
theorem dX8_command_294 : decode cX8_command 294 = .ok (.iconst 0, 1) := by decide +kernel
theorem dX8_command_295 : decode cX8_command 295 = .ok (.iload_n 3, 1) := by decide +kernel
theorem dX8_command_296 : decode cX8_command 296 = .ok (.iadd, 1) := by decide +kernel
theorem dX8_command_297 : decode cX8_command 297 = .ok (.iaload, 1) := by decide +kernel
theorem dX8_command_298 : decode cX8_command 298 = .ok (.iload 4, 2) := by decide +kernel
theorem dX8_command_300 : decode cX8_command 300 = .ok (.if_icmp .ne 7, 3) := by decide +kernel
theorem dX8_command_303 : decode cX8_command 303 = .ok (.iconst 1, 1) := by decide +kernel
theorem dX8_command_304 : decode cX8_command 304 = .ok (.goto 4, 3) := by decide +kernel
theorem dX8_command_307 : decode cX8_command 307 = .ok (.iconst 0, 1) := by decide +kernel
theorem dX8_command_308 : decode cX8_command 308 = .ok (.ireturn, 1) := by decide +kernel
theorem dX8_command_309 : decode cX8_command 309 = .ok (.iload_n 2, 1) := by decide +kernel
theorem dX8_command_310 : decode cX8_command 310 = .ok (.sipush 1000, 3) := by decide +kernel
theorem dX8_command_313 : decode cX8_command 313 = .ok (.if_icmp .ge 18, 3) := by decide +kernel
theorem dX8_command_316 : decode cX8_command 316 = .ok (.aload_n 0, 1) := by decide +kernel
theorem dX8_command_317 : decode cX8_command 317 = .ok (.getfield 16, 3) := by decide +kernel
theorem dX8_command_320 : decode cX8_command 320 = .ok (.invokestatic 125, 3) := by decide +kernel
theorem dX8_command_323 : decode cX8_command 323 = .ok (.iload_n 2, 1) := by decide +kernel
theorem dX8_command_324 : decode cX8_command 324 = .ok (.if_icmp .lt 7, 3) := by decide +kernel
theorem dX8_command_327 : decode cX8_command 327 = .ok (.iconst 1, 1) := by decide +kernel
theorem dX8_command_328 : decode cX8_command 328 = .ok (.goto 4, 3) := by decide +kernel
theorem dX8_command_331 : decode cX8_command 331 = .ok (.iconst 0, 1) := by decide +kernel
theorem dX8_command_332 : decode cX8_command 332 = .ok (.ireturn, 1) := by decide +kernel
theorem dX8_command_333 : decode cX8_command 333 = .ok (.iload_n 2, 1) := by decide +kernel
theorem dX8_command_334 : decode cX8_command 334 = .ok (.sipush 1000, 3) := by decide +kernel
theorem dX8_command_337 : decode cX8_command 337 = .ok (.irem, 1) := by decide +kernel
theorem dX8_command_338 : decode cX8_command 338 = .ok (.iconst 3, 1) := by decide +kernel
theorem dX8_command_339 : decode cX8_command 339 = .ok (.if_icmp .ge 23, 3) := by decide +kernel
theorem dX8_command_342 : decode cX8_command 342 = .ok (.aload_n 0, 1) := by decide +kernel
theorem dX8_command_343 : decode cX8_command 343 = .ok (.getfield 16, 3) := by decide +kernel
theorem dX8_command_346 : decode cX8_command 346 = .ok (.iload_n 3, 1) := by decide +kernel
theorem dX8_command_347 : decode cX8_command 347 = .ok (.invokestatic 92, 3) := by decide +kernel
theorem dX8_command_350 : decode cX8_command 350 = .ok (.iload_n 2, 1) := by decide +kernel
theorem dX8_command_351 : decode cX8_command 351 = .ok (.sipush 1000, 3) := by decide +kernel
theorem dX8_command_354 : decode cX8_command 354 = .ok (.irem, 1) := by decide +kernel
theorem dX8_command_355 : decode cX8_command 355 = .ok (.if_icmp .ne 7, 3) := by decide +kernel
theorem dX8_command_358 : decode cX8_command 358 = .ok (.iconst 1, 1) := by decide +kernel
theorem dX8_command_359 : decode cX8_command 359 = .ok (.goto 4, 3) := by decide +kernel
theorem dX8_command_362 : decode cX8_command 362 = .ok (.iconst 0, 1) := by decide +kernel
theorem dX8_command_363 : decode cX8_command 363 = .ok (.ireturn, 1) := by decide +kernel
theorem dX8_command_364 : decode cX8_command 364 = .ok (.iconst 0, 1) := by decide +kernel
theorem dX8_command_365 : decode cX8_command 365 = .ok (.ireturn, 1) := by decide +kernel
set_option maxRecDepth 20000 in
theorem ggX8_runScript_X8_in : GoodIn wsX8_runScript wsX8_in := goodIn_r _ [8] (by decide +kernel) (by decide +kernel)
set_option maxRecDepth 20000 in
theorem gX8_runScript_X8_in : GoodIn wsX8_runScript (va_wsS RX8 48 yX8_in wsX8_in) := goodIn_app (goodIn_of _ (by decide +kernel)) ggX8_runScript_X8_in
set_option maxRecDepth 20000 in
theorem ggX8_runScript_X8_refused : GoodIn wsX8_runScript wsX8_refused := goodIn_r _ [12, 13, 105, 106, 107, 108, 109, 110, 111, 112, 113, 114, 115, 116, 117] (by decide +kernel) (by decide +kernel)
set_option maxRecDepth 20000 in
theorem gX8_runScript_X8_refused : GoodIn wsX8_runScript (wsV RX8 135 RX8 yX8_refused wsX8_refused) := goodIn_app (goodIn_of _ (by decide +kernel)) ggX8_runScript_X8_refused
set_option maxRecDepth 20000 in
theorem ggX8_runScript_X8_copyState : GoodIn wsX8_runScript wsX8_copyState := goodIn_r _ [16] (by decide +kernel) (by decide +kernel)
set_option maxRecDepth 20000 in
theorem gX8_runScript_X8_copyState : GoodIn wsX8_runScript (va_wsS RX8 166 yX8_copyState wsX8_copyState) := goodIn_app (goodIn_of _ (by decide +kernel)) ggX8_runScript_X8_copyState
set_option maxRecDepth 20000 in
theorem ggX8_runScript_X8_command : GoodIn wsX8_runScript wsX8_command := goodIn_r _ [20, 4, 2, 21, 22, 7, 23, 24, 25, 26, 5, 6, 8, 27, 28, 29, 30, 31, 32, 33, 34, 35, 36, 37, 38, 39, 40, 41, 42, 43, 44, 45, 46, 47, 48, 49, 50, 51, 52, 53, 54, 55, 56, 57, 58, 59, 60, 61, 62, 63, 64, 65, 66, 67, 68, 69, 70, 71, 72, 73, 74, 75, 76, 77, 78, 79, 80, 81, 82, 83, 84, 85, 86, 87, 88, 89, 90, 91, 92, 93, 94, 95, 96, 97, 98, 99, 100, 101, 102, 103, 104, 105, 106, 107, 108, 109, 110, 111, 112, 113, 114, 115, 116, 117] (by decide +kernel) (by decide +kernel)
set_option maxRecDepth 20000 in
theorem gX8_runScript_X8_command : GoodIn wsX8_runScript (wsV RX8 202 RX8 yX8_command wsX8_command) := goodIn_app (goodIn_of _ (by decide +kernel)) ggX8_runScript_X8_command
theorem dX8_runScript_0 : decode cX8_runScript 0 = .ok (.lconst 1, 1) := by decide +kernel
theorem dX8_runScript_1 : decode cX8_runScript 1 = .ok (.lstore 4, 2) := by decide +kernel
theorem dX8_runScript_3 : decode cX8_runScript 3 = .ok (.iconst 0, 1) := by decide +kernel
theorem dX8_runScript_4 : decode cX8_runScript 4 = .ok (.istore 6, 2) := by decide +kernel
theorem dX8_runScript_6 : decode cX8_runScript 6 = .ok (.iload 6, 2) := by decide +kernel
theorem dX8_runScript_8 : decode cX8_runScript 8 = .ok (.iload_n 1, 1) := by decide +kernel
theorem dX8_runScript_9 : decode cX8_runScript 9 = .ok (.if_icmp .ge 23, 3) := by decide +kernel
theorem dX8_runScript_12 : decode cX8_runScript 12 = .ok (.iload 6, 2) := by decide +kernel
theorem dX8_runScript_14 : decode cX8_runScript 14 = .ok (.iconst 3, 1) := by decide +kernel
theorem dX8_runScript_15 : decode cX8_runScript 15 = .ok (.if_icmp .ge 17, 3) := by decide +kernel
theorem dX8_runScript_18 : decode cX8_runScript 18 = .ok (.lload 4, 2) := by decide +kernel
theorem dX8_runScript_20 : decode cX8_runScript 20 = .ok (.ldc2_w 200, 3) := by decide +kernel
theorem dX8_runScript_23 : decode cX8_runScript 23 = .ok (.lmul, 1) := by decide +kernel
theorem dX8_runScript_24 : decode cX8_runScript 24 = .ok (.lstore 4, 2) := by decide +kernel
theorem dX8_runScript_26 : decode cX8_runScript 26 = .ok (.iinc 6 1, 3) := by decide +kernel
theorem dX8_runScript_29 : decode cX8_runScript 29 = .ok (.goto (-23), 3) := by decide +kernel
theorem dX8_runScript_32 : decode cX8_runScript 32 = .ok (.aload_n 0, 1) := by decide +kernel
theorem dX8_runScript_33 : decode cX8_runScript 33 = .ok (.iload_n 1, 1) := by decide +kernel
theorem dX8_runScript_34 : decode cX8_runScript 34 = .ok (.i2l, 1) := by decide +kernel
theorem dX8_runScript_35 : decode cX8_runScript 35 = .ok (.lconst 1, 1) := by decide +kernel
theorem dX8_runScript_36 : decode cX8_runScript 36 = .ok (.ldc2_w 71, 3) := by decide +kernel
theorem dX8_runScript_39 : decode cX8_runScript 39 = .ok (.invokestatic 48, 3) := by decide +kernel
theorem dX8_runScript_42 : decode cX8_runScript 42 = .ok (.ifCond .eq 19, 3) := by decide +kernel
theorem dX8_runScript_45 : decode cX8_runScript 45 = .ok (.lload_n 2, 1) := by decide +kernel
theorem dX8_runScript_46 : decode cX8_runScript 46 = .ok (.lconst 0, 1) := by decide +kernel
theorem dX8_runScript_47 : decode cX8_runScript 47 = .ok (.lload 4, 2) := by decide +kernel
theorem dX8_runScript_49 : decode cX8_runScript 49 = .ok (.lconst 1, 1) := by decide +kernel
theorem dX8_runScript_50 : decode cX8_runScript 50 = .ok (.lsub, 1) := by decide +kernel
theorem dX8_runScript_51 : decode cX8_runScript 51 = .ok (.invokestatic 48, 3) := by decide +kernel
theorem dX8_runScript_54 : decode cX8_runScript 54 = .ok (.ifCond .eq 7, 3) := by decide +kernel
theorem dX8_runScript_57 : decode cX8_runScript 57 = .ok (.iconst 0, 1) := by decide +kernel
theorem dX8_runScript_58 : decode cX8_runScript 58 = .ok (.goto 4, 3) := by decide +kernel
theorem dX8_runScript_61 : decode cX8_runScript 61 = .ok (.iconst 1, 1) := by decide +kernel
theorem dX8_runScript_62 : decode cX8_runScript 62 = .ok (.invokevirtual 135, 3) := by decide +kernel
theorem dX8_runScript_65 : decode cX8_runScript 65 = .ok (.ifCond .eq 5, 3) := by decide +kernel
theorem dX8_runScript_68 : decode cX8_runScript 68 = .ok (.iconst 0, 1) := by decide +kernel
theorem dX8_runScript_69 : decode cX8_runScript 69 = .ok (.ireturn, 1) := by decide +kernel
theorem dX8_runScript_70 : decode cX8_runScript 70 = .ok (.aload_n 0, 1) := by decide +kernel
theorem dX8_runScript_71 : decode cX8_runScript 71 = .ok (.getfield 13, 3) := by decide +kernel
theorem dX8_runScript_74 : decode cX8_runScript 74 = .ok (.iconst 0, 1) := by decide +kernel
theorem dX8_runScript_75 : decode cX8_runScript 75 = .ok (.aload_n 0, 1) := by decide +kernel
theorem dX8_runScript_76 : decode cX8_runScript 76 = .ok (.getfield 16, 3) := by decide +kernel
theorem dX8_runScript_79 : decode cX8_runScript 79 = .ok (.iconst 0, 1) := by decide +kernel
theorem dX8_runScript_80 : decode cX8_runScript 80 = .ok (.invokestatic 166, 3) := by decide +kernel
theorem dX8_runScript_83 : decode cX8_runScript 83 = .ok (.iconst 0, 1) := by decide +kernel
theorem dX8_runScript_84 : decode cX8_runScript 84 = .ok (.istore 6, 2) := by decide +kernel
theorem dX8_runScript_86 : decode cX8_runScript 86 = .ok (.iload 6, 2) := by decide +kernel
theorem dX8_runScript_88 : decode cX8_runScript 88 = .ok (.iload_n 1, 1) := by decide +kernel
theorem dX8_runScript_89 : decode cX8_runScript 89 = .ok (.if_icmp .ge 50, 3) := by decide +kernel
theorem dX8_runScript_92 : decode cX8_runScript 92 = .ok (.lload 4, 2) := by decide +kernel
theorem dX8_runScript_94 : decode cX8_runScript 94 = .ok (.ldc2_w 200, 3) := by decide +kernel
theorem dX8_runScript_97 : decode cX8_runScript 97 = .ok (.ldiv, 1) := by decide +kernel
theorem dX8_runScript_98 : decode cX8_runScript 98 = .ok (.lstore 4, 2) := by decide +kernel
theorem dX8_runScript_100 : decode cX8_runScript 100 = .ok (.lload_n 2, 1) := by decide +kernel
theorem dX8_runScript_101 : decode cX8_runScript 101 = .ok (.lload 4, 2) := by decide +kernel
theorem dX8_runScript_103 : decode cX8_runScript 103 = .ok (.ldiv, 1) := by decide +kernel
theorem dX8_runScript_104 : decode cX8_runScript 104 = .ok (.ldc2_w 200, 3) := by decide +kernel
theorem dX8_runScript_107 : decode cX8_runScript 107 = .ok (.lrem, 1) := by decide +kernel
theorem dX8_runScript_108 : decode cX8_runScript 108 = .ok (.l2i, 1) := by decide +kernel
theorem dX8_runScript_109 : decode cX8_runScript 109 = .ok (.istore 7, 2) := by decide +kernel
theorem dX8_runScript_111 : decode cX8_runScript 111 = .ok (.aload_n 0, 1) := by decide +kernel
theorem dX8_runScript_112 : decode cX8_runScript 112 = .ok (.iload 7, 2) := by decide +kernel
theorem dX8_runScript_114 : decode cX8_runScript 114 = .ok (.sipush 10000, 3) := by decide +kernel
theorem dX8_runScript_117 : decode cX8_runScript 117 = .ok (.idiv, 1) := by decide +kernel
theorem dX8_runScript_118 : decode cX8_runScript 118 = .ok (.iload 7, 2) := by decide +kernel
theorem dX8_runScript_120 : decode cX8_runScript 120 = .ok (.sipush 10000, 3) := by decide +kernel
theorem dX8_runScript_123 : decode cX8_runScript 123 = .ok (.irem, 1) := by decide +kernel
theorem dX8_runScript_124 : decode cX8_runScript 124 = .ok (.invokevirtual 202, 3) := by decide +kernel
theorem dX8_runScript_127 : decode cX8_runScript 127 = .ok (.ifCond .ne 6, 3) := by decide +kernel
theorem dX8_runScript_130 : decode cX8_runScript 130 = .ok (.iload 6, 2) := by decide +kernel
theorem dX8_runScript_132 : decode cX8_runScript 132 = .ok (.ireturn, 1) := by decide +kernel
theorem dX8_runScript_133 : decode cX8_runScript 133 = .ok (.iinc 6 1, 3) := by decide +kernel
theorem dX8_runScript_136 : decode cX8_runScript 136 = .ok (.goto (-50), 3) := by decide +kernel
theorem dX8_runScript_139 : decode cX8_runScript 139 = .ok (.iconst (-1), 1) := by decide +kernel
theorem dX8_runScript_140 : decode cX8_runScript 140 = .ok (.ireturn, 1) := by decide +kernel
set_option maxRecDepth 20000 in
theorem ggX8_turn_X8_touchOn : GoodIn wsX8_turn wsX8_touchOn := goodIn_r _ [5] (by decide +kernel) (by decide +kernel)
set_option maxRecDepth 20000 in
theorem gX8_turn_X8_touchOn : GoodIn wsX8_turn (va_wsS RX8 191 yX8_touchOn wsX8_touchOn) := goodIn_app (goodIn_of _ (by decide +kernel)) ggX8_turn_X8_touchOn
set_option maxRecDepth 20000 in
theorem ggX8_turn_X8_isOver : GoodIn wsX8_turn wsX8_isOver := goodIn_r _ [8] (by decide +kernel) (by decide +kernel)
set_option maxRecDepth 20000 in
theorem gX8_turn_X8_isOver : GoodIn wsX8_turn (va_wsS RX8 149 yX8_isOver wsX8_isOver) := goodIn_app (goodIn_of _ (by decide +kernel)) ggX8_turn_X8_isOver
set_option maxRecDepth 20000 in
theorem ggX8_turn_X8_throwOn : GoodIn wsX8_turn wsX8_throwOn := goodIn_r _ [12, 13, 14, 4, 15, 16, 17, 18, 19, 20, 21, 22, 23, 24, 25, 26, 27, 28, 29, 30, 31, 32, 33, 34, 35, 36, 37, 38, 39, 40, 41, 42, 43, 44, 45, 46, 47, 48, 49, 50, 51, 52, 53, 54, 55, 56, 57, 58, 59, 60, 61, 62, 63, 64, 65, 66, 67, 68, 69, 70, 71, 72, 73, 74, 75, 76, 77, 78, 79, 80, 81, 82, 83, 84, 85, 86, 87, 88, 89, 90] (by decide +kernel) (by decide +kernel)
set_option maxRecDepth 20000 in
theorem gX8_turn_X8_throwOn : GoodIn wsX8_turn (wsV RX8 156 RX8 yX8_throwOn wsX8_throwOn) := goodIn_app (goodIn_of _ (by decide +kernel)) ggX8_turn_X8_throwOn
theorem dX8_turn_0 : decode cX8_turn 0 = .ok (.iload_n 1, 1) := by decide +kernel
theorem dX8_turn_1 : decode cX8_turn 1 = .ok (.bipush 8, 2) := by decide +kernel
theorem dX8_turn_3 : decode cX8_turn 3 = .ok (.idiv, 1) := by decide +kernel
theorem dX8_turn_4 : decode cX8_turn 4 = .ok (.istore_n 2, 1) := by decide +kernel
theorem dX8_turn_5 : decode cX8_turn 5 = .ok (.iload_n 1, 1) := by decide +kernel
theorem dX8_turn_6 : decode cX8_turn 6 = .ok (.bipush 8, 2) := by decide +kernel
theorem dX8_turn_8 : decode cX8_turn 8 = .ok (.irem, 1) := by decide +kernel
theorem dX8_turn_9 : decode cX8_turn 9 = .ok (.istore_n 3, 1) := by decide +kernel
theorem dX8_turn_10 : decode cX8_turn 10 = .ok (.iload_n 3, 1) := by decide +kernel
theorem dX8_turn_11 : decode cX8_turn 11 = .ok (.ifCond .ne 39, 3) := by decide +kernel
theorem dX8_turn_14 : decode cX8_turn 14 = .ok (.aload_n 0, 1) := by decide +kernel
theorem dX8_turn_15 : decode cX8_turn 15 = .ok (.getfield 16, 3) := by decide +kernel
theorem dX8_turn_18 : decode cX8_turn 18 = .ok (.iconst 0, 1) := by decide +kernel
theorem dX8_turn_19 : decode cX8_turn 19 = .ok (.iload_n 2, 1) := by decide +kernel
theorem dX8_turn_20 : decode cX8_turn 20 = .ok (.bipush 10, 2) := by decide +kernel
theorem dX8_turn_22 : decode cX8_turn 22 = .ok (.irem, 1) := by decide +kernel
theorem dX8_turn_23 : decode cX8_turn 23 = .ok (.iadd, 1) := by decide +kernel
theorem dX8_turn_24 : decode cX8_turn 24 = .ok (.iaload, 1) := by decide +kernel
theorem dX8_turn_25 : decode cX8_turn 25 = .ok (.iconst 4, 1) := by decide +kernel
theorem dX8_turn_26 : decode cX8_turn 26 = .ok (.if_icmp .eq 108, 3) := by decide +kernel
theorem dX8_turn_29 : decode cX8_turn 29 = .ok (.aload_n 0, 1) := by decide +kernel
theorem dX8_turn_30 : decode cX8_turn 30 = .ok (.getfield 16, 3) := by decide +kernel
theorem dX8_turn_33 : decode cX8_turn 33 = .ok (.iload_n 2, 1) := by decide +kernel
theorem dX8_turn_34 : decode cX8_turn 34 = .ok (.bipush 10, 2) := by decide +kernel
theorem dX8_turn_36 : decode cX8_turn 36 = .ok (.irem, 1) := by decide +kernel
theorem dX8_turn_37 : decode cX8_turn 37 = .ok (.iload_n 2, 1) := by decide +kernel
theorem dX8_turn_38 : decode cX8_turn 38 = .ok (.bipush 16, 2) := by decide +kernel
theorem dX8_turn_40 : decode cX8_turn 40 = .ok (.idiv, 1) := by decide +kernel
theorem dX8_turn_41 : decode cX8_turn 41 = .ok (.iconst 4, 1) := by decide +kernel
theorem dX8_turn_42 : decode cX8_turn 42 = .ok (.irem, 1) := by decide +kernel
theorem dX8_turn_43 : decode cX8_turn 43 = .ok (.invokestatic 191, 3) := by decide +kernel
theorem dX8_turn_46 : decode cX8_turn 46 = .ok (.pop, 1) := by decide +kernel
theorem dX8_turn_47 : decode cX8_turn 47 = .ok (.goto 87, 3) := by decide +kernel
theorem dX8_turn_50 : decode cX8_turn 50 = .ok (.iload_n 3, 1) := by decide +kernel
theorem dX8_turn_51 : decode cX8_turn 51 = .ok (.iconst 1, 1) := by decide +kernel
theorem dX8_turn_52 : decode cX8_turn 52 = .ok (.if_icmp .ne 22, 3) := by decide +kernel
theorem dX8_turn_55 : decode cX8_turn 55 = .ok (.aload_n 0, 1) := by decide +kernel
theorem dX8_turn_56 : decode cX8_turn 56 = .ok (.getfield 16, 3) := by decide +kernel
theorem dX8_turn_59 : decode cX8_turn 59 = .ok (.bipush 77, 2) := by decide +kernel
theorem dX8_turn_61 : decode cX8_turn 61 = .ok (.iload_n 2, 1) := by decide +kernel
theorem dX8_turn_62 : decode cX8_turn 62 = .ok (.iconst 2, 1) := by decide +kernel
theorem dX8_turn_63 : decode cX8_turn 63 = .ok (.irem, 1) := by decide +kernel
theorem dX8_turn_64 : decode cX8_turn 64 = .ok (.iadd, 1) := by decide +kernel
theorem dX8_turn_65 : decode cX8_turn 65 = .ok (.iload_n 2, 1) := by decide +kernel
theorem dX8_turn_66 : decode cX8_turn 66 = .ok (.iconst 2, 1) := by decide +kernel
theorem dX8_turn_67 : decode cX8_turn 67 = .ok (.idiv, 1) := by decide +kernel
theorem dX8_turn_68 : decode cX8_turn 68 = .ok (.iconst 4, 1) := by decide +kernel
theorem dX8_turn_69 : decode cX8_turn 69 = .ok (.irem, 1) := by decide +kernel
theorem dX8_turn_70 : decode cX8_turn 70 = .ok (.iastore, 1) := by decide +kernel
theorem dX8_turn_71 : decode cX8_turn 71 = .ok (.goto 63, 3) := by decide +kernel
theorem dX8_turn_74 : decode cX8_turn 74 = .ok (.aload_n 0, 1) := by decide +kernel
theorem dX8_turn_75 : decode cX8_turn 75 = .ok (.getfield 16, 3) := by decide +kernel
theorem dX8_turn_78 : decode cX8_turn 78 = .ok (.invokestatic 149, 3) := by decide +kernel
theorem dX8_turn_81 : decode cX8_turn 81 = .ok (.ifCond .ne 53, 3) := by decide +kernel
theorem dX8_turn_84 : decode cX8_turn 84 = .ok (.aload_n 0, 1) := by decide +kernel
theorem dX8_turn_85 : decode cX8_turn 85 = .ok (.aload_n 0, 1) := by decide +kernel
theorem dX8_turn_86 : decode cX8_turn 86 = .ok (.getfield 16, 3) := by decide +kernel
theorem dX8_turn_89 : decode cX8_turn 89 = .ok (.bipush 10, 2) := by decide +kernel
theorem dX8_turn_91 : decode cX8_turn 91 = .ok (.iload_n 2, 1) := by decide +kernel
theorem dX8_turn_92 : decode cX8_turn 92 = .ok (.bipush 21, 2) := by decide +kernel
theorem dX8_turn_94 : decode cX8_turn 94 = .ok (.irem, 1) := by decide +kernel
theorem dX8_turn_95 : decode cX8_turn 95 = .ok (.iadd, 1) := by decide +kernel
theorem dX8_turn_96 : decode cX8_turn 96 = .ok (.iload_n 2, 1) := by decide +kernel
theorem dX8_turn_97 : decode cX8_turn 97 = .ok (.bipush 32, 2) := by decide +kernel
theorem dX8_turn_99 : decode cX8_turn 99 = .ok (.idiv, 1) := by decide +kernel
theorem dX8_turn_100 : decode cX8_turn 100 = .ok (.iconst 5, 1) := by decide +kernel
theorem dX8_turn_101 : decode cX8_turn 101 = .ok (.irem, 1) := by decide +kernel
theorem dX8_turn_102 : decode cX8_turn 102 = .ok (.iconst 2, 1) := by decide +kernel
theorem dX8_turn_103 : decode cX8_turn 103 = .ok (.isub, 1) := by decide +kernel
theorem dX8_turn_104 : decode cX8_turn 104 = .ok (.iconst 1, 1) := by decide +kernel
theorem dX8_turn_105 : decode cX8_turn 105 = .ok (.iload_n 2, 1) := by decide +kernel
theorem dX8_turn_106 : decode cX8_turn 106 = .ok (.sipush 256, 3) := by decide +kernel
theorem dX8_turn_109 : decode cX8_turn 109 = .ok (.idiv, 1) := by decide +kernel
theorem dX8_turn_110 : decode cX8_turn 110 = .ok (.bipush 30, 2) := by decide +kernel
theorem dX8_turn_112 : decode cX8_turn 112 = .ok (.irem, 1) := by decide +kernel
theorem dX8_turn_113 : decode cX8_turn 113 = .ok (.iadd, 1) := by decide +kernel
theorem dX8_turn_114 : decode cX8_turn 114 = .ok (.iload_n 2, 1) := by decide +kernel
theorem dX8_turn_115 : decode cX8_turn 115 = .ok (.sipush 8192, 3) := by decide +kernel
theorem dX8_turn_118 : decode cX8_turn 118 = .ok (.idiv, 1) := by decide +kernel
theorem dX8_turn_119 : decode cX8_turn 119 = .ok (.bipush 16, 2) := by decide +kernel
theorem dX8_turn_121 : decode cX8_turn 121 = .ok (.irem, 1) := by decide +kernel
theorem dX8_turn_122 : decode cX8_turn 122 = .ok (.ifCond .ne 7, 3) := by decide +kernel
theorem dX8_turn_125 : decode cX8_turn 125 = .ok (.iconst 1, 1) := by decide +kernel
theorem dX8_turn_126 : decode cX8_turn 126 = .ok (.goto 4, 3) := by decide +kernel
theorem dX8_turn_129 : decode cX8_turn 129 = .ok (.iconst 0, 1) := by decide +kernel
theorem dX8_turn_130 : decode cX8_turn 130 = .ok (.invokevirtual 156, 3) := by decide +kernel
theorem dX8_turn_133 : decode cX8_turn 133 = .ok (.pop, 1) := by decide +kernel
theorem dX8_turn_134 : decode cX8_turn 134 = .ok (.return_, 1) := by decide +kernel
set_option maxRecDepth 20000 in
theorem ggX8_simulate_X8_in : GoodIn wsX8_simulate wsX8_in := goodIn_r _ [9] (by decide +kernel) (by decide +kernel)
set_option maxRecDepth 20000 in
theorem gX8_simulate_X8_in : GoodIn wsX8_simulate (va_wsS RX8 48 yX8_in wsX8_in) := goodIn_app (goodIn_of _ (by decide +kernel)) ggX8_simulate_X8_in
set_option maxRecDepth 20000 in
theorem ggX8_simulate_X8_refused : GoodIn wsX8_simulate wsX8_refused := goodIn_r _ [13, 14, 103, 104, 105, 106, 107, 108, 109, 110, 111, 112, 113, 114, 115] (by decide +kernel) (by decide +kernel)
set_option maxRecDepth 20000 in
theorem gX8_simulate_X8_refused : GoodIn wsX8_simulate (wsV RX8 135 RX8 yX8_refused wsX8_refused) := goodIn_app (goodIn_of _ (by decide +kernel)) ggX8_simulate_X8_refused
set_option maxRecDepth 20000 in
theorem ggX8_simulate_X8_copyState : GoodIn wsX8_simulate wsX8_copyState := goodIn_r _ [17] (by decide +kernel) (by decide +kernel)
set_option maxRecDepth 20000 in
theorem gX8_simulate_X8_copyState : GoodIn wsX8_simulate (va_wsS RX8 166 yX8_copyState wsX8_copyState) := goodIn_app (goodIn_of _ (by decide +kernel)) ggX8_simulate_X8_copyState
set_option maxRecDepth 20000 in
theorem ggX8_simulate_X8_turn : GoodIn wsX8_simulate wsX8_turn := goodIn_r _ [21, 3, 22, 23, 8, 24, 25, 26, 27, 28, 29, 30, 31, 32, 33, 34, 35, 36, 37, 38, 39, 40, 41, 42, 43, 44, 45, 46, 47, 48, 49, 50, 51, 52, 53, 54, 55, 56, 57, 58, 59, 60, 61, 62, 63, 64, 6, 7, 9, 65, 66, 67, 68, 69, 70, 71, 72, 73, 74, 75, 76, 77, 78, 79, 80, 81, 82, 83, 84, 85, 86, 87, 88, 89, 90, 91, 92, 93, 103, 104, 105, 106, 107, 108, 109, 110, 111, 112, 113, 114, 115] (by decide +kernel) (by decide +kernel)
set_option maxRecDepth 20000 in
theorem gX8_simulate_X8_turn : GoodIn wsX8_simulate (wsV RX8 211 RX8 yX8_turn wsX8_turn) := goodIn_app (goodIn_of _ (by decide +kernel)) ggX8_simulate_X8_turn
set_option maxRecDepth 20000 in
theorem ggX8_simulate_X8_points : GoodIn wsX8_simulate wsX8_points := goodIn_r _ [96, 97, 98, 8, 99, 82, 83, 84, 79, 80, 81, 100, 101, 102] (by decide +kernel) (by decide +kernel)
set_option maxRecDepth 20000 in
theorem gX8_simulate_X8_points : GoodIn wsX8_simulate (va_wsS RX8 125 yX8_points wsX8_points) := goodIn_app (goodIn_of _ (by decide +kernel)) ggX8_simulate_X8_points
theorem dX8_simulate_0 : decode cX8_simulate 0 = .ok (.aload_n 0, 1) := by decide +kernel
theorem dX8_simulate_1 : decode cX8_simulate 1 = .ok (.iload_n 3, 1) := by decide +kernel
theorem dX8_simulate_2 : decode cX8_simulate 2 = .ok (.i2l, 1) := by decide +kernel
theorem dX8_simulate_3 : decode cX8_simulate 3 = .ok (.lconst 1, 1) := by decide +kernel
theorem dX8_simulate_4 : decode cX8_simulate 4 = .ok (.ldc2_w 205, 3) := by decide +kernel
theorem dX8_simulate_7 : decode cX8_simulate 7 = .ok (.invokestatic 48, 3) := by decide +kernel
theorem dX8_simulate_10 : decode cX8_simulate 10 = .ok (.ifCond .eq 7, 3) := by decide +kernel
theorem dX8_simulate_13 : decode cX8_simulate 13 = .ok (.iconst 0, 1) := by decide +kernel
theorem dX8_simulate_14 : decode cX8_simulate 14 = .ok (.goto 4, 3) := by decide +kernel
theorem dX8_simulate_17 : decode cX8_simulate 17 = .ok (.iconst 1, 1) := by decide +kernel
theorem dX8_simulate_18 : decode cX8_simulate 18 = .ok (.invokevirtual 135, 3) := by decide +kernel
theorem dX8_simulate_21 : decode cX8_simulate 21 = .ok (.ifCond .eq 5, 3) := by decide +kernel
theorem dX8_simulate_24 : decode cX8_simulate 24 = .ok (.iconst 0, 1) := by decide +kernel
theorem dX8_simulate_25 : decode cX8_simulate 25 = .ok (.ireturn, 1) := by decide +kernel
theorem dX8_simulate_26 : decode cX8_simulate 26 = .ok (.aload_n 0, 1) := by decide +kernel
theorem dX8_simulate_27 : decode cX8_simulate 27 = .ok (.getfield 13, 3) := by decide +kernel
theorem dX8_simulate_30 : decode cX8_simulate 30 = .ok (.iconst 0, 1) := by decide +kernel
theorem dX8_simulate_31 : decode cX8_simulate 31 = .ok (.aload_n 0, 1) := by decide +kernel
theorem dX8_simulate_32 : decode cX8_simulate 32 = .ok (.getfield 16, 3) := by decide +kernel
theorem dX8_simulate_35 : decode cX8_simulate 35 = .ok (.iconst 0, 1) := by decide +kernel
theorem dX8_simulate_36 : decode cX8_simulate 36 = .ok (.invokestatic 166, 3) := by decide +kernel
theorem dX8_simulate_39 : decode cX8_simulate 39 = .ok (.lload_n 1, 1) := by decide +kernel
theorem dX8_simulate_40 : decode cX8_simulate 40 = .ok (.lstore 4, 2) := by decide +kernel
theorem dX8_simulate_42 : decode cX8_simulate 42 = .ok (.iconst 0, 1) := by decide +kernel
theorem dX8_simulate_43 : decode cX8_simulate 43 = .ok (.istore 6, 2) := by decide +kernel
theorem dX8_simulate_45 : decode cX8_simulate 45 = .ok (.iload 6, 2) := by decide +kernel
theorem dX8_simulate_47 : decode cX8_simulate 47 = .ok (.iload_n 3, 1) := by decide +kernel
theorem dX8_simulate_48 : decode cX8_simulate 48 = .ok (.if_icmp .ge 31, 3) := by decide +kernel
theorem dX8_simulate_51 : decode cX8_simulate 51 = .ok (.lload 4, 2) := by decide +kernel
theorem dX8_simulate_53 : decode cX8_simulate 53 = .ok (.ldc2_w 207, 3) := by decide +kernel
theorem dX8_simulate_56 : decode cX8_simulate 56 = .ok (.lmul, 1) := by decide +kernel
theorem dX8_simulate_57 : decode cX8_simulate 57 = .ok (.ldc2_w 209, 3) := by decide +kernel
theorem dX8_simulate_60 : decode cX8_simulate 60 = .ok (.ladd, 1) := by decide +kernel
theorem dX8_simulate_61 : decode cX8_simulate 61 = .ok (.lstore 4, 2) := by decide +kernel
theorem dX8_simulate_63 : decode cX8_simulate 63 = .ok (.aload_n 0, 1) := by decide +kernel
theorem dX8_simulate_64 : decode cX8_simulate 64 = .ok (.lload 4, 2) := by decide +kernel
theorem dX8_simulate_66 : decode cX8_simulate 66 = .ok (.bipush 33, 2) := by decide +kernel
theorem dX8_simulate_68 : decode cX8_simulate 68 = .ok (.lushr, 1) := by decide +kernel
theorem dX8_simulate_69 : decode cX8_simulate 69 = .ok (.l2i, 1) := by decide +kernel
theorem dX8_simulate_70 : decode cX8_simulate 70 = .ok (.invokevirtual 211, 3) := by decide +kernel
theorem dX8_simulate_73 : decode cX8_simulate 73 = .ok (.iinc 6 1, 3) := by decide +kernel
theorem dX8_simulate_76 : decode cX8_simulate 76 = .ok (.goto (-31), 3) := by decide +kernel
theorem dX8_simulate_79 : decode cX8_simulate 79 = .ok (.sipush 1000, 3) := by decide +kernel
theorem dX8_simulate_82 : decode cX8_simulate 82 = .ok (.aload_n 0, 1) := by decide +kernel
theorem dX8_simulate_83 : decode cX8_simulate 83 = .ok (.getfield 16, 3) := by decide +kernel
theorem dX8_simulate_86 : decode cX8_simulate 86 = .ok (.bipush 51, 2) := by decide +kernel
theorem dX8_simulate_88 : decode cX8_simulate 88 = .ok (.iaload, 1) := by decide +kernel
theorem dX8_simulate_89 : decode cX8_simulate 89 = .ok (.imul, 1) := by decide +kernel
theorem dX8_simulate_90 : decode cX8_simulate 90 = .ok (.aload_n 0, 1) := by decide +kernel
theorem dX8_simulate_91 : decode cX8_simulate 91 = .ok (.getfield 16, 3) := by decide +kernel
theorem dX8_simulate_94 : decode cX8_simulate 94 = .ok (.invokestatic 125, 3) := by decide +kernel
theorem dX8_simulate_97 : decode cX8_simulate 97 = .ok (.iadd, 1) := by decide +kernel
theorem dX8_simulate_98 : decode cX8_simulate 98 = .ok (.ireturn, 1) := by decide +kernel
set_option maxRecDepth 20000 in
theorem ggX8_save_X8_in : GoodIn wsX8_save wsX8_in := goodIn_r _ [7] (by decide +kernel) (by decide +kernel)
set_option maxRecDepth 20000 in
theorem gX8_save_X8_in : GoodIn wsX8_save (va_wsS RX8 48 yX8_in wsX8_in) := goodIn_app (goodIn_of _ (by decide +kernel)) ggX8_save_X8_in
set_option maxRecDepth 20000 in
theorem ggX8_save_X8_refused : GoodIn wsX8_save wsX8_refused := goodIn_r _ [11, 12, 16, 17, 18, 19, 20, 21, 22, 23, 24, 25, 26, 27, 28] (by decide +kernel) (by decide +kernel)
set_option maxRecDepth 20000 in
theorem gX8_save_X8_refused : GoodIn wsX8_save (wsV RX8 135 RX8 yX8_refused wsX8_refused) := goodIn_app (goodIn_of _ (by decide +kernel)) ggX8_save_X8_refused
set_option maxRecDepth 20000 in
theorem ggX8_save_X8_copyState : GoodIn wsX8_save wsX8_copyState := goodIn_r _ [15] (by decide +kernel) (by decide +kernel)
set_option maxRecDepth 20000 in
theorem gX8_save_X8_copyState : GoodIn wsX8_save (va_wsS RX8 166 yX8_copyState wsX8_copyState) := goodIn_app (goodIn_of _ (by decide +kernel)) ggX8_save_X8_copyState
theorem dX8_save_0 : decode cX8_save 0 = .ok (.aload_n 0, 1) := by decide +kernel
theorem dX8_save_1 : decode cX8_save 1 = .ok (.iload_n 1, 1) := by decide +kernel
theorem dX8_save_2 : decode cX8_save 2 = .ok (.i2l, 1) := by decide +kernel
theorem dX8_save_3 : decode cX8_save 3 = .ok (.lconst 0, 1) := by decide +kernel
theorem dX8_save_4 : decode cX8_save 4 = .ok (.lconst 1, 1) := by decide +kernel
theorem dX8_save_5 : decode cX8_save 5 = .ok (.invokestatic 48, 3) := by decide +kernel
theorem dX8_save_8 : decode cX8_save 8 = .ok (.ifCond .eq 7, 3) := by decide +kernel
theorem dX8_save_11 : decode cX8_save 11 = .ok (.iconst 0, 1) := by decide +kernel
theorem dX8_save_12 : decode cX8_save 12 = .ok (.goto 4, 3) := by decide +kernel
theorem dX8_save_15 : decode cX8_save 15 = .ok (.iconst 1, 1) := by decide +kernel
theorem dX8_save_16 : decode cX8_save 16 = .ok (.invokevirtual 135, 3) := by decide +kernel
theorem dX8_save_19 : decode cX8_save 19 = .ok (.ifCond .eq 5, 3) := by decide +kernel
theorem dX8_save_22 : decode cX8_save 22 = .ok (.iconst 0, 1) := by decide +kernel
theorem dX8_save_23 : decode cX8_save 23 = .ok (.ireturn, 1) := by decide +kernel
theorem dX8_save_24 : decode cX8_save 24 = .ok (.aload_n 0, 1) := by decide +kernel
theorem dX8_save_25 : decode cX8_save 25 = .ok (.getfield 13, 3) := by decide +kernel
theorem dX8_save_28 : decode cX8_save 28 = .ok (.iconst 0, 1) := by decide +kernel
theorem dX8_save_29 : decode cX8_save 29 = .ok (.aload_n 0, 1) := by decide +kernel
theorem dX8_save_30 : decode cX8_save 30 = .ok (.getfield 22, 3) := by decide +kernel
theorem dX8_save_33 : decode cX8_save 33 = .ok (.bipush 79, 2) := by decide +kernel
theorem dX8_save_35 : decode cX8_save 35 = .ok (.iload_n 1, 1) := by decide +kernel
theorem dX8_save_36 : decode cX8_save 36 = .ok (.imul, 1) := by decide +kernel
theorem dX8_save_37 : decode cX8_save 37 = .ok (.invokestatic 166, 3) := by decide +kernel
theorem dX8_save_40 : decode cX8_save 40 = .ok (.aload_n 0, 1) := by decide +kernel
theorem dX8_save_41 : decode cX8_save 41 = .ok (.getfield 25, 3) := by decide +kernel
theorem dX8_save_44 : decode cX8_save 44 = .ok (.iload_n 1, 1) := by decide +kernel
theorem dX8_save_45 : decode cX8_save 45 = .ok (.iconst 1, 1) := by decide +kernel
theorem dX8_save_46 : decode cX8_save 46 = .ok (.bastore, 1) := by decide +kernel
theorem dX8_save_47 : decode cX8_save 47 = .ok (.aload_n 0, 1) := by decide +kernel
theorem dX8_save_48 : decode cX8_save 48 = .ok (.getfield 13, 3) := by decide +kernel
theorem dX8_save_51 : decode cX8_save 51 = .ok (.bipush 51, 2) := by decide +kernel
theorem dX8_save_53 : decode cX8_save 53 = .ok (.iaload, 1) := by decide +kernel
theorem dX8_save_54 : decode cX8_save 54 = .ok (.ireturn, 1) := by decide +kernel
set_option maxRecDepth 20000 in
theorem ggX8_restore_X8_in : GoodIn wsX8_restore wsX8_in := goodIn_r _ [8] (by decide +kernel) (by decide +kernel)
set_option maxRecDepth 20000 in
theorem gX8_restore_X8_in : GoodIn wsX8_restore (va_wsS RX8 48 yX8_in wsX8_in) := goodIn_app (goodIn_of _ (by decide +kernel)) ggX8_restore_X8_in
set_option maxRecDepth 20000 in
theorem ggX8_restore_X8_refused : GoodIn wsX8_restore wsX8_refused := goodIn_r _ [12, 13, 17, 18, 19, 20, 21, 22, 23, 24, 25, 26, 27, 28, 29] (by decide +kernel) (by decide +kernel)
set_option maxRecDepth 20000 in
theorem gX8_restore_X8_refused : GoodIn wsX8_restore (wsV RX8 135 RX8 yX8_refused wsX8_refused) := goodIn_app (goodIn_of _ (by decide +kernel)) ggX8_restore_X8_refused
set_option maxRecDepth 20000 in
theorem ggX8_restore_X8_copyState : GoodIn wsX8_restore wsX8_copyState := goodIn_r _ [16] (by decide +kernel) (by decide +kernel)
set_option maxRecDepth 20000 in
theorem gX8_restore_X8_copyState : GoodIn wsX8_restore (va_wsS RX8 166 yX8_copyState wsX8_copyState) := goodIn_app (goodIn_of _ (by decide +kernel)) ggX8_restore_X8_copyState
theorem dX8_restore_0 : decode cX8_restore 0 = .ok (.aload_n 0, 1) := by decide +kernel
theorem dX8_restore_1 : decode cX8_restore 1 = .ok (.iload_n 1, 1) := by decide +kernel
theorem dX8_restore_2 : decode cX8_restore 2 = .ok (.i2l, 1) := by decide +kernel
theorem dX8_restore_3 : decode cX8_restore 3 = .ok (.lconst 0, 1) := by decide +kernel
theorem dX8_restore_4 : decode cX8_restore 4 = .ok (.lconst 1, 1) := by decide +kernel
theorem dX8_restore_5 : decode cX8_restore 5 = .ok (.invokestatic 48, 3) := by decide +kernel
theorem dX8_restore_8 : decode cX8_restore 8 = .ok (.ifCond .ne 7, 3) := by decide +kernel
theorem dX8_restore_11 : decode cX8_restore 11 = .ok (.iconst 1, 1) := by decide +kernel
theorem dX8_restore_12 : decode cX8_restore 12 = .ok (.goto 17, 3) := by decide +kernel
theorem dX8_restore_15 : decode cX8_restore 15 = .ok (.aload_n 0, 1) := by decide +kernel
theorem dX8_restore_16 : decode cX8_restore 16 = .ok (.getfield 25, 3) := by decide +kernel
theorem dX8_restore_19 : decode cX8_restore 19 = .ok (.iload_n 1, 1) := by decide +kernel
theorem dX8_restore_20 : decode cX8_restore 20 = .ok (.baload, 1) := by decide +kernel
theorem dX8_restore_21 : decode cX8_restore 21 = .ok (.ifCond .ne 7, 3) := by decide +kernel
theorem dX8_restore_24 : decode cX8_restore 24 = .ok (.iconst 2, 1) := by decide +kernel
theorem dX8_restore_25 : decode cX8_restore 25 = .ok (.goto 4, 3) := by decide +kernel
theorem dX8_restore_28 : decode cX8_restore 28 = .ok (.iconst 0, 1) := by decide +kernel
theorem dX8_restore_29 : decode cX8_restore 29 = .ok (.invokevirtual 135, 3) := by decide +kernel
theorem dX8_restore_32 : decode cX8_restore 32 = .ok (.ifCond .eq 5, 3) := by decide +kernel
theorem dX8_restore_35 : decode cX8_restore 35 = .ok (.iconst 0, 1) := by decide +kernel
theorem dX8_restore_36 : decode cX8_restore 36 = .ok (.ireturn, 1) := by decide +kernel
theorem dX8_restore_37 : decode cX8_restore 37 = .ok (.aload_n 0, 1) := by decide +kernel
theorem dX8_restore_38 : decode cX8_restore 38 = .ok (.getfield 22, 3) := by decide +kernel
theorem dX8_restore_41 : decode cX8_restore 41 = .ok (.bipush 79, 2) := by decide +kernel
theorem dX8_restore_43 : decode cX8_restore 43 = .ok (.iload_n 1, 1) := by decide +kernel
theorem dX8_restore_44 : decode cX8_restore 44 = .ok (.imul, 1) := by decide +kernel
theorem dX8_restore_45 : decode cX8_restore 45 = .ok (.aload_n 0, 1) := by decide +kernel
theorem dX8_restore_46 : decode cX8_restore 46 = .ok (.getfield 13, 3) := by decide +kernel
theorem dX8_restore_49 : decode cX8_restore 49 = .ok (.iconst 0, 1) := by decide +kernel
theorem dX8_restore_50 : decode cX8_restore 50 = .ok (.invokestatic 166, 3) := by decide +kernel
theorem dX8_restore_53 : decode cX8_restore 53 = .ok (.aload_n 0, 1) := by decide +kernel
theorem dX8_restore_54 : decode cX8_restore 54 = .ok (.iconst 0, 1) := by decide +kernel
theorem dX8_restore_55 : decode cX8_restore 55 = .ok (.putfield 170, 3) := by decide +kernel
theorem dX8_restore_58 : decode cX8_restore 58 = .ok (.aload_n 0, 1) := by decide +kernel
theorem dX8_restore_59 : decode cX8_restore 59 = .ok (.getfield 13, 3) := by decide +kernel
theorem dX8_restore_62 : decode cX8_restore 62 = .ok (.bipush 51, 2) := by decide +kernel
theorem dX8_restore_64 : decode cX8_restore 64 = .ok (.iaload, 1) := by decide +kernel
theorem dX8_restore_65 : decode cX8_restore 65 = .ok (.ireturn, 1) := by decide +kernel
