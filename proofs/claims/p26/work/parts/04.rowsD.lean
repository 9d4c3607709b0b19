set_option maxRecDepth 20000 in
theorem ggX7_init_X0_init : GoodIn wsX7_init wsX0_init := goodIn_r _ [23, 24, 2, 3, 25, 26, 73, 74] (by decide +kernel) (by decide +kernel)
set_option maxRecDepth 20000 in
theorem gX7_init_X0_init : GoodIn wsX7_init (wsX0_init) := ggX7_init_X0_init
set_option maxRecDepth 20000 in
theorem ggX7_init_X6_init : GoodIn wsX7_init wsX6_init := goodIn_r _ [29, 30, 2, 3, 31, 32, 33, 34, 35, 36, 37, 38, 25, 39, 40, 41, 42, 43, 44, 45, 46, 47, 48, 49, 50, 51, 52, 53, 54, 55, 10, 56, 91, 92, 93, 94, 95, 80, 81, 82, 83, 84, 85, 96, 97, 98, 99] (by decide +kernel) (by decide +kernel)
set_option maxRecDepth 20000 in
theorem gX7_init_X6_init : GoodIn wsX7_init (wsX6_init) := ggX7_init_X6_init
set_option maxRecDepth 20000 in
theorem ggX7_init_X1_init : GoodIn wsX7_init wsX1_init := goodIn_r _ [59, 60, 2, 3, 61, 62, 9, 10, 63, 28, 29, 30, 31, 32, 33, 34, 35, 36, 37, 38, 25, 39, 40, 41, 42, 43, 44, 45, 46, 47, 48, 49, 50, 51, 52, 53, 54, 55, 56, 86, 87, 88, 80, 81, 82, 83, 84, 85, 91, 92, 93, 94, 95, 96, 97, 98, 99] (by decide +kernel) (by decide +kernel)
set_option maxRecDepth 20000 in
theorem gX7_init_X1_init : GoodIn wsX7_init (wsX1_init) := ggX7_init_X1_init
set_option maxRecDepth 20000 in
theorem ggX7_init_X5_init : GoodIn wsX7_init wsX5_init := goodIn_r _ [66, 67, 2, 3, 68, 69, 70, 71, 9, 10, 72, 28, 29, 30, 31, 32, 33, 34, 35, 36, 37, 38, 25, 39, 40, 41, 42, 43, 44, 45, 46, 47, 48, 49, 50, 51, 52, 53, 54, 55, 56, 89, 90, 80, 81, 82, 83, 84, 85, 91, 92, 93, 94, 95, 96, 97, 98, 99] (by decide +kernel) (by decide +kernel)
set_option maxRecDepth 20000 in
theorem gX7_init_X5_init : GoodIn wsX7_init (wsX5_init) := ggX7_init_X5_init
theorem dX7_init_0 : decode cX7_init 0 = .ok (.aload_n 0, 1) := by decide +kernel
theorem dX7_init_1 : decode cX7_init 1 = .ok (.invokespecial 1, 3) := by decide +kernel
theorem dX7_init_4 : decode cX7_init 4 = .ok (.aload_n 0, 1) := by decide +kernel
theorem dX7_init_5 : decode cX7_init 5 = .ok (.new 7, 3) := by decide +kernel
theorem dX7_init_8 : decode cX7_init 8 = .ok (.dup, 1) := by decide +kernel
theorem dX7_init_9 : decode cX7_init 9 = .ok (.invokespecial 9, 3) := by decide +kernel
theorem dX7_init_12 : decode cX7_init 12 = .ok (.putfield 10, 3) := by decide +kernel
theorem dX7_init_15 : decode cX7_init 15 = .ok (.aload_n 0, 1) := by decide +kernel
theorem dX7_init_16 : decode cX7_init 16 = .ok (.new 16, 3) := by decide +kernel
theorem dX7_init_19 : decode cX7_init 19 = .ok (.dup, 1) := by decide +kernel
theorem dX7_init_20 : decode cX7_init 20 = .ok (.invokespecial 18, 3) := by decide +kernel
theorem dX7_init_23 : decode cX7_init 23 = .ok (.putfield 19, 3) := by decide +kernel
theorem dX7_init_26 : decode cX7_init 26 = .ok (.aload_n 0, 1) := by decide +kernel
theorem dX7_init_27 : decode cX7_init 27 = .ok (.new 16, 3) := by decide +kernel
theorem dX7_init_30 : decode cX7_init 30 = .ok (.dup, 1) := by decide +kernel
theorem dX7_init_31 : decode cX7_init 31 = .ok (.invokespecial 18, 3) := by decide +kernel
theorem dX7_init_34 : decode cX7_init 34 = .ok (.putfield 23, 3) := by decide +kernel
theorem dX7_init_37 : decode cX7_init 37 = .ok (.aload_n 0, 1) := by decide +kernel
theorem dX7_init_38 : decode cX7_init 38 = .ok (.new 26, 3) := by decide +kernel
theorem dX7_init_41 : decode cX7_init 41 = .ok (.dup, 1) := by decide +kernel
theorem dX7_init_42 : decode cX7_init 42 = .ok (.invokespecial 28, 3) := by decide +kernel
theorem dX7_init_45 : decode cX7_init 45 = .ok (.putfield 29, 3) := by decide +kernel
theorem dX7_init_48 : decode cX7_init 48 = .ok (.aload_n 0, 1) := by decide +kernel
theorem dX7_init_49 : decode cX7_init 49 = .ok (.new 33, 3) := by decide +kernel
theorem dX7_init_52 : decode cX7_init 52 = .ok (.dup, 1) := by decide +kernel
theorem dX7_init_53 : decode cX7_init 53 = .ok (.invokespecial 35, 3) := by decide +kernel
theorem dX7_init_56 : decode cX7_init 56 = .ok (.putfield 36, 3) := by decide +kernel
theorem dX7_init_59 : decode cX7_init 59 = .ok (.return_, 1) := by decide +kernel
set_option maxRecDepth 20000 in
theorem ggX7_append_X0_isFull : GoodIn wsX7_append wsX0_isFull := goodIn_r _ [10, 11, 22, 23] (by decide +kernel) (by decide +kernel)
set_option maxRecDepth 20000 in
theorem gX7_append_X0_isFull : GoodIn wsX7_append (wsV RX7 47 RX0 yX0_isFull wsX0_isFull) := goodIn_app (goodIn_of _ (by decide +kernel)) ggX7_append_X0_isFull
set_option maxRecDepth 20000 in
theorem ggX7_append_X0_add : GoodIn wsX7_append wsX0_add := goodIn_r _ [15, 11, 16, 22, 23] (by decide +kernel) (by decide +kernel)
set_option maxRecDepth 20000 in
theorem gX7_append_X0_add : GoodIn wsX7_append (wsV RX7 56 RX0 yX0_add wsX0_add) := goodIn_app (goodIn_of _ (by decide +kernel)) ggX7_append_X0_add
theorem dX7_append_0 : decode cX7_append 0 = .ok (.iload_n 1, 1) := by decide +kernel
theorem dX7_append_1 : decode cX7_append 1 = .ok (.ifCond .lt 10, 3) := by decide +kernel
theorem dX7_append_4 : decode cX7_append 4 = .ok (.iload_n 1, 1) := by decide +kernel
theorem dX7_append_5 : decode cX7_append 5 = .ok (.sipush 255, 3) := by decide +kernel
theorem dX7_append_8 : decode cX7_append 8 = .ok (.if_icmp .le 13, 3) := by decide +kernel
theorem dX7_append_11 : decode cX7_append 11 = .ok (.new 40, 3) := by decide +kernel
theorem dX7_append_14 : decode cX7_append 14 = .ok (.dup, 1) := by decide +kernel
theorem dX7_append_15 : decode cX7_append 15 = .ok (.ldc 42, 2) := by decide +kernel
theorem dX7_append_17 : decode cX7_append 17 = .ok (.invokespecial 44, 3) := by decide +kernel
theorem dX7_append_20 : decode cX7_append 20 = .ok (.athrow, 1) := by decide +kernel
theorem dX7_append_21 : decode cX7_append 21 = .ok (.aload_n 0, 1) := by decide +kernel
theorem dX7_append_22 : decode cX7_append 22 = .ok (.getfield 10, 3) := by decide +kernel
theorem dX7_append_25 : decode cX7_append 25 = .ok (.invokevirtual 47, 3) := by decide +kernel
theorem dX7_append_28 : decode cX7_append 28 = .ok (.ifCond .eq 13, 3) := by decide +kernel
theorem dX7_append_31 : decode cX7_append 31 = .ok (.new 51, 3) := by decide +kernel
theorem dX7_append_34 : decode cX7_append 34 = .ok (.dup, 1) := by decide +kernel
theorem dX7_append_35 : decode cX7_append 35 = .ok (.ldc 53, 2) := by decide +kernel
theorem dX7_append_37 : decode cX7_append 37 = .ok (.invokespecial 55, 3) := by decide +kernel
theorem dX7_append_40 : decode cX7_append 40 = .ok (.athrow, 1) := by decide +kernel
theorem dX7_append_41 : decode cX7_append 41 = .ok (.aload_n 0, 1) := by decide +kernel
theorem dX7_append_42 : decode cX7_append 42 = .ok (.getfield 10, 3) := by decide +kernel
theorem dX7_append_45 : decode cX7_append 45 = .ok (.iload_n 1, 1) := by decide +kernel
theorem dX7_append_46 : decode cX7_append 46 = .ok (.invokevirtual 56, 3) := by decide +kernel
theorem dX7_append_49 : decode cX7_append 49 = .ok (.ireturn, 1) := by decide +kernel
set_option maxRecDepth 20000 in
theorem ggX7_load_X0_firstError : GoodIn wsX7_load wsX0_firstError := goodIn_r _ [11, 12, 13, 14, 15, 10, 16, 17, 18, 19, 20, 21, 22, 23, 24, 25, 26, 27, 28, 29, 30, 194, 195] (by decide +kernel) (by decide +kernel)
set_option maxRecDepth 20000 in
theorem gX7_load_X0_firstError : GoodIn wsX7_load (wsV RX7 64 RX0 yX0_firstError wsX0_firstError) := goodIn_app (goodIn_of _ (by decide +kernel)) ggX7_load_X0_firstError
set_option maxRecDepth 20000 in
theorem ggX7_load_X6_renew : GoodIn wsX7_load wsX6_renew := goodIn_r _ [35, 36, 37, 38, 39, 40, 41, 42, 43, 44, 45, 46, 47, 48, 49, 50, 51, 52, 53, 54, 55, 56, 57, 58, 34, 59, 60, 196, 197, 198, 199, 200, 201, 202, 203, 204, 205, 206, 207, 208, 209, 210] (by decide +kernel) (by decide +kernel)
set_option maxRecDepth 20000 in
theorem gX7_load_X6_renew : GoodIn wsX7_load (wsV RX7 69 RX6 yX6_renew wsX6_renew) := goodIn_app (goodIn_of _ (by decide +kernel)) ggX7_load_X6_renew
set_option maxRecDepth 20000 in
theorem ggX7_load_X1_forget : GoodIn wsX7_load wsX1_forget := goodIn_r _ [65, 66, 211, 212, 213] (by decide +kernel) (by decide +kernel)
set_option maxRecDepth 20000 in
theorem gX7_load_X1_forget : GoodIn wsX7_load (wsV RX7 72 RX1 yX1_forget wsX1_forget) := goodIn_app (goodIn_of _ (by decide +kernel)) ggX7_load_X1_forget
set_option maxRecDepth 20000 in
theorem ggX7_load_X5_forget : GoodIn wsX7_load wsX5_forget := goodIn_r _ [71, 72, 214, 215] (by decide +kernel) (by decide +kernel)
set_option maxRecDepth 20000 in
theorem gX7_load_X5_forget : GoodIn wsX7_load (wsV RX7 75 RX5 yX5_forget wsX5_forget) := goodIn_app (goodIn_of _ (by decide +kernel)) ggX7_load_X5_forget
set_option maxRecDepth 20000 in
theorem ggX7_load_X0_playOn : GoodIn wsX7_load wsX0_playOn := goodIn_r _ [76, 12, 77, 78, 79, 10, 80, 13, 14, 15, 16, 17, 28, 29, 30, 18, 19, 20, 21, 22, 23, 24, 81, 82, 83, 34, 84, 37, 85, 86, 87, 88, 89, 90, 91, 92, 52, 93, 55, 94, 95, 96, 97, 38, 40, 36, 60, 39, 98, 99, 100, 101, 102, 103, 104, 44, 105, 106, 107, 108, 109, 110, 111, 47, 112, 113, 114, 115, 116, 117, 118, 119, 120, 121, 122, 46, 123, 124, 125, 126, 127, 128, 129, 130, 131, 132, 133, 134, 135, 136, 137, 138, 139, 140, 141, 142, 48, 143, 144, 145, 146, 147, 148, 149, 150, 151, 152, 153, 154, 155, 156, 54, 157, 158, 159, 160, 161, 162, 163, 164, 165, 166, 167, 168, 169, 170, 171, 172, 173, 174, 175, 176, 177, 178, 179, 41, 42, 43, 45, 180, 181, 182, 183, 184, 185, 186, 187, 188, 194, 195, 196, 197, 198, 199, 200, 201, 207, 208, 209, 210, 202, 203, 204, 205, 206] (by decide +kernel) (by decide +kernel)
set_option maxRecDepth 20000 in
theorem gX7_load_X0_playOn : GoodIn wsX7_load (wsV RX7 76 RX0 yX0_playOn wsX0_playOn) := goodIn_app (goodIn_of _ (by decide +kernel)) ggX7_load_X0_playOn
theorem dX7_load_0 : decode cX7_load 0 = .ok (.aload_n 0, 1) := by decide +kernel
theorem dX7_load_1 : decode cX7_load 1 = .ok (.getfield 10, 3) := by decide +kernel
theorem dX7_load_4 : decode cX7_load 4 = .ok (.invokevirtual 64, 3) := by decide +kernel
theorem dX7_load_7 : decode cX7_load 7 = .ok (.iconst (-1), 1) := by decide +kernel
theorem dX7_load_8 : decode cX7_load 8 = .ok (.if_icmp .eq 13, 3) := by decide +kernel
theorem dX7_load_11 : decode cX7_load 11 = .ok (.new 51, 3) := by decide +kernel
theorem dX7_load_14 : decode cX7_load 14 = .ok (.dup, 1) := by decide +kernel
theorem dX7_load_15 : decode cX7_load 15 = .ok (.ldc 67, 2) := by decide +kernel
theorem dX7_load_17 : decode cX7_load 17 = .ok (.invokespecial 55, 3) := by decide +kernel
theorem dX7_load_20 : decode cX7_load 20 = .ok (.athrow, 1) := by decide +kernel
theorem dX7_load_21 : decode cX7_load 21 = .ok (.aload_n 0, 1) := by decide +kernel
theorem dX7_load_22 : decode cX7_load 22 = .ok (.getfield 19, 3) := by decide +kernel
theorem dX7_load_25 : decode cX7_load 25 = .ok (.invokevirtual 69, 3) := by decide +kernel
theorem dX7_load_28 : decode cX7_load 28 = .ok (.aload_n 0, 1) := by decide +kernel
theorem dX7_load_29 : decode cX7_load 29 = .ok (.getfield 29, 3) := by decide +kernel
theorem dX7_load_32 : decode cX7_load 32 = .ok (.invokevirtual 72, 3) := by decide +kernel
theorem dX7_load_35 : decode cX7_load 35 = .ok (.aload_n 0, 1) := by decide +kernel
theorem dX7_load_36 : decode cX7_load 36 = .ok (.getfield 36, 3) := by decide +kernel
theorem dX7_load_39 : decode cX7_load 39 = .ok (.invokevirtual 75, 3) := by decide +kernel
theorem dX7_load_42 : decode cX7_load 42 = .ok (.aload_n 0, 1) := by decide +kernel
theorem dX7_load_43 : decode cX7_load 43 = .ok (.getfield 10, 3) := by decide +kernel
theorem dX7_load_46 : decode cX7_load 46 = .ok (.aload_n 0, 1) := by decide +kernel
theorem dX7_load_47 : decode cX7_load 47 = .ok (.getfield 19, 3) := by decide +kernel
theorem dX7_load_50 : decode cX7_load 50 = .ok (.invokevirtual 76, 3) := by decide +kernel
theorem dX7_load_53 : decode cX7_load 53 = .ok (.ireturn, 1) := by decide +kernel
set_option maxRecDepth 20000 in
theorem ggX7_about_X4_frameNow : GoodIn wsX7_about wsX4_frameNow := goodIn_r _ [8, 9, 78, 79, 80, 81] (by decide +kernel) (by decide +kernel)
set_option maxRecDepth 20000 in
theorem gX7_about_X4_frameNow : GoodIn wsX7_about (wsV RX7 84 RX4 yX4_frameNow wsX4_frameNow) := goodIn_app (goodIn_of _ (by decide +kernel)) ggX7_about_X4_frameNow
set_option maxRecDepth 20000 in
theorem ggX7_about_X4_rollsIn : GoodIn wsX7_about wsX4_rollsIn := goodIn_r _ [13, 14, 15, 16, 7, 17, 9, 18, 19, 78, 79, 80, 81] (by decide +kernel) (by decide +kernel)
set_option maxRecDepth 20000 in
theorem gX7_about_X4_rollsIn : GoodIn wsX7_about (wsV RX7 89 RX4 yX4_rollsIn wsX4_rollsIn) := goodIn_app (goodIn_of _ (by decide +kernel)) ggX7_about_X4_rollsIn
set_option maxRecDepth 20000 in
theorem ggX7_about_X4_rolls : GoodIn wsX7_about wsX4_rolls := goodIn_r _ [23, 19, 78, 79, 80, 81] (by decide +kernel) (by decide +kernel)
set_option maxRecDepth 20000 in
theorem gX7_about_X4_rolls : GoodIn wsX7_about (wsV RX7 92 RX4 yX4_rolls wsX4_rolls) := goodIn_app (goodIn_of _ (by decide +kernel)) ggX7_about_X4_rolls
set_option maxRecDepth 20000 in
theorem ggX7_about_X4_allPoints : GoodIn wsX7_about wsX4_allPoints := goodIn_r _ [27, 28, 29, 30, 7, 31, 14, 15, 16, 17, 9, 18, 19, 32, 33, 34, 35, 36, 37, 38, 39, 40, 78, 79, 80, 81] (by decide +kernel) (by decide +kernel)
set_option maxRecDepth 20000 in
theorem gX7_about_X4_allPoints : GoodIn wsX7_about (wsV RX7 95 RX4 yX4_allPoints wsX4_allPoints) := goodIn_app (goodIn_of _ (by decide +kernel)) ggX7_about_X4_allPoints
set_option maxRecDepth 20000 in
theorem ggX7_about_X2_toldSet : GoodIn wsX7_about wsX2_toldSet := goodIn_r _ [45, 46, 82, 83, 84, 85, 86] (by decide +kernel) (by decide +kernel)
set_option maxRecDepth 20000 in
theorem gX7_about_X2_toldSet : GoodIn wsX7_about (wsV RX7 112 RX2 yX2_toldSet wsX2_toldSet) := goodIn_app (goodIn_of _ (by decide +kernel)) ggX7_about_X2_toldSet
set_option maxRecDepth 20000 in
theorem ggX7_about_J6_bitCount_0f7a4 : GoodIn wsX7_about wsJ6_bitCount_0f7a4 := goodIn_r _ [50, 51, 52, 53] (by decide +kernel) (by decide +kernel)
set_option maxRecDepth 20000 in
theorem gX7_about_J6_bitCount_0f7a4 : GoodIn wsX7_about (va_wsS RX7 117 yJ6_bitCount_0f7a4 wsJ6_bitCount_0f7a4) := goodIn_app (goodIn_of _ (by decide +kernel)) ggX7_about_J6_bitCount_0f7a4
set_option maxRecDepth 20000 in
theorem ggX7_about_X2_upSet : GoodIn wsX7_about wsX2_upSet := goodIn_r _ [57, 58, 59, 60, 44, 61, 62, 82, 83, 84, 85, 86] (by decide +kernel) (by decide +kernel)
set_option maxRecDepth 20000 in
theorem gX7_about_X2_upSet : GoodIn wsX7_about (wsV RX7 122 RX2 yX2_upSet wsX2_upSet) := goodIn_app (goodIn_of _ (by decide +kernel)) ggX7_about_X2_upSet
set_option maxRecDepth 20000 in
theorem ggX7_about_X4_isOver : GoodIn wsX7_about wsX4_isOver := goodIn_r _ [66, 9, 78, 79, 80, 81] (by decide +kernel) (by decide +kernel)
set_option maxRecDepth 20000 in
theorem gX7_about_X4_isOver : GoodIn wsX7_about (wsV RX7 125 RX4 yX4_isOver wsX4_isOver) := goodIn_app (goodIn_of _ (by decide +kernel)) ggX7_about_X4_isOver
theorem dX7_about_0 : decode cX7_about 0 = .ok (.iload_n 1, 1) := by decide +kernel
theorem dX7_about_1 : decode cX7_about 1 = .ok (.tableswitch 180 0 9 #[55, 66, 87, 98, 109, 117, 125, 133, 147, 161], 55) := by decide +kernel
theorem dX7_about_56 : decode cX7_about 56 = .ok (.aload_n 0, 1) := by decide +kernel
theorem dX7_about_57 : decode cX7_about 57 = .ok (.getfield 19, 3) := by decide +kernel
theorem dX7_about_60 : decode cX7_about 60 = .ok (.getfield 80, 3) := by decide +kernel
theorem dX7_about_63 : decode cX7_about 63 = .ok (.invokevirtual 84, 3) := by decide +kernel
theorem dX7_about_66 : decode cX7_about 66 = .ok (.ireturn, 1) := by decide +kernel
theorem dX7_about_67 : decode cX7_about 67 = .ok (.aload_n 0, 1) := by decide +kernel
theorem dX7_about_68 : decode cX7_about 68 = .ok (.getfield 19, 3) := by decide +kernel
theorem dX7_about_71 : decode cX7_about 71 = .ok (.getfield 80, 3) := by decide +kernel
theorem dX7_about_74 : decode cX7_about 74 = .ok (.aload_n 0, 1) := by decide +kernel
theorem dX7_about_75 : decode cX7_about 75 = .ok (.getfield 19, 3) := by decide +kernel
theorem dX7_about_78 : decode cX7_about 78 = .ok (.getfield 80, 3) := by decide +kernel
theorem dX7_about_81 : decode cX7_about 81 = .ok (.invokevirtual 84, 3) := by decide +kernel
theorem dX7_about_84 : decode cX7_about 84 = .ok (.invokevirtual 89, 3) := by decide +kernel
theorem dX7_about_87 : decode cX7_about 87 = .ok (.ireturn, 1) := by decide +kernel
theorem dX7_about_88 : decode cX7_about 88 = .ok (.aload_n 0, 1) := by decide +kernel
theorem dX7_about_89 : decode cX7_about 89 = .ok (.getfield 19, 3) := by decide +kernel
theorem dX7_about_92 : decode cX7_about 92 = .ok (.getfield 80, 3) := by decide +kernel
theorem dX7_about_95 : decode cX7_about 95 = .ok (.invokevirtual 92, 3) := by decide +kernel
theorem dX7_about_98 : decode cX7_about 98 = .ok (.ireturn, 1) := by decide +kernel
theorem dX7_about_99 : decode cX7_about 99 = .ok (.aload_n 0, 1) := by decide +kernel
theorem dX7_about_100 : decode cX7_about 100 = .ok (.getfield 19, 3) := by decide +kernel
theorem dX7_about_103 : decode cX7_about 103 = .ok (.getfield 80, 3) := by decide +kernel
theorem dX7_about_106 : decode cX7_about 106 = .ok (.invokevirtual 95, 3) := by decide +kernel
theorem dX7_about_109 : decode cX7_about 109 = .ok (.ireturn, 1) := by decide +kernel
theorem dX7_about_110 : decode cX7_about 110 = .ok (.aload_n 0, 1) := by decide +kernel
theorem dX7_about_111 : decode cX7_about 111 = .ok (.getfield 19, 3) := by decide +kernel
theorem dX7_about_114 : decode cX7_about 114 = .ok (.getfield 98, 3) := by decide +kernel
theorem dX7_about_117 : decode cX7_about 117 = .ok (.ireturn, 1) := by decide +kernel
theorem dX7_about_118 : decode cX7_about 118 = .ok (.aload_n 0, 1) := by decide +kernel
theorem dX7_about_119 : decode cX7_about 119 = .ok (.getfield 19, 3) := by decide +kernel
theorem dX7_about_122 : decode cX7_about 122 = .ok (.getfield 102, 3) := by decide +kernel
theorem dX7_about_125 : decode cX7_about 125 = .ok (.ireturn, 1) := by decide +kernel
theorem dX7_about_126 : decode cX7_about 126 = .ok (.aload_n 0, 1) := by decide +kernel
theorem dX7_about_127 : decode cX7_about 127 = .ok (.getfield 19, 3) := by decide +kernel
theorem dX7_about_130 : decode cX7_about 130 = .ok (.getfield 105, 3) := by decide +kernel
theorem dX7_about_133 : decode cX7_about 133 = .ok (.ireturn, 1) := by decide +kernel
theorem dX7_about_134 : decode cX7_about 134 = .ok (.aload_n 0, 1) := by decide +kernel
theorem dX7_about_135 : decode cX7_about 135 = .ok (.getfield 19, 3) := by decide +kernel
theorem dX7_about_138 : decode cX7_about 138 = .ok (.getfield 108, 3) := by decide +kernel
theorem dX7_about_141 : decode cX7_about 141 = .ok (.invokevirtual 112, 3) := by decide +kernel
theorem dX7_about_144 : decode cX7_about 144 = .ok (.invokestatic 117, 3) := by decide +kernel
theorem dX7_about_147 : decode cX7_about 147 = .ok (.ireturn, 1) := by decide +kernel
theorem dX7_about_148 : decode cX7_about 148 = .ok (.aload_n 0, 1) := by decide +kernel
theorem dX7_about_149 : decode cX7_about 149 = .ok (.getfield 19, 3) := by decide +kernel
theorem dX7_about_152 : decode cX7_about 152 = .ok (.getfield 108, 3) := by decide +kernel
theorem dX7_about_155 : decode cX7_about 155 = .ok (.invokevirtual 122, 3) := by decide +kernel
theorem dX7_about_158 : decode cX7_about 158 = .ok (.invokestatic 117, 3) := by decide +kernel
theorem dX7_about_161 : decode cX7_about 161 = .ok (.ireturn, 1) := by decide +kernel
theorem dX7_about_162 : decode cX7_about 162 = .ok (.aload_n 0, 1) := by decide +kernel
theorem dX7_about_163 : decode cX7_about 163 = .ok (.getfield 19, 3) := by decide +kernel
theorem dX7_about_166 : decode cX7_about 166 = .ok (.getfield 80, 3) := by decide +kernel
theorem dX7_about_169 : decode cX7_about 169 = .ok (.invokevirtual 125, 3) := by decide +kernel
theorem dX7_about_172 : decode cX7_about 172 = .ok (.ifCond .eq 7, 3) := by decide +kernel
theorem dX7_about_175 : decode cX7_about 175 = .ok (.iconst 1, 1) := by decide +kernel
theorem dX7_about_176 : decode cX7_about 176 = .ok (.goto 4, 3) := by decide +kernel
theorem dX7_about_179 : decode cX7_about 179 = .ok (.iconst 0, 1) := by decide +kernel
theorem dX7_about_180 : decode cX7_about 180 = .ok (.ireturn, 1) := by decide +kernel
theorem dX7_about_181 : decode cX7_about 181 = .ok (.new 40, 3) := by decide +kernel
theorem dX7_about_184 : decode cX7_about 184 = .ok (.dup, 1) := by decide +kernel
theorem dX7_about_185 : decode cX7_about 185 = .ok (.ldc 128, 2) := by decide +kernel
theorem dX7_about_187 : decode cX7_about 187 = .ok (.invokespecial 44, 3) := by decide +kernel
theorem dX7_about_190 : decode cX7_about 190 = .ok (.athrow, 1) := by decide +kernel
set_option maxRecDepth 20000 in
theorem ggX7_pin_X7_isPin : GoodIn wsX7_pin wsX7_isPin := goodIn_r _ [9] (by decide +kernel) (by decide +kernel)
set_option maxRecDepth 20000 in
theorem gX7_pin_X7_isPin : GoodIn wsX7_pin (va_wsS RX7 130 yX7_isPin wsX7_isPin) := goodIn_app (goodIn_of _ (by decide +kernel)) ggX7_pin_X7_isPin
set_option maxRecDepth 20000 in
theorem ggX7_pin_X2_leaningOf : GoodIn wsX7_pin wsX2_leaningOf := goodIn_r _ [14, 15, 7, 8, 9, 41, 42, 43, 44, 45] (by decide +kernel) (by decide +kernel)
set_option maxRecDepth 20000 in
theorem gX7_pin_X2_leaningOf : GoodIn wsX7_pin (wsV RX7 139 RX2 yX2_leaningOf wsX2_leaningOf) := goodIn_app (goodIn_of _ (by decide +kernel)) ggX7_pin_X2_leaningOf
set_option maxRecDepth 20000 in
theorem ggX7_pin_X2_shiftOf : GoodIn wsX7_pin wsX2_shiftOf := goodIn_r _ [19, 20, 7, 8, 9, 41, 42, 43, 44, 45] (by decide +kernel) (by decide +kernel)
set_option maxRecDepth 20000 in
theorem gX7_pin_X2_shiftOf : GoodIn wsX7_pin (wsV RX7 142 RX2 yX2_shiftOf wsX2_shiftOf) := goodIn_app (goodIn_of _ (by decide +kernel)) ggX7_pin_X2_shiftOf
set_option maxRecDepth 20000 in
theorem ggX7_pin_X2_boardOf : GoodIn wsX7_pin wsX2_boardOf := goodIn_r _ [24, 20, 41, 42, 43, 44, 45] (by decide +kernel) (by decide +kernel)
set_option maxRecDepth 20000 in
theorem gX7_pin_X2_boardOf : GoodIn wsX7_pin (wsV RX7 145 RX2 yX2_boardOf wsX2_boardOf) := goodIn_app (goodIn_of _ (by decide +kernel)) ggX7_pin_X2_boardOf
set_option maxRecDepth 20000 in
theorem ggX7_pin_X2_toldSet : GoodIn wsX7_pin wsX2_toldSet := goodIn_r _ [28, 29, 41, 42, 43, 44, 45] (by decide +kernel) (by decide +kernel)
set_option maxRecDepth 20000 in
theorem gX7_pin_X2_toldSet : GoodIn wsX7_pin (wsV RX7 112 RX2 yX2_toldSet wsX2_toldSet) := goodIn_app (goodIn_of _ (by decide +kernel)) ggX7_pin_X2_toldSet
theorem dX7_pin_0 : decode cX7_pin 0 = .ok (.iload_n 1, 1) := by decide +kernel
theorem dX7_pin_1 : decode cX7_pin 1 = .ok (.invokestatic 130, 3) := by decide +kernel
theorem dX7_pin_4 : decode cX7_pin 4 = .ok (.ifCond .ne 13, 3) := by decide +kernel
theorem dX7_pin_7 : decode cX7_pin 7 = .ok (.new 134, 3) := by decide +kernel
theorem dX7_pin_10 : decode cX7_pin 10 = .ok (.dup, 1) := by decide +kernel
theorem dX7_pin_11 : decode cX7_pin 11 = .ok (.ldc 136, 2) := by decide +kernel
theorem dX7_pin_13 : decode cX7_pin 13 = .ok (.invokespecial 138, 3) := by decide +kernel
theorem dX7_pin_16 : decode cX7_pin 16 = .ok (.athrow, 1) := by decide +kernel
theorem dX7_pin_17 : decode cX7_pin 17 = .ok (.iload_n 2, 1) := by decide +kernel
theorem dX7_pin_18 : decode cX7_pin 18 = .ok (.tableswitch 81 0 3 #[30, 42, 54, 66], 30) := by decide +kernel
theorem dX7_pin_48 : decode cX7_pin 48 = .ok (.aload_n 0, 1) := by decide +kernel
theorem dX7_pin_49 : decode cX7_pin 49 = .ok (.getfield 19, 3) := by decide +kernel
theorem dX7_pin_52 : decode cX7_pin 52 = .ok (.getfield 108, 3) := by decide +kernel
theorem dX7_pin_55 : decode cX7_pin 55 = .ok (.iload_n 1, 1) := by decide +kernel
theorem dX7_pin_56 : decode cX7_pin 56 = .ok (.invokevirtual 139, 3) := by decide +kernel
theorem dX7_pin_59 : decode cX7_pin 59 = .ok (.ireturn, 1) := by decide +kernel
theorem dX7_pin_60 : decode cX7_pin 60 = .ok (.aload_n 0, 1) := by decide +kernel
theorem dX7_pin_61 : decode cX7_pin 61 = .ok (.getfield 19, 3) := by decide +kernel
theorem dX7_pin_64 : decode cX7_pin 64 = .ok (.getfield 108, 3) := by decide +kernel
theorem dX7_pin_67 : decode cX7_pin 67 = .ok (.iload_n 1, 1) := by decide +kernel
theorem dX7_pin_68 : decode cX7_pin 68 = .ok (.invokevirtual 142, 3) := by decide +kernel
theorem dX7_pin_71 : decode cX7_pin 71 = .ok (.ireturn, 1) := by decide +kernel
theorem dX7_pin_72 : decode cX7_pin 72 = .ok (.aload_n 0, 1) := by decide +kernel
theorem dX7_pin_73 : decode cX7_pin 73 = .ok (.getfield 19, 3) := by decide +kernel
theorem dX7_pin_76 : decode cX7_pin 76 = .ok (.getfield 108, 3) := by decide +kernel
theorem dX7_pin_79 : decode cX7_pin 79 = .ok (.iload_n 1, 1) := by decide +kernel
theorem dX7_pin_80 : decode cX7_pin 80 = .ok (.invokevirtual 145, 3) := by decide +kernel
theorem dX7_pin_83 : decode cX7_pin 83 = .ok (.ireturn, 1) := by decide +kernel
theorem dX7_pin_84 : decode cX7_pin 84 = .ok (.aload_n 0, 1) := by decide +kernel
theorem dX7_pin_85 : decode cX7_pin 85 = .ok (.getfield 19, 3) := by decide +kernel
theorem dX7_pin_88 : decode cX7_pin 88 = .ok (.getfield 108, 3) := by decide +kernel
theorem dX7_pin_91 : decode cX7_pin 91 = .ok (.invokevirtual 112, 3) := by decide +kernel
theorem dX7_pin_94 : decode cX7_pin 94 = .ok (.iload_n 1, 1) := by decide +kernel
theorem dX7_pin_95 : decode cX7_pin 95 = .ok (.ishr, 1) := by decide +kernel
theorem dX7_pin_96 : decode cX7_pin 96 = .ok (.iconst 1, 1) := by decide +kernel
theorem dX7_pin_97 : decode cX7_pin 97 = .ok (.iand, 1) := by decide +kernel
theorem dX7_pin_98 : decode cX7_pin 98 = .ok (.ireturn, 1) := by decide +kernel
theorem dX7_pin_99 : decode cX7_pin 99 = .ok (.new 40, 3) := by decide +kernel
theorem dX7_pin_102 : decode cX7_pin 102 = .ok (.dup, 1) := by decide +kernel
theorem dX7_pin_103 : decode cX7_pin 103 = .ok (.ldc 148, 2) := by decide +kernel
theorem dX7_pin_105 : decode cX7_pin 105 = .ok (.invokespecial 44, 3) := by decide +kernel
theorem dX7_pin_108 : decode cX7_pin 108 = .ok (.athrow, 1) := by decide +kernel
set_option maxRecDepth 20000 in
theorem ggX7_frame_X7_isFrame : GoodIn wsX7_frame wsX7_isFrame := goodIn_r _ [9] (by decide +kernel) (by decide +kernel)
set_option maxRecDepth 20000 in
theorem gX7_frame_X7_isFrame : GoodIn wsX7_frame (va_wsS RX7 150 yX7_isFrame wsX7_isFrame) := goodIn_app (goodIn_of _ (by decide +kernel)) ggX7_frame_X7_isFrame
set_option maxRecDepth 20000 in
theorem ggX7_frame_X4_rollsIn : GoodIn wsX7_frame wsX4_rollsIn := goodIn_r _ [14, 15, 16, 17, 13, 18, 19, 20, 21, 47, 48, 49, 50] (by decide +kernel) (by decide +kernel)
set_option maxRecDepth 20000 in
theorem gX7_frame_X4_rollsIn : GoodIn wsX7_frame (wsV RX7 89 RX4 yX4_rollsIn wsX4_rollsIn) := goodIn_app (goodIn_of _ (by decide +kernel)) ggX7_frame_X4_rollsIn
set_option maxRecDepth 20000 in
theorem ggX7_frame_X4_pointsOf : GoodIn wsX7_frame wsX4_pointsOf := goodIn_r _ [25, 15, 16, 17, 13, 18, 19, 20, 21, 26, 27, 28, 29, 30, 31, 32, 33, 34, 47, 48, 49, 50] (by decide +kernel) (by decide +kernel)
set_option maxRecDepth 20000 in
theorem gX7_frame_X4_pointsOf : GoodIn wsX7_frame (wsV RX7 155 RX4 yX4_pointsOf wsX4_pointsOf) := goodIn_app (goodIn_of _ (by decide +kernel)) ggX7_frame_X4_pointsOf
set_option maxRecDepth 20000 in
theorem ggX7_frame_X4_markOf : GoodIn wsX7_frame wsX4_markOf := goodIn_r _ [34, 15, 16, 17, 13, 18, 19, 20, 21, 26, 27, 28, 29, 30, 47, 48, 49, 50] (by decide +kernel) (by decide +kernel)
set_option maxRecDepth 20000 in
theorem gX7_frame_X4_markOf : GoodIn wsX7_frame (wsV RX7 158 RX4 yX4_markOf wsX4_markOf) := goodIn_app (goodIn_of _ (by decide +kernel)) ggX7_frame_X4_markOf
theorem dX7_frame_0 : decode cX7_frame 0 = .ok (.iload_n 1, 1) := by decide +kernel
theorem dX7_frame_1 : decode cX7_frame 1 = .ok (.invokestatic 150, 3) := by decide +kernel
theorem dX7_frame_4 : decode cX7_frame 4 = .ok (.ifCond .ne 13, 3) := by decide +kernel
theorem dX7_frame_7 : decode cX7_frame 7 = .ok (.new 134, 3) := by decide +kernel
theorem dX7_frame_10 : decode cX7_frame 10 = .ok (.dup, 1) := by decide +kernel
theorem dX7_frame_11 : decode cX7_frame 11 = .ok (.ldc 153, 2) := by decide +kernel
theorem dX7_frame_13 : decode cX7_frame 13 = .ok (.invokespecial 138, 3) := by decide +kernel
theorem dX7_frame_16 : decode cX7_frame 16 = .ok (.athrow, 1) := by decide +kernel
theorem dX7_frame_17 : decode cX7_frame 17 = .ok (.iload_n 2, 1) := by decide +kernel
theorem dX7_frame_18 : decode cX7_frame 18 = .ok (.tableswitch 62 0 2 #[26, 38, 50], 26) := by decide +kernel
theorem dX7_frame_44 : decode cX7_frame 44 = .ok (.aload_n 0, 1) := by decide +kernel
theorem dX7_frame_45 : decode cX7_frame 45 = .ok (.getfield 19, 3) := by decide +kernel
theorem dX7_frame_48 : decode cX7_frame 48 = .ok (.getfield 80, 3) := by decide +kernel
theorem dX7_frame_51 : decode cX7_frame 51 = .ok (.iload_n 1, 1) := by decide +kernel
theorem dX7_frame_52 : decode cX7_frame 52 = .ok (.invokevirtual 89, 3) := by decide +kernel
theorem dX7_frame_55 : decode cX7_frame 55 = .ok (.ireturn, 1) := by decide +kernel
theorem dX7_frame_56 : decode cX7_frame 56 = .ok (.aload_n 0, 1) := by decide +kernel
theorem dX7_frame_57 : decode cX7_frame 57 = .ok (.getfield 19, 3) := by decide +kernel
theorem dX7_frame_60 : decode cX7_frame 60 = .ok (.getfield 80, 3) := by decide +kernel
theorem dX7_frame_63 : decode cX7_frame 63 = .ok (.iload_n 1, 1) := by decide +kernel
theorem dX7_frame_64 : decode cX7_frame 64 = .ok (.invokevirtual 155, 3) := by decide +kernel
theorem dX7_frame_67 : decode cX7_frame 67 = .ok (.ireturn, 1) := by decide +kernel
theorem dX7_frame_68 : decode cX7_frame 68 = .ok (.aload_n 0, 1) := by decide +kernel
theorem dX7_frame_69 : decode cX7_frame 69 = .ok (.getfield 19, 3) := by decide +kernel
theorem dX7_frame_72 : decode cX7_frame 72 = .ok (.getfield 80, 3) := by decide +kernel
theorem dX7_frame_75 : decode cX7_frame 75 = .ok (.iload_n 1, 1) := by decide +kernel
theorem dX7_frame_76 : decode cX7_frame 76 = .ok (.invokevirtual 158, 3) := by decide +kernel
theorem dX7_frame_79 : decode cX7_frame 79 = .ok (.ireturn, 1) := by decide +kernel
theorem dX7_frame_80 : decode cX7_frame 80 = .ok (.new 40, 3) := by decide +kernel
theorem dX7_frame_83 : decode cX7_frame 83 = .ok (.dup, 1) := by decide +kernel
theorem dX7_frame_84 : decode cX7_frame 84 = .ok (.ldc 161, 2) := by decide +kernel
theorem dX7_frame_86 : decode cX7_frame 86 = .ok (.invokespecial 44, 3) := by decide +kernel
theorem dX7_frame_89 : decode cX7_frame 89 = .ok (.athrow, 1) := by decide +kernel
set_option maxRecDepth 20000 in
theorem ggX7_taken_X4_rolls : GoodIn wsX7_taken wsX4_rolls := goodIn_r _ [8, 9, 26, 27, 28, 29] (by decide +kernel) (by decide +kernel)
set_option maxRecDepth 20000 in
theorem gX7_taken_X4_rolls : GoodIn wsX7_taken (wsV RX7 92 RX4 yX4_rolls wsX4_rolls) := goodIn_app (goodIn_of _ (by decide +kernel)) ggX7_taken_X4_rolls
set_option maxRecDepth 20000 in
theorem ggX7_taken_X4_takenBy : GoodIn wsX7_taken wsX4_takenBy := goodIn_r _ [13, 9, 14, 26, 27, 28, 29] (by decide +kernel) (by decide +kernel)
set_option maxRecDepth 20000 in
theorem gX7_taken_X4_takenBy : GoodIn wsX7_taken (wsV RX7 165 RX4 yX4_takenBy wsX4_takenBy) := goodIn_app (goodIn_of _ (by decide +kernel)) ggX7_taken_X4_takenBy
theorem dX7_taken_0 : decode cX7_taken 0 = .ok (.iload_n 1, 1) := by decide +kernel
theorem dX7_taken_1 : decode cX7_taken 1 = .ok (.ifCond .lt 17, 3) := by decide +kernel
theorem dX7_taken_4 : decode cX7_taken 4 = .ok (.iload_n 1, 1) := by decide +kernel
theorem dX7_taken_5 : decode cX7_taken 5 = .ok (.aload_n 0, 1) := by decide +kernel
theorem dX7_taken_6 : decode cX7_taken 6 = .ok (.getfield 19, 3) := by decide +kernel
theorem dX7_taken_9 : decode cX7_taken 9 = .ok (.getfield 80, 3) := by decide +kernel
theorem dX7_taken_12 : decode cX7_taken 12 = .ok (.invokevirtual 92, 3) := by decide +kernel
theorem dX7_taken_15 : decode cX7_taken 15 = .ok (.if_icmp .lt 13, 3) := by decide +kernel
theorem dX7_taken_18 : decode cX7_taken 18 = .ok (.new 134, 3) := by decide +kernel
theorem dX7_taken_21 : decode cX7_taken 21 = .ok (.dup, 1) := by decide +kernel
theorem dX7_taken_22 : decode cX7_taken 22 = .ok (.ldc 163, 2) := by decide +kernel
theorem dX7_taken_24 : decode cX7_taken 24 = .ok (.invokespecial 138, 3) := by decide +kernel
theorem dX7_taken_27 : decode cX7_taken 27 = .ok (.athrow, 1) := by decide +kernel
theorem dX7_taken_28 : decode cX7_taken 28 = .ok (.aload_n 0, 1) := by decide +kernel
theorem dX7_taken_29 : decode cX7_taken 29 = .ok (.getfield 19, 3) := by decide +kernel
theorem dX7_taken_32 : decode cX7_taken 32 = .ok (.getfield 80, 3) := by decide +kernel
theorem dX7_taken_35 : decode cX7_taken 35 = .ok (.iload_n 1, 1) := by decide +kernel
theorem dX7_taken_36 : decode cX7_taken 36 = .ok (.invokevirtual 165, 3) := by decide +kernel
theorem dX7_taken_39 : decode cX7_taken 39 = .ok (.ireturn, 1) := by decide +kernel
set_option maxRecDepth 20000 in
theorem ggX7_setting_X7_isSetting : GoodIn wsX7_setting wsX7_isSetting := goodIn_r _ [7] (by decide +kernel) (by decide +kernel)
set_option maxRecDepth 20000 in
theorem gX7_setting_X7_isSetting : GoodIn wsX7_setting (va_wsS RX7 168 yX7_isSetting wsX7_isSetting) := goodIn_app (goodIn_of _ (by decide +kernel)) ggX7_setting_X7_isSetting
set_option maxRecDepth 20000 in
theorem ggX7_setting_X6_settingAt : GoodIn wsX7_setting wsX6_settingAt := goodIn_r _ [12, 13, 5, 6, 7, 19, 20, 21, 22, 23, 24] (by decide +kernel) (by decide +kernel)
set_option maxRecDepth 20000 in
theorem gX7_setting_X6_settingAt : GoodIn wsX7_setting (wsV RX7 173 RX6 yX6_settingAt wsX6_settingAt) := goodIn_app (goodIn_of _ (by decide +kernel)) ggX7_setting_X6_settingAt
theorem dX7_setting_0 : decode cX7_setting 0 = .ok (.iload_n 1, 1) := by decide +kernel
theorem dX7_setting_1 : decode cX7_setting 1 = .ok (.invokestatic 168, 3) := by decide +kernel
theorem dX7_setting_4 : decode cX7_setting 4 = .ok (.ifCond .ne 13, 3) := by decide +kernel
theorem dX7_setting_7 : decode cX7_setting 7 = .ok (.new 40, 3) := by decide +kernel
theorem dX7_setting_10 : decode cX7_setting 10 = .ok (.dup, 1) := by decide +kernel
theorem dX7_setting_11 : decode cX7_setting 11 = .ok (.ldc 171, 2) := by decide +kernel
theorem dX7_setting_13 : decode cX7_setting 13 = .ok (.invokespecial 44, 3) := by decide +kernel
theorem dX7_setting_16 : decode cX7_setting 16 = .ok (.athrow, 1) := by decide +kernel
theorem dX7_setting_17 : decode cX7_setting 17 = .ok (.aload_n 0, 1) := by decide +kernel
theorem dX7_setting_18 : decode cX7_setting 18 = .ok (.getfield 19, 3) := by decide +kernel
theorem dX7_setting_21 : decode cX7_setting 21 = .ok (.iload_n 1, 1) := by decide +kernel
theorem dX7_setting_22 : decode cX7_setting 22 = .ok (.invokevirtual 173, 3) := by decide +kernel
theorem dX7_setting_25 : decode cX7_setting 25 = .ok (.ireturn, 1) := by decide +kernel
set_option maxRecDepth 20000 in
theorem ggX7_begin_X1_remember : GoodIn wsX7_begin wsX1_remember := goodIn_r _ [7, 8, 9, 10, 11, 12, 13, 14, 15, 16, 17, 18, 19, 20, 21, 22, 23, 24, 25, 26, 27, 28, 29, 30, 31, 32, 33, 34, 35, 36, 37, 38, 39, 40, 41, 42, 43, 44, 45, 46, 84, 85, 86, 87, 88, 89, 90, 91, 92, 93, 94, 95, 96, 97, 98, 99, 100, 101] (by decide +kernel) (by decide +kernel)
set_option maxRecDepth 20000 in
theorem gX7_begin_X1_remember : GoodIn wsX7_begin (wsV RX7 176 RX1 yX1_remember wsX1_remember) := goodIn_app (goodIn_of _ (by decide +kernel)) ggX7_begin_X1_remember
set_option maxRecDepth 20000 in
theorem ggX7_begin_X6_beginGame : GoodIn wsX7_begin wsX6_beginGame := goodIn_r _ [50, 25, 24, 51, 52, 53, 41, 54, 55, 56, 57, 58, 59, 60, 61, 62, 46, 44, 45, 63, 64, 65, 66, 43, 67, 68, 69, 70, 71, 72, 73, 33, 74, 35, 36, 37, 75, 76, 77, 78, 87, 88, 89, 90, 91, 92, 98, 99, 100, 101, 93, 94, 95, 96, 97] (by decide +kernel) (by decide +kernel)
set_option maxRecDepth 20000 in
theorem gX7_begin_X6_beginGame : GoodIn wsX7_begin (wsV RX7 180 RX6 yX6_beginGame wsX6_beginGame) := goodIn_app (goodIn_of _ (by decide +kernel)) ggX7_begin_X6_beginGame
theorem dX7_begin_0 : decode cX7_begin 0 = .ok (.aload_n 0, 1) := by decide +kernel
theorem dX7_begin_1 : decode cX7_begin 1 = .ok (.getfield 29, 3) := by decide +kernel
theorem dX7_begin_4 : decode cX7_begin 4 = .ok (.aload_n 0, 1) := by decide +kernel
theorem dX7_begin_5 : decode cX7_begin 5 = .ok (.getfield 19, 3) := by decide +kernel
theorem dX7_begin_8 : decode cX7_begin 8 = .ok (.invokevirtual 176, 3) := by decide +kernel
theorem dX7_begin_11 : decode cX7_begin 11 = .ok (.aload_n 0, 1) := by decide +kernel
theorem dX7_begin_12 : decode cX7_begin 12 = .ok (.getfield 19, 3) := by decide +kernel
theorem dX7_begin_15 : decode cX7_begin 15 = .ok (.invokevirtual 180, 3) := by decide +kernel
theorem dX7_begin_18 : decode cX7_begin 18 = .ok (.ireturn, 1) := by decide +kernel
set_option maxRecDepth 20000 in
theorem ggX7_roll_X7_isBall : GoodIn wsX7_roll wsX7_isBall := goodIn_r _ [10] (by decide +kernel) (by decide +kernel)
set_option maxRecDepth 20000 in
theorem gX7_roll_X7_isBall : GoodIn wsX7_roll (va_wsS RX7 183 yX7_isBall wsX7_isBall) := goodIn_app (goodIn_of _ (by decide +kernel)) ggX7_roll_X7_isBall
set_option maxRecDepth 20000 in
theorem ggX7_roll_X7_isSpeed : GoodIn wsX7_roll wsX7_isSpeed := goodIn_r _ [13] (by decide +kernel) (by decide +kernel)
set_option maxRecDepth 20000 in
theorem gX7_roll_X7_isSpeed : GoodIn wsX7_roll (va_wsS RX7 187 yX7_isSpeed wsX7_isSpeed) := goodIn_app (goodIn_of _ (by decide +kernel)) ggX7_roll_X7_isSpeed
set_option maxRecDepth 20000 in
theorem ggX7_roll_X4_isOver : GoodIn wsX7_roll wsX4_isOver := goodIn_r _ [18, 19, 168, 169, 170, 171] (by decide +kernel) (by decide +kernel)
set_option maxRecDepth 20000 in
theorem gX7_roll_X4_isOver : GoodIn wsX7_roll (wsV RX7 125 RX4 yX4_isOver wsX4_isOver) := goodIn_app (goodIn_of _ (by decide +kernel)) ggX7_roll_X4_isOver
set_option maxRecDepth 20000 in
theorem ggX7_roll_X1_remember : GoodIn wsX7_roll wsX1_remember := goodIn_r _ [24, 25, 26, 27, 28, 29, 30, 31, 32, 33, 34, 35, 36, 37, 38, 39, 40, 41, 42, 43, 44, 45, 46, 47, 48, 49, 50, 51, 52, 53, 54, 55, 56, 57, 17, 58, 59, 60, 61, 19, 172, 173, 174, 162, 163, 164, 165, 166, 167, 175, 176, 177, 178, 179, 168, 169, 170, 171] (by decide +kernel) (by decide +kernel)
set_option maxRecDepth 20000 in
theorem gX7_roll_X1_remember : GoodIn wsX7_roll (wsV RX7 176 RX1 yX1_remember wsX1_remember) := goodIn_app (goodIn_of _ (by decide +kernel)) ggX7_roll_X1_remember
set_option maxRecDepth 20000 in
theorem ggX7_roll_X6_bowl : GoodIn wsX7_roll wsX6_bowl := goodIn_r _ [65, 44, 46, 41, 43, 42, 45, 66, 67, 68, 39, 69, 70, 71, 72, 50, 73, 74, 75, 76, 77, 78, 79, 53, 80, 29, 30, 31, 81, 82, 83, 84, 85, 86, 87, 52, 88, 89, 90, 91, 92, 93, 94, 95, 96, 97, 98, 99, 100, 101, 102, 103, 104, 105, 106, 107, 54, 108, 109, 110, 111, 112, 113, 114, 115, 116, 117, 118, 119, 120, 17, 121, 19, 61, 59, 60, 122, 123, 124, 125, 126, 127, 128, 129, 130, 131, 132, 133, 134, 135, 136, 137, 138, 139, 140, 141, 142, 15, 16, 18, 143, 144, 145, 146, 147, 148, 149, 150, 151, 152, 153, 154, 155, 156, 162, 163, 164, 165, 166, 167, 175, 176, 177, 178, 179, 168, 169, 170, 171] (by decide +kernel) (by decide +kernel)
set_option maxRecDepth 20000 in
theorem gX7_roll_X6_bowl : GoodIn wsX7_roll (wsV RX7 194 RX6 yX6_bowl wsX6_bowl) := goodIn_app (goodIn_of _ (by decide +kernel)) ggX7_roll_X6_bowl
theorem dX7_roll_0 : decode cX7_roll 0 = .ok (.iload_n 1, 1) := by decide +kernel
theorem dX7_roll_1 : decode cX7_roll 1 = .ok (.iload_n 2, 1) := by decide +kernel
theorem dX7_roll_2 : decode cX7_roll 2 = .ok (.invokestatic 183, 3) := by decide +kernel
theorem dX7_roll_5 : decode cX7_roll 5 = .ok (.ifCond .eq 10, 3) := by decide +kernel
theorem dX7_roll_8 : decode cX7_roll 8 = .ok (.iload_n 3, 1) := by decide +kernel
theorem dX7_roll_9 : decode cX7_roll 9 = .ok (.invokestatic 187, 3) := by decide +kernel
theorem dX7_roll_12 : decode cX7_roll 12 = .ok (.ifCond .ne 13, 3) := by decide +kernel
theorem dX7_roll_15 : decode cX7_roll 15 = .ok (.new 40, 3) := by decide +kernel
theorem dX7_roll_18 : decode cX7_roll 18 = .ok (.dup, 1) := by decide +kernel
theorem dX7_roll_19 : decode cX7_roll 19 = .ok (.ldc 190, 2) := by decide +kernel
theorem dX7_roll_21 : decode cX7_roll 21 = .ok (.invokespecial 44, 3) := by decide +kernel
theorem dX7_roll_24 : decode cX7_roll 24 = .ok (.athrow, 1) := by decide +kernel
theorem dX7_roll_25 : decode cX7_roll 25 = .ok (.aload_n 0, 1) := by decide +kernel
theorem dX7_roll_26 : decode cX7_roll 26 = .ok (.getfield 19, 3) := by decide +kernel
theorem dX7_roll_29 : decode cX7_roll 29 = .ok (.getfield 80, 3) := by decide +kernel
theorem dX7_roll_32 : decode cX7_roll 32 = .ok (.invokevirtual 125, 3) := by decide +kernel
theorem dX7_roll_35 : decode cX7_roll 35 = .ok (.ifCond .eq 13, 3) := by decide +kernel
theorem dX7_roll_38 : decode cX7_roll 38 = .ok (.new 51, 3) := by decide +kernel
theorem dX7_roll_41 : decode cX7_roll 41 = .ok (.dup, 1) := by decide +kernel
theorem dX7_roll_42 : decode cX7_roll 42 = .ok (.ldc 192, 2) := by decide +kernel
theorem dX7_roll_44 : decode cX7_roll 44 = .ok (.invokespecial 55, 3) := by decide +kernel
theorem dX7_roll_47 : decode cX7_roll 47 = .ok (.athrow, 1) := by decide +kernel
theorem dX7_roll_48 : decode cX7_roll 48 = .ok (.aload_n 0, 1) := by decide +kernel
theorem dX7_roll_49 : decode cX7_roll 49 = .ok (.getfield 29, 3) := by decide +kernel
theorem dX7_roll_52 : decode cX7_roll 52 = .ok (.aload_n 0, 1) := by decide +kernel
theorem dX7_roll_53 : decode cX7_roll 53 = .ok (.getfield 19, 3) := by decide +kernel
theorem dX7_roll_56 : decode cX7_roll 56 = .ok (.invokevirtual 176, 3) := by decide +kernel
theorem dX7_roll_59 : decode cX7_roll 59 = .ok (.aload_n 0, 1) := by decide +kernel
theorem dX7_roll_60 : decode cX7_roll 60 = .ok (.getfield 19, 3) := by decide +kernel
theorem dX7_roll_63 : decode cX7_roll 63 = .ok (.iload_n 1, 1) := by decide +kernel
theorem dX7_roll_64 : decode cX7_roll 64 = .ok (.iload_n 2, 1) := by decide +kernel
theorem dX7_roll_65 : decode cX7_roll 65 = .ok (.iload_n 3, 1) := by decide +kernel
theorem dX7_roll_66 : decode cX7_roll 66 = .ok (.iload 4, 2) := by decide +kernel
theorem dX7_roll_68 : decode cX7_roll 68 = .ok (.invokevirtual 194, 3) := by decide +kernel
theorem dX7_roll_71 : decode cX7_roll 71 = .ok (.ireturn, 1) := by decide +kernel
set_option maxRecDepth 20000 in
theorem ggX7_touch_X7_isPin : GoodIn wsX7_touch wsX7_isPin := goodIn_r _ [12] (by decide +kernel) (by decide +kernel)
set_option maxRecDepth 20000 in
theorem gX7_touch_X7_isPin : GoodIn wsX7_touch (va_wsS RX7 130 yX7_isPin wsX7_isPin) := goodIn_app (goodIn_of _ (by decide +kernel)) ggX7_touch_X7_isPin
set_option maxRecDepth 20000 in
theorem ggX7_touch_X7_isLeaning : GoodIn wsX7_touch wsX7_isLeaning := goodIn_r _ [15] (by decide +kernel) (by decide +kernel)
set_option maxRecDepth 20000 in
theorem gX7_touch_X7_isLeaning : GoodIn wsX7_touch (va_wsS RX7 198 yX7_isLeaning wsX7_isLeaning) := goodIn_app (goodIn_of _ (by decide +kernel)) ggX7_touch_X7_isLeaning
set_option maxRecDepth 20000 in
theorem ggX7_touch_X2_isUp : GoodIn wsX7_touch wsX2_isUp := goodIn_r _ [20, 21, 84, 85, 86, 87, 88] (by decide +kernel) (by decide +kernel)
set_option maxRecDepth 20000 in
theorem gX7_touch_X2_isUp : GoodIn wsX7_touch (wsV RX7 203 RX2 yX2_isUp wsX2_isUp) := goodIn_app (goodIn_of _ (by decide +kernel)) ggX7_touch_X2_isUp
set_option maxRecDepth 20000 in
theorem ggX7_touch_X1_remember : GoodIn wsX7_touch wsX1_remember := goodIn_r _ [26, 27, 28, 29, 30, 31, 32, 33, 34, 35, 36, 37, 38, 39, 40, 41, 42, 43, 44, 45, 46, 47, 48, 49, 50, 51, 19, 52, 21, 53, 54, 55, 56, 57, 58, 59, 60, 61, 62, 63, 89, 90, 91, 78, 79, 80, 81, 82, 83, 84, 85, 86, 87, 88, 92, 93, 94, 95] (by decide +kernel) (by decide +kernel)
set_option maxRecDepth 20000 in
theorem gX7_touch_X1_remember : GoodIn wsX7_touch (wsV RX7 176 RX1 yX1_remember wsX1_remember) := goodIn_app (goodIn_of _ (by decide +kernel)) ggX7_touch_X1_remember
set_option maxRecDepth 20000 in
theorem ggX7_touch_X2_makeLean : GoodIn wsX7_touch wsX2_makeLean := goodIn_r _ [67, 21, 68, 69, 70, 19, 71, 10, 11, 12, 72, 17, 18, 20, 84, 85, 86, 87, 88] (by decide +kernel) (by decide +kernel)
set_option maxRecDepth 20000 in
theorem gX7_touch_X2_makeLean : GoodIn wsX7_touch (wsV RX7 208 RX2 yX2_makeLean wsX2_makeLean) := goodIn_app (goodIn_of _ (by decide +kernel)) ggX7_touch_X2_makeLean
theorem dX7_touch_0 : decode cX7_touch 0 = .ok (.iload_n 1, 1) := by decide +kernel
theorem dX7_touch_1 : decode cX7_touch 1 = .ok (.invokestatic 130, 3) := by decide +kernel
theorem dX7_touch_4 : decode cX7_touch 4 = .ok (.ifCond .ne 13, 3) := by decide +kernel
theorem dX7_touch_7 : decode cX7_touch 7 = .ok (.new 134, 3) := by decide +kernel
theorem dX7_touch_10 : decode cX7_touch 10 = .ok (.dup, 1) := by decide +kernel
theorem dX7_touch_11 : decode cX7_touch 11 = .ok (.ldc 136, 2) := by decide +kernel
theorem dX7_touch_13 : decode cX7_touch 13 = .ok (.invokespecial 138, 3) := by decide +kernel
theorem dX7_touch_16 : decode cX7_touch 16 = .ok (.athrow, 1) := by decide +kernel
theorem dX7_touch_17 : decode cX7_touch 17 = .ok (.iload_n 2, 1) := by decide +kernel
theorem dX7_touch_18 : decode cX7_touch 18 = .ok (.invokestatic 198, 3) := by decide +kernel
theorem dX7_touch_21 : decode cX7_touch 21 = .ok (.ifCond .ne 13, 3) := by decide +kernel
theorem dX7_touch_24 : decode cX7_touch 24 = .ok (.new 40, 3) := by decide +kernel
theorem dX7_touch_27 : decode cX7_touch 27 = .ok (.dup, 1) := by decide +kernel
theorem dX7_touch_28 : decode cX7_touch 28 = .ok (.ldc 201, 2) := by decide +kernel
theorem dX7_touch_30 : decode cX7_touch 30 = .ok (.invokespecial 44, 3) := by decide +kernel
theorem dX7_touch_33 : decode cX7_touch 33 = .ok (.athrow, 1) := by decide +kernel
theorem dX7_touch_34 : decode cX7_touch 34 = .ok (.aload_n 0, 1) := by decide +kernel
theorem dX7_touch_35 : decode cX7_touch 35 = .ok (.getfield 19, 3) := by decide +kernel
theorem dX7_touch_38 : decode cX7_touch 38 = .ok (.getfield 108, 3) := by decide +kernel
theorem dX7_touch_41 : decode cX7_touch 41 = .ok (.iload_n 1, 1) := by decide +kernel
theorem dX7_touch_42 : decode cX7_touch 42 = .ok (.invokevirtual 203, 3) := by decide +kernel
theorem dX7_touch_45 : decode cX7_touch 45 = .ok (.ifCond .ne 13, 3) := by decide +kernel
theorem dX7_touch_48 : decode cX7_touch 48 = .ok (.new 51, 3) := by decide +kernel
theorem dX7_touch_51 : decode cX7_touch 51 = .ok (.dup, 1) := by decide +kernel
theorem dX7_touch_52 : decode cX7_touch 52 = .ok (.ldc 206, 2) := by decide +kernel
theorem dX7_touch_54 : decode cX7_touch 54 = .ok (.invokespecial 55, 3) := by decide +kernel
theorem dX7_touch_57 : decode cX7_touch 57 = .ok (.athrow, 1) := by decide +kernel
theorem dX7_touch_58 : decode cX7_touch 58 = .ok (.aload_n 0, 1) := by decide +kernel
theorem dX7_touch_59 : decode cX7_touch 59 = .ok (.getfield 29, 3) := by decide +kernel
theorem dX7_touch_62 : decode cX7_touch 62 = .ok (.aload_n 0, 1) := by decide +kernel
theorem dX7_touch_63 : decode cX7_touch 63 = .ok (.getfield 19, 3) := by decide +kernel
theorem dX7_touch_66 : decode cX7_touch 66 = .ok (.invokevirtual 176, 3) := by decide +kernel
theorem dX7_touch_69 : decode cX7_touch 69 = .ok (.aload_n 0, 1) := by decide +kernel
theorem dX7_touch_70 : decode cX7_touch 70 = .ok (.getfield 19, 3) := by decide +kernel
theorem dX7_touch_73 : decode cX7_touch 73 = .ok (.getfield 108, 3) := by decide +kernel
theorem dX7_touch_76 : decode cX7_touch 76 = .ok (.iload_n 1, 1) := by decide +kernel
theorem dX7_touch_77 : decode cX7_touch 77 = .ok (.iload_n 2, 1) := by decide +kernel
theorem dX7_touch_78 : decode cX7_touch 78 = .ok (.invokevirtual 208, 3) := by decide +kernel
theorem dX7_touch_81 : decode cX7_touch 81 = .ok (.ireturn, 1) := by decide +kernel
set_option maxRecDepth 20000 in
theorem ggX7_set_X7_isSetting : GoodIn wsX7_set wsX7_isSetting := goodIn_r _ [8] (by decide +kernel) (by decide +kernel)
set_option maxRecDepth 20000 in
theorem gX7_set_X7_isSetting : GoodIn wsX7_set (va_wsS RX7 168 yX7_isSetting wsX7_isSetting) := goodIn_app (goodIn_of _ (by decide +kernel)) ggX7_set_X7_isSetting
set_option maxRecDepth 20000 in
theorem ggX7_set_X7_isValue : GoodIn wsX7_set wsX7_isValue := goodIn_r _ [11, 12, 13, 7, 14] (by decide +kernel) (by decide +kernel)
set_option maxRecDepth 20000 in
theorem gX7_set_X7_isValue : GoodIn wsX7_set (va_wsS RX7 212 yX7_isValue wsX7_isValue) := goodIn_app (goodIn_of _ (by decide +kernel)) ggX7_set_X7_isValue
set_option maxRecDepth 20000 in
theorem ggX7_set_X1_remember : GoodIn wsX7_set wsX1_remember := goodIn_r _ [19, 20, 21, 22, 23, 24, 25, 26, 27, 28, 29, 30, 31, 32, 33, 34, 35, 36, 37, 38, 39, 40, 41, 42, 43, 44, 45, 46, 47, 48, 49, 50, 51, 52, 53, 54, 55, 56, 57, 58, 72, 73, 74, 75, 76, 77, 78, 79, 80, 81, 82, 83, 84, 85, 86, 87, 88, 89] (by decide +kernel) (by decide +kernel)
set_option maxRecDepth 20000 in
theorem gX7_set_X1_remember : GoodIn wsX7_set (wsV RX7 176 RX1 yX1_remember wsX1_remember) := goodIn_app (goodIn_of _ (by decide +kernel)) ggX7_set_X1_remember
set_option maxRecDepth 20000 in
theorem ggX7_set_X6_change : GoodIn wsX7_set wsX6_change := goodIn_r _ [62, 38, 63, 64, 65, 34, 66, 6, 7, 8, 75, 76, 77, 78, 79, 80] (by decide +kernel) (by decide +kernel)
set_option maxRecDepth 20000 in
theorem gX7_set_X6_change : GoodIn wsX7_set (wsV RX7 217 RX6 yX6_change wsX6_change) := goodIn_app (goodIn_of _ (by decide +kernel)) ggX7_set_X6_change
theorem dX7_set_0 : decode cX7_set 0 = .ok (.iload_n 1, 1) := by decide +kernel
theorem dX7_set_1 : decode cX7_set 1 = .ok (.invokestatic 168, 3) := by decide +kernel
theorem dX7_set_4 : decode cX7_set 4 = .ok (.ifCond .eq 11, 3) := by decide +kernel
theorem dX7_set_7 : decode cX7_set 7 = .ok (.iload_n 1, 1) := by decide +kernel
theorem dX7_set_8 : decode cX7_set 8 = .ok (.iload_n 2, 1) := by decide +kernel
theorem dX7_set_9 : decode cX7_set 9 = .ok (.invokestatic 212, 3) := by decide +kernel
theorem dX7_set_12 : decode cX7_set 12 = .ok (.ifCond .ne 13, 3) := by decide +kernel
theorem dX7_set_15 : decode cX7_set 15 = .ok (.new 40, 3) := by decide +kernel
theorem dX7_set_18 : decode cX7_set 18 = .ok (.dup, 1) := by decide +kernel
theorem dX7_set_19 : decode cX7_set 19 = .ok (.ldc 215, 2) := by decide +kernel
theorem dX7_set_21 : decode cX7_set 21 = .ok (.invokespecial 44, 3) := by decide +kernel
theorem dX7_set_24 : decode cX7_set 24 = .ok (.athrow, 1) := by decide +kernel
theorem dX7_set_25 : decode cX7_set 25 = .ok (.aload_n 0, 1) := by decide +kernel
theorem dX7_set_26 : decode cX7_set 26 = .ok (.getfield 29, 3) := by decide +kernel
theorem dX7_set_29 : decode cX7_set 29 = .ok (.aload_n 0, 1) := by decide +kernel
theorem dX7_set_30 : decode cX7_set 30 = .ok (.getfield 19, 3) := by decide +kernel
theorem dX7_set_33 : decode cX7_set 33 = .ok (.invokevirtual 176, 3) := by decide +kernel
theorem dX7_set_36 : decode cX7_set 36 = .ok (.aload_n 0, 1) := by decide +kernel
theorem dX7_set_37 : decode cX7_set 37 = .ok (.getfield 19, 3) := by decide +kernel
theorem dX7_set_40 : decode cX7_set 40 = .ok (.iload_n 1, 1) := by decide +kernel
theorem dX7_set_41 : decode cX7_set 41 = .ok (.iload_n 2, 1) := by decide +kernel
theorem dX7_set_42 : decode cX7_set 42 = .ok (.invokevirtual 217, 3) := by decide +kernel
theorem dX7_set_45 : decode cX7_set 45 = .ok (.ireturn, 1) := by decide +kernel
set_option maxRecDepth 20000 in
theorem ggX7_undo_X1_isEmpty : GoodIn wsX7_undo wsX1_isEmpty := goodIn_r _ [9, 10, 58, 59, 60] (by decide +kernel) (by decide +kernel)
set_option maxRecDepth 20000 in
theorem gX7_undo_X1_isEmpty : GoodIn wsX7_undo (wsV RX7 220 RX1 yX1_isEmpty wsX1_isEmpty) := goodIn_app (goodIn_of _ (by decide +kernel)) ggX7_undo_X1_isEmpty
set_option maxRecDepth 20000 in
theorem ggX7_undo_X1_takeBack : GoodIn wsX7_undo wsX1_takeBack := goodIn_r _ [14, 15, 10, 16, 17, 18, 19, 20, 21, 22, 23, 24, 25, 26, 27, 28, 29, 30, 31, 32, 33, 34, 35, 36, 37, 38, 39, 40, 41, 42, 43, 44, 45, 46, 47, 48, 49, 50, 51, 52, 58, 59, 60, 61, 62, 63, 64, 65, 66, 67, 68, 69, 70, 71, 72, 73, 74, 75] (by decide +kernel) (by decide +kernel)
set_option maxRecDepth 20000 in
theorem gX7_undo_X1_takeBack : GoodIn wsX7_undo (wsV RX7 225 RX1 yX1_takeBack wsX1_takeBack) := goodIn_app (goodIn_of _ (by decide +kernel)) ggX7_undo_X1_takeBack
theorem dX7_undo_0 : decode cX7_undo 0 = .ok (.aload_n 0, 1) := by decide +kernel
theorem dX7_undo_1 : decode cX7_undo 1 = .ok (.getfield 29, 3) := by decide +kernel
theorem dX7_undo_4 : decode cX7_undo 4 = .ok (.invokevirtual 220, 3) := by decide +kernel
theorem dX7_undo_7 : decode cX7_undo 7 = .ok (.ifCond .eq 13, 3) := by decide +kernel
theorem dX7_undo_10 : decode cX7_undo 10 = .ok (.new 51, 3) := by decide +kernel
theorem dX7_undo_13 : decode cX7_undo 13 = .ok (.dup, 1) := by decide +kernel
theorem dX7_undo_14 : decode cX7_undo 14 = .ok (.ldc 223, 2) := by decide +kernel
theorem dX7_undo_16 : decode cX7_undo 16 = .ok (.invokespecial 55, 3) := by decide +kernel
theorem dX7_undo_19 : decode cX7_undo 19 = .ok (.athrow, 1) := by decide +kernel
theorem dX7_undo_20 : decode cX7_undo 20 = .ok (.aload_n 0, 1) := by decide +kernel
theorem dX7_undo_21 : decode cX7_undo 21 = .ok (.getfield 29, 3) := by decide +kernel
theorem dX7_undo_24 : decode cX7_undo 24 = .ok (.aload_n 0, 1) := by decide +kernel
theorem dX7_undo_25 : decode cX7_undo 25 = .ok (.getfield 19, 3) := by decide +kernel
theorem dX7_undo_28 : decode cX7_undo 28 = .ok (.invokevirtual 225, 3) := by decide +kernel
theorem dX7_undo_31 : decode cX7_undo 31 = .ok (.ireturn, 1) := by decide +kernel
set_option maxRecDepth 20000 in
theorem ggX7_would_X7_isBall : GoodIn wsX7_would wsX7_isBall := goodIn_r _ [7] (by decide +kernel) (by decide +kernel)
set_option maxRecDepth 20000 in
theorem gX7_would_X7_isBall : GoodIn wsX7_would (va_wsS RX7 183 yX7_isBall wsX7_isBall) := goodIn_app (goodIn_of _ (by decide +kernel)) ggX7_would_X7_isBall
set_option maxRecDepth 20000 in
theorem ggX7_would_X7_takesOnTrial : GoodIn wsX7_would wsX7_takesOnTrial := goodIn_r _ [11, 3, 12, 13, 14, 15, 16, 17, 18, 19, 20, 21, 22, 23, 24, 25, 26, 27, 28, 29, 30, 31, 32, 33, 34, 35, 36, 37, 38, 39, 40, 41, 42, 43, 44, 45, 46, 47, 48, 49, 50, 51, 52, 53, 54, 55, 56, 57, 58, 59, 60, 61, 62, 63, 64, 6, 65, 66, 67, 68, 69, 70, 71, 72, 73, 93, 94, 95, 96, 97, 98, 99, 100, 101, 102, 103, 104, 105, 106, 107, 108] (by decide +kernel) (by decide +kernel)
set_option maxRecDepth 20000 in
theorem gX7_would_X7_takesOnTrial : GoodIn wsX7_would (wsV RX7 228 RX7 yX7_takesOnTrial wsX7_takesOnTrial) := goodIn_app (goodIn_of _ (by decide +kernel)) ggX7_would_X7_takesOnTrial
set_option maxRecDepth 20000 in
theorem ggX7_would_X2_fellSet : GoodIn wsX7_would wsX2_fellSet := goodIn_r _ [77, 25, 26, 104, 105, 106, 107, 108] (by decide +kernel) (by decide +kernel)
set_option maxRecDepth 20000 in
theorem gX7_would_X2_fellSet : GoodIn wsX7_would (wsV RX7 231 RX2 yX2_fellSet wsX2_fellSet) := goodIn_app (goodIn_of _ (by decide +kernel)) ggX7_would_X2_fellSet
set_option maxRecDepth 20000 in
theorem ggX7_would_X2_leaningSet : GoodIn wsX7_would wsX2_leaningSet := goodIn_r _ [81, 82, 83, 84, 16, 85, 70, 71, 72, 73, 18, 104, 105, 106, 107, 108] (by decide +kernel) (by decide +kernel)
set_option maxRecDepth 20000 in
theorem gX7_would_X2_leaningSet : GoodIn wsX7_would (wsV RX7 234 RX2 yX2_leaningSet wsX2_leaningSet) := goodIn_app (goodIn_of _ (by decide +kernel)) ggX7_would_X2_leaningSet
set_option maxRecDepth 20000 in
theorem ggX7_would_J6_bitCount_0f7a4 : GoodIn wsX7_would wsJ6_bitCount_0f7a4 := goodIn_r _ [88, 89, 90, 91] (by decide +kernel) (by decide +kernel)
set_option maxRecDepth 20000 in
theorem gX7_would_J6_bitCount_0f7a4 : GoodIn wsX7_would (va_wsS RX7 117 yJ6_bitCount_0f7a4 wsJ6_bitCount_0f7a4) := goodIn_app (goodIn_of _ (by decide +kernel)) ggX7_would_J6_bitCount_0f7a4
set_option maxRecDepth 20000 in
theorem ggX7_would_X2_upSet : GoodIn wsX7_would wsX2_upSet := goodIn_r _ [85, 70, 71, 72, 16, 73, 18, 104, 105, 106, 107, 108] (by decide +kernel) (by decide +kernel)
set_option maxRecDepth 20000 in
theorem gX7_would_X2_upSet : GoodIn wsX7_would (wsV RX7 122 RX2 yX2_upSet wsX2_upSet) := goodIn_app (goodIn_of _ (by decide +kernel)) ggX7_would_X2_upSet
theorem dX7_would_0 : decode cX7_would 0 = .ok (.iload_n 1, 1) := by decide +kernel
theorem dX7_would_1 : decode cX7_would 1 = .ok (.iload_n 2, 1) := by decide +kernel
theorem dX7_would_2 : decode cX7_would 2 = .ok (.invokestatic 183, 3) := by decide +kernel
theorem dX7_would_5 : decode cX7_would 5 = .ok (.ifCond .ne 13, 3) := by decide +kernel
theorem dX7_would_8 : decode cX7_would 8 = .ok (.new 40, 3) := by decide +kernel
theorem dX7_would_11 : decode cX7_would 11 = .ok (.dup, 1) := by decide +kernel
theorem dX7_would_12 : decode cX7_would 12 = .ok (.ldc 190, 2) := by decide +kernel
theorem dX7_would_14 : decode cX7_would 14 = .ok (.invokespecial 44, 3) := by decide +kernel
theorem dX7_would_17 : decode cX7_would 17 = .ok (.athrow, 1) := by decide +kernel
theorem dX7_would_18 : decode cX7_would 18 = .ok (.aload_n 0, 1) := by decide +kernel
theorem dX7_would_19 : decode cX7_would 19 = .ok (.iload_n 1, 1) := by decide +kernel
theorem dX7_would_20 : decode cX7_would 20 = .ok (.iload_n 2, 1) := by decide +kernel
theorem dX7_would_21 : decode cX7_would 21 = .ok (.invokevirtual 228, 3) := by decide +kernel
theorem dX7_would_24 : decode cX7_would 24 = .ok (.istore 4, 2) := by decide +kernel
theorem dX7_would_26 : decode cX7_would 26 = .ok (.iload_n 3, 1) := by decide +kernel
theorem dX7_would_27 : decode cX7_would 27 = .ok (.tableswitch 74 0 3 #[29, 40, 51, 57], 29) := by decide +kernel
theorem dX7_would_56 : decode cX7_would 56 = .ok (.aload_n 0, 1) := by decide +kernel
theorem dX7_would_57 : decode cX7_would 57 = .ok (.getfield 23, 3) := by decide +kernel
theorem dX7_would_60 : decode cX7_would 60 = .ok (.getfield 108, 3) := by decide +kernel
theorem dX7_would_63 : decode cX7_would 63 = .ok (.invokevirtual 231, 3) := by decide +kernel
theorem dX7_would_66 : decode cX7_would 66 = .ok (.ireturn, 1) := by decide +kernel
theorem dX7_would_67 : decode cX7_would 67 = .ok (.aload_n 0, 1) := by decide +kernel
theorem dX7_would_68 : decode cX7_would 68 = .ok (.getfield 23, 3) := by decide +kernel
theorem dX7_would_71 : decode cX7_would 71 = .ok (.getfield 108, 3) := by decide +kernel
theorem dX7_would_74 : decode cX7_would 74 = .ok (.invokevirtual 234, 3) := by decide +kernel
theorem dX7_would_77 : decode cX7_would 77 = .ok (.ireturn, 1) := by decide +kernel
theorem dX7_would_78 : decode cX7_would 78 = .ok (.iload 4, 2) := by decide +kernel
theorem dX7_would_80 : decode cX7_would 80 = .ok (.invokestatic 117, 3) := by decide +kernel
theorem dX7_would_83 : decode cX7_would 83 = .ok (.ireturn, 1) := by decide +kernel
theorem dX7_would_84 : decode cX7_would 84 = .ok (.iload 4, 2) := by decide +kernel
theorem dX7_would_86 : decode cX7_would 86 = .ok (.aload_n 0, 1) := by decide +kernel
theorem dX7_would_87 : decode cX7_would 87 = .ok (.getfield 23, 3) := by decide +kernel
theorem dX7_would_90 : decode cX7_would 90 = .ok (.getfield 108, 3) := by decide +kernel
theorem dX7_would_93 : decode cX7_would 93 = .ok (.invokevirtual 122, 3) := by decide +kernel
theorem dX7_would_96 : decode cX7_would 96 = .ok (.iand, 1) := by decide +kernel
theorem dX7_would_97 : decode cX7_would 97 = .ok (.invokestatic 117, 3) := by decide +kernel
theorem dX7_would_100 : decode cX7_would 100 = .ok (.ireturn, 1) := by decide +kernel
theorem dX7_would_101 : decode cX7_would 101 = .ok (.new 40, 3) := by decide +kernel
theorem dX7_would_104 : decode cX7_would 104 = .ok (.dup, 1) := by decide +kernel
theorem dX7_would_105 : decode cX7_would 105 = .ok (.ldc 148, 2) := by decide +kernel
theorem dX7_would_107 : decode cX7_would 107 = .ok (.invokespecial 44, 3) := by decide +kernel
theorem dX7_would_110 : decode cX7_would 110 = .ok (.athrow, 1) := by decide +kernel
set_option maxRecDepth 20000 in
theorem ggX7_bestBoard_X7_isBall : GoodIn wsX7_bestBoard wsX7_isBall := goodIn_r _ [6] (by decide +kernel) (by decide +kernel)
set_option maxRecDepth 20000 in
theorem gX7_bestBoard_X7_isBall : GoodIn wsX7_bestBoard (va_wsS RX7 183 yX7_isBall wsX7_isBall) := goodIn_app (goodIn_of _ (by decide +kernel)) ggX7_bestBoard_X7_isBall
set_option maxRecDepth 20000 in
theorem ggX7_bestBoard_X7_takesOnTrial : GoodIn wsX7_bestBoard wsX7_takesOnTrial := goodIn_r _ [10, 11, 12, 13, 14, 15, 16, 17, 18, 19, 20, 21, 22, 23, 24, 25, 26, 27, 28, 29, 30, 31, 32, 33, 34, 35, 36, 37, 38, 39, 40, 41, 42, 43, 44, 45, 46, 47, 48, 49, 50, 51, 52, 53, 54, 55, 56, 57, 58, 59, 60, 61, 62, 63, 64, 5, 65, 66, 67, 68, 69, 70, 71, 72, 73, 80, 81, 82, 83, 84, 85, 86, 87, 88, 89, 90, 91, 92, 93, 94, 95] (by decide +kernel) (by decide +kernel)
set_option maxRecDepth 20000 in
theorem gX7_bestBoard_X7_takesOnTrial : GoodIn wsX7_bestBoard (wsV RX7 228 RX7 yX7_takesOnTrial wsX7_takesOnTrial) := goodIn_app (goodIn_of _ (by decide +kernel)) ggX7_bestBoard_X7_takesOnTrial
set_option maxRecDepth 20000 in
theorem ggX7_bestBoard_J6_bitCount_0f7a4 : GoodIn wsX7_bestBoard wsJ6_bitCount_0f7a4 := goodIn_r _ [76, 77, 78, 79] (by decide +kernel) (by decide +kernel)
set_option maxRecDepth 20000 in
theorem gX7_bestBoard_J6_bitCount_0f7a4 : GoodIn wsX7_bestBoard (va_wsS RX7 117 yJ6_bitCount_0f7a4 wsJ6_bitCount_0f7a4) := goodIn_app (goodIn_of _ (by decide +kernel)) ggX7_bestBoard_J6_bitCount_0f7a4
theorem dX7_bestBoard_0 : decode cX7_bestBoard 0 = .ok (.iconst 0, 1) := by decide +kernel
theorem dX7_bestBoard_1 : decode cX7_bestBoard 1 = .ok (.iload_n 1, 1) := by decide +kernel
theorem dX7_bestBoard_2 : decode cX7_bestBoard 2 = .ok (.invokestatic 183, 3) := by decide +kernel
theorem dX7_bestBoard_5 : decode cX7_bestBoard 5 = .ok (.ifCond .ne 13, 3) := by decide +kernel
theorem dX7_bestBoard_8 : decode cX7_bestBoard 8 = .ok (.new 40, 3) := by decide +kernel
theorem dX7_bestBoard_11 : decode cX7_bestBoard 11 = .ok (.dup, 1) := by decide +kernel
theorem dX7_bestBoard_12 : decode cX7_bestBoard 12 = .ok (.ldc 237, 2) := by decide +kernel
theorem dX7_bestBoard_14 : decode cX7_bestBoard 14 = .ok (.invokespecial 44, 3) := by decide +kernel
theorem dX7_bestBoard_17 : decode cX7_bestBoard 17 = .ok (.athrow, 1) := by decide +kernel
theorem dX7_bestBoard_18 : decode cX7_bestBoard 18 = .ok (.iconst 0, 1) := by decide +kernel
theorem dX7_bestBoard_19 : decode cX7_bestBoard 19 = .ok (.istore_n 2, 1) := by decide +kernel
theorem dX7_bestBoard_20 : decode cX7_bestBoard 20 = .ok (.iconst (-1), 1) := by decide +kernel
theorem dX7_bestBoard_21 : decode cX7_bestBoard 21 = .ok (.istore_n 3, 1) := by decide +kernel
theorem dX7_bestBoard_22 : decode cX7_bestBoard 22 = .ok (.iconst 0, 1) := by decide +kernel
theorem dX7_bestBoard_23 : decode cX7_bestBoard 23 = .ok (.istore 4, 2) := by decide +kernel
theorem dX7_bestBoard_25 : decode cX7_bestBoard 25 = .ok (.iload 4, 2) := by decide +kernel
theorem dX7_bestBoard_27 : decode cX7_bestBoard 27 = .ok (.bipush 40, 2) := by decide +kernel
theorem dX7_bestBoard_29 : decode cX7_bestBoard 29 = .ok (.if_icmp .gt 33, 3) := by decide +kernel
theorem dX7_bestBoard_32 : decode cX7_bestBoard 32 = .ok (.aload_n 0, 1) := by decide +kernel
theorem dX7_bestBoard_33 : decode cX7_bestBoard 33 = .ok (.iload 4, 2) := by decide +kernel
theorem dX7_bestBoard_35 : decode cX7_bestBoard 35 = .ok (.iload_n 1, 1) := by decide +kernel
theorem dX7_bestBoard_36 : decode cX7_bestBoard 36 = .ok (.invokevirtual 228, 3) := by decide +kernel
theorem dX7_bestBoard_39 : decode cX7_bestBoard 39 = .ok (.invokestatic 117, 3) := by decide +kernel
theorem dX7_bestBoard_42 : decode cX7_bestBoard 42 = .ok (.istore 5, 2) := by decide +kernel
theorem dX7_bestBoard_44 : decode cX7_bestBoard 44 = .ok (.iload 5, 2) := by decide +kernel
theorem dX7_bestBoard_46 : decode cX7_bestBoard 46 = .ok (.iload_n 3, 1) := by decide +kernel
theorem dX7_bestBoard_47 : decode cX7_bestBoard 47 = .ok (.if_icmp .le 9, 3) := by decide +kernel
theorem dX7_bestBoard_50 : decode cX7_bestBoard 50 = .ok (.iload 5, 2) := by decide +kernel
theorem dX7_bestBoard_52 : decode cX7_bestBoard 52 = .ok (.istore_n 3, 1) := by decide +kernel
theorem dX7_bestBoard_53 : decode cX7_bestBoard 53 = .ok (.iload 4, 2) := by decide +kernel
theorem dX7_bestBoard_55 : decode cX7_bestBoard 55 = .ok (.istore_n 2, 1) := by decide +kernel
theorem dX7_bestBoard_56 : decode cX7_bestBoard 56 = .ok (.iinc 4 1, 3) := by decide +kernel
theorem dX7_bestBoard_59 : decode cX7_bestBoard 59 = .ok (.goto (-34), 3) := by decide +kernel
theorem dX7_bestBoard_62 : decode cX7_bestBoard 62 = .ok (.iload_n 2, 1) := by decide +kernel
theorem dX7_bestBoard_63 : decode cX7_bestBoard 63 = .ok (.ireturn, 1) := by decide +kernel
set_option maxRecDepth 20000 in
theorem ggX7_takesOnTrial_X2_copyFrom : GoodIn wsX7_takesOnTrial wsX2_copyFrom := goodIn_r _ [7, 8, 9, 10, 76, 77, 78, 79, 80] (by decide +kernel) (by decide +kernel)
set_option maxRecDepth 20000 in
theorem gX7_takesOnTrial_X2_copyFrom : GoodIn wsX7_takesOnTrial (wsV RX7 239 RX2 yX2_copyFrom wsX2_copyFrom) := goodIn_app (goodIn_of _ (by decide +kernel)) ggX7_takesOnTrial_X2_copyFrom
set_option maxRecDepth 20000 in
theorem ggX7_takesOnTrial_X2_meetBall : GoodIn wsX7_takesOnTrial wsX2_meetBall := goodIn_r _ [14, 15, 16, 17, 18, 19, 6, 20, 9, 21, 22, 23, 24, 25, 26, 27, 28, 29, 30, 31, 8, 32, 33, 34, 35, 36, 37, 38, 39, 40, 41, 42, 43, 44, 45, 46, 47, 76, 77, 78, 79, 80] (by decide +kernel) (by decide +kernel)
set_option maxRecDepth 20000 in
theorem gX7_takesOnTrial_X2_meetBall : GoodIn wsX7_takesOnTrial (wsV RX7 243 RX2 yX2_meetBall wsX2_meetBall) := goodIn_app (goodIn_of _ (by decide +kernel)) ggX7_takesOnTrial_X2_meetBall
set_option maxRecDepth 20000 in
theorem ggX7_takesOnTrial_X6_settingAt : GoodIn wsX7_takesOnTrial wsX6_settingAt := goodIn_r _ [52, 53, 54, 55, 56, 70, 71, 72, 73, 74, 75] (by decide +kernel) (by decide +kernel)
set_option maxRecDepth 20000 in
theorem gX7_takesOnTrial_X6_settingAt : GoodIn wsX7_takesOnTrial (wsV RX7 173 RX6 yX6_settingAt wsX6_settingAt) := goodIn_app (goodIn_of _ (by decide +kernel)) ggX7_takesOnTrial_X6_settingAt
set_option maxRecDepth 20000 in
theorem ggX7_takesOnTrial_X2_tell : GoodIn wsX7_takesOnTrial wsX2_tell := goodIn_r _ [60, 10, 61, 62, 63, 6, 64, 8, 76, 77, 78, 79, 80] (by decide +kernel) (by decide +kernel)
set_option maxRecDepth 20000 in
theorem gX7_takesOnTrial_X2_tell : GoodIn wsX7_takesOnTrial (wsV RX7 247 RX2 yX2_tell wsX2_tell) := goodIn_app (goodIn_of _ (by decide +kernel)) ggX7_takesOnTrial_X2_tell
theorem dX7_takesOnTrial_0 : decode cX7_takesOnTrial 0 = .ok (.aload_n 0, 1) := by decide +kernel
theorem dX7_takesOnTrial_1 : decode cX7_takesOnTrial 1 = .ok (.getfield 23, 3) := by decide +kernel
theorem dX7_takesOnTrial_4 : decode cX7_takesOnTrial 4 = .ok (.getfield 108, 3) := by decide +kernel
theorem dX7_takesOnTrial_7 : decode cX7_takesOnTrial 7 = .ok (.aload_n 0, 1) := by decide +kernel
theorem dX7_takesOnTrial_8 : decode cX7_takesOnTrial 8 = .ok (.getfield 19, 3) := by decide +kernel
theorem dX7_takesOnTrial_11 : decode cX7_takesOnTrial 11 = .ok (.getfield 108, 3) := by decide +kernel
theorem dX7_takesOnTrial_14 : decode cX7_takesOnTrial 14 = .ok (.invokevirtual 239, 3) := by decide +kernel
theorem dX7_takesOnTrial_17 : decode cX7_takesOnTrial 17 = .ok (.aload_n 0, 1) := by decide +kernel
theorem dX7_takesOnTrial_18 : decode cX7_takesOnTrial 18 = .ok (.getfield 23, 3) := by decide +kernel
theorem dX7_takesOnTrial_21 : decode cX7_takesOnTrial 21 = .ok (.getfield 108, 3) := by decide +kernel
theorem dX7_takesOnTrial_24 : decode cX7_takesOnTrial 24 = .ok (.iload_n 1, 1) := by decide +kernel
theorem dX7_takesOnTrial_25 : decode cX7_takesOnTrial 25 = .ok (.iload_n 2, 1) := by decide +kernel
theorem dX7_takesOnTrial_26 : decode cX7_takesOnTrial 26 = .ok (.invokevirtual 243, 3) := by decide +kernel
theorem dX7_takesOnTrial_29 : decode cX7_takesOnTrial 29 = .ok (.aload_n 0, 1) := by decide +kernel
theorem dX7_takesOnTrial_30 : decode cX7_takesOnTrial 30 = .ok (.getfield 23, 3) := by decide +kernel
theorem dX7_takesOnTrial_33 : decode cX7_takesOnTrial 33 = .ok (.getfield 108, 3) := by decide +kernel
theorem dX7_takesOnTrial_36 : decode cX7_takesOnTrial 36 = .ok (.aload_n 0, 1) := by decide +kernel
theorem dX7_takesOnTrial_37 : decode cX7_takesOnTrial 37 = .ok (.getfield 19, 3) := by decide +kernel
theorem dX7_takesOnTrial_40 : decode cX7_takesOnTrial 40 = .ok (.iconst 1, 1) := by decide +kernel
theorem dX7_takesOnTrial_41 : decode cX7_takesOnTrial 41 = .ok (.invokevirtual 173, 3) := by decide +kernel
theorem dX7_takesOnTrial_44 : decode cX7_takesOnTrial 44 = .ok (.invokevirtual 247, 3) := by decide +kernel
theorem dX7_takesOnTrial_47 : decode cX7_takesOnTrial 47 = .ok (.ireturn, 1) := by decide +kernel
set_option maxRecDepth 20000 in
theorem ggX7_slowest_X6_stops : GoodIn wsX7_slowest wsX6_stops := goodIn_r _ [6, 7, 13, 14, 15, 16, 17, 18] (by decide +kernel) (by decide +kernel)
set_option maxRecDepth 20000 in
theorem gX7_slowest_X6_stops : GoodIn wsX7_slowest (wsV RX7 250 RX6 yX6_stops wsX6_stops) := goodIn_app (goodIn_of _ (by decide +kernel)) ggX7_slowest_X6_stops
theorem dX7_slowest_0 : decode cX7_slowest 0 = .ok (.iconst 1, 1) := by decide +kernel
theorem dX7_slowest_1 : decode cX7_slowest 1 = .ok (.istore_n 1, 1) := by decide +kernel
theorem dX7_slowest_2 : decode cX7_slowest 2 = .ok (.iload_n 1, 1) := by decide +kernel
theorem dX7_slowest_3 : decode cX7_slowest 3 = .ok (.bipush 30, 2) := by decide +kernel
theorem dX7_slowest_5 : decode cX7_slowest 5 = .ok (.if_icmp .ge 20, 3) := by decide +kernel
theorem dX7_slowest_8 : decode cX7_slowest 8 = .ok (.aload_n 0, 1) := by decide +kernel
theorem dX7_slowest_9 : decode cX7_slowest 9 = .ok (.getfield 19, 3) := by decide +kernel
theorem dX7_slowest_12 : decode cX7_slowest 12 = .ok (.iload_n 1, 1) := by decide +kernel
theorem dX7_slowest_13 : decode cX7_slowest 13 = .ok (.invokevirtual 250, 3) := by decide +kernel
theorem dX7_slowest_16 : decode cX7_slowest 16 = .ok (.ifCond .eq 9, 3) := by decide +kernel
theorem dX7_slowest_19 : decode cX7_slowest 19 = .ok (.iinc 1 1, 3) := by decide +kernel
theorem dX7_slowest_22 : decode cX7_slowest 22 = .ok (.goto (-20), 3) := by decide +kernel
theorem dX7_slowest_25 : decode cX7_slowest 25 = .ok (.iload_n 1, 1) := by decide +kernel
theorem dX7_slowest_26 : decode cX7_slowest 26 = .ok (.ireturn, 1) := by decide +kernel
set_option maxRecDepth 20000 in
theorem ggX7_goesOn_X7_isBall : GoodIn wsX7_goesOn wsX7_isBall := goodIn_r _ [8] (by decide +kernel) (by decide +kernel)
set_option maxRecDepth 20000 in
theorem gX7_goesOn_X7_isBall : GoodIn wsX7_goesOn (va_wsS RX7 183 yX7_isBall wsX7_isBall) := goodIn_app (goodIn_of _ (by decide +kernel)) ggX7_goesOn_X7_isBall
set_option maxRecDepth 20000 in
theorem ggX7_goesOn_X6_copyFrom : GoodIn wsX7_goesOn wsX6_copyFrom := goodIn_r _ [13, 14, 15, 16, 17, 18, 19, 20, 21, 22, 23, 24, 25, 26, 27, 28, 29, 30, 31, 32, 33, 34, 35, 36, 152, 153, 154, 155, 156, 157, 158, 159, 160, 161, 162, 163, 164, 165, 166] (by decide +kernel) (by decide +kernel)
set_option maxRecDepth 20000 in
theorem gX7_goesOn_X6_copyFrom : GoodIn wsX7_goesOn (wsV RX7 253 RX6 yX6_copyFrom wsX6_copyFrom) := goodIn_app (goodIn_of _ (by decide +kernel)) ggX7_goesOn_X6_copyFrom
set_option maxRecDepth 20000 in
theorem ggX7_goesOn_X4_isOver : GoodIn wsX7_goesOn wsX4_isOver := goodIn_r _ [40, 36, 163, 164, 165, 166] (by decide +kernel) (by decide +kernel)
set_option maxRecDepth 20000 in
theorem gX7_goesOn_X4_isOver : GoodIn wsX7_goesOn (wsV RX7 125 RX4 yX4_isOver wsX4_isOver) := goodIn_app (goodIn_of _ (by decide +kernel)) ggX7_goesOn_X4_isOver
set_option maxRecDepth 20000 in
theorem ggX7_goesOn_X6_bowl : GoodIn wsX7_goesOn wsX6_bowl := goodIn_r _ [44, 17, 19, 14, 16, 15, 18, 45, 46, 47, 12, 48, 49, 50, 51, 23, 52, 53, 54, 55, 56, 57, 58, 26, 59, 60, 61, 62, 63, 64, 65, 66, 67, 68, 69, 25, 70, 71, 72, 73, 74, 75, 76, 77, 78, 79, 80, 81, 82, 83, 84, 85, 86, 87, 88, 89, 27, 90, 91, 92, 93, 94, 95, 96, 97, 98, 99, 100, 101, 102, 31, 103, 36, 35, 33, 34, 104, 105, 106, 107, 108, 109, 110, 111, 112, 113, 114, 115, 116, 117, 118, 119, 120, 121, 122, 123, 124, 38, 39, 40, 125, 126, 127, 128, 129, 130, 131, 132, 133, 134, 135, 136, 137, 138, 152, 153, 154, 155, 156, 157, 158, 159, 160, 161, 162, 163, 164, 165, 166] (by decide +kernel) (by decide +kernel)
set_option maxRecDepth 20000 in
theorem gX7_goesOn_X6_bowl : GoodIn wsX7_goesOn (wsV RX7 194 RX6 yX6_bowl wsX6_bowl) := goodIn_app (goodIn_of _ (by decide +kernel)) ggX7_goesOn_X6_bowl
set_option maxRecDepth 20000 in
theorem ggX7_goesOn_X4_allPoints : GoodIn wsX7_goesOn wsX4_allPoints := goodIn_r _ [142, 143, 144, 145, 31, 146, 108, 109, 110, 111, 36, 34, 35, 112, 113, 114, 115, 33, 104, 105, 106, 107, 163, 164, 165, 166] (by decide +kernel) (by decide +kernel)
set_option maxRecDepth 20000 in
theorem gX7_goesOn_X4_allPoints : GoodIn wsX7_goesOn (wsV RX7 95 RX4 yX4_allPoints wsX4_allPoints) := goodIn_app (goodIn_of _ (by decide +kernel)) ggX7_goesOn_X4_allPoints
theorem dX7_goesOn_0 : decode cX7_goesOn 0 = .ok (.iload_n 1, 1) := by decide +kernel
theorem dX7_goesOn_1 : decode cX7_goesOn 1 = .ok (.iload_n 2, 1) := by decide +kernel
theorem dX7_goesOn_2 : decode cX7_goesOn 2 = .ok (.invokestatic 183, 3) := by decide +kernel
theorem dX7_goesOn_5 : decode cX7_goesOn 5 = .ok (.ifCond .ne 13, 3) := by decide +kernel
theorem dX7_goesOn_8 : decode cX7_goesOn 8 = .ok (.new 40, 3) := by decide +kernel
theorem dX7_goesOn_11 : decode cX7_goesOn 11 = .ok (.dup, 1) := by decide +kernel
theorem dX7_goesOn_12 : decode cX7_goesOn 12 = .ok (.ldc 190, 2) := by decide +kernel
theorem dX7_goesOn_14 : decode cX7_goesOn 14 = .ok (.invokespecial 44, 3) := by decide +kernel
theorem dX7_goesOn_17 : decode cX7_goesOn 17 = .ok (.athrow, 1) := by decide +kernel
theorem dX7_goesOn_18 : decode cX7_goesOn 18 = .ok (.aload_n 0, 1) := by decide +kernel
theorem dX7_goesOn_19 : decode cX7_goesOn 19 = .ok (.getfield 23, 3) := by decide +kernel
theorem dX7_goesOn_22 : decode cX7_goesOn 22 = .ok (.aload_n 0, 1) := by decide +kernel
theorem dX7_goesOn_23 : decode cX7_goesOn 23 = .ok (.getfield 19, 3) := by decide +kernel
theorem dX7_goesOn_26 : decode cX7_goesOn 26 = .ok (.invokevirtual 253, 3) := by decide +kernel
theorem dX7_goesOn_29 : decode cX7_goesOn 29 = .ok (.iconst 0, 1) := by decide +kernel
theorem dX7_goesOn_30 : decode cX7_goesOn 30 = .ok (.istore_n 3, 1) := by decide +kernel
theorem dX7_goesOn_31 : decode cX7_goesOn 31 = .ok (.iload_n 3, 1) := by decide +kernel
theorem dX7_goesOn_32 : decode cX7_goesOn 32 = .ok (.bipush 21, 2) := by decide +kernel
theorem dX7_goesOn_34 : decode cX7_goesOn 34 = .ok (.if_icmp .ge 35, 3) := by decide +kernel
theorem dX7_goesOn_37 : decode cX7_goesOn 37 = .ok (.aload_n 0, 1) := by decide +kernel
theorem dX7_goesOn_38 : decode cX7_goesOn 38 = .ok (.getfield 23, 3) := by decide +kernel
theorem dX7_goesOn_41 : decode cX7_goesOn 41 = .ok (.getfield 80, 3) := by decide +kernel
theorem dX7_goesOn_44 : decode cX7_goesOn 44 = .ok (.invokevirtual 125, 3) := by decide +kernel
theorem dX7_goesOn_47 : decode cX7_goesOn 47 = .ok (.ifCond .ne 22, 3) := by decide +kernel
theorem dX7_goesOn_50 : decode cX7_goesOn 50 = .ok (.aload_n 0, 1) := by decide +kernel
theorem dX7_goesOn_51 : decode cX7_goesOn 51 = .ok (.getfield 23, 3) := by decide +kernel
theorem dX7_goesOn_54 : decode cX7_goesOn 54 = .ok (.iload_n 1, 1) := by decide +kernel
theorem dX7_goesOn_55 : decode cX7_goesOn 55 = .ok (.iload_n 2, 1) := by decide +kernel
theorem dX7_goesOn_56 : decode cX7_goesOn 56 = .ok (.bipush 30, 2) := by decide +kernel
theorem dX7_goesOn_58 : decode cX7_goesOn 58 = .ok (.iconst 0, 1) := by decide +kernel
theorem dX7_goesOn_59 : decode cX7_goesOn 59 = .ok (.invokevirtual 194, 3) := by decide +kernel
theorem dX7_goesOn_62 : decode cX7_goesOn 62 = .ok (.pop, 1) := by decide +kernel
theorem dX7_goesOn_63 : decode cX7_goesOn 63 = .ok (.iinc 3 1, 3) := by decide +kernel
theorem dX7_goesOn_66 : decode cX7_goesOn 66 = .ok (.goto (-35), 3) := by decide +kernel
theorem dX7_goesOn_69 : decode cX7_goesOn 69 = .ok (.aload_n 0, 1) := by decide +kernel
theorem dX7_goesOn_70 : decode cX7_goesOn 70 = .ok (.getfield 23, 3) := by decide +kernel
theorem dX7_goesOn_73 : decode cX7_goesOn 73 = .ok (.getfield 80, 3) := by decide +kernel
theorem dX7_goesOn_76 : decode cX7_goesOn 76 = .ok (.invokevirtual 95, 3) := by decide +kernel
theorem dX7_goesOn_79 : decode cX7_goesOn 79 = .ok (.ireturn, 1) := by decide +kernel
set_option maxRecDepth 20000 in
theorem ggX7_drops_X6_settingAt : GoodIn wsX7_drops wsX6_settingAt := goodIn_r _ [6, 7, 8, 9, 10, 27, 28, 29, 30, 31, 32] (by decide +kernel) (by decide +kernel)
set_option maxRecDepth 20000 in
theorem gX7_drops_X6_settingAt : GoodIn wsX7_drops (wsV RX7 173 RX6 yX6_settingAt wsX6_settingAt) := goodIn_app (goodIn_of _ (by decide +kernel)) ggX7_drops_X6_settingAt
set_option maxRecDepth 20000 in
theorem ggX7_drops_X2_dropSet : GoodIn wsX7_drops wsX2_dropSet := goodIn_r _ [15, 16, 17, 18, 19, 14, 20, 21, 33, 34, 35, 36, 37] (by decide +kernel) (by decide +kernel)
set_option maxRecDepth 20000 in
theorem gX7_drops_X2_dropSet : GoodIn wsX7_drops (wsV RX7 255 RX2 yX2_dropSet wsX2_dropSet) := goodIn_app (goodIn_of _ (by decide +kernel)) ggX7_drops_X2_dropSet
theorem dX7_drops_0 : decode cX7_drops 0 = .ok (.aload_n 0, 1) := by decide +kernel
theorem dX7_drops_1 : decode cX7_drops 1 = .ok (.getfield 19, 3) := by decide +kernel
theorem dX7_drops_4 : decode cX7_drops 4 = .ok (.getfield 108, 3) := by decide +kernel
theorem dX7_drops_7 : decode cX7_drops 7 = .ok (.aload_n 0, 1) := by decide +kernel
theorem dX7_drops_8 : decode cX7_drops 8 = .ok (.getfield 19, 3) := by decide +kernel
theorem dX7_drops_11 : decode cX7_drops 11 = .ok (.iconst 2, 1) := by decide +kernel
theorem dX7_drops_12 : decode cX7_drops 12 = .ok (.invokevirtual 173, 3) := by decide +kernel
theorem dX7_drops_15 : decode cX7_drops 15 = .ok (.invokevirtual 255, 3) := by decide +kernel
theorem dX7_drops_18 : decode cX7_drops 18 = .ok (.ireturn, 1) := by decide +kernel
set_option maxRecDepth 20000 in
theorem ggX7_runScript_X3_unitOf : GoodIn wsX7_runScript wsX3_unitOf := goodIn_r _ [9, 10, 11, 12] (by decide +kernel) (by decide +kernel)
set_option maxRecDepth 20000 in
theorem gX7_runScript_X3_unitOf : GoodIn wsX7_runScript (va_wsS RX7 260 yX3_unitOf wsX3_unitOf) := goodIn_app (goodIn_of _ (by decide +kernel)) ggX7_runScript_X3_unitOf
set_option maxRecDepth 20000 in
theorem ggX7_runScript_X6_copyFrom : GoodIn wsX7_runScript wsX6_copyFrom := goodIn_r _ [17, 18, 19, 20, 21, 22, 23, 24, 25, 26, 27, 28, 29, 30, 31, 32, 33, 34, 35, 36, 37, 38, 39, 40, 221, 222, 223, 224, 225, 226, 227, 228, 229, 230, 231, 232, 233, 234, 235] (by decide +kernel) (by decide +kernel)
set_option maxRecDepth 20000 in
theorem gX7_runScript_X6_copyFrom : GoodIn wsX7_runScript (wsV RX7 253 RX6 yX6_copyFrom wsX6_copyFrom) := goodIn_app (goodIn_of _ (by decide +kernel)) ggX7_runScript_X6_copyFrom
set_option maxRecDepth 20000 in
theorem ggX7_runScript_X3_succeeds : GoodIn wsX7_runScript wsX3_succeeds := goodIn_r _ [43, 44, 45, 46, 47, 16, 48, 19, 49, 50, 51, 52, 53, 54, 55, 56, 35, 57, 40, 58, 59, 60, 61, 21, 23, 18, 20, 22, 62, 63, 64, 65, 66, 67, 68, 27, 69, 70, 71, 72, 73, 74, 75, 30, 76, 77, 78, 79, 80, 81, 82, 83, 84, 85, 86, 29, 87, 88, 89, 90, 91, 92, 93, 94, 95, 96, 97, 98, 99, 100, 101, 102, 103, 104, 105, 106, 31, 107, 108, 109, 110, 111, 112, 113, 114, 115, 116, 117, 118, 119, 120, 39, 37, 38, 121, 122, 123, 124, 125, 126, 127, 128, 129, 130, 131, 132, 133, 134, 135, 136, 137, 138, 139, 140, 141, 142, 143, 144, 145, 146, 147, 148, 149, 150, 151, 152, 153, 154, 155, 156, 157, 158, 159, 160, 161, 162, 163, 164, 165, 166, 167, 168, 169, 170, 171, 172, 173, 174, 175, 176, 177, 178, 179, 180, 181, 182, 183, 184, 185, 186, 187, 188, 189, 190, 8, 191, 192, 193, 194, 195, 196, 197, 198, 199, 200, 201, 202, 203, 204, 205, 206, 207, 208, 209, 210, 211, 212, 213, 214, 215, 221, 222, 223, 224, 225, 226, 232, 233, 234, 235, 227, 228, 229, 230, 231] (by decide +kernel) (by decide +kernel)
set_option maxRecDepth 20000 in
theorem gX7_runScript_X3_succeeds : GoodIn wsX7_runScript (va_wsS RX7 270 yX3_succeeds wsX3_succeeds) := goodIn_app (goodIn_of _ (by decide +kernel)) ggX7_runScript_X3_succeeds
theorem dX7_runScript_0 : decode cX7_runScript 0 = .ok (.iload_n 1, 1) := by decide +kernel
theorem dX7_runScript_1 : decode cX7_runScript 1 = .ok (.iconst 1, 1) := by decide +kernel
theorem dX7_runScript_2 : decode cX7_runScript 2 = .ok (.if_icmp .lt 8, 3) := by decide +kernel
theorem dX7_runScript_5 : decode cX7_runScript 5 = .ok (.iload_n 1, 1) := by decide +kernel
theorem dX7_runScript_6 : decode cX7_runScript 6 = .ok (.iconst 3, 1) := by decide +kernel
theorem dX7_runScript_7 : decode cX7_runScript 7 = .ok (.if_icmp .le 14, 3) := by decide +kernel
theorem dX7_runScript_10 : decode cX7_runScript 10 = .ok (.new 40, 3) := by decide +kernel
theorem dX7_runScript_13 : decode cX7_runScript 13 = .ok (.dup, 1) := by decide +kernel
theorem dX7_runScript_14 : decode cX7_runScript 14 = .ok (.ldc_w 258, 3) := by decide +kernel
theorem dX7_runScript_17 : decode cX7_runScript 17 = .ok (.invokespecial 44, 3) := by decide +kernel
theorem dX7_runScript_20 : decode cX7_runScript 20 = .ok (.athrow, 1) := by decide +kernel
theorem dX7_runScript_21 : decode cX7_runScript 21 = .ok (.lload_n 2, 1) := by decide +kernel
theorem dX7_runScript_22 : decode cX7_runScript 22 = .ok (.lconst 0, 1) := by decide +kernel
theorem dX7_runScript_23 : decode cX7_runScript 23 = .ok (.lcmp, 1) := by decide +kernel
theorem dX7_runScript_24 : decode cX7_runScript 24 = .ok (.ifCond .lt 12, 3) := by decide +kernel
theorem dX7_runScript_27 : decode cX7_runScript 27 = .ok (.lload_n 2, 1) := by decide +kernel
theorem dX7_runScript_28 : decode cX7_runScript 28 = .ok (.iload_n 1, 1) := by decide +kernel
theorem dX7_runScript_29 : decode cX7_runScript 29 = .ok (.invokestatic 260, 3) := by decide +kernel
theorem dX7_runScript_32 : decode cX7_runScript 32 = .ok (.lcmp, 1) := by decide +kernel
theorem dX7_runScript_33 : decode cX7_runScript 33 = .ok (.ifCond .lt 14, 3) := by decide +kernel
theorem dX7_runScript_36 : decode cX7_runScript 36 = .ok (.new 40, 3) := by decide +kernel
theorem dX7_runScript_39 : decode cX7_runScript 39 = .ok (.dup, 1) := by decide +kernel
theorem dX7_runScript_40 : decode cX7_runScript 40 = .ok (.ldc_w 266, 3) := by decide +kernel
theorem dX7_runScript_43 : decode cX7_runScript 43 = .ok (.invokespecial 44, 3) := by decide +kernel
theorem dX7_runScript_46 : decode cX7_runScript 46 = .ok (.athrow, 1) := by decide +kernel
theorem dX7_runScript_47 : decode cX7_runScript 47 = .ok (.aload_n 0, 1) := by decide +kernel
theorem dX7_runScript_48 : decode cX7_runScript 48 = .ok (.getfield 23, 3) := by decide +kernel
theorem dX7_runScript_51 : decode cX7_runScript 51 = .ok (.aload_n 0, 1) := by decide +kernel
theorem dX7_runScript_52 : decode cX7_runScript 52 = .ok (.getfield 19, 3) := by decide +kernel
theorem dX7_runScript_55 : decode cX7_runScript 55 = .ok (.invokevirtual 253, 3) := by decide +kernel
theorem dX7_runScript_58 : decode cX7_runScript 58 = .ok (.iconst 0, 1) := by decide +kernel
theorem dX7_runScript_59 : decode cX7_runScript 59 = .ok (.istore 4, 2) := by decide +kernel
theorem dX7_runScript_61 : decode cX7_runScript 61 = .ok (.iload 4, 2) := by decide +kernel
theorem dX7_runScript_63 : decode cX7_runScript 63 = .ok (.iload_n 1, 1) := by decide +kernel
theorem dX7_runScript_64 : decode cX7_runScript 64 = .ok (.if_icmp .ge 42, 3) := by decide +kernel
theorem dX7_runScript_67 : decode cX7_runScript 67 = .ok (.lload_n 2, 1) := by decide +kernel
theorem dX7_runScript_68 : decode cX7_runScript 68 = .ok (.iload_n 1, 1) := by decide +kernel
theorem dX7_runScript_69 : decode cX7_runScript 69 = .ok (.iconst 1, 1) := by decide +kernel
theorem dX7_runScript_70 : decode cX7_runScript 70 = .ok (.isub, 1) := by decide +kernel
theorem dX7_runScript_71 : decode cX7_runScript 71 = .ok (.iload 4, 2) := by decide +kernel
theorem dX7_runScript_73 : decode cX7_runScript 73 = .ok (.isub, 1) := by decide +kernel
theorem dX7_runScript_74 : decode cX7_runScript 74 = .ok (.invokestatic 260, 3) := by decide +kernel
theorem dX7_runScript_77 : decode cX7_runScript 77 = .ok (.ldiv, 1) := by decide +kernel
theorem dX7_runScript_78 : decode cX7_runScript 78 = .ok (.ldc2_w 268, 3) := by decide +kernel
theorem dX7_runScript_81 : decode cX7_runScript 81 = .ok (.lrem, 1) := by decide +kernel
theorem dX7_runScript_82 : decode cX7_runScript 82 = .ok (.l2i, 1) := by decide +kernel
theorem dX7_runScript_83 : decode cX7_runScript 83 = .ok (.istore 5, 2) := by decide +kernel
theorem dX7_runScript_85 : decode cX7_runScript 85 = .ok (.aload_n 0, 1) := by decide +kernel
theorem dX7_runScript_86 : decode cX7_runScript 86 = .ok (.getfield 23, 3) := by decide +kernel
theorem dX7_runScript_89 : decode cX7_runScript 89 = .ok (.iload 5, 2) := by decide +kernel
theorem dX7_runScript_91 : decode cX7_runScript 91 = .ok (.invokestatic 270, 3) := by decide +kernel
theorem dX7_runScript_94 : decode cX7_runScript 94 = .ok (.ifCond .ne 6, 3) := by decide +kernel
theorem dX7_runScript_97 : decode cX7_runScript 97 = .ok (.iload 4, 2) := by decide +kernel
theorem dX7_runScript_99 : decode cX7_runScript 99 = .ok (.ireturn, 1) := by decide +kernel
theorem dX7_runScript_100 : decode cX7_runScript 100 = .ok (.iinc 4 1, 3) := by decide +kernel
theorem dX7_runScript_103 : decode cX7_runScript 103 = .ok (.goto (-42), 3) := by decide +kernel
theorem dX7_runScript_106 : decode cX7_runScript 106 = .ok (.iconst (-1), 1) := by decide +kernel
theorem dX7_runScript_107 : decode cX7_runScript 107 = .ok (.ireturn, 1) := by decide +kernel
set_option maxRecDepth 20000 in
theorem ggX7_simulate_X6_copyFrom : GoodIn wsX7_simulate wsX6_copyFrom := goodIn_r _ [11, 12, 13, 14, 15, 16, 17, 18, 19, 20, 21, 22, 23, 24, 25, 26, 27, 28, 29, 30, 31, 32, 33, 34, 200, 201, 202, 203, 204, 205, 206, 207, 208, 209, 210, 211, 212, 213, 214] (by decide +kernel) (by decide +kernel)
set_option maxRecDepth 20000 in
theorem gX7_simulate_X6_copyFrom : GoodIn wsX7_simulate (wsV RX7 253 RX6 yX6_copyFrom wsX6_copyFrom) := goodIn_app (goodIn_of _ (by decide +kernel)) ggX7_simulate_X6_copyFrom
set_option maxRecDepth 20000 in
theorem ggX7_simulate_X7_takeTurn : GoodIn wsX7_simulate wsX7_takeTurn := goodIn_r _ [39, 3, 40, 41, 42, 10, 43, 12, 44, 38, 45, 46, 47, 48, 21, 49, 23, 50, 51, 52, 53, 54, 55, 56, 57, 58, 59, 60, 61, 62, 63, 64, 65, 66, 67, 68, 69, 70, 71, 72, 73, 14, 74, 75, 76, 77, 78, 79, 80, 81, 13, 82, 83, 84, 85, 86, 87, 88, 29, 89, 34, 90, 91, 92, 93, 15, 17, 16, 94, 95, 96, 97, 98, 99, 100, 101, 102, 103, 104, 105, 106, 107, 24, 108, 109, 110, 111, 112, 113, 114, 115, 116, 117, 118, 119, 120, 121, 122, 123, 124, 125, 126, 127, 128, 129, 130, 131, 132, 133, 134, 25, 135, 136, 137, 138, 139, 140, 141, 142, 143, 144, 145, 146, 147, 148, 33, 31, 32, 149, 150, 151, 152, 153, 154, 155, 156, 157, 158, 159, 160, 161, 162, 163, 164, 165, 166, 167, 168, 169, 170, 171, 172, 173, 174, 175, 176, 177, 178, 179, 180, 181, 182, 195, 196, 197, 198, 199, 200, 201, 202, 203, 204, 205, 206, 207, 208, 209, 210, 211, 212, 213, 214] (by decide +kernel) (by decide +kernel)
set_option maxRecDepth 20000 in
theorem gX7_simulate_X7_takeTurn : GoodIn wsX7_simulate (wsV RX7 280 RX7 yX7_takeTurn wsX7_takeTurn) := goodIn_app (goodIn_of _ (by decide +kernel)) ggX7_simulate_X7_takeTurn
set_option maxRecDepth 20000 in
theorem ggX7_simulate_X4_rolls : GoodIn wsX7_simulate wsX4_rolls := goodIn_r _ [186, 33, 211, 212, 213, 214] (by decide +kernel) (by decide +kernel)
set_option maxRecDepth 20000 in
theorem gX7_simulate_X4_rolls : GoodIn wsX7_simulate (wsV RX7 92 RX4 yX4_rolls wsX4_rolls) := goodIn_app (goodIn_of _ (by decide +kernel)) ggX7_simulate_X4_rolls
set_option maxRecDepth 20000 in
theorem ggX7_simulate_X4_allPoints : GoodIn wsX7_simulate wsX4_allPoints := goodIn_r _ [190, 191, 192, 193, 29, 194, 153, 154, 155, 156, 34, 32, 33, 157, 158, 159, 160, 31, 149, 150, 151, 152, 211, 212, 213, 214] (by decide +kernel) (by decide +kernel)
set_option maxRecDepth 20000 in
theorem gX7_simulate_X4_allPoints : GoodIn wsX7_simulate (wsV RX7 95 RX4 yX4_allPoints wsX4_allPoints) := goodIn_app (goodIn_of _ (by decide +kernel)) ggX7_simulate_X4_allPoints
theorem dX7_simulate_0 : decode cX7_simulate 0 = .ok (.iload_n 3, 1) := by decide +kernel
theorem dX7_simulate_1 : decode cX7_simulate 1 = .ok (.iconst 1, 1) := by decide +kernel
theorem dX7_simulate_2 : decode cX7_simulate 2 = .ok (.if_icmp .lt 9, 3) := by decide +kernel
theorem dX7_simulate_5 : decode cX7_simulate 5 = .ok (.iload_n 3, 1) := by decide +kernel
theorem dX7_simulate_6 : decode cX7_simulate 6 = .ok (.bipush 60, 2) := by decide +kernel
theorem dX7_simulate_8 : decode cX7_simulate 8 = .ok (.if_icmp .le 14, 3) := by decide +kernel
theorem dX7_simulate_11 : decode cX7_simulate 11 = .ok (.new 40, 3) := by decide +kernel
theorem dX7_simulate_14 : decode cX7_simulate 14 = .ok (.dup, 1) := by decide +kernel
theorem dX7_simulate_15 : decode cX7_simulate 15 = .ok (.ldc_w 274, 3) := by decide +kernel
theorem dX7_simulate_18 : decode cX7_simulate 18 = .ok (.invokespecial 44, 3) := by decide +kernel
theorem dX7_simulate_21 : decode cX7_simulate 21 = .ok (.athrow, 1) := by decide +kernel
theorem dX7_simulate_22 : decode cX7_simulate 22 = .ok (.aload_n 0, 1) := by decide +kernel
theorem dX7_simulate_23 : decode cX7_simulate 23 = .ok (.getfield 23, 3) := by decide +kernel
theorem dX7_simulate_26 : decode cX7_simulate 26 = .ok (.aload_n 0, 1) := by decide +kernel
theorem dX7_simulate_27 : decode cX7_simulate 27 = .ok (.getfield 19, 3) := by decide +kernel
theorem dX7_simulate_30 : decode cX7_simulate 30 = .ok (.invokevirtual 253, 3) := by decide +kernel
theorem dX7_simulate_33 : decode cX7_simulate 33 = .ok (.lload_n 1, 1) := by decide +kernel
theorem dX7_simulate_34 : decode cX7_simulate 34 = .ok (.lstore 4, 2) := by decide +kernel
theorem dX7_simulate_36 : decode cX7_simulate 36 = .ok (.iconst 0, 1) := by decide +kernel
theorem dX7_simulate_37 : decode cX7_simulate 37 = .ok (.istore 6, 2) := by decide +kernel
theorem dX7_simulate_39 : decode cX7_simulate 39 = .ok (.iload 6, 2) := by decide +kernel
theorem dX7_simulate_41 : decode cX7_simulate 41 = .ok (.iload_n 3, 1) := by decide +kernel
theorem dX7_simulate_42 : decode cX7_simulate 42 = .ok (.if_icmp .ge 31, 3) := by decide +kernel
theorem dX7_simulate_45 : decode cX7_simulate 45 = .ok (.lload 4, 2) := by decide +kernel
theorem dX7_simulate_47 : decode cX7_simulate 47 = .ok (.ldc2_w 276, 3) := by decide +kernel
theorem dX7_simulate_50 : decode cX7_simulate 50 = .ok (.lmul, 1) := by decide +kernel
theorem dX7_simulate_51 : decode cX7_simulate 51 = .ok (.ldc2_w 278, 3) := by decide +kernel
theorem dX7_simulate_54 : decode cX7_simulate 54 = .ok (.ladd, 1) := by decide +kernel
theorem dX7_simulate_55 : decode cX7_simulate 55 = .ok (.lstore 4, 2) := by decide +kernel
theorem dX7_simulate_57 : decode cX7_simulate 57 = .ok (.aload_n 0, 1) := by decide +kernel
theorem dX7_simulate_58 : decode cX7_simulate 58 = .ok (.lload 4, 2) := by decide +kernel
theorem dX7_simulate_60 : decode cX7_simulate 60 = .ok (.bipush 33, 2) := by decide +kernel
theorem dX7_simulate_62 : decode cX7_simulate 62 = .ok (.lushr, 1) := by decide +kernel
theorem dX7_simulate_63 : decode cX7_simulate 63 = .ok (.l2i, 1) := by decide +kernel
theorem dX7_simulate_64 : decode cX7_simulate 64 = .ok (.invokevirtual 280, 3) := by decide +kernel
theorem dX7_simulate_67 : decode cX7_simulate 67 = .ok (.iinc 6 1, 3) := by decide +kernel
theorem dX7_simulate_70 : decode cX7_simulate 70 = .ok (.goto (-31), 3) := by decide +kernel
theorem dX7_simulate_73 : decode cX7_simulate 73 = .ok (.sipush 1000, 3) := by decide +kernel
theorem dX7_simulate_76 : decode cX7_simulate 76 = .ok (.aload_n 0, 1) := by decide +kernel
theorem dX7_simulate_77 : decode cX7_simulate 77 = .ok (.getfield 23, 3) := by decide +kernel
theorem dX7_simulate_80 : decode cX7_simulate 80 = .ok (.getfield 80, 3) := by decide +kernel
theorem dX7_simulate_83 : decode cX7_simulate 83 = .ok (.invokevirtual 92, 3) := by decide +kernel
theorem dX7_simulate_86 : decode cX7_simulate 86 = .ok (.imul, 1) := by decide +kernel
theorem dX7_simulate_87 : decode cX7_simulate 87 = .ok (.aload_n 0, 1) := by decide +kernel
theorem dX7_simulate_88 : decode cX7_simulate 88 = .ok (.getfield 23, 3) := by decide +kernel
theorem dX7_simulate_91 : decode cX7_simulate 91 = .ok (.getfield 80, 3) := by decide +kernel
theorem dX7_simulate_94 : decode cX7_simulate 94 = .ok (.invokevirtual 95, 3) := by decide +kernel
theorem dX7_simulate_97 : decode cX7_simulate 97 = .ok (.iadd, 1) := by decide +kernel
theorem dX7_simulate_98 : decode cX7_simulate 98 = .ok (.ireturn, 1) := by decide +kernel
set_option maxRecDepth 20000 in
theorem ggX7_takeTurn_X6_tryTouch : GoodIn wsX7_takeTurn wsX6_tryTouch := goodIn_r _ [6, 7, 8, 9, 10, 11, 12, 13, 14, 15, 16, 17, 18, 19, 20, 21, 22, 23, 24, 25, 26, 27, 167, 168, 169, 170, 171, 172, 173, 174, 175, 176, 177] (by decide +kernel) (by decide +kernel)
set_option maxRecDepth 20000 in
theorem gX7_takeTurn_X6_tryTouch : GoodIn wsX7_takeTurn (wsV RX7 284 RX6 yX6_tryTouch wsX6_tryTouch) := goodIn_app (goodIn_of _ (by decide +kernel)) ggX7_takeTurn_X6_tryTouch
set_option maxRecDepth 20000 in
theorem ggX7_takeTurn_X6_trySet : GoodIn wsX7_takeTurn wsX6_trySet := goodIn_r _ [31, 32, 9, 33, 34, 35, 36, 8, 10, 37, 38, 39, 5, 40, 41, 42, 43, 44, 45, 167, 168, 169, 170, 171, 172] (by decide +kernel) (by decide +kernel)
set_option maxRecDepth 20000 in
theorem gX7_takeTurn_X6_trySet : GoodIn wsX7_takeTurn (wsV RX7 287 RX6 yX6_trySet wsX6_trySet) := goodIn_app (goodIn_of _ (by decide +kernel)) ggX7_takeTurn_X6_trySet
set_option maxRecDepth 20000 in
theorem ggX7_takeTurn_X6_tryRoll : GoodIn wsX7_takeTurn wsX6_tryRoll := goodIn_r _ [49, 50, 51, 9, 52, 53, 54, 55, 56, 57, 58, 59, 60, 61, 62, 63, 5, 64, 65, 66, 7, 41, 67, 68, 69, 70, 71, 72, 73, 74, 14, 75, 76, 77, 78, 79, 80, 81, 82, 83, 84, 85, 86, 87, 88, 89, 27, 12, 13, 15, 16, 90, 91, 92, 93, 94, 95, 96, 97, 98, 99, 100, 101, 102, 103, 104, 105, 106, 107, 108, 109, 110, 111, 112, 113, 114, 115, 116, 117, 118, 119, 120, 121, 122, 123, 124, 125, 126, 127, 128, 129, 130, 131, 132, 133, 134, 135, 136, 137, 138, 139, 140, 141, 142, 143, 144, 145, 146, 147, 148, 149, 150, 151, 152, 153, 154, 155, 156, 157, 158, 159, 160, 161, 167, 168, 169, 170, 171, 172, 178, 179, 180, 181, 173, 174, 175, 176, 177] (by decide +kernel) (by decide +kernel)
set_option maxRecDepth 20000 in
theorem gX7_takeTurn_X6_tryRoll : GoodIn wsX7_takeTurn (wsV RX7 290 RX6 yX6_tryRoll wsX6_tryRoll) := goodIn_app (goodIn_of _ (by decide +kernel)) ggX7_takeTurn_X6_tryRoll
theorem dX7_takeTurn_0 : decode cX7_takeTurn 0 = .ok (.iload_n 1, 1) := by decide +kernel
theorem dX7_takeTurn_1 : decode cX7_takeTurn 1 = .ok (.bipush 8, 2) := by decide +kernel
theorem dX7_takeTurn_3 : decode cX7_takeTurn 3 = .ok (.idiv, 1) := by decide +kernel
theorem dX7_takeTurn_4 : decode cX7_takeTurn 4 = .ok (.istore_n 2, 1) := by decide +kernel
theorem dX7_takeTurn_5 : decode cX7_takeTurn 5 = .ok (.iload_n 1, 1) := by decide +kernel
theorem dX7_takeTurn_6 : decode cX7_takeTurn 6 = .ok (.bipush 8, 2) := by decide +kernel
theorem dX7_takeTurn_8 : decode cX7_takeTurn 8 = .ok (.irem, 1) := by decide +kernel
theorem dX7_takeTurn_9 : decode cX7_takeTurn 9 = .ok (.lookupswitch 69 #[(0, 27), (1, 48)], 27) := by decide +kernel
theorem dX7_takeTurn_36 : decode cX7_takeTurn 36 = .ok (.aload_n 0, 1) := by decide +kernel
theorem dX7_takeTurn_37 : decode cX7_takeTurn 37 = .ok (.getfield 23, 3) := by decide +kernel
theorem dX7_takeTurn_40 : decode cX7_takeTurn 40 = .ok (.iload_n 2, 1) := by decide +kernel
theorem dX7_takeTurn_41 : decode cX7_takeTurn 41 = .ok (.bipush 10, 2) := by decide +kernel
theorem dX7_takeTurn_43 : decode cX7_takeTurn 43 = .ok (.irem, 1) := by decide +kernel
theorem dX7_takeTurn_44 : decode cX7_takeTurn 44 = .ok (.iload_n 2, 1) := by decide +kernel
theorem dX7_takeTurn_45 : decode cX7_takeTurn 45 = .ok (.bipush 16, 2) := by decide +kernel
theorem dX7_takeTurn_47 : decode cX7_takeTurn 47 = .ok (.idiv, 1) := by decide +kernel
theorem dX7_takeTurn_48 : decode cX7_takeTurn 48 = .ok (.iconst 4, 1) := by decide +kernel
theorem dX7_takeTurn_49 : decode cX7_takeTurn 49 = .ok (.irem, 1) := by decide +kernel
theorem dX7_takeTurn_50 : decode cX7_takeTurn 50 = .ok (.invokevirtual 284, 3) := by decide +kernel
theorem dX7_takeTurn_53 : decode cX7_takeTurn 53 = .ok (.pop, 1) := by decide +kernel
theorem dX7_takeTurn_54 : decode cX7_takeTurn 54 = .ok (.goto 73, 3) := by decide +kernel
theorem dX7_takeTurn_57 : decode cX7_takeTurn 57 = .ok (.aload_n 0, 1) := by decide +kernel
theorem dX7_takeTurn_58 : decode cX7_takeTurn 58 = .ok (.getfield 23, 3) := by decide +kernel
theorem dX7_takeTurn_61 : decode cX7_takeTurn 61 = .ok (.iconst 1, 1) := by decide +kernel
theorem dX7_takeTurn_62 : decode cX7_takeTurn 62 = .ok (.iload_n 2, 1) := by decide +kernel
theorem dX7_takeTurn_63 : decode cX7_takeTurn 63 = .ok (.iconst 2, 1) := by decide +kernel
theorem dX7_takeTurn_64 : decode cX7_takeTurn 64 = .ok (.irem, 1) := by decide +kernel
theorem dX7_takeTurn_65 : decode cX7_takeTurn 65 = .ok (.iadd, 1) := by decide +kernel
theorem dX7_takeTurn_66 : decode cX7_takeTurn 66 = .ok (.iload_n 2, 1) := by decide +kernel
theorem dX7_takeTurn_67 : decode cX7_takeTurn 67 = .ok (.iconst 2, 1) := by decide +kernel
theorem dX7_takeTurn_68 : decode cX7_takeTurn 68 = .ok (.idiv, 1) := by decide +kernel
theorem dX7_takeTurn_69 : decode cX7_takeTurn 69 = .ok (.iconst 4, 1) := by decide +kernel
theorem dX7_takeTurn_70 : decode cX7_takeTurn 70 = .ok (.irem, 1) := by decide +kernel
theorem dX7_takeTurn_71 : decode cX7_takeTurn 71 = .ok (.invokevirtual 287, 3) := by decide +kernel
theorem dX7_takeTurn_74 : decode cX7_takeTurn 74 = .ok (.pop, 1) := by decide +kernel
theorem dX7_takeTurn_75 : decode cX7_takeTurn 75 = .ok (.goto 52, 3) := by decide +kernel
theorem dX7_takeTurn_78 : decode cX7_takeTurn 78 = .ok (.aload_n 0, 1) := by decide +kernel
theorem dX7_takeTurn_79 : decode cX7_takeTurn 79 = .ok (.getfield 23, 3) := by decide +kernel
theorem dX7_takeTurn_82 : decode cX7_takeTurn 82 = .ok (.bipush 10, 2) := by decide +kernel
theorem dX7_takeTurn_84 : decode cX7_takeTurn 84 = .ok (.iload_n 2, 1) := by decide +kernel
theorem dX7_takeTurn_85 : decode cX7_takeTurn 85 = .ok (.bipush 21, 2) := by decide +kernel
theorem dX7_takeTurn_87 : decode cX7_takeTurn 87 = .ok (.irem, 1) := by decide +kernel
theorem dX7_takeTurn_88 : decode cX7_takeTurn 88 = .ok (.iadd, 1) := by decide +kernel
theorem dX7_takeTurn_89 : decode cX7_takeTurn 89 = .ok (.iload_n 2, 1) := by decide +kernel
theorem dX7_takeTurn_90 : decode cX7_takeTurn 90 = .ok (.bipush 32, 2) := by decide +kernel
theorem dX7_takeTurn_92 : decode cX7_takeTurn 92 = .ok (.idiv, 1) := by decide +kernel
theorem dX7_takeTurn_93 : decode cX7_takeTurn 93 = .ok (.iconst 5, 1) := by decide +kernel
theorem dX7_takeTurn_94 : decode cX7_takeTurn 94 = .ok (.irem, 1) := by decide +kernel
theorem dX7_takeTurn_95 : decode cX7_takeTurn 95 = .ok (.iconst 2, 1) := by decide +kernel
theorem dX7_takeTurn_96 : decode cX7_takeTurn 96 = .ok (.isub, 1) := by decide +kernel
theorem dX7_takeTurn_97 : decode cX7_takeTurn 97 = .ok (.iconst 1, 1) := by decide +kernel
theorem dX7_takeTurn_98 : decode cX7_takeTurn 98 = .ok (.iload_n 2, 1) := by decide +kernel
theorem dX7_takeTurn_99 : decode cX7_takeTurn 99 = .ok (.sipush 256, 3) := by decide +kernel
theorem dX7_takeTurn_102 : decode cX7_takeTurn 102 = .ok (.idiv, 1) := by decide +kernel
theorem dX7_takeTurn_103 : decode cX7_takeTurn 103 = .ok (.bipush 30, 2) := by decide +kernel
theorem dX7_takeTurn_105 : decode cX7_takeTurn 105 = .ok (.irem, 1) := by decide +kernel
theorem dX7_takeTurn_106 : decode cX7_takeTurn 106 = .ok (.iadd, 1) := by decide +kernel
theorem dX7_takeTurn_107 : decode cX7_takeTurn 107 = .ok (.iload_n 2, 1) := by decide +kernel
theorem dX7_takeTurn_108 : decode cX7_takeTurn 108 = .ok (.sipush 8192, 3) := by decide +kernel
theorem dX7_takeTurn_111 : decode cX7_takeTurn 111 = .ok (.idiv, 1) := by decide +kernel
theorem dX7_takeTurn_112 : decode cX7_takeTurn 112 = .ok (.bipush 16, 2) := by decide +kernel
theorem dX7_takeTurn_114 : decode cX7_takeTurn 114 = .ok (.irem, 1) := by decide +kernel
theorem dX7_takeTurn_115 : decode cX7_takeTurn 115 = .ok (.ifCond .ne 7, 3) := by decide +kernel
theorem dX7_takeTurn_118 : decode cX7_takeTurn 118 = .ok (.iconst 1, 1) := by decide +kernel
theorem dX7_takeTurn_119 : decode cX7_takeTurn 119 = .ok (.goto 4, 3) := by decide +kernel
theorem dX7_takeTurn_122 : decode cX7_takeTurn 122 = .ok (.iconst 0, 1) := by decide +kernel
theorem dX7_takeTurn_123 : decode cX7_takeTurn 123 = .ok (.invokevirtual 290, 3) := by decide +kernel
theorem dX7_takeTurn_126 : decode cX7_takeTurn 126 = .ok (.pop, 1) := by decide +kernel
theorem dX7_takeTurn_127 : decode cX7_takeTurn 127 = .ok (.return_, 1) := by decide +kernel
set_option maxRecDepth 20000 in
theorem ggX7_save_X7_isSlot : GoodIn wsX7_save wsX7_isSlot := goodIn_r _ [8] (by decide +kernel) (by decide +kernel)
set_option maxRecDepth 20000 in
theorem gX7_save_X7_isSlot : GoodIn wsX7_save (va_wsS RX7 294 yX7_isSlot wsX7_isSlot) := goodIn_app (goodIn_of _ (by decide +kernel)) ggX7_save_X7_isSlot
set_option maxRecDepth 20000 in
theorem ggX7_save_X5_keep : GoodIn wsX7_save wsX5_keep := goodIn_r _ [13, 14, 15, 6, 7, 8, 16, 17, 18, 19, 20, 21, 22, 23, 24, 25, 26, 27, 28, 29, 30, 31, 32, 33, 34, 35, 36, 37, 38, 39, 40, 41, 42, 43, 59, 60, 53, 54, 55, 56, 57, 58, 61, 62, 63, 64, 65, 66, 67, 68, 69] (by decide +kernel) (by decide +kernel)
set_option maxRecDepth 20000 in
theorem gX7_save_X5_keep : GoodIn wsX7_save (wsV RX7 299 RX5 yX5_keep wsX5_keep) := goodIn_app (goodIn_of _ (by decide +kernel)) ggX7_save_X5_keep
set_option maxRecDepth 20000 in
theorem ggX7_save_X4_rolls : GoodIn wsX7_save wsX4_rolls := goodIn_r _ [47, 42, 66, 67, 68, 69] (by decide +kernel) (by decide +kernel)
set_option maxRecDepth 20000 in
theorem gX7_save_X4_rolls : GoodIn wsX7_save (wsV RX7 92 RX4 yX4_rolls wsX4_rolls) := goodIn_app (goodIn_of _ (by decide +kernel)) ggX7_save_X4_rolls
theorem dX7_save_0 : decode cX7_save 0 = .ok (.iload_n 1, 1) := by decide +kernel
theorem dX7_save_1 : decode cX7_save 1 = .ok (.invokestatic 294, 3) := by decide +kernel
theorem dX7_save_4 : decode cX7_save 4 = .ok (.ifCond .ne 14, 3) := by decide +kernel
theorem dX7_save_7 : decode cX7_save 7 = .ok (.new 134, 3) := by decide +kernel
theorem dX7_save_10 : decode cX7_save 10 = .ok (.dup, 1) := by decide +kernel
theorem dX7_save_11 : decode cX7_save 11 = .ok (.ldc_w 297, 3) := by decide +kernel
theorem dX7_save_14 : decode cX7_save 14 = .ok (.invokespecial 138, 3) := by decide +kernel
theorem dX7_save_17 : decode cX7_save 17 = .ok (.athrow, 1) := by decide +kernel
theorem dX7_save_18 : decode cX7_save 18 = .ok (.aload_n 0, 1) := by decide +kernel
theorem dX7_save_19 : decode cX7_save 19 = .ok (.getfield 36, 3) := by decide +kernel
theorem dX7_save_22 : decode cX7_save 22 = .ok (.iload_n 1, 1) := by decide +kernel
theorem dX7_save_23 : decode cX7_save 23 = .ok (.aload_n 0, 1) := by decide +kernel
theorem dX7_save_24 : decode cX7_save 24 = .ok (.getfield 19, 3) := by decide +kernel
theorem dX7_save_27 : decode cX7_save 27 = .ok (.invokevirtual 299, 3) := by decide +kernel
theorem dX7_save_30 : decode cX7_save 30 = .ok (.aload_n 0, 1) := by decide +kernel
theorem dX7_save_31 : decode cX7_save 31 = .ok (.getfield 19, 3) := by decide +kernel
theorem dX7_save_34 : decode cX7_save 34 = .ok (.getfield 80, 3) := by decide +kernel
theorem dX7_save_37 : decode cX7_save 37 = .ok (.invokevirtual 92, 3) := by decide +kernel
theorem dX7_save_40 : decode cX7_save 40 = .ok (.ireturn, 1) := by decide +kernel
set_option maxRecDepth 20000 in
theorem ggX7_restore_X7_isSlot : GoodIn wsX7_restore wsX7_isSlot := goodIn_r _ [11] (by decide +kernel) (by decide +kernel)
set_option maxRecDepth 20000 in
theorem gX7_restore_X7_isSlot : GoodIn wsX7_restore (va_wsS RX7 294 yX7_isSlot wsX7_isSlot) := goodIn_app (goodIn_of _ (by decide +kernel)) ggX7_restore_X7_isSlot
set_option maxRecDepth 20000 in
theorem ggX7_restore_X5_isKept : GoodIn wsX7_restore wsX5_isKept := goodIn_r _ [16, 17, 9, 10, 11, 73, 74] (by decide +kernel) (by decide +kernel)
set_option maxRecDepth 20000 in
theorem gX7_restore_X5_isKept : GoodIn wsX7_restore (wsV RX7 303 RX5 yX5_isKept wsX5_isKept) := goodIn_app (goodIn_of _ (by decide +kernel)) ggX7_restore_X5_isKept
set_option maxRecDepth 20000 in
theorem ggX7_restore_X5_giveBack : GoodIn wsX7_restore wsX5_giveBack := goodIn_r _ [21, 22, 23, 13, 14, 15, 16, 17, 9, 10, 11, 24, 25, 26, 27, 28, 29, 30, 31, 32, 33, 34, 35, 36, 37, 38, 39, 40, 41, 42, 43, 44, 45, 46, 47, 48, 49, 50, 51, 73, 74, 67, 68, 69, 70, 71, 72, 75, 76, 77, 78, 79, 80, 81, 82, 83] (by decide +kernel) (by decide +kernel)
set_option maxRecDepth 20000 in
theorem gX7_restore_X5_giveBack : GoodIn wsX7_restore (wsV RX7 308 RX5 yX5_giveBack wsX5_giveBack) := goodIn_app (goodIn_of _ (by decide +kernel)) ggX7_restore_X5_giveBack
set_option maxRecDepth 20000 in
theorem ggX7_restore_X1_forget : GoodIn wsX7_restore wsX1_forget := goodIn_r _ [56, 57, 84, 85, 86] (by decide +kernel) (by decide +kernel)
set_option maxRecDepth 20000 in
theorem gX7_restore_X1_forget : GoodIn wsX7_restore (wsV RX7 72 RX1 yX1_forget wsX1_forget) := goodIn_app (goodIn_of _ (by decide +kernel)) ggX7_restore_X1_forget
set_option maxRecDepth 20000 in
theorem ggX7_restore_X4_rolls : GoodIn wsX7_restore wsX4_rolls := goodIn_r _ [61, 50, 80, 81, 82, 83] (by decide +kernel) (by decide +kernel)
set_option maxRecDepth 20000 in
theorem gX7_restore_X4_rolls : GoodIn wsX7_restore (wsV RX7 92 RX4 yX4_rolls wsX4_rolls) := goodIn_app (goodIn_of _ (by decide +kernel)) ggX7_restore_X4_rolls
theorem dX7_restore_0 : decode cX7_restore 0 = .ok (.iload_n 1, 1) := by decide +kernel
theorem dX7_restore_1 : decode cX7_restore 1 = .ok (.invokestatic 294, 3) := by decide +kernel
theorem dX7_restore_4 : decode cX7_restore 4 = .ok (.ifCond .ne 14, 3) := by decide +kernel
theorem dX7_restore_7 : decode cX7_restore 7 = .ok (.new 134, 3) := by decide +kernel
theorem dX7_restore_10 : decode cX7_restore 10 = .ok (.dup, 1) := by decide +kernel
theorem dX7_restore_11 : decode cX7_restore 11 = .ok (.ldc_w 297, 3) := by decide +kernel
theorem dX7_restore_14 : decode cX7_restore 14 = .ok (.invokespecial 138, 3) := by decide +kernel
theorem dX7_restore_17 : decode cX7_restore 17 = .ok (.athrow, 1) := by decide +kernel
theorem dX7_restore_18 : decode cX7_restore 18 = .ok (.aload_n 0, 1) := by decide +kernel
theorem dX7_restore_19 : decode cX7_restore 19 = .ok (.getfield 36, 3) := by decide +kernel
theorem dX7_restore_22 : decode cX7_restore 22 = .ok (.iload_n 1, 1) := by decide +kernel
theorem dX7_restore_23 : decode cX7_restore 23 = .ok (.invokevirtual 303, 3) := by decide +kernel
theorem dX7_restore_26 : decode cX7_restore 26 = .ok (.ifCond .ne 14, 3) := by decide +kernel
theorem dX7_restore_29 : decode cX7_restore 29 = .ok (.new 51, 3) := by decide +kernel
theorem dX7_restore_32 : decode cX7_restore 32 = .ok (.dup, 1) := by decide +kernel
theorem dX7_restore_33 : decode cX7_restore 33 = .ok (.ldc_w 306, 3) := by decide +kernel
theorem dX7_restore_36 : decode cX7_restore 36 = .ok (.invokespecial 55, 3) := by decide +kernel
theorem dX7_restore_39 : decode cX7_restore 39 = .ok (.athrow, 1) := by decide +kernel
theorem dX7_restore_40 : decode cX7_restore 40 = .ok (.aload_n 0, 1) := by decide +kernel
theorem dX7_restore_41 : decode cX7_restore 41 = .ok (.getfield 36, 3) := by decide +kernel
theorem dX7_restore_44 : decode cX7_restore 44 = .ok (.iload_n 1, 1) := by decide +kernel
theorem dX7_restore_45 : decode cX7_restore 45 = .ok (.aload_n 0, 1) := by decide +kernel
theorem dX7_restore_46 : decode cX7_restore 46 = .ok (.getfield 19, 3) := by decide +kernel
theorem dX7_restore_49 : decode cX7_restore 49 = .ok (.invokevirtual 308, 3) := by decide +kernel
theorem dX7_restore_52 : decode cX7_restore 52 = .ok (.aload_n 0, 1) := by decide +kernel
theorem dX7_restore_53 : decode cX7_restore 53 = .ok (.getfield 29, 3) := by decide +kernel
theorem dX7_restore_56 : decode cX7_restore 56 = .ok (.invokevirtual 72, 3) := by decide +kernel
theorem dX7_restore_59 : decode cX7_restore 59 = .ok (.aload_n 0, 1) := by decide +kernel
theorem dX7_restore_60 : decode cX7_restore 60 = .ok (.getfield 19, 3) := by decide +kernel
theorem dX7_restore_63 : decode cX7_restore 63 = .ok (.getfield 80, 3) := by decide +kernel
theorem dX7_restore_66 : decode cX7_restore 66 = .ok (.invokevirtual 92, 3) := by decide +kernel
theorem dX7_restore_69 : decode cX7_restore 69 = .ok (.ireturn, 1) := by decide +kernel
theorem dX7_isPin_0 : decode cX7_isPin 0 = .ok (.iload_n 0, 1) := by decide +kernel
theorem dX7_isPin_1 : decode cX7_isPin 1 = .ok (.ifCond .lt 13, 3) := by decide +kernel
theorem dX7_isPin_4 : decode cX7_isPin 4 = .ok (.iload_n 0, 1) := by decide +kernel
theorem dX7_isPin_5 : decode cX7_isPin 5 = .ok (.bipush 10, 2) := by decide +kernel
theorem dX7_isPin_7 : decode cX7_isPin 7 = .ok (.if_icmp .ge 7, 3) := by decide +kernel
theorem dX7_isPin_10 : decode cX7_isPin 10 = .ok (.iconst 1, 1) := by decide +kernel
theorem dX7_isPin_11 : decode cX7_isPin 11 = .ok (.goto 4, 3) := by decide +kernel
theorem dX7_isPin_14 : decode cX7_isPin 14 = .ok (.iconst 0, 1) := by decide +kernel
theorem dX7_isPin_15 : decode cX7_isPin 15 = .ok (.ireturn, 1) := by decide +kernel
theorem dX7_isFrame_0 : decode cX7_isFrame 0 = .ok (.iload_n 0, 1) := by decide +kernel
theorem dX7_isFrame_1 : decode cX7_isFrame 1 = .ok (.ifCond .lt 13, 3) := by decide +kernel
theorem dX7_isFrame_4 : decode cX7_isFrame 4 = .ok (.iload_n 0, 1) := by decide +kernel
theorem dX7_isFrame_5 : decode cX7_isFrame 5 = .ok (.bipush 10, 2) := by decide +kernel
theorem dX7_isFrame_7 : decode cX7_isFrame 7 = .ok (.if_icmp .ge 7, 3) := by decide +kernel
theorem dX7_isFrame_10 : decode cX7_isFrame 10 = .ok (.iconst 1, 1) := by decide +kernel
theorem dX7_isFrame_11 : decode cX7_isFrame 11 = .ok (.goto 4, 3) := by decide +kernel
theorem dX7_isFrame_14 : decode cX7_isFrame 14 = .ok (.iconst 0, 1) := by decide +kernel
theorem dX7_isFrame_15 : decode cX7_isFrame 15 = .ok (.ireturn, 1) := by decide +kernel
theorem dX7_isLeaning_0 : decode cX7_isLeaning 0 = .ok (.iload_n 0, 1) := by decide +kernel
theorem dX7_isLeaning_1 : decode cX7_isLeaning 1 = .ok (.ifCond .lt 12, 3) := by decide +kernel
theorem dX7_isLeaning_4 : decode cX7_isLeaning 4 = .ok (.iload_n 0, 1) := by decide +kernel
theorem dX7_isLeaning_5 : decode cX7_isLeaning 5 = .ok (.iconst 3, 1) := by decide +kernel
theorem dX7_isLeaning_6 : decode cX7_isLeaning 6 = .ok (.if_icmp .gt 7, 3) := by decide +kernel
theorem dX7_isLeaning_9 : decode cX7_isLeaning 9 = .ok (.iconst 1, 1) := by decide +kernel
theorem dX7_isLeaning_10 : decode cX7_isLeaning 10 = .ok (.goto 4, 3) := by decide +kernel
theorem dX7_isLeaning_13 : decode cX7_isLeaning 13 = .ok (.iconst 0, 1) := by decide +kernel
theorem dX7_isLeaning_14 : decode cX7_isLeaning 14 = .ok (.ireturn, 1) := by decide +kernel
theorem dX7_isBall_0 : decode cX7_isBall 0 = .ok (.iload_n 0, 1) := by decide +kernel
theorem dX7_isBall_1 : decode cX7_isBall 1 = .ok (.ifCond .lt 24, 3) := by decide +kernel
theorem dX7_isBall_4 : decode cX7_isBall 4 = .ok (.iload_n 0, 1) := by decide +kernel
theorem dX7_isBall_5 : decode cX7_isBall 5 = .ok (.bipush 40, 2) := by decide +kernel
theorem dX7_isBall_7 : decode cX7_isBall 7 = .ok (.if_icmp .gt 18, 3) := by decide +kernel
theorem dX7_isBall_10 : decode cX7_isBall 10 = .ok (.iload_n 1, 1) := by decide +kernel
theorem dX7_isBall_11 : decode cX7_isBall 11 = .ok (.bipush (-2), 2) := by decide +kernel
theorem dX7_isBall_13 : decode cX7_isBall 13 = .ok (.if_icmp .lt 12, 3) := by decide +kernel
theorem dX7_isBall_16 : decode cX7_isBall 16 = .ok (.iload_n 1, 1) := by decide +kernel
theorem dX7_isBall_17 : decode cX7_isBall 17 = .ok (.iconst 2, 1) := by decide +kernel
theorem dX7_isBall_18 : decode cX7_isBall 18 = .ok (.if_icmp .gt 7, 3) := by decide +kernel
theorem dX7_isBall_21 : decode cX7_isBall 21 = .ok (.iconst 1, 1) := by decide +kernel
theorem dX7_isBall_22 : decode cX7_isBall 22 = .ok (.goto 4, 3) := by decide +kernel
theorem dX7_isBall_25 : decode cX7_isBall 25 = .ok (.iconst 0, 1) := by decide +kernel
theorem dX7_isBall_26 : decode cX7_isBall 26 = .ok (.ireturn, 1) := by decide +kernel
theorem dX7_isSpeed_0 : decode cX7_isSpeed 0 = .ok (.iload_n 0, 1) := by decide +kernel
theorem dX7_isSpeed_1 : decode cX7_isSpeed 1 = .ok (.iconst 1, 1) := by decide +kernel
theorem dX7_isSpeed_2 : decode cX7_isSpeed 2 = .ok (.if_icmp .lt 13, 3) := by decide +kernel
theorem dX7_isSpeed_5 : decode cX7_isSpeed 5 = .ok (.iload_n 0, 1) := by decide +kernel
theorem dX7_isSpeed_6 : decode cX7_isSpeed 6 = .ok (.bipush 30, 2) := by decide +kernel
theorem dX7_isSpeed_8 : decode cX7_isSpeed 8 = .ok (.if_icmp .gt 7, 3) := by decide +kernel
theorem dX7_isSpeed_11 : decode cX7_isSpeed 11 = .ok (.iconst 1, 1) := by decide +kernel
theorem dX7_isSpeed_12 : decode cX7_isSpeed 12 = .ok (.goto 4, 3) := by decide +kernel
theorem dX7_isSpeed_15 : decode cX7_isSpeed 15 = .ok (.iconst 0, 1) := by decide +kernel
theorem dX7_isSpeed_16 : decode cX7_isSpeed 16 = .ok (.ireturn, 1) := by decide +kernel
theorem dX7_isSetting_0 : decode cX7_isSetting 0 = .ok (.iload_n 0, 1) := by decide +kernel
theorem dX7_isSetting_1 : decode cX7_isSetting 1 = .ok (.ifCond .lt 12, 3) := by decide +kernel
theorem dX7_isSetting_4 : decode cX7_isSetting 4 = .ok (.iload_n 0, 1) := by decide +kernel
theorem dX7_isSetting_5 : decode cX7_isSetting 5 = .ok (.iconst 3, 1) := by decide +kernel
theorem dX7_isSetting_6 : decode cX7_isSetting 6 = .ok (.if_icmp .ge 7, 3) := by decide +kernel
theorem dX7_isSetting_9 : decode cX7_isSetting 9 = .ok (.iconst 1, 1) := by decide +kernel
theorem dX7_isSetting_10 : decode cX7_isSetting 10 = .ok (.goto 4, 3) := by decide +kernel
theorem dX7_isSetting_13 : decode cX7_isSetting 13 = .ok (.iconst 0, 1) := by decide +kernel
theorem dX7_isSetting_14 : decode cX7_isSetting 14 = .ok (.ireturn, 1) := by decide +kernel
set_option maxRecDepth 20000 in
theorem ggX7_isValue_X7_isLeaning : GoodIn wsX7_isValue wsX7_isLeaning := goodIn_r _ [4] (by decide +kernel) (by decide +kernel)
set_option maxRecDepth 20000 in
theorem gX7_isValue_X7_isLeaning : GoodIn wsX7_isValue (va_wsS RX7 198 yX7_isLeaning wsX7_isLeaning) := goodIn_app (goodIn_of _ (by decide +kernel)) ggX7_isValue_X7_isLeaning
theorem dX7_isValue_0 : decode cX7_isValue 0 = .ok (.iload_n 0, 1) := by decide +kernel
theorem dX7_isValue_1 : decode cX7_isValue 1 = .ok (.ifCond .ne 22, 3) := by decide +kernel
theorem dX7_isValue_4 : decode cX7_isValue 4 = .ok (.iload_n 1, 1) := by decide +kernel
theorem dX7_isValue_5 : decode cX7_isValue 5 = .ok (.iconst 3, 1) := by decide +kernel
theorem dX7_isValue_6 : decode cX7_isValue 6 = .ok (.if_icmp .lt 13, 3) := by decide +kernel
theorem dX7_isValue_9 : decode cX7_isValue 9 = .ok (.iload_n 1, 1) := by decide +kernel
theorem dX7_isValue_10 : decode cX7_isValue 10 = .ok (.bipush 90, 2) := by decide +kernel
theorem dX7_isValue_12 : decode cX7_isValue 12 = .ok (.if_icmp .gt 7, 3) := by decide +kernel
theorem dX7_isValue_15 : decode cX7_isValue 15 = .ok (.iconst 1, 1) := by decide +kernel
theorem dX7_isValue_16 : decode cX7_isValue 16 = .ok (.goto 11, 3) := by decide +kernel
theorem dX7_isValue_19 : decode cX7_isValue 19 = .ok (.iconst 0, 1) := by decide +kernel
theorem dX7_isValue_20 : decode cX7_isValue 20 = .ok (.goto 7, 3) := by decide +kernel
theorem dX7_isValue_23 : decode cX7_isValue 23 = .ok (.iload_n 1, 1) := by decide +kernel
theorem dX7_isValue_24 : decode cX7_isValue 24 = .ok (.invokestatic 198, 3) := by decide +kernel
theorem dX7_isValue_27 : decode cX7_isValue 27 = .ok (.ireturn, 1) := by decide +kernel
theorem dX7_isSlot_0 : decode cX7_isSlot 0 = .ok (.iload_n 0, 1) := by decide +kernel
theorem dX7_isSlot_1 : decode cX7_isSlot 1 = .ok (.ifCond .lt 12, 3) := by decide +kernel
theorem dX7_isSlot_4 : decode cX7_isSlot 4 = .ok (.iload_n 0, 1) := by decide +kernel
theorem dX7_isSlot_5 : decode cX7_isSlot 5 = .ok (.iconst 2, 1) := by decide +kernel
theorem dX7_isSlot_6 : decode cX7_isSlot 6 = .ok (.if_icmp .ge 7, 3) := by decide +kernel
theorem dX7_isSlot_9 : decode cX7_isSlot 9 = .ok (.iconst 1, 1) := by decide +kernel
theorem dX7_isSlot_10 : decode cX7_isSlot 10 = .ok (.goto 4, 3) := by decide +kernel
theorem dX7_isSlot_13 : decode cX7_isSlot 13 = .ok (.iconst 0, 1) := by decide +kernel
theorem dX7_isSlot_14 : decode cX7_isSlot 14 = .ok (.ireturn, 1) := by decide +kernel
