theorem dJ6_compare_7cf53_0 : decode cJ6_compare_7cf53 0 = .ok (.iload_n 0, 1) := by decide +kernel
theorem dJ6_compare_7cf53_1 : decode cJ6_compare_7cf53 1 = .ok (.iload_n 1, 1) := by decide +kernel
theorem dJ6_compare_7cf53_2 : decode cJ6_compare_7cf53 2 = .ok (.if_icmp .ge 7, 3) := by decide +kernel
theorem dJ6_compare_7cf53_5 : decode cJ6_compare_7cf53 5 = .ok (.iconst (-1), 1) := by decide +kernel
theorem dJ6_compare_7cf53_6 : decode cJ6_compare_7cf53 6 = .ok (.goto 13, 3) := by decide +kernel
theorem dJ6_compare_7cf53_9 : decode cJ6_compare_7cf53 9 = .ok (.iload_n 0, 1) := by decide +kernel
theorem dJ6_compare_7cf53_10 : decode cJ6_compare_7cf53 10 = .ok (.iload_n 1, 1) := by decide +kernel
theorem dJ6_compare_7cf53_11 : decode cJ6_compare_7cf53 11 = .ok (.if_icmp .ne 7, 3) := by decide +kernel
theorem dJ6_compare_7cf53_14 : decode cJ6_compare_7cf53 14 = .ok (.iconst 0, 1) := by decide +kernel
theorem dJ6_compare_7cf53_15 : decode cJ6_compare_7cf53 15 = .ok (.goto 4, 3) := by decide +kernel
theorem dJ6_compare_7cf53_18 : decode cJ6_compare_7cf53 18 = .ok (.iconst 1, 1) := by decide +kernel
theorem dJ6_compare_7cf53_19 : decode cJ6_compare_7cf53 19 = .ok (.ireturn, 1) := by decide +kernel
theorem dJ6_bitCount_0f7a4_0 : decode cJ6_bitCount_0f7a4 0 = .ok (.iload_n 0, 1) := by decide +kernel
theorem dJ6_bitCount_0f7a4_1 : decode cJ6_bitCount_0f7a4 1 = .ok (.iload_n 0, 1) := by decide +kernel
theorem dJ6_bitCount_0f7a4_2 : decode cJ6_bitCount_0f7a4 2 = .ok (.iconst 1, 1) := by decide +kernel
theorem dJ6_bitCount_0f7a4_3 : decode cJ6_bitCount_0f7a4 3 = .ok (.iushr, 1) := by decide +kernel
theorem dJ6_bitCount_0f7a4_4 : decode cJ6_bitCount_0f7a4 4 = .ok (.ldc_w 265, 3) := by decide +kernel
theorem dJ6_bitCount_0f7a4_7 : decode cJ6_bitCount_0f7a4 7 = .ok (.iand, 1) := by decide +kernel
theorem dJ6_bitCount_0f7a4_8 : decode cJ6_bitCount_0f7a4 8 = .ok (.isub, 1) := by decide +kernel
theorem dJ6_bitCount_0f7a4_9 : decode cJ6_bitCount_0f7a4 9 = .ok (.istore_n 0, 1) := by decide +kernel
theorem dJ6_bitCount_0f7a4_10 : decode cJ6_bitCount_0f7a4 10 = .ok (.iload_n 0, 1) := by decide +kernel
theorem dJ6_bitCount_0f7a4_11 : decode cJ6_bitCount_0f7a4 11 = .ok (.ldc_w 266, 3) := by decide +kernel
theorem dJ6_bitCount_0f7a4_14 : decode cJ6_bitCount_0f7a4 14 = .ok (.iand, 1) := by decide +kernel
theorem dJ6_bitCount_0f7a4_15 : decode cJ6_bitCount_0f7a4 15 = .ok (.iload_n 0, 1) := by decide +kernel
theorem dJ6_bitCount_0f7a4_16 : decode cJ6_bitCount_0f7a4 16 = .ok (.iconst 2, 1) := by decide +kernel
theorem dJ6_bitCount_0f7a4_17 : decode cJ6_bitCount_0f7a4 17 = .ok (.iushr, 1) := by decide +kernel
theorem dJ6_bitCount_0f7a4_18 : decode cJ6_bitCount_0f7a4 18 = .ok (.ldc_w 266, 3) := by decide +kernel
theorem dJ6_bitCount_0f7a4_21 : decode cJ6_bitCount_0f7a4 21 = .ok (.iand, 1) := by decide +kernel
theorem dJ6_bitCount_0f7a4_22 : decode cJ6_bitCount_0f7a4 22 = .ok (.iadd, 1) := by decide +kernel
theorem dJ6_bitCount_0f7a4_23 : decode cJ6_bitCount_0f7a4 23 = .ok (.istore_n 0, 1) := by decide +kernel
theorem dJ6_bitCount_0f7a4_24 : decode cJ6_bitCount_0f7a4 24 = .ok (.iload_n 0, 1) := by decide +kernel
theorem dJ6_bitCount_0f7a4_25 : decode cJ6_bitCount_0f7a4 25 = .ok (.iload_n 0, 1) := by decide +kernel
theorem dJ6_bitCount_0f7a4_26 : decode cJ6_bitCount_0f7a4 26 = .ok (.iconst 4, 1) := by decide +kernel
theorem dJ6_bitCount_0f7a4_27 : decode cJ6_bitCount_0f7a4 27 = .ok (.iushr, 1) := by decide +kernel
theorem dJ6_bitCount_0f7a4_28 : decode cJ6_bitCount_0f7a4 28 = .ok (.iadd, 1) := by decide +kernel
theorem dJ6_bitCount_0f7a4_29 : decode cJ6_bitCount_0f7a4 29 = .ok (.ldc_w 267, 3) := by decide +kernel
theorem dJ6_bitCount_0f7a4_32 : decode cJ6_bitCount_0f7a4 32 = .ok (.iand, 1) := by decide +kernel
theorem dJ6_bitCount_0f7a4_33 : decode cJ6_bitCount_0f7a4 33 = .ok (.istore_n 0, 1) := by decide +kernel
theorem dJ6_bitCount_0f7a4_34 : decode cJ6_bitCount_0f7a4 34 = .ok (.iload_n 0, 1) := by decide +kernel
theorem dJ6_bitCount_0f7a4_35 : decode cJ6_bitCount_0f7a4 35 = .ok (.iload_n 0, 1) := by decide +kernel
theorem dJ6_bitCount_0f7a4_36 : decode cJ6_bitCount_0f7a4 36 = .ok (.bipush 8, 2) := by decide +kernel
theorem dJ6_bitCount_0f7a4_38 : decode cJ6_bitCount_0f7a4 38 = .ok (.iushr, 1) := by decide +kernel
theorem dJ6_bitCount_0f7a4_39 : decode cJ6_bitCount_0f7a4 39 = .ok (.iadd, 1) := by decide +kernel
theorem dJ6_bitCount_0f7a4_40 : decode cJ6_bitCount_0f7a4 40 = .ok (.istore_n 0, 1) := by decide +kernel
theorem dJ6_bitCount_0f7a4_41 : decode cJ6_bitCount_0f7a4 41 = .ok (.iload_n 0, 1) := by decide +kernel
theorem dJ6_bitCount_0f7a4_42 : decode cJ6_bitCount_0f7a4 42 = .ok (.iload_n 0, 1) := by decide +kernel
theorem dJ6_bitCount_0f7a4_43 : decode cJ6_bitCount_0f7a4 43 = .ok (.bipush 16, 2) := by decide +kernel
theorem dJ6_bitCount_0f7a4_45 : decode cJ6_bitCount_0f7a4 45 = .ok (.iushr, 1) := by decide +kernel
theorem dJ6_bitCount_0f7a4_46 : decode cJ6_bitCount_0f7a4 46 = .ok (.iadd, 1) := by decide +kernel
theorem dJ6_bitCount_0f7a4_47 : decode cJ6_bitCount_0f7a4 47 = .ok (.istore_n 0, 1) := by decide +kernel
theorem dJ6_bitCount_0f7a4_48 : decode cJ6_bitCount_0f7a4 48 = .ok (.iload_n 0, 1) := by decide +kernel
theorem dJ6_bitCount_0f7a4_49 : decode cJ6_bitCount_0f7a4 49 = .ok (.bipush 63, 2) := by decide +kernel
theorem dJ6_bitCount_0f7a4_51 : decode cJ6_bitCount_0f7a4 51 = .ok (.iand, 1) := by decide +kernel
theorem dJ6_bitCount_0f7a4_52 : decode cJ6_bitCount_0f7a4 52 = .ok (.ireturn, 1) := by decide +kernel
theorem dJ9_floorMod_7cf53_0 : decode cJ9_floorMod_7cf53 0 = .ok (.iload_n 0, 1) := by decide +kernel
theorem dJ9_floorMod_7cf53_1 : decode cJ9_floorMod_7cf53 1 = .ok (.iload_n 1, 1) := by decide +kernel
theorem dJ9_floorMod_7cf53_2 : decode cJ9_floorMod_7cf53 2 = .ok (.irem, 1) := by decide +kernel
theorem dJ9_floorMod_7cf53_3 : decode cJ9_floorMod_7cf53 3 = .ok (.istore_n 2, 1) := by decide +kernel
theorem dJ9_floorMod_7cf53_4 : decode cJ9_floorMod_7cf53 4 = .ok (.iload_n 0, 1) := by decide +kernel
theorem dJ9_floorMod_7cf53_5 : decode cJ9_floorMod_7cf53 5 = .ok (.iload_n 1, 1) := by decide +kernel
theorem dJ9_floorMod_7cf53_6 : decode cJ9_floorMod_7cf53 6 = .ok (.ixor, 1) := by decide +kernel
theorem dJ9_floorMod_7cf53_7 : decode cJ9_floorMod_7cf53 7 = .ok (.ifCond .ge 11, 3) := by decide +kernel
theorem dJ9_floorMod_7cf53_10 : decode cJ9_floorMod_7cf53 10 = .ok (.iload_n 2, 1) := by decide +kernel
theorem dJ9_floorMod_7cf53_11 : decode cJ9_floorMod_7cf53 11 = .ok (.ifCond .eq 7, 3) := by decide +kernel
theorem dJ9_floorMod_7cf53_14 : decode cJ9_floorMod_7cf53 14 = .ok (.iload_n 2, 1) := by decide +kernel
theorem dJ9_floorMod_7cf53_15 : decode cJ9_floorMod_7cf53 15 = .ok (.iload_n 1, 1) := by decide +kernel
theorem dJ9_floorMod_7cf53_16 : decode cJ9_floorMod_7cf53 16 = .ok (.iadd, 1) := by decide +kernel
theorem dJ9_floorMod_7cf53_17 : decode cJ9_floorMod_7cf53 17 = .ok (.ireturn, 1) := by decide +kernel
theorem dJ9_floorMod_7cf53_18 : decode cJ9_floorMod_7cf53 18 = .ok (.iload_n 2, 1) := by decide +kernel
theorem dJ9_floorMod_7cf53_19 : decode cJ9_floorMod_7cf53 19 = .ok (.ireturn, 1) := by decide +kernel
theorem dJ9_max_7cf53_0 : decode cJ9_max_7cf53 0 = .ok (.iload_n 0, 1) := by decide +kernel
theorem dJ9_max_7cf53_1 : decode cJ9_max_7cf53 1 = .ok (.iload_n 1, 1) := by decide +kernel
theorem dJ9_max_7cf53_2 : decode cJ9_max_7cf53 2 = .ok (.if_icmp .lt 7, 3) := by decide +kernel
theorem dJ9_max_7cf53_5 : decode cJ9_max_7cf53 5 = .ok (.iload_n 0, 1) := by decide +kernel
theorem dJ9_max_7cf53_6 : decode cJ9_max_7cf53 6 = .ok (.goto 4, 3) := by decide +kernel
theorem dJ9_max_7cf53_9 : decode cJ9_max_7cf53 9 = .ok (.iload_n 1, 1) := by decide +kernel
theorem dJ9_max_7cf53_10 : decode cJ9_max_7cf53 10 = .ok (.ireturn, 1) := by decide +kernel
theorem dJ9_min_7cf53_0 : decode cJ9_min_7cf53 0 = .ok (.iload_n 0, 1) := by decide +kernel
theorem dJ9_min_7cf53_1 : decode cJ9_min_7cf53 1 = .ok (.iload_n 1, 1) := by decide +kernel
theorem dJ9_min_7cf53_2 : decode cJ9_min_7cf53 2 = .ok (.if_icmp .gt 7, 3) := by decide +kernel
theorem dJ9_min_7cf53_5 : decode cJ9_min_7cf53 5 = .ok (.iload_n 0, 1) := by decide +kernel
theorem dJ9_min_7cf53_6 : decode cJ9_min_7cf53 6 = .ok (.goto 4, 3) := by decide +kernel
theorem dJ9_min_7cf53_9 : decode cJ9_min_7cf53 9 = .ok (.iload_n 1, 1) := by decide +kernel
theorem dJ9_min_7cf53_10 : decode cJ9_min_7cf53 10 = .ok (.ireturn, 1) := by decide +kernel
theorem dX0_init_0 : decode cX0_init 0 = .ok (.aload_n 0, 1) := by decide +kernel
theorem dX0_init_1 : decode cX0_init 1 = .ok (.invokespecial 3, 3) := by decide +kernel
theorem dX0_init_4 : decode cX0_init 4 = .ok (.aload_n 0, 1) := by decide +kernel
theorem dX0_init_5 : decode cX0_init 5 = .ok (.bipush 120, 2) := by decide +kernel
theorem dX0_init_7 : decode cX0_init 7 = .ok (.newarray .int, 2) := by decide +kernel
theorem dX0_init_9 : decode cX0_init 9 = .ok (.putfield 9, 3) := by decide +kernel
theorem dX0_init_12 : decode cX0_init 12 = .ok (.return_, 1) := by decide +kernel
theorem dX0_isFull_0 : decode cX0_isFull 0 = .ok (.aload_n 0, 1) := by decide +kernel
theorem dX0_isFull_1 : decode cX0_isFull 1 = .ok (.getfield 15, 3) := by decide +kernel
theorem dX0_isFull_4 : decode cX0_isFull 4 = .ok (.bipush 120, 2) := by decide +kernel
theorem dX0_isFull_6 : decode cX0_isFull 6 = .ok (.if_icmp .lt 7, 3) := by decide +kernel
theorem dX0_isFull_9 : decode cX0_isFull 9 = .ok (.iconst 1, 1) := by decide +kernel
theorem dX0_isFull_10 : decode cX0_isFull 10 = .ok (.goto 4, 3) := by decide +kernel
theorem dX0_isFull_13 : decode cX0_isFull 13 = .ok (.iconst 0, 1) := by decide +kernel
theorem dX0_isFull_14 : decode cX0_isFull 14 = .ok (.ireturn, 1) := by decide +kernel
theorem dX0_add_0 : decode cX0_add 0 = .ok (.aload_n 0, 1) := by decide +kernel
theorem dX0_add_1 : decode cX0_add 1 = .ok (.getfield 15, 3) := by decide +kernel
theorem dX0_add_4 : decode cX0_add 4 = .ok (.ifCond .lt 32, 3) := by decide +kernel
theorem dX0_add_7 : decode cX0_add 7 = .ok (.aload_n 0, 1) := by decide +kernel
theorem dX0_add_8 : decode cX0_add 8 = .ok (.getfield 15, 3) := by decide +kernel
theorem dX0_add_11 : decode cX0_add 11 = .ok (.bipush 120, 2) := by decide +kernel
theorem dX0_add_13 : decode cX0_add 13 = .ok (.if_icmp .ge 23, 3) := by decide +kernel
theorem dX0_add_16 : decode cX0_add 16 = .ok (.aload_n 0, 1) := by decide +kernel
theorem dX0_add_17 : decode cX0_add 17 = .ok (.getfield 9, 3) := by decide +kernel
theorem dX0_add_20 : decode cX0_add 20 = .ok (.aload_n 0, 1) := by decide +kernel
theorem dX0_add_21 : decode cX0_add 21 = .ok (.getfield 15, 3) := by decide +kernel
theorem dX0_add_24 : decode cX0_add 24 = .ok (.iload_n 1, 1) := by decide +kernel
theorem dX0_add_25 : decode cX0_add 25 = .ok (.iastore, 1) := by decide +kernel
theorem dX0_add_26 : decode cX0_add 26 = .ok (.aload_n 0, 1) := by decide +kernel
theorem dX0_add_27 : decode cX0_add 27 = .ok (.dup, 1) := by decide +kernel
theorem dX0_add_28 : decode cX0_add 28 = .ok (.getfield 15, 3) := by decide +kernel
theorem dX0_add_31 : decode cX0_add 31 = .ok (.iconst 1, 1) := by decide +kernel
theorem dX0_add_32 : decode cX0_add 32 = .ok (.iadd, 1) := by decide +kernel
theorem dX0_add_33 : decode cX0_add 33 = .ok (.putfield 15, 3) := by decide +kernel
theorem dX0_add_36 : decode cX0_add 36 = .ok (.aload_n 0, 1) := by decide +kernel
theorem dX0_add_37 : decode cX0_add 37 = .ok (.getfield 15, 3) := by decide +kernel
theorem dX0_add_40 : decode cX0_add 40 = .ok (.ireturn, 1) := by decide +kernel
theorem dX0_signAt_0 : decode cX0_signAt 0 = .ok (.iload_n 1, 1) := by decide +kernel
theorem dX0_signAt_1 : decode cX0_signAt 1 = .ok (.ifCond .lt 26, 3) := by decide +kernel
theorem dX0_signAt_4 : decode cX0_signAt 4 = .ok (.iload_n 1, 1) := by decide +kernel
theorem dX0_signAt_5 : decode cX0_signAt 5 = .ok (.aload_n 0, 1) := by decide +kernel
theorem dX0_signAt_6 : decode cX0_signAt 6 = .ok (.getfield 15, 3) := by decide +kernel
theorem dX0_signAt_9 : decode cX0_signAt 9 = .ok (.if_icmp .ge 18, 3) := by decide +kernel
theorem dX0_signAt_12 : decode cX0_signAt 12 = .ok (.iload_n 1, 1) := by decide +kernel
theorem dX0_signAt_13 : decode cX0_signAt 13 = .ok (.bipush 120, 2) := by decide +kernel
theorem dX0_signAt_15 : decode cX0_signAt 15 = .ok (.if_icmp .ge 12, 3) := by decide +kernel
theorem dX0_signAt_18 : decode cX0_signAt 18 = .ok (.aload_n 0, 1) := by decide +kernel
theorem dX0_signAt_19 : decode cX0_signAt 19 = .ok (.getfield 9, 3) := by decide +kernel
theorem dX0_signAt_22 : decode cX0_signAt 22 = .ok (.iload_n 1, 1) := by decide +kernel
theorem dX0_signAt_23 : decode cX0_signAt 23 = .ok (.iaload, 1) := by decide +kernel
theorem dX0_signAt_24 : decode cX0_signAt 24 = .ok (.goto 4, 3) := by decide +kernel
theorem dX0_signAt_27 : decode cX0_signAt 27 = .ok (.iconst (-1), 1) := by decide +kernel
theorem dX0_signAt_28 : decode cX0_signAt 28 = .ok (.ireturn, 1) := by decide +kernel
set_option maxRecDepth 20000 in
theorem ggX0_firstError_X0_signAt : GoodIn wsX0_firstError wsX0_signAt := goodIn_r _ [6, 1, 7, 21, 22] (by decide +kernel) (by decide +kernel)
set_option maxRecDepth 20000 in
theorem gX0_firstError_X0_signAt : GoodIn wsX0_firstError (wsV RX0 19 RX0 yX0_signAt wsX0_signAt) := goodIn_app (goodIn_of _ (by decide +kernel)) ggX0_firstError_X0_signAt
set_option maxRecDepth 20000 in
theorem ggX0_firstError_X0_isFoulAt : GoodIn wsX0_firstError wsX0_isFoulAt := goodIn_r _ [11, 2, 3, 4, 5, 6, 1, 7, 12, 13, 14, 21, 22] (by decide +kernel) (by decide +kernel)
set_option maxRecDepth 20000 in
theorem gX0_firstError_X0_isFoulAt : GoodIn wsX0_firstError (wsV RX0 23 RX0 yX0_isFoulAt wsX0_isFoulAt) := goodIn_app (goodIn_of _ (by decide +kernel)) ggX0_firstError_X0_isFoulAt
set_option maxRecDepth 20000 in
theorem ggX0_firstError_X0_isAllowed : GoodIn wsX0_firstError wsX0_isAllowed := goodIn_r _ [17, 12, 13, 5, 14, 18, 19, 20] (by decide +kernel) (by decide +kernel)
set_option maxRecDepth 20000 in
theorem gX0_firstError_X0_isAllowed : GoodIn wsX0_firstError (va_wsS RX0 27 yX0_isAllowed wsX0_isAllowed) := goodIn_app (goodIn_of _ (by decide +kernel)) ggX0_firstError_X0_isAllowed
theorem dX0_firstError_0 : decode cX0_firstError 0 = .ok (.aload_n 0, 1) := by decide +kernel
theorem dX0_firstError_1 : decode cX0_firstError 1 = .ok (.iconst 0, 1) := by decide +kernel
theorem dX0_firstError_2 : decode cX0_firstError 2 = .ok (.invokevirtual 19, 3) := by decide +kernel
theorem dX0_firstError_5 : decode cX0_firstError 5 = .ok (.bipush 80, 2) := by decide +kernel
theorem dX0_firstError_7 : decode cX0_firstError 7 = .ok (.if_icmp .eq 5, 3) := by decide +kernel
theorem dX0_firstError_10 : decode cX0_firstError 10 = .ok (.iconst 0, 1) := by decide +kernel
theorem dX0_firstError_11 : decode cX0_firstError 11 = .ok (.ireturn, 1) := by decide +kernel
theorem dX0_firstError_12 : decode cX0_firstError 12 = .ok (.iconst 0, 1) := by decide +kernel
theorem dX0_firstError_13 : decode cX0_firstError 13 = .ok (.istore_n 1, 1) := by decide +kernel
theorem dX0_firstError_14 : decode cX0_firstError 14 = .ok (.iconst 1, 1) := by decide +kernel
theorem dX0_firstError_15 : decode cX0_firstError 15 = .ok (.istore_n 2, 1) := by decide +kernel
theorem dX0_firstError_16 : decode cX0_firstError 16 = .ok (.iload_n 2, 1) := by decide +kernel
theorem dX0_firstError_17 : decode cX0_firstError 17 = .ok (.aload_n 0, 1) := by decide +kernel
theorem dX0_firstError_18 : decode cX0_firstError 18 = .ok (.getfield 15, 3) := by decide +kernel
theorem dX0_firstError_21 : decode cX0_firstError 21 = .ok (.if_icmp .ge 58, 3) := by decide +kernel
theorem dX0_firstError_24 : decode cX0_firstError 24 = .ok (.aload_n 0, 1) := by decide +kernel
theorem dX0_firstError_25 : decode cX0_firstError 25 = .ok (.iload_n 2, 1) := by decide +kernel
theorem dX0_firstError_26 : decode cX0_firstError 26 = .ok (.invokevirtual 23, 3) := by decide +kernel
theorem dX0_firstError_29 : decode cX0_firstError 29 = .ok (.ifCond .eq 10, 3) := by decide +kernel
theorem dX0_firstError_32 : decode cX0_firstError 32 = .ok (.iload_n 1, 1) := by decide +kernel
theorem dX0_firstError_33 : decode cX0_firstError 33 = .ok (.ifCond .ne 6, 3) := by decide +kernel
theorem dX0_firstError_36 : decode cX0_firstError 36 = .ok (.goto 37, 3) := by decide +kernel
theorem dX0_firstError_39 : decode cX0_firstError 39 = .ok (.iload_n 1, 1) := by decide +kernel
theorem dX0_firstError_40 : decode cX0_firstError 40 = .ok (.aload_n 0, 1) := by decide +kernel
theorem dX0_firstError_41 : decode cX0_firstError 41 = .ok (.iload_n 2, 1) := by decide +kernel
theorem dX0_firstError_42 : decode cX0_firstError 42 = .ok (.invokevirtual 19, 3) := by decide +kernel
theorem dX0_firstError_45 : decode cX0_firstError 45 = .ok (.aload_n 0, 1) := by decide +kernel
theorem dX0_firstError_46 : decode cX0_firstError 46 = .ok (.iload_n 2, 1) := by decide +kernel
theorem dX0_firstError_47 : decode cX0_firstError 47 = .ok (.iconst 1, 1) := by decide +kernel
theorem dX0_firstError_48 : decode cX0_firstError 48 = .ok (.isub, 1) := by decide +kernel
theorem dX0_firstError_49 : decode cX0_firstError 49 = .ok (.invokevirtual 19, 3) := by decide +kernel
theorem dX0_firstError_52 : decode cX0_firstError 52 = .ok (.invokestatic 27, 3) := by decide +kernel
theorem dX0_firstError_55 : decode cX0_firstError 55 = .ok (.ifCond .ne 5, 3) := by decide +kernel
theorem dX0_firstError_58 : decode cX0_firstError 58 = .ok (.iload_n 2, 1) := by decide +kernel
theorem dX0_firstError_59 : decode cX0_firstError 59 = .ok (.ireturn, 1) := by decide +kernel
theorem dX0_firstError_60 : decode cX0_firstError 60 = .ok (.iload_n 1, 1) := by decide +kernel
theorem dX0_firstError_61 : decode cX0_firstError 61 = .ok (.iconst 4, 1) := by decide +kernel
theorem dX0_firstError_62 : decode cX0_firstError 62 = .ok (.if_icmp .ne 7, 3) := by decide +kernel
theorem dX0_firstError_65 : decode cX0_firstError 65 = .ok (.iconst 0, 1) := by decide +kernel
theorem dX0_firstError_66 : decode cX0_firstError 66 = .ok (.goto 6, 3) := by decide +kernel
theorem dX0_firstError_69 : decode cX0_firstError 69 = .ok (.iload_n 1, 1) := by decide +kernel
theorem dX0_firstError_70 : decode cX0_firstError 70 = .ok (.iconst 1, 1) := by decide +kernel
theorem dX0_firstError_71 : decode cX0_firstError 71 = .ok (.iadd, 1) := by decide +kernel
theorem dX0_firstError_72 : decode cX0_firstError 72 = .ok (.istore_n 1, 1) := by decide +kernel
theorem dX0_firstError_73 : decode cX0_firstError 73 = .ok (.iinc 2 1, 3) := by decide +kernel
theorem dX0_firstError_76 : decode cX0_firstError 76 = .ok (.goto (-60), 3) := by decide +kernel
theorem dX0_firstError_79 : decode cX0_firstError 79 = .ok (.iload_n 1, 1) := by decide +kernel
theorem dX0_firstError_80 : decode cX0_firstError 80 = .ok (.ifCond .ne 7, 3) := by decide +kernel
theorem dX0_firstError_83 : decode cX0_firstError 83 = .ok (.iconst (-1), 1) := by decide +kernel
theorem dX0_firstError_84 : decode cX0_firstError 84 = .ok (.goto 7, 3) := by decide +kernel
theorem dX0_firstError_87 : decode cX0_firstError 87 = .ok (.aload_n 0, 1) := by decide +kernel
theorem dX0_firstError_88 : decode cX0_firstError 88 = .ok (.getfield 15, 3) := by decide +kernel
theorem dX0_firstError_91 : decode cX0_firstError 91 = .ok (.ireturn, 1) := by decide +kernel
set_option maxRecDepth 20000 in
theorem ggX0_isFoulAt_X0_signAt : GoodIn wsX0_isFoulAt wsX0_signAt := goodIn_r _ [5, 6, 7, 11, 12] (by decide +kernel) (by decide +kernel)
set_option maxRecDepth 20000 in
theorem gX0_isFoulAt_X0_signAt : GoodIn wsX0_isFoulAt (wsV RX0 19 RX0 yX0_signAt wsX0_signAt) := goodIn_app (goodIn_of _ (by decide +kernel)) ggX0_isFoulAt_X0_signAt
set_option maxRecDepth 20000 in
theorem ggX0_isFoulAt_X0_isBetween : GoodIn wsX0_isFoulAt wsX0_isBetween := goodIn_r _ [10] (by decide +kernel) (by decide +kernel)
set_option maxRecDepth 20000 in
theorem gX0_isFoulAt_X0_isBetween : GoodIn wsX0_isFoulAt (va_wsS RX0 31 yX0_isBetween wsX0_isBetween) := goodIn_app (goodIn_of _ (by decide +kernel)) ggX0_isFoulAt_X0_isBetween
theorem dX0_isFoulAt_0 : decode cX0_isFoulAt 0 = .ok (.aload_n 0, 1) := by decide +kernel
theorem dX0_isFoulAt_1 : decode cX0_isFoulAt 1 = .ok (.iload_n 1, 1) := by decide +kernel
theorem dX0_isFoulAt_2 : decode cX0_isFoulAt 2 = .ok (.invokevirtual 19, 3) := by decide +kernel
theorem dX0_isFoulAt_5 : decode cX0_isFoulAt 5 = .ok (.bipush 102, 2) := by decide +kernel
theorem dX0_isFoulAt_7 : decode cX0_isFoulAt 7 = .ok (.if_icmp .ne 24, 3) := by decide +kernel
theorem dX0_isFoulAt_10 : decode cX0_isFoulAt 10 = .ok (.aload_n 0, 1) := by decide +kernel
theorem dX0_isFoulAt_11 : decode cX0_isFoulAt 11 = .ok (.iload_n 1, 1) := by decide +kernel
theorem dX0_isFoulAt_12 : decode cX0_isFoulAt 12 = .ok (.iconst 1, 1) := by decide +kernel
theorem dX0_isFoulAt_13 : decode cX0_isFoulAt 13 = .ok (.isub, 1) := by decide +kernel
theorem dX0_isFoulAt_14 : decode cX0_isFoulAt 14 = .ok (.invokevirtual 19, 3) := by decide +kernel
theorem dX0_isFoulAt_17 : decode cX0_isFoulAt 17 = .ok (.bipush 48, 2) := by decide +kernel
theorem dX0_isFoulAt_19 : decode cX0_isFoulAt 19 = .ok (.bipush 57, 2) := by decide +kernel
theorem dX0_isFoulAt_21 : decode cX0_isFoulAt 21 = .ok (.invokestatic 31, 3) := by decide +kernel
theorem dX0_isFoulAt_24 : decode cX0_isFoulAt 24 = .ok (.ifCond .eq 7, 3) := by decide +kernel
theorem dX0_isFoulAt_27 : decode cX0_isFoulAt 27 = .ok (.iconst 1, 1) := by decide +kernel
theorem dX0_isFoulAt_28 : decode cX0_isFoulAt 28 = .ok (.goto 4, 3) := by decide +kernel
theorem dX0_isFoulAt_31 : decode cX0_isFoulAt 31 = .ok (.iconst 0, 1) := by decide +kernel
theorem dX0_isFoulAt_32 : decode cX0_isFoulAt 32 = .ok (.ireturn, 1) := by decide +kernel
set_option maxRecDepth 20000 in
theorem ggX0_isAllowed_X0_isBetween : GoodIn wsX0_isAllowed wsX0_isBetween := goodIn_r _ [4] (by decide +kernel) (by decide +kernel)
set_option maxRecDepth 20000 in
theorem gX0_isAllowed_X0_isBetween : GoodIn wsX0_isAllowed (va_wsS RX0 31 yX0_isBetween wsX0_isBetween) := goodIn_app (goodIn_of _ (by decide +kernel)) ggX0_isAllowed_X0_isBetween
set_option maxRecDepth 20000 in
theorem ggX0_isAllowed_X0_driftOf : GoodIn wsX0_isAllowed wsX0_driftOf := goodIn_r _ [7] (by decide +kernel) (by decide +kernel)
set_option maxRecDepth 20000 in
theorem gX0_isAllowed_X0_driftOf : GoodIn wsX0_isAllowed (va_wsS RX0 34 yX0_driftOf wsX0_driftOf) := goodIn_app (goodIn_of _ (by decide +kernel)) ggX0_isAllowed_X0_driftOf
theorem dX0_isAllowed_0 : decode cX0_isAllowed 0 = .ok (.iload_n 0, 1) := by decide +kernel
theorem dX0_isAllowed_1 : decode cX0_isAllowed 1 = .ok (.tableswitch 83 0 3 #[31, 40, 60, 74], 31) := by decide +kernel
theorem dX0_isAllowed_32 : decode cX0_isAllowed 32 = .ok (.iload_n 1, 1) := by decide +kernel
theorem dX0_isAllowed_33 : decode cX0_isAllowed 33 = .ok (.bipush 48, 2) := by decide +kernel
theorem dX0_isAllowed_35 : decode cX0_isAllowed 35 = .ok (.bipush 52, 2) := by decide +kernel
theorem dX0_isAllowed_37 : decode cX0_isAllowed 37 = .ok (.invokestatic 31, 3) := by decide +kernel
theorem dX0_isAllowed_40 : decode cX0_isAllowed 40 = .ok (.ireturn, 1) := by decide +kernel
theorem dX0_isAllowed_41 : decode cX0_isAllowed 41 = .ok (.iload_n 1, 1) := by decide +kernel
theorem dX0_isAllowed_42 : decode cX0_isAllowed 42 = .ok (.bipush 48, 2) := by decide +kernel
theorem dX0_isAllowed_44 : decode cX0_isAllowed 44 = .ok (.iload_n 2, 1) := by decide +kernel
theorem dX0_isAllowed_45 : decode cX0_isAllowed 45 = .ok (.bipush 52, 2) := by decide +kernel
theorem dX0_isAllowed_47 : decode cX0_isAllowed 47 = .ok (.if_icmp .ne 8, 3) := by decide +kernel
theorem dX0_isAllowed_50 : decode cX0_isAllowed 50 = .ok (.bipush 48, 2) := by decide +kernel
theorem dX0_isAllowed_52 : decode cX0_isAllowed 52 = .ok (.goto 5, 3) := by decide +kernel
theorem dX0_isAllowed_55 : decode cX0_isAllowed 55 = .ok (.bipush 57, 2) := by decide +kernel
theorem dX0_isAllowed_57 : decode cX0_isAllowed 57 = .ok (.invokestatic 31, 3) := by decide +kernel
theorem dX0_isAllowed_60 : decode cX0_isAllowed 60 = .ok (.ireturn, 1) := by decide +kernel
theorem dX0_isAllowed_61 : decode cX0_isAllowed 61 = .ok (.iload_n 1, 1) := by decide +kernel
theorem dX0_isAllowed_62 : decode cX0_isAllowed 62 = .ok (.invokestatic 34, 3) := by decide +kernel
theorem dX0_isAllowed_65 : decode cX0_isAllowed 65 = .ok (.iconst 3, 1) := by decide +kernel
theorem dX0_isAllowed_66 : decode cX0_isAllowed 66 = .ok (.if_icmp .eq 7, 3) := by decide +kernel
theorem dX0_isAllowed_69 : decode cX0_isAllowed 69 = .ok (.iconst 1, 1) := by decide +kernel
theorem dX0_isAllowed_70 : decode cX0_isAllowed 70 = .ok (.goto 4, 3) := by decide +kernel
theorem dX0_isAllowed_73 : decode cX0_isAllowed 73 = .ok (.iconst 0, 1) := by decide +kernel
theorem dX0_isAllowed_74 : decode cX0_isAllowed 74 = .ok (.ireturn, 1) := by decide +kernel
theorem dX0_isAllowed_75 : decode cX0_isAllowed 75 = .ok (.iload_n 1, 1) := by decide +kernel
theorem dX0_isAllowed_76 : decode cX0_isAllowed 76 = .ok (.bipush 48, 2) := by decide +kernel
theorem dX0_isAllowed_78 : decode cX0_isAllowed 78 = .ok (.bipush 51, 2) := by decide +kernel
theorem dX0_isAllowed_80 : decode cX0_isAllowed 80 = .ok (.invokestatic 31, 3) := by decide +kernel
theorem dX0_isAllowed_83 : decode cX0_isAllowed 83 = .ok (.ireturn, 1) := by decide +kernel
theorem dX0_isAllowed_84 : decode cX0_isAllowed 84 = .ok (.iload_n 1, 1) := by decide +kernel
theorem dX0_isAllowed_85 : decode cX0_isAllowed 85 = .ok (.iload_n 2, 1) := by decide +kernel
theorem dX0_isAllowed_86 : decode cX0_isAllowed 86 = .ok (.bipush 48, 2) := by decide +kernel
theorem dX0_isAllowed_88 : decode cX0_isAllowed 88 = .ok (.if_icmp .ne 8, 3) := by decide +kernel
theorem dX0_isAllowed_91 : decode cX0_isAllowed 91 = .ok (.bipush 49, 2) := by decide +kernel
theorem dX0_isAllowed_93 : decode cX0_isAllowed 93 = .ok (.goto 5, 3) := by decide +kernel
theorem dX0_isAllowed_96 : decode cX0_isAllowed 96 = .ok (.bipush 48, 2) := by decide +kernel
theorem dX0_isAllowed_98 : decode cX0_isAllowed 98 = .ok (.iload_n 2, 1) := by decide +kernel
theorem dX0_isAllowed_99 : decode cX0_isAllowed 99 = .ok (.bipush 51, 2) := by decide +kernel
theorem dX0_isAllowed_101 : decode cX0_isAllowed 101 = .ok (.if_icmp .ne 8, 3) := by decide +kernel
theorem dX0_isAllowed_104 : decode cX0_isAllowed 104 = .ok (.bipush 48, 2) := by decide +kernel
theorem dX0_isAllowed_106 : decode cX0_isAllowed 106 = .ok (.goto 5, 3) := by decide +kernel
theorem dX0_isAllowed_109 : decode cX0_isAllowed 109 = .ok (.bipush 57, 2) := by decide +kernel
theorem dX0_isAllowed_111 : decode cX0_isAllowed 111 = .ok (.invokestatic 31, 3) := by decide +kernel
theorem dX0_isAllowed_114 : decode cX0_isAllowed 114 = .ok (.ireturn, 1) := by decide +kernel
theorem dX0_isBetween_0 : decode cX0_isBetween 0 = .ok (.iload_n 0, 1) := by decide +kernel
theorem dX0_isBetween_1 : decode cX0_isBetween 1 = .ok (.iload_n 1, 1) := by decide +kernel
theorem dX0_isBetween_2 : decode cX0_isBetween 2 = .ok (.if_icmp .lt 12, 3) := by decide +kernel
theorem dX0_isBetween_5 : decode cX0_isBetween 5 = .ok (.iload_n 0, 1) := by decide +kernel
theorem dX0_isBetween_6 : decode cX0_isBetween 6 = .ok (.iload_n 2, 1) := by decide +kernel
theorem dX0_isBetween_7 : decode cX0_isBetween 7 = .ok (.if_icmp .gt 7, 3) := by decide +kernel
theorem dX0_isBetween_10 : decode cX0_isBetween 10 = .ok (.iconst 1, 1) := by decide +kernel
theorem dX0_isBetween_11 : decode cX0_isBetween 11 = .ok (.goto 4, 3) := by decide +kernel
theorem dX0_isBetween_14 : decode cX0_isBetween 14 = .ok (.iconst 0, 1) := by decide +kernel
theorem dX0_isBetween_15 : decode cX0_isBetween 15 = .ok (.ireturn, 1) := by decide +kernel
theorem dX0_driftOf_0 : decode cX0_driftOf 0 = .ok (.iload_n 0, 1) := by decide +kernel
theorem dX0_driftOf_1 : decode cX0_driftOf 1 = .ok (.tableswitch 62 107 115 #[54, 51, 56, 62, 62, 62, 62, 58, 60], 51) := by decide +kernel
theorem dX0_driftOf_52 : decode cX0_driftOf 52 = .ok (.bipush (-2), 2) := by decide +kernel
theorem dX0_driftOf_54 : decode cX0_driftOf 54 = .ok (.ireturn, 1) := by decide +kernel
theorem dX0_driftOf_55 : decode cX0_driftOf 55 = .ok (.iconst (-1), 1) := by decide +kernel
theorem dX0_driftOf_56 : decode cX0_driftOf 56 = .ok (.ireturn, 1) := by decide +kernel
theorem dX0_driftOf_57 : decode cX0_driftOf 57 = .ok (.iconst 0, 1) := by decide +kernel
theorem dX0_driftOf_58 : decode cX0_driftOf 58 = .ok (.ireturn, 1) := by decide +kernel
theorem dX0_driftOf_59 : decode cX0_driftOf 59 = .ok (.iconst 1, 1) := by decide +kernel
theorem dX0_driftOf_60 : decode cX0_driftOf 60 = .ok (.ireturn, 1) := by decide +kernel
theorem dX0_driftOf_61 : decode cX0_driftOf 61 = .ok (.iconst 2, 1) := by decide +kernel
theorem dX0_driftOf_62 : decode cX0_driftOf 62 = .ok (.ireturn, 1) := by decide +kernel
theorem dX0_driftOf_63 : decode cX0_driftOf 63 = .ok (.iconst 3, 1) := by decide +kernel
theorem dX0_driftOf_64 : decode cX0_driftOf 64 = .ok (.ireturn, 1) := by decide +kernel
set_option maxRecDepth 20000 in
theorem ggX0_playOn_X0_numberAt : GoodIn wsX0_playOn wsX0_numberAt := goodIn_r _ [6, 7, 8, 9, 5, 10, 1, 11, 148, 149] (by decide +kernel) (by decide +kernel)
set_option maxRecDepth 20000 in
theorem gX0_playOn_X0_numberAt : GoodIn wsX0_playOn (wsV RX0 37 RX0 yX0_numberAt wsX0_numberAt) := goodIn_app (goodIn_of _ (by decide +kernel)) ggX0_playOn_X0_numberAt
set_option maxRecDepth 20000 in
theorem ggX0_playOn_X0_signAt : GoodIn wsX0_playOn wsX0_signAt := goodIn_r _ [10, 1, 11, 148, 149] (by decide +kernel) (by decide +kernel)
set_option maxRecDepth 20000 in
theorem gX0_playOn_X0_signAt : GoodIn wsX0_playOn (wsV RX0 19 RX0 yX0_signAt wsX0_signAt) := goodIn_app (goodIn_of _ (by decide +kernel)) ggX0_playOn_X0_signAt
set_option maxRecDepth 20000 in
theorem ggX0_playOn_X0_driftOf : GoodIn wsX0_playOn wsX0_driftOf := goodIn_r _ [14] (by decide +kernel) (by decide +kernel)
set_option maxRecDepth 20000 in
theorem gX0_playOn_X0_driftOf : GoodIn wsX0_playOn (va_wsS RX0 34 yX0_driftOf wsX0_driftOf) := goodIn_app (goodIn_of _ (by decide +kernel)) ggX0_playOn_X0_driftOf
set_option maxRecDepth 20000 in
theorem ggX0_playOn_X0_isFoulAt : GoodIn wsX0_playOn wsX0_isFoulAt := goodIn_r _ [18, 7, 8, 9, 5, 10, 1, 11, 19, 20, 21, 148, 149] (by decide +kernel) (by decide +kernel)
set_option maxRecDepth 20000 in
theorem gX0_playOn_X0_isFoulAt : GoodIn wsX0_playOn (wsV RX0 23 RX0 yX0_isFoulAt wsX0_isFoulAt) := goodIn_app (goodIn_of _ (by decide +kernel)) ggX0_playOn_X0_isFoulAt
set_option maxRecDepth 20000 in
theorem ggX0_playOn_X6_tryRoll : GoodIn wsX0_playOn wsX6_tryRoll := goodIn_r _ [26, 27, 28, 29, 30, 31, 32, 33, 34, 35, 36, 37, 38, 39, 40, 41, 25, 42, 43, 44, 45, 46, 47, 48, 49, 50, 51, 52, 53, 54, 55, 56, 57, 58, 59, 60, 61, 62, 63, 64, 65, 66, 67, 68, 69, 70, 71, 72, 73, 74, 75, 76, 77, 78, 79, 80, 81, 82, 83, 84, 85, 86, 87, 88, 89, 90, 91, 92, 93, 94, 95, 96, 97, 98, 99, 100, 101, 102, 103, 104, 105, 106, 107, 108, 109, 110, 111, 112, 113, 114, 115, 116, 117, 118, 119, 120, 121, 122, 123, 124, 125, 126, 127, 128, 129, 130, 131, 132, 133, 134, 135, 136, 137, 138, 139, 140, 141, 142, 143, 144, 145, 146, 147, 150, 151, 152, 153, 154, 155, 156, 157, 158, 159, 160, 161, 162, 163, 164] (by decide +kernel) (by decide +kernel)
set_option maxRecDepth 20000 in
theorem gX0_playOn_X6_tryRoll : GoodIn wsX0_playOn (wsV RX0 40 RX6 yX6_tryRoll wsX6_tryRoll) := goodIn_app (goodIn_of _ (by decide +kernel)) ggX0_playOn_X6_tryRoll
theorem dX0_playOn_0 : decode cX0_playOn 0 = .ok (.iconst 0, 1) := by decide +kernel
theorem dX0_playOn_1 : decode cX0_playOn 1 = .ok (.istore_n 2, 1) := by decide +kernel
theorem dX0_playOn_2 : decode cX0_playOn 2 = .ok (.iconst 1, 1) := by decide +kernel
theorem dX0_playOn_3 : decode cX0_playOn 3 = .ok (.istore_n 3, 1) := by decide +kernel
theorem dX0_playOn_4 : decode cX0_playOn 4 = .ok (.iload_n 3, 1) := by decide +kernel
theorem dX0_playOn_5 : decode cX0_playOn 5 = .ok (.aload_n 0, 1) := by decide +kernel
theorem dX0_playOn_6 : decode cX0_playOn 6 = .ok (.getfield 15, 3) := by decide +kernel
theorem dX0_playOn_9 : decode cX0_playOn 9 = .ok (.if_icmp .ge 70, 3) := by decide +kernel
theorem dX0_playOn_12 : decode cX0_playOn 12 = .ok (.aload_n 0, 1) := by decide +kernel
theorem dX0_playOn_13 : decode cX0_playOn 13 = .ok (.iload_n 3, 1) := by decide +kernel
theorem dX0_playOn_14 : decode cX0_playOn 14 = .ok (.invokevirtual 37, 3) := by decide +kernel
theorem dX0_playOn_17 : decode cX0_playOn 17 = .ok (.istore 4, 2) := by decide +kernel
theorem dX0_playOn_19 : decode cX0_playOn 19 = .ok (.aload_n 0, 1) := by decide +kernel
theorem dX0_playOn_20 : decode cX0_playOn 20 = .ok (.iload_n 3, 1) := by decide +kernel
theorem dX0_playOn_21 : decode cX0_playOn 21 = .ok (.iconst 2, 1) := by decide +kernel
theorem dX0_playOn_22 : decode cX0_playOn 22 = .ok (.iadd, 1) := by decide +kernel
theorem dX0_playOn_23 : decode cX0_playOn 23 = .ok (.invokevirtual 19, 3) := by decide +kernel
theorem dX0_playOn_26 : decode cX0_playOn 26 = .ok (.invokestatic 34, 3) := by decide +kernel
theorem dX0_playOn_29 : decode cX0_playOn 29 = .ok (.istore 5, 2) := by decide +kernel
theorem dX0_playOn_31 : decode cX0_playOn 31 = .ok (.aload_n 0, 1) := by decide +kernel
theorem dX0_playOn_32 : decode cX0_playOn 32 = .ok (.iload_n 3, 1) := by decide +kernel
theorem dX0_playOn_33 : decode cX0_playOn 33 = .ok (.iconst 3, 1) := by decide +kernel
theorem dX0_playOn_34 : decode cX0_playOn 34 = .ok (.iadd, 1) := by decide +kernel
theorem dX0_playOn_35 : decode cX0_playOn 35 = .ok (.invokevirtual 37, 3) := by decide +kernel
theorem dX0_playOn_38 : decode cX0_playOn 38 = .ok (.istore 6, 2) := by decide +kernel
theorem dX0_playOn_40 : decode cX0_playOn 40 = .ok (.iinc 3 5, 3) := by decide +kernel
theorem dX0_playOn_43 : decode cX0_playOn 43 = .ok (.aload_n 0, 1) := by decide +kernel
theorem dX0_playOn_44 : decode cX0_playOn 44 = .ok (.iload_n 3, 1) := by decide +kernel
theorem dX0_playOn_45 : decode cX0_playOn 45 = .ok (.invokevirtual 23, 3) := by decide +kernel
theorem dX0_playOn_48 : decode cX0_playOn 48 = .ok (.istore 7, 2) := by decide +kernel
theorem dX0_playOn_50 : decode cX0_playOn 50 = .ok (.iload 7, 2) := by decide +kernel
theorem dX0_playOn_52 : decode cX0_playOn 52 = .ok (.ifCond .eq 6, 3) := by decide +kernel
theorem dX0_playOn_55 : decode cX0_playOn 55 = .ok (.iinc 3 1, 3) := by decide +kernel
theorem dX0_playOn_58 : decode cX0_playOn 58 = .ok (.aload_n 1, 1) := by decide +kernel
theorem dX0_playOn_59 : decode cX0_playOn 59 = .ok (.iload 4, 2) := by decide +kernel
theorem dX0_playOn_61 : decode cX0_playOn 61 = .ok (.iload 5, 2) := by decide +kernel
theorem dX0_playOn_63 : decode cX0_playOn 63 = .ok (.iload 6, 2) := by decide +kernel
theorem dX0_playOn_65 : decode cX0_playOn 65 = .ok (.iload 7, 2) := by decide +kernel
theorem dX0_playOn_67 : decode cX0_playOn 67 = .ok (.invokevirtual 40, 3) := by decide +kernel
theorem dX0_playOn_70 : decode cX0_playOn 70 = .ok (.ifCond .ne 6, 3) := by decide +kernel
theorem dX0_playOn_73 : decode cX0_playOn 73 = .ok (.iinc 2 1, 3) := by decide +kernel
theorem dX0_playOn_76 : decode cX0_playOn 76 = .ok (.goto (-72), 3) := by decide +kernel
theorem dX0_playOn_79 : decode cX0_playOn 79 = .ok (.iload_n 2, 1) := by decide +kernel
theorem dX0_playOn_80 : decode cX0_playOn 80 = .ok (.ireturn, 1) := by decide +kernel
set_option maxRecDepth 20000 in
theorem ggX0_numberAt_X0_signAt : GoodIn wsX0_numberAt wsX0_signAt := goodIn_r _ [5, 6, 7, 8, 9] (by decide +kernel) (by decide +kernel)
set_option maxRecDepth 20000 in
theorem gX0_numberAt_X0_signAt : GoodIn wsX0_numberAt (wsV RX0 19 RX0 yX0_signAt wsX0_signAt) := goodIn_app (goodIn_of _ (by decide +kernel)) ggX0_numberAt_X0_signAt
theorem dX0_numberAt_0 : decode cX0_numberAt 0 = .ok (.bipush 10, 2) := by decide +kernel
theorem dX0_numberAt_2 : decode cX0_numberAt 2 = .ok (.aload_n 0, 1) := by decide +kernel
theorem dX0_numberAt_3 : decode cX0_numberAt 3 = .ok (.iload_n 1, 1) := by decide +kernel
theorem dX0_numberAt_4 : decode cX0_numberAt 4 = .ok (.invokevirtual 19, 3) := by decide +kernel
theorem dX0_numberAt_7 : decode cX0_numberAt 7 = .ok (.bipush 48, 2) := by decide +kernel
theorem dX0_numberAt_9 : decode cX0_numberAt 9 = .ok (.isub, 1) := by decide +kernel
theorem dX0_numberAt_10 : decode cX0_numberAt 10 = .ok (.imul, 1) := by decide +kernel
theorem dX0_numberAt_11 : decode cX0_numberAt 11 = .ok (.aload_n 0, 1) := by decide +kernel
theorem dX0_numberAt_12 : decode cX0_numberAt 12 = .ok (.iload_n 1, 1) := by decide +kernel
theorem dX0_numberAt_13 : decode cX0_numberAt 13 = .ok (.iconst 1, 1) := by decide +kernel
theorem dX0_numberAt_14 : decode cX0_numberAt 14 = .ok (.iadd, 1) := by decide +kernel
theorem dX0_numberAt_15 : decode cX0_numberAt 15 = .ok (.invokevirtual 19, 3) := by decide +kernel
theorem dX0_numberAt_18 : decode cX0_numberAt 18 = .ok (.iadd, 1) := by decide +kernel
theorem dX0_numberAt_19 : decode cX0_numberAt 19 = .ok (.bipush 48, 2) := by decide +kernel
theorem dX0_numberAt_21 : decode cX0_numberAt 21 = .ok (.isub, 1) := by decide +kernel
theorem dX0_numberAt_22 : decode cX0_numberAt 22 = .ok (.ireturn, 1) := by decide +kernel
set_option maxRecDepth 20000 in
theorem ggX1_init_X6_init : GoodIn wsX1_init wsX6_init := goodIn_r _ [10, 11, 2, 3, 12, 13, 14, 15, 16, 17, 18, 19, 20, 21, 22, 23, 24, 25, 26, 27, 28, 29, 30, 31, 32, 33, 34, 35, 36, 37, 7, 38, 48, 49, 50, 51, 52, 42, 43, 44, 45, 46, 47, 53, 54, 55, 56] (by decide +kernel) (by decide +kernel)
set_option maxRecDepth 20000 in
theorem gX1_init_X6_init : GoodIn wsX1_init (wsX6_init) := ggX1_init_X6_init
theorem dX1_init_0 : decode cX1_init 0 = .ok (.aload_n 0, 1) := by decide +kernel
theorem dX1_init_1 : decode cX1_init 1 = .ok (.invokespecial 3, 3) := by decide +kernel
theorem dX1_init_4 : decode cX1_init 4 = .ok (.aload_n 0, 1) := by decide +kernel
theorem dX1_init_5 : decode cX1_init 5 = .ok (.bipush 14, 2) := by decide +kernel
theorem dX1_init_7 : decode cX1_init 7 = .ok (.anewarray 9, 3) := by decide +kernel
theorem dX1_init_10 : decode cX1_init 10 = .ok (.putfield 11, 3) := by decide +kernel
theorem dX1_init_13 : decode cX1_init 13 = .ok (.iconst 0, 1) := by decide +kernel
theorem dX1_init_14 : decode cX1_init 14 = .ok (.istore_n 1, 1) := by decide +kernel
theorem dX1_init_15 : decode cX1_init 15 = .ok (.iload_n 1, 1) := by decide +kernel
theorem dX1_init_16 : decode cX1_init 16 = .ok (.bipush 14, 2) := by decide +kernel
theorem dX1_init_18 : decode cX1_init 18 = .ok (.if_icmp .ge 22, 3) := by decide +kernel
theorem dX1_init_21 : decode cX1_init 21 = .ok (.aload_n 0, 1) := by decide +kernel
theorem dX1_init_22 : decode cX1_init 22 = .ok (.getfield 11, 3) := by decide +kernel
theorem dX1_init_25 : decode cX1_init 25 = .ok (.iload_n 1, 1) := by decide +kernel
theorem dX1_init_26 : decode cX1_init 26 = .ok (.new 9, 3) := by decide +kernel
theorem dX1_init_29 : decode cX1_init 29 = .ok (.dup, 1) := by decide +kernel
theorem dX1_init_30 : decode cX1_init 30 = .ok (.invokespecial 17, 3) := by decide +kernel
theorem dX1_init_33 : decode cX1_init 33 = .ok (.aastore, 1) := by decide +kernel
theorem dX1_init_34 : decode cX1_init 34 = .ok (.iinc 1 1, 3) := by decide +kernel
theorem dX1_init_37 : decode cX1_init 37 = .ok (.goto (-22), 3) := by decide +kernel
theorem dX1_init_40 : decode cX1_init 40 = .ok (.return_, 1) := by decide +kernel
theorem dX1_isEmpty_0 : decode cX1_isEmpty 0 = .ok (.aload_n 0, 1) := by decide +kernel
theorem dX1_isEmpty_1 : decode cX1_isEmpty 1 = .ok (.getfield 18, 3) := by decide +kernel
theorem dX1_isEmpty_4 : decode cX1_isEmpty 4 = .ok (.ifCond .ne 7, 3) := by decide +kernel
theorem dX1_isEmpty_7 : decode cX1_isEmpty 7 = .ok (.iconst 1, 1) := by decide +kernel
theorem dX1_isEmpty_8 : decode cX1_isEmpty 8 = .ok (.goto 4, 3) := by decide +kernel
theorem dX1_isEmpty_11 : decode cX1_isEmpty 11 = .ok (.iconst 0, 1) := by decide +kernel
theorem dX1_isEmpty_12 : decode cX1_isEmpty 12 = .ok (.ireturn, 1) := by decide +kernel
theorem dX1_forget_0 : decode cX1_forget 0 = .ok (.aload_n 0, 1) := by decide +kernel
theorem dX1_forget_1 : decode cX1_forget 1 = .ok (.iconst 0, 1) := by decide +kernel
theorem dX1_forget_2 : decode cX1_forget 2 = .ok (.putfield 18, 3) := by decide +kernel
theorem dX1_forget_5 : decode cX1_forget 5 = .ok (.return_, 1) := by decide +kernel
set_option maxRecDepth 20000 in
theorem ggX1_remember_J9_floorMod_7cf53 : GoodIn wsX1_remember wsJ9_floorMod_7cf53 := goodIn_r _ [11] (by decide +kernel) (by decide +kernel)
set_option maxRecDepth 20000 in
theorem gX1_remember_J9_floorMod_7cf53 : GoodIn wsX1_remember (va_wsS RX1 25 yJ9_floorMod_7cf53 wsJ9_floorMod_7cf53) := goodIn_app (goodIn_of _ (by decide +kernel)) ggX1_remember_J9_floorMod_7cf53
set_option maxRecDepth 20000 in
theorem ggX1_remember_X6_copyFrom : GoodIn wsX1_remember wsX6_copyFrom := goodIn_r _ [16, 17, 18, 19, 20, 21, 22, 23, 24, 25, 26, 27, 28, 29, 30, 31, 32, 33, 34, 35, 36, 37, 38, 39, 43, 44, 45, 46, 47, 48, 49, 50, 51, 52, 53, 54, 55, 56, 57] (by decide +kernel) (by decide +kernel)
set_option maxRecDepth 20000 in
theorem gX1_remember_X6_copyFrom : GoodIn wsX1_remember (wsV RX1 31 RX6 yX6_copyFrom wsX6_copyFrom) := goodIn_app (goodIn_of _ (by decide +kernel)) ggX1_remember_X6_copyFrom
theorem dX1_remember_0 : decode cX1_remember 0 = .ok (.aload_n 0, 1) := by decide +kernel
theorem dX1_remember_1 : decode cX1_remember 1 = .ok (.getfield 11, 3) := by decide +kernel
theorem dX1_remember_4 : decode cX1_remember 4 = .ok (.aload_n 0, 1) := by decide +kernel
theorem dX1_remember_5 : decode cX1_remember 5 = .ok (.getfield 22, 3) := by decide +kernel
theorem dX1_remember_8 : decode cX1_remember 8 = .ok (.bipush 14, 2) := by decide +kernel
theorem dX1_remember_10 : decode cX1_remember 10 = .ok (.invokestatic 25, 3) := by decide +kernel
theorem dX1_remember_13 : decode cX1_remember 13 = .ok (.aaload, 1) := by decide +kernel
theorem dX1_remember_14 : decode cX1_remember 14 = .ok (.aload_n 1, 1) := by decide +kernel
theorem dX1_remember_15 : decode cX1_remember 15 = .ok (.invokevirtual 31, 3) := by decide +kernel
theorem dX1_remember_18 : decode cX1_remember 18 = .ok (.aload_n 0, 1) := by decide +kernel
theorem dX1_remember_19 : decode cX1_remember 19 = .ok (.aload_n 0, 1) := by decide +kernel
theorem dX1_remember_20 : decode cX1_remember 20 = .ok (.getfield 22, 3) := by decide +kernel
theorem dX1_remember_23 : decode cX1_remember 23 = .ok (.iconst 1, 1) := by decide +kernel
theorem dX1_remember_24 : decode cX1_remember 24 = .ok (.iadd, 1) := by decide +kernel
theorem dX1_remember_25 : decode cX1_remember 25 = .ok (.bipush 14, 2) := by decide +kernel
theorem dX1_remember_27 : decode cX1_remember 27 = .ok (.invokestatic 25, 3) := by decide +kernel
theorem dX1_remember_30 : decode cX1_remember 30 = .ok (.putfield 22, 3) := by decide +kernel
theorem dX1_remember_33 : decode cX1_remember 33 = .ok (.aload_n 0, 1) := by decide +kernel
theorem dX1_remember_34 : decode cX1_remember 34 = .ok (.aload_n 0, 1) := by decide +kernel
theorem dX1_remember_35 : decode cX1_remember 35 = .ok (.getfield 18, 3) := by decide +kernel
theorem dX1_remember_38 : decode cX1_remember 38 = .ok (.iconst 1, 1) := by decide +kernel
theorem dX1_remember_39 : decode cX1_remember 39 = .ok (.iadd, 1) := by decide +kernel
theorem dX1_remember_40 : decode cX1_remember 40 = .ok (.bipush 14, 2) := by decide +kernel
theorem dX1_remember_42 : decode cX1_remember 42 = .ok (.invokestatic 35, 3) := by decide +kernel
theorem dX1_remember_45 : decode cX1_remember 45 = .ok (.putfield 18, 3) := by decide +kernel
theorem dX1_remember_48 : decode cX1_remember 48 = .ok (.return_, 1) := by decide +kernel
set_option maxRecDepth 20000 in
theorem ggX1_takeBack_J9_floorMod_7cf53 : GoodIn wsX1_takeBack wsJ9_floorMod_7cf53 := goodIn_r _ [11] (by decide +kernel) (by decide +kernel)
set_option maxRecDepth 20000 in
theorem gX1_takeBack_J9_floorMod_7cf53 : GoodIn wsX1_takeBack (va_wsS RX1 25 yJ9_floorMod_7cf53 wsJ9_floorMod_7cf53) := goodIn_app (goodIn_of _ (by decide +kernel)) ggX1_takeBack_J9_floorMod_7cf53
set_option maxRecDepth 20000 in
theorem ggX1_takeBack_X6_copyFrom : GoodIn wsX1_takeBack wsX6_copyFrom := goodIn_r _ [16, 17, 18, 19, 20, 21, 22, 23, 24, 25, 26, 27, 28, 29, 30, 31, 32, 33, 34, 35, 36, 37, 38, 39, 43, 44, 45, 46, 47, 48, 49, 50, 51, 52, 53, 54, 55, 56, 57] (by decide +kernel) (by decide +kernel)
set_option maxRecDepth 20000 in
theorem gX1_takeBack_X6_copyFrom : GoodIn wsX1_takeBack (wsV RX1 31 RX6 yX6_copyFrom wsX6_copyFrom) := goodIn_app (goodIn_of _ (by decide +kernel)) ggX1_takeBack_X6_copyFrom
theorem dX1_takeBack_0 : decode cX1_takeBack 0 = .ok (.aload_n 0, 1) := by decide +kernel
theorem dX1_takeBack_1 : decode cX1_takeBack 1 = .ok (.aload_n 0, 1) := by decide +kernel
theorem dX1_takeBack_2 : decode cX1_takeBack 2 = .ok (.getfield 22, 3) := by decide +kernel
theorem dX1_takeBack_5 : decode cX1_takeBack 5 = .ok (.iconst 1, 1) := by decide +kernel
theorem dX1_takeBack_6 : decode cX1_takeBack 6 = .ok (.isub, 1) := by decide +kernel
theorem dX1_takeBack_7 : decode cX1_takeBack 7 = .ok (.bipush 14, 2) := by decide +kernel
theorem dX1_takeBack_9 : decode cX1_takeBack 9 = .ok (.invokestatic 25, 3) := by decide +kernel
theorem dX1_takeBack_12 : decode cX1_takeBack 12 = .ok (.putfield 22, 3) := by decide +kernel
theorem dX1_takeBack_15 : decode cX1_takeBack 15 = .ok (.aload_n 0, 1) := by decide +kernel
theorem dX1_takeBack_16 : decode cX1_takeBack 16 = .ok (.aload_n 0, 1) := by decide +kernel
theorem dX1_takeBack_17 : decode cX1_takeBack 17 = .ok (.getfield 18, 3) := by decide +kernel
theorem dX1_takeBack_20 : decode cX1_takeBack 20 = .ok (.iconst 1, 1) := by decide +kernel
theorem dX1_takeBack_21 : decode cX1_takeBack 21 = .ok (.isub, 1) := by decide +kernel
theorem dX1_takeBack_22 : decode cX1_takeBack 22 = .ok (.iconst 0, 1) := by decide +kernel
theorem dX1_takeBack_23 : decode cX1_takeBack 23 = .ok (.invokestatic 38, 3) := by decide +kernel
theorem dX1_takeBack_26 : decode cX1_takeBack 26 = .ok (.putfield 18, 3) := by decide +kernel
theorem dX1_takeBack_29 : decode cX1_takeBack 29 = .ok (.aload_n 1, 1) := by decide +kernel
theorem dX1_takeBack_30 : decode cX1_takeBack 30 = .ok (.aload_n 0, 1) := by decide +kernel
theorem dX1_takeBack_31 : decode cX1_takeBack 31 = .ok (.getfield 11, 3) := by decide +kernel
theorem dX1_takeBack_34 : decode cX1_takeBack 34 = .ok (.aload_n 0, 1) := by decide +kernel
theorem dX1_takeBack_35 : decode cX1_takeBack 35 = .ok (.getfield 22, 3) := by decide +kernel
theorem dX1_takeBack_38 : decode cX1_takeBack 38 = .ok (.aaload, 1) := by decide +kernel
theorem dX1_takeBack_39 : decode cX1_takeBack 39 = .ok (.invokevirtual 31, 3) := by decide +kernel
theorem dX1_takeBack_42 : decode cX1_takeBack 42 = .ok (.aload_n 0, 1) := by decide +kernel
theorem dX1_takeBack_43 : decode cX1_takeBack 43 = .ok (.getfield 18, 3) := by decide +kernel
theorem dX1_takeBack_46 : decode cX1_takeBack 46 = .ok (.ireturn, 1) := by decide +kernel
theorem dX2_init_0 : decode cX2_init 0 = .ok (.aload_n 0, 1) := by decide +kernel
theorem dX2_init_1 : decode cX2_init 1 = .ok (.invokespecial 3, 3) := by decide +kernel
theorem dX2_init_4 : decode cX2_init 4 = .ok (.aload_n 0, 1) := by decide +kernel
theorem dX2_init_5 : decode cX2_init 5 = .ok (.bipush 10, 2) := by decide +kernel
theorem dX2_init_7 : decode cX2_init 7 = .ok (.newarray .int, 2) := by decide +kernel
theorem dX2_init_9 : decode cX2_init 9 = .ok (.putfield 9, 3) := by decide +kernel
theorem dX2_init_12 : decode cX2_init 12 = .ok (.aload_n 0, 1) := by decide +kernel
theorem dX2_init_13 : decode cX2_init 13 = .ok (.bipush 10, 2) := by decide +kernel
theorem dX2_init_15 : decode cX2_init 15 = .ok (.newarray .int, 2) := by decide +kernel
theorem dX2_init_17 : decode cX2_init 17 = .ok (.putfield 15, 3) := by decide +kernel
theorem dX2_init_20 : decode cX2_init 20 = .ok (.aload_n 0, 1) := by decide +kernel
theorem dX2_init_21 : decode cX2_init 21 = .ok (.sipush 1023, 3) := by decide +kernel
theorem dX2_init_24 : decode cX2_init 24 = .ok (.putfield 18, 3) := by decide +kernel
theorem dX2_init_27 : decode cX2_init 27 = .ok (.return_, 1) := by decide +kernel
theorem dX2_newRack_0 : decode cX2_newRack 0 = .ok (.iconst 0, 1) := by decide +kernel
theorem dX2_newRack_1 : decode cX2_newRack 1 = .ok (.istore_n 1, 1) := by decide +kernel
theorem dX2_newRack_2 : decode cX2_newRack 2 = .ok (.iload_n 1, 1) := by decide +kernel
theorem dX2_newRack_3 : decode cX2_newRack 3 = .ok (.bipush 10, 2) := by decide +kernel
theorem dX2_newRack_5 : decode cX2_newRack 5 = .ok (.if_icmp .ge 23, 3) := by decide +kernel
theorem dX2_newRack_8 : decode cX2_newRack 8 = .ok (.aload_n 0, 1) := by decide +kernel
theorem dX2_newRack_9 : decode cX2_newRack 9 = .ok (.getfield 9, 3) := by decide +kernel
theorem dX2_newRack_12 : decode cX2_newRack 12 = .ok (.iload_n 1, 1) := by decide +kernel
theorem dX2_newRack_13 : decode cX2_newRack 13 = .ok (.iconst 0, 1) := by decide +kernel
theorem dX2_newRack_14 : decode cX2_newRack 14 = .ok (.iastore, 1) := by decide +kernel
theorem dX2_newRack_15 : decode cX2_newRack 15 = .ok (.aload_n 0, 1) := by decide +kernel
theorem dX2_newRack_16 : decode cX2_newRack 16 = .ok (.getfield 15, 3) := by decide +kernel
theorem dX2_newRack_19 : decode cX2_newRack 19 = .ok (.iload_n 1, 1) := by decide +kernel
theorem dX2_newRack_20 : decode cX2_newRack 20 = .ok (.iconst 0, 1) := by decide +kernel
theorem dX2_newRack_21 : decode cX2_newRack 21 = .ok (.iastore, 1) := by decide +kernel
theorem dX2_newRack_22 : decode cX2_newRack 22 = .ok (.iinc 1 1, 3) := by decide +kernel
theorem dX2_newRack_25 : decode cX2_newRack 25 = .ok (.goto (-23), 3) := by decide +kernel
theorem dX2_newRack_28 : decode cX2_newRack 28 = .ok (.aload_n 0, 1) := by decide +kernel
theorem dX2_newRack_29 : decode cX2_newRack 29 = .ok (.sipush 1023, 3) := by decide +kernel
theorem dX2_newRack_32 : decode cX2_newRack 32 = .ok (.putfield 18, 3) := by decide +kernel
theorem dX2_newRack_35 : decode cX2_newRack 35 = .ok (.return_, 1) := by decide +kernel
theorem dX2_copyFrom_0 : decode cX2_copyFrom 0 = .ok (.iconst 0, 1) := by decide +kernel
theorem dX2_copyFrom_1 : decode cX2_copyFrom 1 = .ok (.istore_n 2, 1) := by decide +kernel
theorem dX2_copyFrom_2 : decode cX2_copyFrom 2 = .ok (.iload_n 2, 1) := by decide +kernel
theorem dX2_copyFrom_3 : decode cX2_copyFrom 3 = .ok (.bipush 10, 2) := by decide +kernel
theorem dX2_copyFrom_5 : decode cX2_copyFrom 5 = .ok (.if_icmp .ge 33, 3) := by decide +kernel
theorem dX2_copyFrom_8 : decode cX2_copyFrom 8 = .ok (.aload_n 0, 1) := by decide +kernel
theorem dX2_copyFrom_9 : decode cX2_copyFrom 9 = .ok (.getfield 9, 3) := by decide +kernel
theorem dX2_copyFrom_12 : decode cX2_copyFrom 12 = .ok (.iload_n 2, 1) := by decide +kernel
theorem dX2_copyFrom_13 : decode cX2_copyFrom 13 = .ok (.aload_n 1, 1) := by decide +kernel
theorem dX2_copyFrom_14 : decode cX2_copyFrom 14 = .ok (.getfield 9, 3) := by decide +kernel
theorem dX2_copyFrom_17 : decode cX2_copyFrom 17 = .ok (.iload_n 2, 1) := by decide +kernel
theorem dX2_copyFrom_18 : decode cX2_copyFrom 18 = .ok (.iaload, 1) := by decide +kernel
theorem dX2_copyFrom_19 : decode cX2_copyFrom 19 = .ok (.iastore, 1) := by decide +kernel
theorem dX2_copyFrom_20 : decode cX2_copyFrom 20 = .ok (.aload_n 0, 1) := by decide +kernel
theorem dX2_copyFrom_21 : decode cX2_copyFrom 21 = .ok (.getfield 15, 3) := by decide +kernel
theorem dX2_copyFrom_24 : decode cX2_copyFrom 24 = .ok (.iload_n 2, 1) := by decide +kernel
theorem dX2_copyFrom_25 : decode cX2_copyFrom 25 = .ok (.aload_n 1, 1) := by decide +kernel
theorem dX2_copyFrom_26 : decode cX2_copyFrom 26 = .ok (.getfield 15, 3) := by decide +kernel
theorem dX2_copyFrom_29 : decode cX2_copyFrom 29 = .ok (.iload_n 2, 1) := by decide +kernel
theorem dX2_copyFrom_30 : decode cX2_copyFrom 30 = .ok (.iaload, 1) := by decide +kernel
theorem dX2_copyFrom_31 : decode cX2_copyFrom 31 = .ok (.iastore, 1) := by decide +kernel
theorem dX2_copyFrom_32 : decode cX2_copyFrom 32 = .ok (.iinc 2 1, 3) := by decide +kernel
theorem dX2_copyFrom_35 : decode cX2_copyFrom 35 = .ok (.goto (-33), 3) := by decide +kernel
theorem dX2_copyFrom_38 : decode cX2_copyFrom 38 = .ok (.aload_n 0, 1) := by decide +kernel
theorem dX2_copyFrom_39 : decode cX2_copyFrom 39 = .ok (.aload_n 1, 1) := by decide +kernel
theorem dX2_copyFrom_40 : decode cX2_copyFrom 40 = .ok (.getfield 18, 3) := by decide +kernel
theorem dX2_copyFrom_43 : decode cX2_copyFrom 43 = .ok (.putfield 18, 3) := by decide +kernel
theorem dX2_copyFrom_46 : decode cX2_copyFrom 46 = .ok (.return_, 1) := by decide +kernel
theorem dX2_isUp_0 : decode cX2_isUp 0 = .ok (.iload_n 1, 1) := by decide +kernel
theorem dX2_isUp_1 : decode cX2_isUp 1 = .ok (.ifCond .lt 23, 3) := by decide +kernel
theorem dX2_isUp_4 : decode cX2_isUp 4 = .ok (.iload_n 1, 1) := by decide +kernel
theorem dX2_isUp_5 : decode cX2_isUp 5 = .ok (.bipush 10, 2) := by decide +kernel
theorem dX2_isUp_7 : decode cX2_isUp 7 = .ok (.if_icmp .ge 17, 3) := by decide +kernel
theorem dX2_isUp_10 : decode cX2_isUp 10 = .ok (.aload_n 0, 1) := by decide +kernel
theorem dX2_isUp_11 : decode cX2_isUp 11 = .ok (.getfield 9, 3) := by decide +kernel
theorem dX2_isUp_14 : decode cX2_isUp 14 = .ok (.iload_n 1, 1) := by decide +kernel
theorem dX2_isUp_15 : decode cX2_isUp 15 = .ok (.iaload, 1) := by decide +kernel
theorem dX2_isUp_16 : decode cX2_isUp 16 = .ok (.iconst 4, 1) := by decide +kernel
theorem dX2_isUp_17 : decode cX2_isUp 17 = .ok (.if_icmp .ge 7, 3) := by decide +kernel
theorem dX2_isUp_20 : decode cX2_isUp 20 = .ok (.iconst 1, 1) := by decide +kernel
theorem dX2_isUp_21 : decode cX2_isUp 21 = .ok (.goto 4, 3) := by decide +kernel
theorem dX2_isUp_24 : decode cX2_isUp 24 = .ok (.iconst 0, 1) := by decide +kernel
theorem dX2_isUp_25 : decode cX2_isUp 25 = .ok (.ireturn, 1) := by decide +kernel
set_option maxRecDepth 20000 in
theorem ggX2_leaningOf_X7_isPin : GoodIn wsX2_leaningOf wsX7_isPin := goodIn_r _ [4] (by decide +kernel) (by decide +kernel)
set_option maxRecDepth 20000 in
theorem gX2_leaningOf_X7_isPin_n22 : GoodIn wsX2_leaningOf (wsX7_isPin) := ggX2_leaningOf_X7_isPin
theorem dX2_leaningOf_0 : decode cX2_leaningOf 0 = .ok (.iload_n 1, 1) := by decide +kernel
theorem dX2_leaningOf_1 : decode cX2_leaningOf 1 = .ok (.invokestatic 22, 3) := by decide +kernel
theorem dX2_leaningOf_4 : decode cX2_leaningOf 4 = .ok (.ifCond .eq 12, 3) := by decide +kernel
theorem dX2_leaningOf_7 : decode cX2_leaningOf 7 = .ok (.aload_n 0, 1) := by decide +kernel
theorem dX2_leaningOf_8 : decode cX2_leaningOf 8 = .ok (.getfield 9, 3) := by decide +kernel
theorem dX2_leaningOf_11 : decode cX2_leaningOf 11 = .ok (.iload_n 1, 1) := by decide +kernel
theorem dX2_leaningOf_12 : decode cX2_leaningOf 12 = .ok (.iaload, 1) := by decide +kernel
theorem dX2_leaningOf_13 : decode cX2_leaningOf 13 = .ok (.goto 4, 3) := by decide +kernel
theorem dX2_leaningOf_16 : decode cX2_leaningOf 16 = .ok (.iconst 4, 1) := by decide +kernel
theorem dX2_leaningOf_17 : decode cX2_leaningOf 17 = .ok (.ireturn, 1) := by decide +kernel
set_option maxRecDepth 20000 in
theorem ggX2_shiftOf_X7_isPin : GoodIn wsX2_shiftOf wsX7_isPin := goodIn_r _ [4] (by decide +kernel) (by decide +kernel)
set_option maxRecDepth 20000 in
theorem gX2_shiftOf_X7_isPin_n22 : GoodIn wsX2_shiftOf (wsX7_isPin) := ggX2_shiftOf_X7_isPin
theorem dX2_shiftOf_0 : decode cX2_shiftOf 0 = .ok (.iload_n 1, 1) := by decide +kernel
theorem dX2_shiftOf_1 : decode cX2_shiftOf 1 = .ok (.invokestatic 22, 3) := by decide +kernel
theorem dX2_shiftOf_4 : decode cX2_shiftOf 4 = .ok (.ifCond .eq 12, 3) := by decide +kernel
theorem dX2_shiftOf_7 : decode cX2_shiftOf 7 = .ok (.aload_n 0, 1) := by decide +kernel
theorem dX2_shiftOf_8 : decode cX2_shiftOf 8 = .ok (.getfield 15, 3) := by decide +kernel
theorem dX2_shiftOf_11 : decode cX2_shiftOf 11 = .ok (.iload_n 1, 1) := by decide +kernel
theorem dX2_shiftOf_12 : decode cX2_shiftOf 12 = .ok (.iaload, 1) := by decide +kernel
theorem dX2_shiftOf_13 : decode cX2_shiftOf 13 = .ok (.goto 4, 3) := by decide +kernel
theorem dX2_shiftOf_16 : decode cX2_shiftOf 16 = .ok (.iconst 0, 1) := by decide +kernel
theorem dX2_shiftOf_17 : decode cX2_shiftOf 17 = .ok (.ireturn, 1) := by decide +kernel
theorem dX2_boardOf_0 : decode cX2_boardOf 0 = .ok (.iload_n 1, 1) := by decide +kernel
theorem dX2_boardOf_1 : decode cX2_boardOf 1 = .ok (.ifCond .lt 24, 3) := by decide +kernel
theorem dX2_boardOf_4 : decode cX2_boardOf 4 = .ok (.iload_n 1, 1) := by decide +kernel
theorem dX2_boardOf_5 : decode cX2_boardOf 5 = .ok (.bipush 10, 2) := by decide +kernel
theorem dX2_boardOf_7 : decode cX2_boardOf 7 = .ok (.if_icmp .ge 18, 3) := by decide +kernel
theorem dX2_boardOf_10 : decode cX2_boardOf 10 = .ok (.getstatic 26, 3) := by decide +kernel
theorem dX2_boardOf_13 : decode cX2_boardOf 13 = .ok (.iload_n 1, 1) := by decide +kernel
theorem dX2_boardOf_14 : decode cX2_boardOf 14 = .ok (.iaload, 1) := by decide +kernel
theorem dX2_boardOf_15 : decode cX2_boardOf 15 = .ok (.aload_n 0, 1) := by decide +kernel
theorem dX2_boardOf_16 : decode cX2_boardOf 16 = .ok (.getfield 15, 3) := by decide +kernel
theorem dX2_boardOf_19 : decode cX2_boardOf 19 = .ok (.iload_n 1, 1) := by decide +kernel
theorem dX2_boardOf_20 : decode cX2_boardOf 20 = .ok (.iaload, 1) := by decide +kernel
theorem dX2_boardOf_21 : decode cX2_boardOf 21 = .ok (.iadd, 1) := by decide +kernel
theorem dX2_boardOf_22 : decode cX2_boardOf 22 = .ok (.goto 4, 3) := by decide +kernel
theorem dX2_boardOf_25 : decode cX2_boardOf 25 = .ok (.iconst 0, 1) := by decide +kernel
theorem dX2_boardOf_26 : decode cX2_boardOf 26 = .ok (.ireturn, 1) := by decide +kernel
set_option maxRecDepth 20000 in
theorem ggX2_makeLean_X2_leaningOf : GoodIn wsX2_makeLean wsX2_leaningOf := goodIn_r _ [6, 1, 7, 8, 9, 14, 15, 16, 17, 18] (by decide +kernel) (by decide +kernel)
set_option maxRecDepth 20000 in
theorem gX2_makeLean_X2_leaningOf : GoodIn wsX2_makeLean (wsV RX2 29 RX2 yX2_leaningOf wsX2_leaningOf) := goodIn_app (goodIn_of _ (by decide +kernel)) ggX2_makeLean_X2_leaningOf
set_option maxRecDepth 20000 in
theorem ggX2_makeLean_X2_isUp : GoodIn wsX2_makeLean wsX2_isUp := goodIn_r _ [13, 1, 14, 15, 16, 17, 18] (by decide +kernel) (by decide +kernel)
set_option maxRecDepth 20000 in
theorem gX2_makeLean_X2_isUp : GoodIn wsX2_makeLean (wsV RX2 33 RX2 yX2_isUp wsX2_isUp) := goodIn_app (goodIn_of _ (by decide +kernel)) ggX2_makeLean_X2_isUp
theorem dX2_makeLean_0 : decode cX2_makeLean 0 = .ok (.aload_n 0, 1) := by decide +kernel
theorem dX2_makeLean_1 : decode cX2_makeLean 1 = .ok (.iload_n 1, 1) := by decide +kernel
theorem dX2_makeLean_2 : decode cX2_makeLean 2 = .ok (.invokevirtual 29, 3) := by decide +kernel
theorem dX2_makeLean_5 : decode cX2_makeLean 5 = .ok (.istore_n 3, 1) := by decide +kernel
theorem dX2_makeLean_6 : decode cX2_makeLean 6 = .ok (.aload_n 0, 1) := by decide +kernel
theorem dX2_makeLean_7 : decode cX2_makeLean 7 = .ok (.iload_n 1, 1) := by decide +kernel
theorem dX2_makeLean_8 : decode cX2_makeLean 8 = .ok (.invokevirtual 33, 3) := by decide +kernel
theorem dX2_makeLean_11 : decode cX2_makeLean 11 = .ok (.ifCond .eq 10, 3) := by decide +kernel
theorem dX2_makeLean_14 : decode cX2_makeLean 14 = .ok (.aload_n 0, 1) := by decide +kernel
theorem dX2_makeLean_15 : decode cX2_makeLean 15 = .ok (.getfield 9, 3) := by decide +kernel
theorem dX2_makeLean_18 : decode cX2_makeLean 18 = .ok (.iload_n 1, 1) := by decide +kernel
theorem dX2_makeLean_19 : decode cX2_makeLean 19 = .ok (.iload_n 2, 1) := by decide +kernel
theorem dX2_makeLean_20 : decode cX2_makeLean 20 = .ok (.iastore, 1) := by decide +kernel
theorem dX2_makeLean_21 : decode cX2_makeLean 21 = .ok (.iload_n 3, 1) := by decide +kernel
theorem dX2_makeLean_22 : decode cX2_makeLean 22 = .ok (.ireturn, 1) := by decide +kernel
set_option maxRecDepth 20000 in
theorem ggX2_meetBall_X2_meet : GoodIn wsX2_meetBall wsX2_meet := goodIn_r _ [7, 8, 9, 10, 11, 12, 13, 14, 15, 16, 17, 18, 6, 19, 20, 21, 22, 23, 24, 25, 26, 27, 28, 1, 2, 29, 30, 31, 32, 37, 38, 39, 40, 41] (by decide +kernel) (by decide +kernel)
set_option maxRecDepth 20000 in
theorem gX2_meetBall_X2_meet : GoodIn wsX2_meetBall (wsV RX2 42 RX2 yX2_meet wsX2_meet) := goodIn_app (goodIn_of _ (by decide +kernel)) ggX2_meetBall_X2_meet
set_option maxRecDepth 20000 in
theorem ggX2_meetBall_X2_pushBehind : GoodIn wsX2_meetBall wsX2_pushBehind := goodIn_r _ [36, 1, 2, 25, 26, 27, 6, 28, 20, 37, 38, 39, 40, 41] (by decide +kernel) (by decide +kernel)
set_option maxRecDepth 20000 in
theorem gX2_meetBall_X2_pushBehind : GoodIn wsX2_meetBall (wsV RX2 46 RX2 yX2_pushBehind wsX2_pushBehind) := goodIn_app (goodIn_of _ (by decide +kernel)) ggX2_meetBall_X2_pushBehind
theorem dX2_meetBall_0 : decode cX2_meetBall 0 = .ok (.aload_n 0, 1) := by decide +kernel
theorem dX2_meetBall_1 : decode cX2_meetBall 1 = .ok (.iconst 0, 1) := by decide +kernel
theorem dX2_meetBall_2 : decode cX2_meetBall 2 = .ok (.putfield 36, 3) := by decide +kernel
theorem dX2_meetBall_5 : decode cX2_meetBall 5 = .ok (.aload_n 0, 1) := by decide +kernel
theorem dX2_meetBall_6 : decode cX2_meetBall 6 = .ok (.iconst 0, 1) := by decide +kernel
theorem dX2_meetBall_7 : decode cX2_meetBall 7 = .ok (.putfield 39, 3) := by decide +kernel
theorem dX2_meetBall_10 : decode cX2_meetBall 10 = .ok (.iconst 0, 1) := by decide +kernel
theorem dX2_meetBall_11 : decode cX2_meetBall 11 = .ok (.istore_n 3, 1) := by decide +kernel
theorem dX2_meetBall_12 : decode cX2_meetBall 12 = .ok (.iconst 0, 1) := by decide +kernel
theorem dX2_meetBall_13 : decode cX2_meetBall 13 = .ok (.istore 4, 2) := by decide +kernel
theorem dX2_meetBall_15 : decode cX2_meetBall 15 = .ok (.iconst 0, 1) := by decide +kernel
theorem dX2_meetBall_16 : decode cX2_meetBall 16 = .ok (.istore 5, 2) := by decide +kernel
theorem dX2_meetBall_18 : decode cX2_meetBall 18 = .ok (.iload 5, 2) := by decide +kernel
theorem dX2_meetBall_20 : decode cX2_meetBall 20 = .ok (.iconst 4, 1) := by decide +kernel
theorem dX2_meetBall_21 : decode cX2_meetBall 21 = .ok (.if_icmp .ge 90, 3) := by decide +kernel
theorem dX2_meetBall_24 : decode cX2_meetBall 24 = .ok (.iload_n 1, 1) := by decide +kernel
theorem dX2_meetBall_25 : decode cX2_meetBall 25 = .ok (.iload_n 2, 1) := by decide +kernel
theorem dX2_meetBall_26 : decode cX2_meetBall 26 = .ok (.iload 5, 2) := by decide +kernel
theorem dX2_meetBall_28 : decode cX2_meetBall 28 = .ok (.imul, 1) := by decide +kernel
theorem dX2_meetBall_29 : decode cX2_meetBall 29 = .ok (.iadd, 1) := by decide +kernel
theorem dX2_meetBall_30 : decode cX2_meetBall 30 = .ok (.iload_n 3, 1) := by decide +kernel
theorem dX2_meetBall_31 : decode cX2_meetBall 31 = .ok (.iadd, 1) := by decide +kernel
theorem dX2_meetBall_32 : decode cX2_meetBall 32 = .ok (.istore 6, 2) := by decide +kernel
theorem dX2_meetBall_34 : decode cX2_meetBall 34 = .ok (.iload 4, 2) := by decide +kernel
theorem dX2_meetBall_36 : decode cX2_meetBall 36 = .ok (.iload 5, 2) := by decide +kernel
theorem dX2_meetBall_38 : decode cX2_meetBall 38 = .ok (.iadd, 1) := by decide +kernel
theorem dX2_meetBall_39 : decode cX2_meetBall 39 = .ok (.iconst 1, 1) := by decide +kernel
theorem dX2_meetBall_40 : decode cX2_meetBall 40 = .ok (.iadd, 1) := by decide +kernel
theorem dX2_meetBall_41 : decode cX2_meetBall 41 = .ok (.istore 7, 2) := by decide +kernel
theorem dX2_meetBall_43 : decode cX2_meetBall 43 = .ok (.iload 4, 2) := by decide +kernel
theorem dX2_meetBall_45 : decode cX2_meetBall 45 = .ok (.istore 8, 2) := by decide +kernel
theorem dX2_meetBall_47 : decode cX2_meetBall 47 = .ok (.iload 8, 2) := by decide +kernel
theorem dX2_meetBall_49 : decode cX2_meetBall 49 = .ok (.iload 7, 2) := by decide +kernel
theorem dX2_meetBall_51 : decode cX2_meetBall 51 = .ok (.if_icmp .ge 20, 3) := by decide +kernel
theorem dX2_meetBall_54 : decode cX2_meetBall 54 = .ok (.iload_n 3, 1) := by decide +kernel
theorem dX2_meetBall_55 : decode cX2_meetBall 55 = .ok (.aload_n 0, 1) := by decide +kernel
theorem dX2_meetBall_56 : decode cX2_meetBall 56 = .ok (.iload 8, 2) := by decide +kernel
theorem dX2_meetBall_58 : decode cX2_meetBall 58 = .ok (.iload 6, 2) := by decide +kernel
theorem dX2_meetBall_60 : decode cX2_meetBall 60 = .ok (.invokevirtual 42, 3) := by decide +kernel
theorem dX2_meetBall_63 : decode cX2_meetBall 63 = .ok (.iadd, 1) := by decide +kernel
theorem dX2_meetBall_64 : decode cX2_meetBall 64 = .ok (.istore_n 3, 1) := by decide +kernel
theorem dX2_meetBall_65 : decode cX2_meetBall 65 = .ok (.iinc 8 1, 3) := by decide +kernel
theorem dX2_meetBall_68 : decode cX2_meetBall 68 = .ok (.goto (-21), 3) := by decide +kernel
theorem dX2_meetBall_71 : decode cX2_meetBall 71 = .ok (.iload 4, 2) := by decide +kernel
theorem dX2_meetBall_73 : decode cX2_meetBall 73 = .ok (.istore 8, 2) := by decide +kernel
theorem dX2_meetBall_75 : decode cX2_meetBall 75 = .ok (.iload 8, 2) := by decide +kernel
theorem dX2_meetBall_77 : decode cX2_meetBall 77 = .ok (.iload 7, 2) := by decide +kernel
theorem dX2_meetBall_79 : decode cX2_meetBall 79 = .ok (.if_icmp .ge 22, 3) := by decide +kernel
theorem dX2_meetBall_82 : decode cX2_meetBall 82 = .ok (.aload_n 0, 1) := by decide +kernel
theorem dX2_meetBall_83 : decode cX2_meetBall 83 = .ok (.iload 8, 2) := by decide +kernel
theorem dX2_meetBall_85 : decode cX2_meetBall 85 = .ok (.iload 8, 2) := by decide +kernel
theorem dX2_meetBall_87 : decode cX2_meetBall 87 = .ok (.iload 5, 2) := by decide +kernel
theorem dX2_meetBall_89 : decode cX2_meetBall 89 = .ok (.iadd, 1) := by decide +kernel
theorem dX2_meetBall_90 : decode cX2_meetBall 90 = .ok (.iconst 1, 1) := by decide +kernel
theorem dX2_meetBall_91 : decode cX2_meetBall 91 = .ok (.iadd, 1) := by decide +kernel
theorem dX2_meetBall_92 : decode cX2_meetBall 92 = .ok (.invokevirtual 46, 3) := by decide +kernel
theorem dX2_meetBall_95 : decode cX2_meetBall 95 = .ok (.iinc 8 1, 3) := by decide +kernel
theorem dX2_meetBall_98 : decode cX2_meetBall 98 = .ok (.goto (-23), 3) := by decide +kernel
theorem dX2_meetBall_101 : decode cX2_meetBall 101 = .ok (.iload 7, 2) := by decide +kernel
theorem dX2_meetBall_103 : decode cX2_meetBall 103 = .ok (.istore 4, 2) := by decide +kernel
theorem dX2_meetBall_105 : decode cX2_meetBall 105 = .ok (.iinc 5 1, 3) := by decide +kernel
theorem dX2_meetBall_108 : decode cX2_meetBall 108 = .ok (.goto (-90), 3) := by decide +kernel
theorem dX2_meetBall_111 : decode cX2_meetBall 111 = .ok (.return_, 1) := by decide +kernel
set_option maxRecDepth 20000 in
theorem ggX2_meet_X2_isUp : GoodIn wsX2_meet wsX2_isUp := goodIn_r _ [13, 14, 29, 30, 31, 32, 33] (by decide +kernel) (by decide +kernel)
set_option maxRecDepth 20000 in
theorem gX2_meet_X2_isUp : GoodIn wsX2_meet (wsV RX2 33 RX2 yX2_isUp wsX2_isUp) := goodIn_app (goodIn_of _ (by decide +kernel)) ggX2_meet_X2_isUp
set_option maxRecDepth 20000 in
theorem ggX2_meet_X2_boardOf : GoodIn wsX2_meet wsX2_boardOf := goodIn_r _ [18, 1, 29, 30, 31, 32, 33] (by decide +kernel) (by decide +kernel)
set_option maxRecDepth 20000 in
theorem gX2_meet_X2_boardOf : GoodIn wsX2_meet (wsV RX2 50 RX2 yX2_boardOf wsX2_boardOf) := goodIn_app (goodIn_of _ (by decide +kernel)) ggX2_meet_X2_boardOf
set_option maxRecDepth 20000 in
theorem ggX2_meet_X2_leanMore : GoodIn wsX2_meet wsX2_leanMore := goodIn_r _ [22, 14, 23, 24, 29, 30, 31, 32, 33] (by decide +kernel) (by decide +kernel)
set_option maxRecDepth 20000 in
theorem gX2_meet_X2_leanMore : GoodIn wsX2_meet (wsV RX2 53 RX2 yX2_leanMore wsX2_leanMore) := goodIn_app (goodIn_of _ (by decide +kernel)) ggX2_meet_X2_leanMore
set_option maxRecDepth 20000 in
theorem ggX2_meet_J6_compare_7cf53 : GoodIn wsX2_meet wsJ6_compare_7cf53 := goodIn_r _ [28] (by decide +kernel) (by decide +kernel)
set_option maxRecDepth 20000 in
theorem gX2_meet_J6_compare_7cf53 : GoodIn wsX2_meet (va_wsS RX2 57 yJ6_compare_7cf53 wsJ6_compare_7cf53) := goodIn_app (goodIn_of _ (by decide +kernel)) ggX2_meet_J6_compare_7cf53
theorem dX2_meet_0 : decode cX2_meet 0 = .ok (.aload_n 0, 1) := by decide +kernel
theorem dX2_meet_1 : decode cX2_meet 1 = .ok (.iload_n 1, 1) := by decide +kernel
theorem dX2_meet_2 : decode cX2_meet 2 = .ok (.invokevirtual 33, 3) := by decide +kernel
theorem dX2_meet_5 : decode cX2_meet 5 = .ok (.ifCond .ne 5, 3) := by decide +kernel
theorem dX2_meet_8 : decode cX2_meet 8 = .ok (.iconst 0, 1) := by decide +kernel
theorem dX2_meet_9 : decode cX2_meet 9 = .ok (.ireturn, 1) := by decide +kernel
theorem dX2_meet_10 : decode cX2_meet 10 = .ok (.aload_n 0, 1) := by decide +kernel
theorem dX2_meet_11 : decode cX2_meet 11 = .ok (.iload_n 1, 1) := by decide +kernel
theorem dX2_meet_12 : decode cX2_meet 12 = .ok (.invokevirtual 50, 3) := by decide +kernel
theorem dX2_meet_15 : decode cX2_meet 15 = .ok (.iload_n 2, 1) := by decide +kernel
theorem dX2_meet_16 : decode cX2_meet 16 = .ok (.isub, 1) := by decide +kernel
theorem dX2_meet_17 : decode cX2_meet 17 = .ok (.istore_n 3, 1) := by decide +kernel
theorem dX2_meet_18 : decode cX2_meet 18 = .ok (.iload_n 3, 1) := by decide +kernel
theorem dX2_meet_19 : decode cX2_meet 19 = .ok (.bipush (-3), 2) := by decide +kernel
theorem dX2_meet_21 : decode cX2_meet 21 = .ok (.if_icmp .lt 21, 3) := by decide +kernel
theorem dX2_meet_24 : decode cX2_meet 24 = .ok (.iload_n 3, 1) := by decide +kernel
theorem dX2_meet_25 : decode cX2_meet 25 = .ok (.iconst 3, 1) := by decide +kernel
theorem dX2_meet_26 : decode cX2_meet 26 = .ok (.if_icmp .gt 16, 3) := by decide +kernel
theorem dX2_meet_29 : decode cX2_meet 29 = .ok (.aload_n 0, 1) := by decide +kernel
theorem dX2_meet_30 : decode cX2_meet 30 = .ok (.iload_n 1, 1) := by decide +kernel
theorem dX2_meet_31 : decode cX2_meet 31 = .ok (.iconst 4, 1) := by decide +kernel
theorem dX2_meet_32 : decode cX2_meet 32 = .ok (.iload_n 3, 1) := by decide +kernel
theorem dX2_meet_33 : decode cX2_meet 33 = .ok (.invokevirtual 53, 3) := by decide +kernel
theorem dX2_meet_36 : decode cX2_meet 36 = .ok (.iconst 0, 1) := by decide +kernel
theorem dX2_meet_37 : decode cX2_meet 37 = .ok (.iload_n 3, 1) := by decide +kernel
theorem dX2_meet_38 : decode cX2_meet 38 = .ok (.invokestatic 57, 3) := by decide +kernel
theorem dX2_meet_41 : decode cX2_meet 41 = .ok (.ireturn, 1) := by decide +kernel
theorem dX2_meet_42 : decode cX2_meet 42 = .ok (.iload_n 3, 1) := by decide +kernel
theorem dX2_meet_43 : decode cX2_meet 43 = .ok (.iconst 4, 1) := by decide +kernel
theorem dX2_meet_44 : decode cX2_meet 44 = .ok (.if_icmp .eq 9, 3) := by decide +kernel
theorem dX2_meet_47 : decode cX2_meet 47 = .ok (.iload_n 3, 1) := by decide +kernel
theorem dX2_meet_48 : decode cX2_meet 48 = .ok (.bipush (-4), 2) := by decide +kernel
theorem dX2_meet_50 : decode cX2_meet 50 = .ok (.if_icmp .ne 52, 3) := by decide +kernel
theorem dX2_meet_53 : decode cX2_meet 53 = .ok (.iload_n 3, 1) := by decide +kernel
theorem dX2_meet_54 : decode cX2_meet 54 = .ok (.ifCond .le 14, 3) := by decide +kernel
theorem dX2_meet_57 : decode cX2_meet 57 = .ok (.aload_n 0, 1) := by decide +kernel
theorem dX2_meet_58 : decode cX2_meet 58 = .ok (.getfield 15, 3) := by decide +kernel
theorem dX2_meet_61 : decode cX2_meet 61 = .ok (.iload_n 1, 1) := by decide +kernel
theorem dX2_meet_62 : decode cX2_meet 62 = .ok (.iaload, 1) := by decide +kernel
theorem dX2_meet_63 : decode cX2_meet 63 = .ok (.iconst 1, 1) := by decide +kernel
theorem dX2_meet_64 : decode cX2_meet 64 = .ok (.iadd, 1) := by decide +kernel
theorem dX2_meet_65 : decode cX2_meet 65 = .ok (.goto 11, 3) := by decide +kernel
theorem dX2_meet_68 : decode cX2_meet 68 = .ok (.aload_n 0, 1) := by decide +kernel
theorem dX2_meet_69 : decode cX2_meet 69 = .ok (.getfield 15, 3) := by decide +kernel
theorem dX2_meet_72 : decode cX2_meet 72 = .ok (.iload_n 1, 1) := by decide +kernel
theorem dX2_meet_73 : decode cX2_meet 73 = .ok (.iaload, 1) := by decide +kernel
theorem dX2_meet_74 : decode cX2_meet 74 = .ok (.iconst 1, 1) := by decide +kernel
theorem dX2_meet_75 : decode cX2_meet 75 = .ok (.isub, 1) := by decide +kernel
theorem dX2_meet_76 : decode cX2_meet 76 = .ok (.istore 4, 2) := by decide +kernel
theorem dX2_meet_78 : decode cX2_meet 78 = .ok (.aload_n 0, 1) := by decide +kernel
theorem dX2_meet_79 : decode cX2_meet 79 = .ok (.getfield 15, 3) := by decide +kernel
theorem dX2_meet_82 : decode cX2_meet 82 = .ok (.iload_n 1, 1) := by decide +kernel
theorem dX2_meet_83 : decode cX2_meet 83 = .ok (.bipush (-2), 2) := by decide +kernel
theorem dX2_meet_85 : decode cX2_meet 85 = .ok (.iconst 2, 1) := by decide +kernel
theorem dX2_meet_86 : decode cX2_meet 86 = .ok (.iload 4, 2) := by decide +kernel
theorem dX2_meet_88 : decode cX2_meet 88 = .ok (.invokestatic 62, 3) := by decide +kernel
theorem dX2_meet_91 : decode cX2_meet 91 = .ok (.invokestatic 67, 3) := by decide +kernel
theorem dX2_meet_94 : decode cX2_meet 94 = .ok (.iastore, 1) := by decide +kernel
theorem dX2_meet_95 : decode cX2_meet 95 = .ok (.aload_n 0, 1) := by decide +kernel
theorem dX2_meet_96 : decode cX2_meet 96 = .ok (.iload_n 1, 1) := by decide +kernel
theorem dX2_meet_97 : decode cX2_meet 97 = .ok (.iconst 1, 1) := by decide +kernel
theorem dX2_meet_98 : decode cX2_meet 98 = .ok (.iload_n 3, 1) := by decide +kernel
theorem dX2_meet_99 : decode cX2_meet 99 = .ok (.invokevirtual 53, 3) := by decide +kernel
theorem dX2_meet_102 : decode cX2_meet 102 = .ok (.iconst 0, 1) := by decide +kernel
theorem dX2_meet_103 : decode cX2_meet 103 = .ok (.ireturn, 1) := by decide +kernel
set_option maxRecDepth 20000 in
theorem ggX2_pushBehind_X2_leanMore : GoodIn wsX2_pushBehind wsX2_leanMore := goodIn_r _ [7, 8, 1, 2, 9, 10, 11, 12, 13] (by decide +kernel) (by decide +kernel)
set_option maxRecDepth 20000 in
theorem gX2_pushBehind_X2_leanMore : GoodIn wsX2_pushBehind (wsV RX2 53 RX2 yX2_leanMore wsX2_leanMore) := goodIn_app (goodIn_of _ (by decide +kernel)) ggX2_pushBehind_X2_leanMore
theorem dX2_pushBehind_0 : decode cX2_pushBehind 0 = .ok (.aload_n 0, 1) := by decide +kernel
theorem dX2_pushBehind_1 : decode cX2_pushBehind 1 = .ok (.getfield 36, 3) := by decide +kernel
theorem dX2_pushBehind_4 : decode cX2_pushBehind 4 = .ok (.iload_n 1, 1) := by decide +kernel
theorem dX2_pushBehind_5 : decode cX2_pushBehind 5 = .ok (.ishr, 1) := by decide +kernel
theorem dX2_pushBehind_6 : decode cX2_pushBehind 6 = .ok (.iconst 1, 1) := by decide +kernel
theorem dX2_pushBehind_7 : decode cX2_pushBehind 7 = .ok (.iand, 1) := by decide +kernel
theorem dX2_pushBehind_8 : decode cX2_pushBehind 8 = .ok (.ifCond .eq 10, 3) := by decide +kernel
theorem dX2_pushBehind_11 : decode cX2_pushBehind 11 = .ok (.aload_n 0, 1) := by decide +kernel
theorem dX2_pushBehind_12 : decode cX2_pushBehind 12 = .ok (.iload_n 2, 1) := by decide +kernel
theorem dX2_pushBehind_13 : decode cX2_pushBehind 13 = .ok (.iconst 2, 1) := by decide +kernel
theorem dX2_pushBehind_14 : decode cX2_pushBehind 14 = .ok (.iconst (-1), 1) := by decide +kernel
theorem dX2_pushBehind_15 : decode cX2_pushBehind 15 = .ok (.invokevirtual 53, 3) := by decide +kernel
theorem dX2_pushBehind_18 : decode cX2_pushBehind 18 = .ok (.aload_n 0, 1) := by decide +kernel
theorem dX2_pushBehind_19 : decode cX2_pushBehind 19 = .ok (.getfield 39, 3) := by decide +kernel
theorem dX2_pushBehind_22 : decode cX2_pushBehind 22 = .ok (.iload_n 1, 1) := by decide +kernel
theorem dX2_pushBehind_23 : decode cX2_pushBehind 23 = .ok (.ishr, 1) := by decide +kernel
theorem dX2_pushBehind_24 : decode cX2_pushBehind 24 = .ok (.iconst 1, 1) := by decide +kernel
theorem dX2_pushBehind_25 : decode cX2_pushBehind 25 = .ok (.iand, 1) := by decide +kernel
theorem dX2_pushBehind_26 : decode cX2_pushBehind 26 = .ok (.ifCond .eq 12, 3) := by decide +kernel
theorem dX2_pushBehind_29 : decode cX2_pushBehind 29 = .ok (.aload_n 0, 1) := by decide +kernel
theorem dX2_pushBehind_30 : decode cX2_pushBehind 30 = .ok (.iload_n 2, 1) := by decide +kernel
theorem dX2_pushBehind_31 : decode cX2_pushBehind 31 = .ok (.iconst 1, 1) := by decide +kernel
theorem dX2_pushBehind_32 : decode cX2_pushBehind 32 = .ok (.iadd, 1) := by decide +kernel
theorem dX2_pushBehind_33 : decode cX2_pushBehind 33 = .ok (.iconst 2, 1) := by decide +kernel
theorem dX2_pushBehind_34 : decode cX2_pushBehind 34 = .ok (.iconst 1, 1) := by decide +kernel
theorem dX2_pushBehind_35 : decode cX2_pushBehind 35 = .ok (.invokevirtual 53, 3) := by decide +kernel
theorem dX2_pushBehind_38 : decode cX2_pushBehind 38 = .ok (.return_, 1) := by decide +kernel
theorem dX2_leanMore_0 : decode cX2_leanMore 0 = .ok (.iload_n 1, 1) := by decide +kernel
theorem dX2_leanMore_1 : decode cX2_leanMore 1 = .ok (.ifCond .lt 19, 3) := by decide +kernel
theorem dX2_leanMore_4 : decode cX2_leanMore 4 = .ok (.iload_n 1, 1) := by decide +kernel
theorem dX2_leanMore_5 : decode cX2_leanMore 5 = .ok (.bipush 10, 2) := by decide +kernel
theorem dX2_leanMore_7 : decode cX2_leanMore 7 = .ok (.if_icmp .ge 13, 3) := by decide +kernel
theorem dX2_leanMore_10 : decode cX2_leanMore 10 = .ok (.aload_n 0, 1) := by decide +kernel
theorem dX2_leanMore_11 : decode cX2_leanMore 11 = .ok (.getfield 9, 3) := by decide +kernel
theorem dX2_leanMore_14 : decode cX2_leanMore 14 = .ok (.iload_n 1, 1) := by decide +kernel
theorem dX2_leanMore_15 : decode cX2_leanMore 15 = .ok (.iaload, 1) := by decide +kernel
theorem dX2_leanMore_16 : decode cX2_leanMore 16 = .ok (.iconst 4, 1) := by decide +kernel
theorem dX2_leanMore_17 : decode cX2_leanMore 17 = .ok (.if_icmp .lt 4, 3) := by decide +kernel
theorem dX2_leanMore_20 : decode cX2_leanMore 20 = .ok (.return_, 1) := by decide +kernel
theorem dX2_leanMore_21 : decode cX2_leanMore 21 = .ok (.aload_n 0, 1) := by decide +kernel
theorem dX2_leanMore_22 : decode cX2_leanMore 22 = .ok (.getfield 9, 3) := by decide +kernel
theorem dX2_leanMore_25 : decode cX2_leanMore 25 = .ok (.iload_n 1, 1) := by decide +kernel
theorem dX2_leanMore_26 : decode cX2_leanMore 26 = .ok (.iaload, 1) := by decide +kernel
theorem dX2_leanMore_27 : decode cX2_leanMore 27 = .ok (.iload_n 2, 1) := by decide +kernel
theorem dX2_leanMore_28 : decode cX2_leanMore 28 = .ok (.iadd, 1) := by decide +kernel
theorem dX2_leanMore_29 : decode cX2_leanMore 29 = .ok (.iconst 3, 1) := by decide +kernel
theorem dX2_leanMore_30 : decode cX2_leanMore 30 = .ok (.if_icmp .gt 14, 3) := by decide +kernel
theorem dX2_leanMore_33 : decode cX2_leanMore 33 = .ok (.aload_n 0, 1) := by decide +kernel
theorem dX2_leanMore_34 : decode cX2_leanMore 34 = .ok (.getfield 9, 3) := by decide +kernel
theorem dX2_leanMore_37 : decode cX2_leanMore 37 = .ok (.iload_n 1, 1) := by decide +kernel
theorem dX2_leanMore_38 : decode cX2_leanMore 38 = .ok (.dup2, 1) := by decide +kernel
theorem dX2_leanMore_39 : decode cX2_leanMore 39 = .ok (.iaload, 1) := by decide +kernel
theorem dX2_leanMore_40 : decode cX2_leanMore 40 = .ok (.iload_n 2, 1) := by decide +kernel
theorem dX2_leanMore_41 : decode cX2_leanMore 41 = .ok (.iadd, 1) := by decide +kernel
theorem dX2_leanMore_42 : decode cX2_leanMore 42 = .ok (.iastore, 1) := by decide +kernel
theorem dX2_leanMore_43 : decode cX2_leanMore 43 = .ok (.return_, 1) := by decide +kernel
theorem dX2_leanMore_44 : decode cX2_leanMore 44 = .ok (.aload_n 0, 1) := by decide +kernel
theorem dX2_leanMore_45 : decode cX2_leanMore 45 = .ok (.getfield 9, 3) := by decide +kernel
theorem dX2_leanMore_48 : decode cX2_leanMore 48 = .ok (.iload_n 1, 1) := by decide +kernel
theorem dX2_leanMore_49 : decode cX2_leanMore 49 = .ok (.iconst 4, 1) := by decide +kernel
theorem dX2_leanMore_50 : decode cX2_leanMore 50 = .ok (.iastore, 1) := by decide +kernel
theorem dX2_leanMore_51 : decode cX2_leanMore 51 = .ok (.iload_n 3, 1) := by decide +kernel
theorem dX2_leanMore_52 : decode cX2_leanMore 52 = .ok (.ifCond .gt 15, 3) := by decide +kernel
theorem dX2_leanMore_55 : decode cX2_leanMore 55 = .ok (.aload_n 0, 1) := by decide +kernel
theorem dX2_leanMore_56 : decode cX2_leanMore 56 = .ok (.dup, 1) := by decide +kernel
theorem dX2_leanMore_57 : decode cX2_leanMore 57 = .ok (.getfield 36, 3) := by decide +kernel
theorem dX2_leanMore_60 : decode cX2_leanMore 60 = .ok (.iconst 1, 1) := by decide +kernel
theorem dX2_leanMore_61 : decode cX2_leanMore 61 = .ok (.iload_n 1, 1) := by decide +kernel
theorem dX2_leanMore_62 : decode cX2_leanMore 62 = .ok (.ishl, 1) := by decide +kernel
theorem dX2_leanMore_63 : decode cX2_leanMore 63 = .ok (.ior, 1) := by decide +kernel
theorem dX2_leanMore_64 : decode cX2_leanMore 64 = .ok (.putfield 36, 3) := by decide +kernel
theorem dX2_leanMore_67 : decode cX2_leanMore 67 = .ok (.iload_n 3, 1) := by decide +kernel
theorem dX2_leanMore_68 : decode cX2_leanMore 68 = .ok (.ifCond .lt 15, 3) := by decide +kernel
theorem dX2_leanMore_71 : decode cX2_leanMore 71 = .ok (.aload_n 0, 1) := by decide +kernel
theorem dX2_leanMore_72 : decode cX2_leanMore 72 = .ok (.dup, 1) := by decide +kernel
theorem dX2_leanMore_73 : decode cX2_leanMore 73 = .ok (.getfield 39, 3) := by decide +kernel
theorem dX2_leanMore_76 : decode cX2_leanMore 76 = .ok (.iconst 1, 1) := by decide +kernel
theorem dX2_leanMore_77 : decode cX2_leanMore 77 = .ok (.iload_n 1, 1) := by decide +kernel
theorem dX2_leanMore_78 : decode cX2_leanMore 78 = .ok (.ishl, 1) := by decide +kernel
theorem dX2_leanMore_79 : decode cX2_leanMore 79 = .ok (.ior, 1) := by decide +kernel
theorem dX2_leanMore_80 : decode cX2_leanMore 80 = .ok (.putfield 39, 3) := by decide +kernel
theorem dX2_leanMore_83 : decode cX2_leanMore 83 = .ok (.return_, 1) := by decide +kernel
set_option maxRecDepth 20000 in
theorem ggX2_tell_X2_moreThan : GoodIn wsX2_tell wsX2_moreThan := goodIn_r _ [6, 7, 8, 9, 10, 11, 12] (by decide +kernel) (by decide +kernel)
set_option maxRecDepth 20000 in
theorem gX2_tell_X2_moreThan : GoodIn wsX2_tell (wsV RX2 70 RX2 yX2_moreThan wsX2_moreThan) := goodIn_app (goodIn_of _ (by decide +kernel)) ggX2_tell_X2_moreThan
theorem dX2_tell_0 : decode cX2_tell 0 = .ok (.aload_n 0, 1) := by decide +kernel
theorem dX2_tell_1 : decode cX2_tell 1 = .ok (.getfield 18, 3) := by decide +kernel
theorem dX2_tell_4 : decode cX2_tell 4 = .ok (.aload_n 0, 1) := by decide +kernel
theorem dX2_tell_5 : decode cX2_tell 5 = .ok (.iload_n 1, 1) := by decide +kernel
theorem dX2_tell_6 : decode cX2_tell 6 = .ok (.invokevirtual 70, 3) := by decide +kernel
theorem dX2_tell_9 : decode cX2_tell 9 = .ok (.iand, 1) := by decide +kernel
theorem dX2_tell_10 : decode cX2_tell 10 = .ok (.istore_n 2, 1) := by decide +kernel
theorem dX2_tell_11 : decode cX2_tell 11 = .ok (.aload_n 0, 1) := by decide +kernel
theorem dX2_tell_12 : decode cX2_tell 12 = .ok (.dup, 1) := by decide +kernel
theorem dX2_tell_13 : decode cX2_tell 13 = .ok (.getfield 18, 3) := by decide +kernel
theorem dX2_tell_16 : decode cX2_tell 16 = .ok (.iload_n 2, 1) := by decide +kernel
theorem dX2_tell_17 : decode cX2_tell 17 = .ok (.iconst (-1), 1) := by decide +kernel
theorem dX2_tell_18 : decode cX2_tell 18 = .ok (.ixor, 1) := by decide +kernel
theorem dX2_tell_19 : decode cX2_tell 19 = .ok (.iand, 1) := by decide +kernel
theorem dX2_tell_20 : decode cX2_tell 20 = .ok (.putfield 18, 3) := by decide +kernel
theorem dX2_tell_23 : decode cX2_tell 23 = .ok (.iload_n 2, 1) := by decide +kernel
theorem dX2_tell_24 : decode cX2_tell 24 = .ok (.ireturn, 1) := by decide +kernel
set_option maxRecDepth 20000 in
theorem ggX2_setAgain_X2_dropSet : GoodIn wsX2_setAgain wsX2_dropSet := goodIn_r _ [7, 1, 8, 9, 10, 6, 11, 2, 19, 20, 21, 22, 23] (by decide +kernel) (by decide +kernel)
set_option maxRecDepth 20000 in
theorem gX2_setAgain_X2_dropSet : GoodIn wsX2_setAgain (wsV RX2 73 RX2 yX2_dropSet wsX2_dropSet) := goodIn_app (goodIn_of _ (by decide +kernel)) ggX2_setAgain_X2_dropSet
set_option maxRecDepth 20000 in
theorem ggX2_setAgain_J6_bitCount_0f7a4 : GoodIn wsX2_setAgain wsJ6_bitCount_0f7a4 := goodIn_r _ [15, 16, 17, 18] (by decide +kernel) (by decide +kernel)
set_option maxRecDepth 20000 in
theorem gX2_setAgain_J6_bitCount_0f7a4 : GoodIn wsX2_setAgain (va_wsS RX2 76 yJ6_bitCount_0f7a4 wsJ6_bitCount_0f7a4) := goodIn_app (goodIn_of _ (by decide +kernel)) ggX2_setAgain_J6_bitCount_0f7a4
theorem dX2_setAgain_0 : decode cX2_setAgain 0 = .ok (.aload_n 0, 1) := by decide +kernel
theorem dX2_setAgain_1 : decode cX2_setAgain 1 = .ok (.iload_n 1, 1) := by decide +kernel
theorem dX2_setAgain_2 : decode cX2_setAgain 2 = .ok (.invokevirtual 73, 3) := by decide +kernel
theorem dX2_setAgain_5 : decode cX2_setAgain 5 = .ok (.istore_n 2, 1) := by decide +kernel
theorem dX2_setAgain_6 : decode cX2_setAgain 6 = .ok (.aload_n 0, 1) := by decide +kernel
theorem dX2_setAgain_7 : decode cX2_setAgain 7 = .ok (.dup, 1) := by decide +kernel
theorem dX2_setAgain_8 : decode cX2_setAgain 8 = .ok (.getfield 18, 3) := by decide +kernel
theorem dX2_setAgain_11 : decode cX2_setAgain 11 = .ok (.iload_n 2, 1) := by decide +kernel
theorem dX2_setAgain_12 : decode cX2_setAgain 12 = .ok (.iconst (-1), 1) := by decide +kernel
theorem dX2_setAgain_13 : decode cX2_setAgain 13 = .ok (.ixor, 1) := by decide +kernel
theorem dX2_setAgain_14 : decode cX2_setAgain 14 = .ok (.iand, 1) := by decide +kernel
theorem dX2_setAgain_15 : decode cX2_setAgain 15 = .ok (.putfield 18, 3) := by decide +kernel
theorem dX2_setAgain_18 : decode cX2_setAgain 18 = .ok (.iconst 0, 1) := by decide +kernel
theorem dX2_setAgain_19 : decode cX2_setAgain 19 = .ok (.istore_n 3, 1) := by decide +kernel
theorem dX2_setAgain_20 : decode cX2_setAgain 20 = .ok (.iload_n 3, 1) := by decide +kernel
theorem dX2_setAgain_21 : decode cX2_setAgain 21 = .ok (.bipush 10, 2) := by decide +kernel
theorem dX2_setAgain_23 : decode cX2_setAgain 23 = .ok (.if_icmp .ge 31, 3) := by decide +kernel
theorem dX2_setAgain_26 : decode cX2_setAgain 26 = .ok (.aload_n 0, 1) := by decide +kernel
theorem dX2_setAgain_27 : decode cX2_setAgain 27 = .ok (.getfield 9, 3) := by decide +kernel
theorem dX2_setAgain_30 : decode cX2_setAgain 30 = .ok (.iload_n 3, 1) := by decide +kernel
theorem dX2_setAgain_31 : decode cX2_setAgain 31 = .ok (.aload_n 0, 1) := by decide +kernel
theorem dX2_setAgain_32 : decode cX2_setAgain 32 = .ok (.getfield 18, 3) := by decide +kernel
theorem dX2_setAgain_35 : decode cX2_setAgain 35 = .ok (.iload_n 3, 1) := by decide +kernel
theorem dX2_setAgain_36 : decode cX2_setAgain 36 = .ok (.ishr, 1) := by decide +kernel
theorem dX2_setAgain_37 : decode cX2_setAgain 37 = .ok (.iconst 1, 1) := by decide +kernel
theorem dX2_setAgain_38 : decode cX2_setAgain 38 = .ok (.iand, 1) := by decide +kernel
theorem dX2_setAgain_39 : decode cX2_setAgain 39 = .ok (.ifCond .eq 7, 3) := by decide +kernel
theorem dX2_setAgain_42 : decode cX2_setAgain 42 = .ok (.iconst 0, 1) := by decide +kernel
theorem dX2_setAgain_43 : decode cX2_setAgain 43 = .ok (.goto 4, 3) := by decide +kernel
theorem dX2_setAgain_46 : decode cX2_setAgain 46 = .ok (.iconst 4, 1) := by decide +kernel
theorem dX2_setAgain_47 : decode cX2_setAgain 47 = .ok (.iastore, 1) := by decide +kernel
theorem dX2_setAgain_48 : decode cX2_setAgain 48 = .ok (.iinc 3 1, 3) := by decide +kernel
theorem dX2_setAgain_51 : decode cX2_setAgain 51 = .ok (.goto (-31), 3) := by decide +kernel
theorem dX2_setAgain_54 : decode cX2_setAgain 54 = .ok (.iload_n 2, 1) := by decide +kernel
theorem dX2_setAgain_55 : decode cX2_setAgain 55 = .ok (.invokestatic 76, 3) := by decide +kernel
theorem dX2_setAgain_58 : decode cX2_setAgain 58 = .ok (.ireturn, 1) := by decide +kernel
theorem dX2_toldSet_0 : decode cX2_toldSet 0 = .ok (.aload_n 0, 1) := by decide +kernel
theorem dX2_toldSet_1 : decode cX2_toldSet 1 = .ok (.getfield 18, 3) := by decide +kernel
theorem dX2_toldSet_4 : decode cX2_toldSet 4 = .ok (.ireturn, 1) := by decide +kernel
theorem dX2_fellSet_0 : decode cX2_fellSet 0 = .ok (.aload_n 0, 1) := by decide +kernel
theorem dX2_fellSet_1 : decode cX2_fellSet 1 = .ok (.getfield 36, 3) := by decide +kernel
theorem dX2_fellSet_4 : decode cX2_fellSet 4 = .ok (.aload_n 0, 1) := by decide +kernel
theorem dX2_fellSet_5 : decode cX2_fellSet 5 = .ok (.getfield 39, 3) := by decide +kernel
theorem dX2_fellSet_8 : decode cX2_fellSet 8 = .ok (.ior, 1) := by decide +kernel
theorem dX2_fellSet_9 : decode cX2_fellSet 9 = .ok (.ireturn, 1) := by decide +kernel
set_option maxRecDepth 20000 in
theorem ggX2_upSet_X2_moreThan : GoodIn wsX2_upSet wsX2_moreThan := goodIn_r _ [5, 6, 7, 8, 9, 10, 11] (by decide +kernel) (by decide +kernel)
set_option maxRecDepth 20000 in
theorem gX2_upSet_X2_moreThan : GoodIn wsX2_upSet (wsV RX2 70 RX2 yX2_moreThan wsX2_moreThan) := goodIn_app (goodIn_of _ (by decide +kernel)) ggX2_upSet_X2_moreThan
theorem dX2_upSet_0 : decode cX2_upSet 0 = .ok (.sipush 1023, 3) := by decide +kernel
theorem dX2_upSet_3 : decode cX2_upSet 3 = .ok (.aload_n 0, 1) := by decide +kernel
theorem dX2_upSet_4 : decode cX2_upSet 4 = .ok (.iconst 3, 1) := by decide +kernel
theorem dX2_upSet_5 : decode cX2_upSet 5 = .ok (.invokevirtual 70, 3) := by decide +kernel
theorem dX2_upSet_8 : decode cX2_upSet 8 = .ok (.iconst (-1), 1) := by decide +kernel
theorem dX2_upSet_9 : decode cX2_upSet 9 = .ok (.ixor, 1) := by decide +kernel
theorem dX2_upSet_10 : decode cX2_upSet 10 = .ok (.iand, 1) := by decide +kernel
theorem dX2_upSet_11 : decode cX2_upSet 11 = .ok (.ireturn, 1) := by decide +kernel
set_option maxRecDepth 20000 in
theorem ggX2_leaningSet_X2_upSet : GoodIn wsX2_leaningSet wsX2_upSet := goodIn_r _ [5, 6, 7, 8, 4, 9, 10, 11, 12, 13, 14, 15] (by decide +kernel) (by decide +kernel)
set_option maxRecDepth 20000 in
theorem gX2_leaningSet_X2_upSet : GoodIn wsX2_leaningSet (wsV RX2 79 RX2 yX2_upSet wsX2_upSet) := goodIn_app (goodIn_of _ (by decide +kernel)) ggX2_leaningSet_X2_upSet
set_option maxRecDepth 20000 in
theorem ggX2_leaningSet_X2_moreThan : GoodIn wsX2_leaningSet wsX2_moreThan := goodIn_r _ [9, 10, 11, 12, 13, 14, 15] (by decide +kernel) (by decide +kernel)
set_option maxRecDepth 20000 in
theorem gX2_leaningSet_X2_moreThan : GoodIn wsX2_leaningSet (wsV RX2 70 RX2 yX2_moreThan wsX2_moreThan) := goodIn_app (goodIn_of _ (by decide +kernel)) ggX2_leaningSet_X2_moreThan
theorem dX2_leaningSet_0 : decode cX2_leaningSet 0 = .ok (.aload_n 0, 1) := by decide +kernel
theorem dX2_leaningSet_1 : decode cX2_leaningSet 1 = .ok (.invokevirtual 79, 3) := by decide +kernel
theorem dX2_leaningSet_4 : decode cX2_leaningSet 4 = .ok (.aload_n 0, 1) := by decide +kernel
theorem dX2_leaningSet_5 : decode cX2_leaningSet 5 = .ok (.iconst 0, 1) := by decide +kernel
theorem dX2_leaningSet_6 : decode cX2_leaningSet 6 = .ok (.invokevirtual 70, 3) := by decide +kernel
theorem dX2_leaningSet_9 : decode cX2_leaningSet 9 = .ok (.iand, 1) := by decide +kernel
theorem dX2_leaningSet_10 : decode cX2_leaningSet 10 = .ok (.ireturn, 1) := by decide +kernel
set_option maxRecDepth 20000 in
theorem ggX2_dropSet_X2_moreThan : GoodIn wsX2_dropSet wsX2_moreThan := goodIn_r _ [6, 7, 8, 9, 10, 11, 12] (by decide +kernel) (by decide +kernel)
set_option maxRecDepth 20000 in
theorem gX2_dropSet_X2_moreThan : GoodIn wsX2_dropSet (wsV RX2 70 RX2 yX2_moreThan wsX2_moreThan) := goodIn_app (goodIn_of _ (by decide +kernel)) ggX2_dropSet_X2_moreThan
theorem dX2_dropSet_0 : decode cX2_dropSet 0 = .ok (.aload_n 0, 1) := by decide +kernel
theorem dX2_dropSet_1 : decode cX2_dropSet 1 = .ok (.getfield 18, 3) := by decide +kernel
theorem dX2_dropSet_4 : decode cX2_dropSet 4 = .ok (.aload_n 0, 1) := by decide +kernel
theorem dX2_dropSet_5 : decode cX2_dropSet 5 = .ok (.iload_n 1, 1) := by decide +kernel
theorem dX2_dropSet_6 : decode cX2_dropSet 6 = .ok (.invokevirtual 70, 3) := by decide +kernel
theorem dX2_dropSet_9 : decode cX2_dropSet 9 = .ok (.iand, 1) := by decide +kernel
theorem dX2_dropSet_10 : decode cX2_dropSet 10 = .ok (.ireturn, 1) := by decide +kernel
theorem dX2_moreThan_0 : decode cX2_moreThan 0 = .ok (.iconst 0, 1) := by decide +kernel
theorem dX2_moreThan_1 : decode cX2_moreThan 1 = .ok (.istore_n 2, 1) := by decide +kernel
theorem dX2_moreThan_2 : decode cX2_moreThan 2 = .ok (.iconst 0, 1) := by decide +kernel
theorem dX2_moreThan_3 : decode cX2_moreThan 3 = .ok (.istore_n 3, 1) := by decide +kernel
theorem dX2_moreThan_4 : decode cX2_moreThan 4 = .ok (.iload_n 3, 1) := by decide +kernel
theorem dX2_moreThan_5 : decode cX2_moreThan 5 = .ok (.bipush 10, 2) := by decide +kernel
theorem dX2_moreThan_7 : decode cX2_moreThan 7 = .ok (.if_icmp .ge 25, 3) := by decide +kernel
theorem dX2_moreThan_10 : decode cX2_moreThan 10 = .ok (.aload_n 0, 1) := by decide +kernel
theorem dX2_moreThan_11 : decode cX2_moreThan 11 = .ok (.getfield 9, 3) := by decide +kernel
theorem dX2_moreThan_14 : decode cX2_moreThan 14 = .ok (.iload_n 3, 1) := by decide +kernel
theorem dX2_moreThan_15 : decode cX2_moreThan 15 = .ok (.iaload, 1) := by decide +kernel
theorem dX2_moreThan_16 : decode cX2_moreThan 16 = .ok (.iload_n 1, 1) := by decide +kernel
theorem dX2_moreThan_17 : decode cX2_moreThan 17 = .ok (.if_icmp .le 9, 3) := by decide +kernel
theorem dX2_moreThan_20 : decode cX2_moreThan 20 = .ok (.iload_n 2, 1) := by decide +kernel
theorem dX2_moreThan_21 : decode cX2_moreThan 21 = .ok (.iconst 1, 1) := by decide +kernel
theorem dX2_moreThan_22 : decode cX2_moreThan 22 = .ok (.iload_n 3, 1) := by decide +kernel
theorem dX2_moreThan_23 : decode cX2_moreThan 23 = .ok (.ishl, 1) := by decide +kernel
theorem dX2_moreThan_24 : decode cX2_moreThan 24 = .ok (.ior, 1) := by decide +kernel
theorem dX2_moreThan_25 : decode cX2_moreThan 25 = .ok (.istore_n 2, 1) := by decide +kernel
theorem dX2_moreThan_26 : decode cX2_moreThan 26 = .ok (.iinc 3 1, 3) := by decide +kernel
theorem dX2_moreThan_29 : decode cX2_moreThan 29 = .ok (.goto (-25), 3) := by decide +kernel
theorem dX2_moreThan_32 : decode cX2_moreThan 32 = .ok (.iload_n 2, 1) := by decide +kernel
theorem dX2_moreThan_33 : decode cX2_moreThan 33 = .ok (.ireturn, 1) := by decide +kernel
theorem dX3_unitOf_0 : decode cX3_unitOf 0 = .ok (.iload_n 0, 1) := by decide +kernel
theorem dX3_unitOf_1 : decode cX3_unitOf 1 = .ok (.ifCond .gt 7, 3) := by decide +kernel
theorem dX3_unitOf_4 : decode cX3_unitOf 4 = .ok (.lconst 1, 1) := by decide +kernel
theorem dX3_unitOf_5 : decode cX3_unitOf 5 = .ok (.goto 28, 3) := by decide +kernel
theorem dX3_unitOf_8 : decode cX3_unitOf 8 = .ok (.iload_n 0, 1) := by decide +kernel
theorem dX3_unitOf_9 : decode cX3_unitOf 9 = .ok (.iconst 1, 1) := by decide +kernel
theorem dX3_unitOf_10 : decode cX3_unitOf 10 = .ok (.if_icmp .ne 9, 3) := by decide +kernel
theorem dX3_unitOf_13 : decode cX3_unitOf 13 = .ok (.ldc2_w 11, 3) := by decide +kernel
theorem dX3_unitOf_16 : decode cX3_unitOf 16 = .ok (.goto 17, 3) := by decide +kernel
theorem dX3_unitOf_19 : decode cX3_unitOf 19 = .ok (.iload_n 0, 1) := by decide +kernel
theorem dX3_unitOf_20 : decode cX3_unitOf 20 = .ok (.iconst 2, 1) := by decide +kernel
theorem dX3_unitOf_21 : decode cX3_unitOf 21 = .ok (.if_icmp .ne 9, 3) := by decide +kernel
theorem dX3_unitOf_24 : decode cX3_unitOf 24 = .ok (.ldc2_w 13, 3) := by decide +kernel
theorem dX3_unitOf_27 : decode cX3_unitOf 27 = .ok (.goto 6, 3) := by decide +kernel
theorem dX3_unitOf_30 : decode cX3_unitOf 30 = .ok (.ldc2_w 15, 3) := by decide +kernel
theorem dX3_unitOf_33 : decode cX3_unitOf 33 = .ok (.lreturn, 1) := by decide +kernel
set_option maxRecDepth 20000 in
theorem ggX3_succeeds_X6_tryRoll : GoodIn wsX3_succeeds wsX6_tryRoll := goodIn_r _ [6, 7, 8, 9, 10, 11, 12, 13, 14, 15, 16, 17, 18, 19, 20, 21, 5, 22, 23, 24, 25, 26, 27, 28, 29, 30, 31, 32, 33, 34, 35, 36, 37, 38, 39, 40, 41, 42, 43, 44, 45, 46, 47, 48, 49, 50, 51, 52, 53, 54, 55, 56, 57, 58, 59, 60, 61, 62, 63, 64, 65, 66, 67, 68, 69, 70, 71, 72, 73, 74, 75, 76, 77, 78, 79, 80, 81, 82, 83, 84, 85, 86, 87, 88, 89, 90, 91, 92, 93, 94, 95, 96, 97, 98, 99, 100, 101, 102, 103, 104, 105, 106, 107, 108, 109, 110, 111, 112, 113, 114, 115, 116, 117, 118, 119, 120, 121, 122, 123, 124, 125, 126, 127, 190, 191, 192, 193, 194, 195, 196, 197, 198, 199, 200, 201, 202, 203, 204] (by decide +kernel) (by decide +kernel)
set_option maxRecDepth 20000 in
theorem gX3_succeeds_X6_tryRoll : GoodIn wsX3_succeeds (wsV RX3 17 RX6 yX6_tryRoll wsX6_tryRoll) := goodIn_app (goodIn_of _ (by decide +kernel)) ggX3_succeeds_X6_tryRoll
set_option maxRecDepth 20000 in
theorem ggX3_succeeds_X6_tryTouch : GoodIn wsX3_succeeds wsX6_tryTouch := goodIn_r _ [131, 25, 132, 9, 133, 134, 52, 53, 35, 54, 55, 135, 136, 137, 138, 139, 140, 141, 142, 143, 144, 51, 190, 191, 192, 193, 194, 195, 200, 201, 202, 203, 204] (by decide +kernel) (by decide +kernel)
set_option maxRecDepth 20000 in
theorem gX3_succeeds_X6_tryTouch : GoodIn wsX3_succeeds (wsV RX3 23 RX6 yX6_tryTouch wsX6_tryTouch) := goodIn_app (goodIn_of _ (by decide +kernel)) ggX3_succeeds_X6_tryTouch
set_option maxRecDepth 20000 in
theorem ggX3_succeeds_X6_trySet : GoodIn wsX3_succeeds wsX6_trySet := goodIn_r _ [148, 149, 9, 150, 151, 152, 153, 132, 133, 154, 155, 156, 5, 157, 26, 158, 159, 160, 161, 190, 191, 192, 193, 194, 195] (by decide +kernel) (by decide +kernel)
set_option maxRecDepth 20000 in
theorem gX3_succeeds_X6_trySet : GoodIn wsX3_succeeds (wsV RX3 27 RX6 yX6_trySet wsX6_trySet) := goodIn_app (goodIn_of _ (by decide +kernel)) ggX3_succeeds_X6_trySet
set_option maxRecDepth 20000 in
theorem ggX3_succeeds_X3_begins : GoodIn wsX3_succeeds wsX3_begins := goodIn_r _ [165, 166, 167, 168, 5, 169, 7, 25, 170, 171, 172, 16, 173, 174, 175, 176, 177, 98, 99, 100, 101, 18, 93, 91, 102, 103, 104, 105, 92, 94, 95, 96, 97, 115, 116, 117, 35, 118, 55, 43, 76, 178, 179, 180, 181, 190, 191, 192, 193, 194, 195, 196, 197, 198, 199, 200, 201, 202, 203, 204] (by decide +kernel) (by decide +kernel)
set_option maxRecDepth 20000 in
theorem gX3_succeeds_X3_begins : GoodIn wsX3_succeeds (va_wsS RX3 31 yX3_begins wsX3_begins) := goodIn_app (goodIn_of _ (by decide +kernel)) ggX3_succeeds_X3_begins
set_option maxRecDepth 20000 in
theorem ggX3_succeeds_X2_toldSet : GoodIn wsX3_succeeds wsX2_toldSet := goodIn_r _ [185, 76, 200, 201, 202, 203, 204] (by decide +kernel) (by decide +kernel)
set_option maxRecDepth 20000 in
theorem gX3_succeeds_X2_toldSet : GoodIn wsX3_succeeds (wsV RX3 39 RX2 yX2_toldSet wsX2_toldSet) := goodIn_app (goodIn_of _ (by decide +kernel)) ggX3_succeeds_X2_toldSet
set_option maxRecDepth 20000 in
theorem ggX3_succeeds_J6_bitCount_0f7a4 : GoodIn wsX3_succeeds wsJ6_bitCount_0f7a4 := goodIn_r _ [83, 84, 85, 86] (by decide +kernel) (by decide +kernel)
set_option maxRecDepth 20000 in
theorem gX3_succeeds_J6_bitCount_0f7a4 : GoodIn wsX3_succeeds (va_wsS RX3 45 yJ6_bitCount_0f7a4 wsJ6_bitCount_0f7a4) := goodIn_app (goodIn_of _ (by decide +kernel)) ggX3_succeeds_J6_bitCount_0f7a4
set_option maxRecDepth 20000 in
theorem ggX3_succeeds_X2_leaningOf : GoodIn wsX3_succeeds wsX2_leaningOf := goodIn_r _ [142, 55, 143, 9, 144, 200, 201, 202, 203, 204] (by decide +kernel) (by decide +kernel)
set_option maxRecDepth 20000 in
theorem gX3_succeeds_X2_leaningOf : GoodIn wsX3_succeeds (wsV RX3 51 RX2 yX2_leaningOf wsX2_leaningOf) := goodIn_app (goodIn_of _ (by decide +kernel)) ggX3_succeeds_X2_leaningOf
set_option maxRecDepth 20000 in
theorem ggX3_succeeds_X4_allPoints : GoodIn wsX3_succeeds wsX4_allPoints := goodIn_r _ [173, 174, 175, 176, 16, 177, 98, 99, 100, 101, 18, 93, 91, 102, 103, 104, 105, 92, 94, 95, 96, 97, 196, 197, 198, 199] (by decide +kernel) (by decide +kernel)
set_option maxRecDepth 20000 in
theorem gX3_succeeds_X4_allPoints : GoodIn wsX3_succeeds (wsV RX3 58 RX4 yX4_allPoints wsX4_allPoints) := goodIn_app (goodIn_of _ (by decide +kernel)) ggX3_succeeds_X4_allPoints
set_option maxRecDepth 20000 in
theorem ggX3_succeeds_X4_markOf : GoodIn wsX3_succeeds wsX4_markOf := goodIn_r _ [97, 98, 99, 100, 16, 101, 18, 93, 91, 102, 103, 104, 105, 92, 196, 197, 198, 199] (by decide +kernel) (by decide +kernel)
set_option maxRecDepth 20000 in
theorem gX3_succeeds_X4_markOf : GoodIn wsX3_succeeds (wsV RX3 63 RX4 yX4_markOf wsX4_markOf) := goodIn_app (goodIn_of _ (by decide +kernel)) ggX3_succeeds_X4_markOf
theorem dX3_succeeds_0 : decode cX3_succeeds 0 = .ok (.iload_n 1, 1) := by decide +kernel
theorem dX3_succeeds_1 : decode cX3_succeeds 1 = .ok (.sipush 1000, 3) := by decide +kernel
theorem dX3_succeeds_4 : decode cX3_succeeds 4 = .ok (.idiv, 1) := by decide +kernel
theorem dX3_succeeds_5 : decode cX3_succeeds 5 = .ok (.bipush 10, 2) := by decide +kernel
theorem dX3_succeeds_7 : decode cX3_succeeds 7 = .ok (.irem, 1) := by decide +kernel
theorem dX3_succeeds_8 : decode cX3_succeeds 8 = .ok (.istore_n 2, 1) := by decide +kernel
theorem dX3_succeeds_9 : decode cX3_succeeds 9 = .ok (.iload_n 1, 1) := by decide +kernel
theorem dX3_succeeds_10 : decode cX3_succeeds 10 = .ok (.bipush 100, 2) := by decide +kernel
theorem dX3_succeeds_12 : decode cX3_succeeds 12 = .ok (.idiv, 1) := by decide +kernel
theorem dX3_succeeds_13 : decode cX3_succeeds 13 = .ok (.bipush 10, 2) := by decide +kernel
theorem dX3_succeeds_15 : decode cX3_succeeds 15 = .ok (.irem, 1) := by decide +kernel
theorem dX3_succeeds_16 : decode cX3_succeeds 16 = .ok (.istore_n 3, 1) := by decide +kernel
theorem dX3_succeeds_17 : decode cX3_succeeds 17 = .ok (.iload_n 1, 1) := by decide +kernel
theorem dX3_succeeds_18 : decode cX3_succeeds 18 = .ok (.bipush 10, 2) := by decide +kernel
theorem dX3_succeeds_20 : decode cX3_succeeds 20 = .ok (.idiv, 1) := by decide +kernel
theorem dX3_succeeds_21 : decode cX3_succeeds 21 = .ok (.bipush 10, 2) := by decide +kernel
theorem dX3_succeeds_23 : decode cX3_succeeds 23 = .ok (.irem, 1) := by decide +kernel
theorem dX3_succeeds_24 : decode cX3_succeeds 24 = .ok (.istore 4, 2) := by decide +kernel
theorem dX3_succeeds_26 : decode cX3_succeeds 26 = .ok (.iload_n 1, 1) := by decide +kernel
theorem dX3_succeeds_27 : decode cX3_succeeds 27 = .ok (.bipush 10, 2) := by decide +kernel
theorem dX3_succeeds_29 : decode cX3_succeeds 29 = .ok (.irem, 1) := by decide +kernel
theorem dX3_succeeds_30 : decode cX3_succeeds 30 = .ok (.istore 5, 2) := by decide +kernel
theorem dX3_succeeds_32 : decode cX3_succeeds 32 = .ok (.iload_n 1, 1) := by decide +kernel
theorem dX3_succeeds_33 : decode cX3_succeeds 33 = .ok (.sipush 10000, 3) := by decide +kernel
theorem dX3_succeeds_36 : decode cX3_succeeds 36 = .ok (.idiv, 1) := by decide +kernel
theorem dX3_succeeds_37 : decode cX3_succeeds 37 = .ok (.tableswitch 307 1 9 #[51, 82, 113, 138, 164, 183, 218, 246, 279], 51) := by decide +kernel
theorem dX3_succeeds_88 : decode cX3_succeeds 88 = .ok (.iload 5, 2) := by decide +kernel
theorem dX3_succeeds_90 : decode cX3_succeeds 90 = .ok (.ifCond .ne 27, 3) := by decide +kernel
theorem dX3_succeeds_93 : decode cX3_succeeds 93 = .ok (.aload_n 0, 1) := by decide +kernel
theorem dX3_succeeds_94 : decode cX3_succeeds 94 = .ok (.bipush 10, 2) := by decide +kernel
theorem dX3_succeeds_96 : decode cX3_succeeds 96 = .ok (.iload_n 2, 1) := by decide +kernel
theorem dX3_succeeds_97 : decode cX3_succeeds 97 = .ok (.imul, 1) := by decide +kernel
theorem dX3_succeeds_98 : decode cX3_succeeds 98 = .ok (.iload_n 3, 1) := by decide +kernel
theorem dX3_succeeds_99 : decode cX3_succeeds 99 = .ok (.iadd, 1) := by decide +kernel
theorem dX3_succeeds_100 : decode cX3_succeeds 100 = .ok (.iload 4, 2) := by decide +kernel
theorem dX3_succeeds_102 : decode cX3_succeeds 102 = .ok (.iconst 2, 1) := by decide +kernel
theorem dX3_succeeds_103 : decode cX3_succeeds 103 = .ok (.isub, 1) := by decide +kernel
theorem dX3_succeeds_104 : decode cX3_succeeds 104 = .ok (.bipush 30, 2) := by decide +kernel
theorem dX3_succeeds_106 : decode cX3_succeeds 106 = .ok (.iconst 0, 1) := by decide +kernel
theorem dX3_succeeds_107 : decode cX3_succeeds 107 = .ok (.invokevirtual 17, 3) := by decide +kernel
theorem dX3_succeeds_110 : decode cX3_succeeds 110 = .ok (.ifCond .eq 7, 3) := by decide +kernel
theorem dX3_succeeds_113 : decode cX3_succeeds 113 = .ok (.iconst 1, 1) := by decide +kernel
theorem dX3_succeeds_114 : decode cX3_succeeds 114 = .ok (.goto 4, 3) := by decide +kernel
theorem dX3_succeeds_117 : decode cX3_succeeds 117 = .ok (.iconst 0, 1) := by decide +kernel
theorem dX3_succeeds_118 : decode cX3_succeeds 118 = .ok (.ireturn, 1) := by decide +kernel
theorem dX3_succeeds_119 : decode cX3_succeeds 119 = .ok (.iload 5, 2) := by decide +kernel
theorem dX3_succeeds_121 : decode cX3_succeeds 121 = .ok (.ifCond .ne 27, 3) := by decide +kernel
theorem dX3_succeeds_124 : decode cX3_succeeds 124 = .ok (.aload_n 0, 1) := by decide +kernel
theorem dX3_succeeds_125 : decode cX3_succeeds 125 = .ok (.bipush 10, 2) := by decide +kernel
theorem dX3_succeeds_127 : decode cX3_succeeds 127 = .ok (.iload_n 2, 1) := by decide +kernel
theorem dX3_succeeds_128 : decode cX3_succeeds 128 = .ok (.imul, 1) := by decide +kernel
theorem dX3_succeeds_129 : decode cX3_succeeds 129 = .ok (.iload_n 3, 1) := by decide +kernel
theorem dX3_succeeds_130 : decode cX3_succeeds 130 = .ok (.iadd, 1) := by decide +kernel
theorem dX3_succeeds_131 : decode cX3_succeeds 131 = .ok (.iload 4, 2) := by decide +kernel
theorem dX3_succeeds_133 : decode cX3_succeeds 133 = .ok (.iconst 2, 1) := by decide +kernel
theorem dX3_succeeds_134 : decode cX3_succeeds 134 = .ok (.isub, 1) := by decide +kernel
theorem dX3_succeeds_135 : decode cX3_succeeds 135 = .ok (.bipush 30, 2) := by decide +kernel
theorem dX3_succeeds_137 : decode cX3_succeeds 137 = .ok (.iconst 1, 1) := by decide +kernel
theorem dX3_succeeds_138 : decode cX3_succeeds 138 = .ok (.invokevirtual 17, 3) := by decide +kernel
theorem dX3_succeeds_141 : decode cX3_succeeds 141 = .ok (.ifCond .eq 7, 3) := by decide +kernel
theorem dX3_succeeds_144 : decode cX3_succeeds 144 = .ok (.iconst 1, 1) := by decide +kernel
theorem dX3_succeeds_145 : decode cX3_succeeds 145 = .ok (.goto 4, 3) := by decide +kernel
theorem dX3_succeeds_148 : decode cX3_succeeds 148 = .ok (.iconst 0, 1) := by decide +kernel
theorem dX3_succeeds_149 : decode cX3_succeeds 149 = .ok (.ireturn, 1) := by decide +kernel
theorem dX3_succeeds_150 : decode cX3_succeeds 150 = .ok (.iload 4, 2) := by decide +kernel
theorem dX3_succeeds_152 : decode cX3_succeeds 152 = .ok (.ifCond .ne 21, 3) := by decide +kernel
theorem dX3_succeeds_155 : decode cX3_succeeds 155 = .ok (.iload 5, 2) := by decide +kernel
theorem dX3_succeeds_157 : decode cX3_succeeds 157 = .ok (.ifCond .ne 16, 3) := by decide +kernel
theorem dX3_succeeds_160 : decode cX3_succeeds 160 = .ok (.aload_n 0, 1) := by decide +kernel
theorem dX3_succeeds_161 : decode cX3_succeeds 161 = .ok (.iload_n 2, 1) := by decide +kernel
theorem dX3_succeeds_162 : decode cX3_succeeds 162 = .ok (.iload_n 3, 1) := by decide +kernel
theorem dX3_succeeds_163 : decode cX3_succeeds 163 = .ok (.invokevirtual 23, 3) := by decide +kernel
theorem dX3_succeeds_166 : decode cX3_succeeds 166 = .ok (.ifCond .eq 7, 3) := by decide +kernel
theorem dX3_succeeds_169 : decode cX3_succeeds 169 = .ok (.iconst 1, 1) := by decide +kernel
theorem dX3_succeeds_170 : decode cX3_succeeds 170 = .ok (.goto 4, 3) := by decide +kernel
theorem dX3_succeeds_173 : decode cX3_succeeds 173 = .ok (.iconst 0, 1) := by decide +kernel
theorem dX3_succeeds_174 : decode cX3_succeeds 174 = .ok (.ireturn, 1) := by decide +kernel
theorem dX3_succeeds_175 : decode cX3_succeeds 175 = .ok (.iload 5, 2) := by decide +kernel
theorem dX3_succeeds_177 : decode cX3_succeeds 177 = .ok (.ifCond .ne 22, 3) := by decide +kernel
theorem dX3_succeeds_180 : decode cX3_succeeds 180 = .ok (.aload_n 0, 1) := by decide +kernel
theorem dX3_succeeds_181 : decode cX3_succeeds 181 = .ok (.iload_n 2, 1) := by decide +kernel
theorem dX3_succeeds_182 : decode cX3_succeeds 182 = .ok (.bipush 10, 2) := by decide +kernel
theorem dX3_succeeds_184 : decode cX3_succeeds 184 = .ok (.iload_n 3, 1) := by decide +kernel
theorem dX3_succeeds_185 : decode cX3_succeeds 185 = .ok (.imul, 1) := by decide +kernel
theorem dX3_succeeds_186 : decode cX3_succeeds 186 = .ok (.iload 4, 2) := by decide +kernel
theorem dX3_succeeds_188 : decode cX3_succeeds 188 = .ok (.iadd, 1) := by decide +kernel
theorem dX3_succeeds_189 : decode cX3_succeeds 189 = .ok (.invokevirtual 27, 3) := by decide +kernel
theorem dX3_succeeds_192 : decode cX3_succeeds 192 = .ok (.ifCond .eq 7, 3) := by decide +kernel
theorem dX3_succeeds_195 : decode cX3_succeeds 195 = .ok (.iconst 1, 1) := by decide +kernel
theorem dX3_succeeds_196 : decode cX3_succeeds 196 = .ok (.goto 4, 3) := by decide +kernel
theorem dX3_succeeds_199 : decode cX3_succeeds 199 = .ok (.iconst 0, 1) := by decide +kernel
theorem dX3_succeeds_200 : decode cX3_succeeds 200 = .ok (.ireturn, 1) := by decide +kernel
theorem dX3_succeeds_201 : decode cX3_succeeds 201 = .ok (.iload_n 1, 1) := by decide +kernel
theorem dX3_succeeds_202 : decode cX3_succeeds 202 = .ok (.ldc 30, 2) := by decide +kernel
theorem dX3_succeeds_204 : decode cX3_succeeds 204 = .ok (.if_icmp .ne 14, 3) := by decide +kernel
theorem dX3_succeeds_207 : decode cX3_succeeds 207 = .ok (.aload_n 0, 1) := by decide +kernel
theorem dX3_succeeds_208 : decode cX3_succeeds 208 = .ok (.invokestatic 31, 3) := by decide +kernel
theorem dX3_succeeds_211 : decode cX3_succeeds 211 = .ok (.ifCond .eq 7, 3) := by decide +kernel
theorem dX3_succeeds_214 : decode cX3_succeeds 214 = .ok (.iconst 1, 1) := by decide +kernel
theorem dX3_succeeds_215 : decode cX3_succeeds 215 = .ok (.goto 4, 3) := by decide +kernel
theorem dX3_succeeds_218 : decode cX3_succeeds 218 = .ok (.iconst 0, 1) := by decide +kernel
theorem dX3_succeeds_219 : decode cX3_succeeds 219 = .ok (.ireturn, 1) := by decide +kernel
theorem dX3_succeeds_220 : decode cX3_succeeds 220 = .ok (.iload_n 2, 1) := by decide +kernel
theorem dX3_succeeds_221 : decode cX3_succeeds 221 = .ok (.ifCond .ne 32, 3) := by decide +kernel
theorem dX3_succeeds_224 : decode cX3_succeeds 224 = .ok (.iload_n 3, 1) := by decide +kernel
theorem dX3_succeeds_225 : decode cX3_succeeds 225 = .ok (.ifCond .ne 28, 3) := by decide +kernel
theorem dX3_succeeds_228 : decode cX3_succeeds 228 = .ok (.aload_n 0, 1) := by decide +kernel
theorem dX3_succeeds_229 : decode cX3_succeeds 229 = .ok (.getfield 35, 3) := by decide +kernel
theorem dX3_succeeds_232 : decode cX3_succeeds 232 = .ok (.invokevirtual 39, 3) := by decide +kernel
theorem dX3_succeeds_235 : decode cX3_succeeds 235 = .ok (.invokestatic 45, 3) := by decide +kernel
theorem dX3_succeeds_238 : decode cX3_succeeds 238 = .ok (.bipush 10, 2) := by decide +kernel
theorem dX3_succeeds_240 : decode cX3_succeeds 240 = .ok (.iload 4, 2) := by decide +kernel
theorem dX3_succeeds_242 : decode cX3_succeeds 242 = .ok (.imul, 1) := by decide +kernel
theorem dX3_succeeds_243 : decode cX3_succeeds 243 = .ok (.iload 5, 2) := by decide +kernel
theorem dX3_succeeds_245 : decode cX3_succeeds 245 = .ok (.iadd, 1) := by decide +kernel
theorem dX3_succeeds_246 : decode cX3_succeeds 246 = .ok (.if_icmp .gt 7, 3) := by decide +kernel
theorem dX3_succeeds_249 : decode cX3_succeeds 249 = .ok (.iconst 1, 1) := by decide +kernel
theorem dX3_succeeds_250 : decode cX3_succeeds 250 = .ok (.goto 4, 3) := by decide +kernel
theorem dX3_succeeds_253 : decode cX3_succeeds 253 = .ok (.iconst 0, 1) := by decide +kernel
theorem dX3_succeeds_254 : decode cX3_succeeds 254 = .ok (.ireturn, 1) := by decide +kernel
theorem dX3_succeeds_255 : decode cX3_succeeds 255 = .ok (.iload 4, 2) := by decide +kernel
theorem dX3_succeeds_257 : decode cX3_succeeds 257 = .ok (.ifCond .ne 24, 3) := by decide +kernel
theorem dX3_succeeds_260 : decode cX3_succeeds 260 = .ok (.iload 5, 2) := by decide +kernel
theorem dX3_succeeds_262 : decode cX3_succeeds 262 = .ok (.ifCond .ne 19, 3) := by decide +kernel
theorem dX3_succeeds_265 : decode cX3_succeeds 265 = .ok (.aload_n 0, 1) := by decide +kernel
theorem dX3_succeeds_266 : decode cX3_succeeds 266 = .ok (.getfield 35, 3) := by decide +kernel
theorem dX3_succeeds_269 : decode cX3_succeeds 269 = .ok (.iload_n 2, 1) := by decide +kernel
theorem dX3_succeeds_270 : decode cX3_succeeds 270 = .ok (.invokevirtual 51, 3) := by decide +kernel
theorem dX3_succeeds_273 : decode cX3_succeeds 273 = .ok (.iload_n 3, 1) := by decide +kernel
theorem dX3_succeeds_274 : decode cX3_succeeds 274 = .ok (.if_icmp .ne 7, 3) := by decide +kernel
theorem dX3_succeeds_277 : decode cX3_succeeds 277 = .ok (.iconst 1, 1) := by decide +kernel
theorem dX3_succeeds_278 : decode cX3_succeeds 278 = .ok (.goto 4, 3) := by decide +kernel
theorem dX3_succeeds_281 : decode cX3_succeeds 281 = .ok (.iconst 0, 1) := by decide +kernel
theorem dX3_succeeds_282 : decode cX3_succeeds 282 = .ok (.ireturn, 1) := by decide +kernel
theorem dX3_succeeds_283 : decode cX3_succeeds 283 = .ok (.iload_n 2, 1) := by decide +kernel
theorem dX3_succeeds_284 : decode cX3_succeeds 284 = .ok (.ifCond .ne 30, 3) := by decide +kernel
theorem dX3_succeeds_287 : decode cX3_succeeds 287 = .ok (.aload_n 0, 1) := by decide +kernel
theorem dX3_succeeds_288 : decode cX3_succeeds 288 = .ok (.getfield 54, 3) := by decide +kernel
theorem dX3_succeeds_291 : decode cX3_succeeds 291 = .ok (.invokevirtual 58, 3) := by decide +kernel
theorem dX3_succeeds_294 : decode cX3_succeeds 294 = .ok (.bipush 100, 2) := by decide +kernel
theorem dX3_succeeds_296 : decode cX3_succeeds 296 = .ok (.iload_n 3, 1) := by decide +kernel
theorem dX3_succeeds_297 : decode cX3_succeeds 297 = .ok (.imul, 1) := by decide +kernel
theorem dX3_succeeds_298 : decode cX3_succeeds 298 = .ok (.bipush 10, 2) := by decide +kernel
theorem dX3_succeeds_300 : decode cX3_succeeds 300 = .ok (.iload 4, 2) := by decide +kernel
theorem dX3_succeeds_302 : decode cX3_succeeds 302 = .ok (.imul, 1) := by decide +kernel
theorem dX3_succeeds_303 : decode cX3_succeeds 303 = .ok (.iadd, 1) := by decide +kernel
theorem dX3_succeeds_304 : decode cX3_succeeds 304 = .ok (.iload 5, 2) := by decide +kernel
theorem dX3_succeeds_306 : decode cX3_succeeds 306 = .ok (.iadd, 1) := by decide +kernel
theorem dX3_succeeds_307 : decode cX3_succeeds 307 = .ok (.if_icmp .lt 7, 3) := by decide +kernel
theorem dX3_succeeds_310 : decode cX3_succeeds 310 = .ok (.iconst 1, 1) := by decide +kernel
theorem dX3_succeeds_311 : decode cX3_succeeds 311 = .ok (.goto 4, 3) := by decide +kernel
theorem dX3_succeeds_314 : decode cX3_succeeds 314 = .ok (.iconst 0, 1) := by decide +kernel
theorem dX3_succeeds_315 : decode cX3_succeeds 315 = .ok (.ireturn, 1) := by decide +kernel
theorem dX3_succeeds_316 : decode cX3_succeeds 316 = .ok (.iload_n 3, 1) := by decide +kernel
theorem dX3_succeeds_317 : decode cX3_succeeds 317 = .ok (.ifCond .ne 25, 3) := by decide +kernel
theorem dX3_succeeds_320 : decode cX3_succeeds 320 = .ok (.iload 4, 2) := by decide +kernel
theorem dX3_succeeds_322 : decode cX3_succeeds 322 = .ok (.ifCond .ne 20, 3) := by decide +kernel
theorem dX3_succeeds_325 : decode cX3_succeeds 325 = .ok (.aload_n 0, 1) := by decide +kernel
theorem dX3_succeeds_326 : decode cX3_succeeds 326 = .ok (.getfield 54, 3) := by decide +kernel
theorem dX3_succeeds_329 : decode cX3_succeeds 329 = .ok (.iload_n 2, 1) := by decide +kernel
theorem dX3_succeeds_330 : decode cX3_succeeds 330 = .ok (.invokevirtual 63, 3) := by decide +kernel
theorem dX3_succeeds_333 : decode cX3_succeeds 333 = .ok (.iload 5, 2) := by decide +kernel
theorem dX3_succeeds_335 : decode cX3_succeeds 335 = .ok (.if_icmp .ne 7, 3) := by decide +kernel
theorem dX3_succeeds_338 : decode cX3_succeeds 338 = .ok (.iconst 1, 1) := by decide +kernel
theorem dX3_succeeds_339 : decode cX3_succeeds 339 = .ok (.goto 4, 3) := by decide +kernel
theorem dX3_succeeds_342 : decode cX3_succeeds 342 = .ok (.iconst 0, 1) := by decide +kernel
theorem dX3_succeeds_343 : decode cX3_succeeds 343 = .ok (.ireturn, 1) := by decide +kernel
theorem dX3_succeeds_344 : decode cX3_succeeds 344 = .ok (.iconst 0, 1) := by decide +kernel
theorem dX3_succeeds_345 : decode cX3_succeeds 345 = .ok (.ireturn, 1) := by decide +kernel
set_option maxRecDepth 20000 in
theorem ggX3_begins_X6_beginGame : GoodIn wsX3_begins wsX6_beginGame := goodIn_r _ [5, 6, 7, 8, 9, 10, 11, 12, 13, 14, 15, 16, 17, 18, 19, 20, 21, 22, 23, 24, 25, 26, 27, 28, 29, 30, 31, 32, 33, 34, 35, 36, 37, 38, 39, 40, 41, 42, 43, 44, 45, 46, 47, 48, 49, 50, 51, 52, 53, 54, 55, 56, 57, 58, 59] (by decide +kernel) (by decide +kernel)
set_option maxRecDepth 20000 in
theorem gX3_begins_X6_beginGame : GoodIn wsX3_begins (wsV RX3 66 RX6 yX6_beginGame wsX6_beginGame) := goodIn_app (goodIn_of _ (by decide +kernel)) ggX3_begins_X6_beginGame
theorem dX3_begins_0 : decode cX3_begins 0 = .ok (.aload_n 0, 1) := by decide +kernel
theorem dX3_begins_1 : decode cX3_begins 1 = .ok (.invokevirtual 66, 3) := by decide +kernel
theorem dX3_begins_4 : decode cX3_begins 4 = .ok (.pop, 1) := by decide +kernel
theorem dX3_begins_5 : decode cX3_begins 5 = .ok (.iconst 1, 1) := by decide +kernel
theorem dX3_begins_6 : decode cX3_begins 6 = .ok (.ireturn, 1) := by decide +kernel
theorem dX4_init_0 : decode cX4_init 0 = .ok (.aload_n 0, 1) := by decide +kernel
theorem dX4_init_1 : decode cX4_init 1 = .ok (.invokespecial 3, 3) := by decide +kernel
theorem dX4_init_4 : decode cX4_init 4 = .ok (.aload_n 0, 1) := by decide +kernel
theorem dX4_init_5 : decode cX4_init 5 = .ok (.bipush 21, 2) := by decide +kernel
theorem dX4_init_7 : decode cX4_init 7 = .ok (.newarray .int, 2) := by decide +kernel
theorem dX4_init_9 : decode cX4_init 9 = .ok (.putfield 9, 3) := by decide +kernel
theorem dX4_init_12 : decode cX4_init 12 = .ok (.aload_n 0, 1) := by decide +kernel
theorem dX4_init_13 : decode cX4_init 13 = .ok (.bipush 11, 2) := by decide +kernel
theorem dX4_init_15 : decode cX4_init 15 = .ok (.newarray .int, 2) := by decide +kernel
theorem dX4_init_17 : decode cX4_init 17 = .ok (.putfield 15, 3) := by decide +kernel
theorem dX4_init_20 : decode cX4_init 20 = .ok (.return_, 1) := by decide +kernel
theorem dX4_clear_0 : decode cX4_clear 0 = .ok (.aload_n 0, 1) := by decide +kernel
theorem dX4_clear_1 : decode cX4_clear 1 = .ok (.iconst 0, 1) := by decide +kernel
theorem dX4_clear_2 : decode cX4_clear 2 = .ok (.putfield 18, 3) := by decide +kernel
theorem dX4_clear_5 : decode cX4_clear 5 = .ok (.aload_n 0, 1) := by decide +kernel
theorem dX4_clear_6 : decode cX4_clear 6 = .ok (.iconst 0, 1) := by decide +kernel
theorem dX4_clear_7 : decode cX4_clear 7 = .ok (.putfield 22, 3) := by decide +kernel
theorem dX4_clear_10 : decode cX4_clear 10 = .ok (.return_, 1) := by decide +kernel
theorem dX4_copyFrom_0 : decode cX4_copyFrom 0 = .ok (.iconst 0, 1) := by decide +kernel
theorem dX4_copyFrom_1 : decode cX4_copyFrom 1 = .ok (.istore_n 2, 1) := by decide +kernel
theorem dX4_copyFrom_2 : decode cX4_copyFrom 2 = .ok (.iload_n 2, 1) := by decide +kernel
theorem dX4_copyFrom_3 : decode cX4_copyFrom 3 = .ok (.bipush 21, 2) := by decide +kernel
theorem dX4_copyFrom_5 : decode cX4_copyFrom 5 = .ok (.if_icmp .ge 21, 3) := by decide +kernel
theorem dX4_copyFrom_8 : decode cX4_copyFrom 8 = .ok (.aload_n 0, 1) := by decide +kernel
theorem dX4_copyFrom_9 : decode cX4_copyFrom 9 = .ok (.getfield 9, 3) := by decide +kernel
theorem dX4_copyFrom_12 : decode cX4_copyFrom 12 = .ok (.iload_n 2, 1) := by decide +kernel
theorem dX4_copyFrom_13 : decode cX4_copyFrom 13 = .ok (.aload_n 1, 1) := by decide +kernel
theorem dX4_copyFrom_14 : decode cX4_copyFrom 14 = .ok (.getfield 9, 3) := by decide +kernel
theorem dX4_copyFrom_17 : decode cX4_copyFrom 17 = .ok (.iload_n 2, 1) := by decide +kernel
theorem dX4_copyFrom_18 : decode cX4_copyFrom 18 = .ok (.iaload, 1) := by decide +kernel
theorem dX4_copyFrom_19 : decode cX4_copyFrom 19 = .ok (.iastore, 1) := by decide +kernel
theorem dX4_copyFrom_20 : decode cX4_copyFrom 20 = .ok (.iinc 2 1, 3) := by decide +kernel
theorem dX4_copyFrom_23 : decode cX4_copyFrom 23 = .ok (.goto (-21), 3) := by decide +kernel
theorem dX4_copyFrom_26 : decode cX4_copyFrom 26 = .ok (.iconst 0, 1) := by decide +kernel
theorem dX4_copyFrom_27 : decode cX4_copyFrom 27 = .ok (.istore_n 2, 1) := by decide +kernel
theorem dX4_copyFrom_28 : decode cX4_copyFrom 28 = .ok (.iload_n 2, 1) := by decide +kernel
theorem dX4_copyFrom_29 : decode cX4_copyFrom 29 = .ok (.bipush 10, 2) := by decide +kernel
theorem dX4_copyFrom_31 : decode cX4_copyFrom 31 = .ok (.if_icmp .gt 21, 3) := by decide +kernel
theorem dX4_copyFrom_34 : decode cX4_copyFrom 34 = .ok (.aload_n 0, 1) := by decide +kernel
theorem dX4_copyFrom_35 : decode cX4_copyFrom 35 = .ok (.getfield 15, 3) := by decide +kernel
theorem dX4_copyFrom_38 : decode cX4_copyFrom 38 = .ok (.iload_n 2, 1) := by decide +kernel
theorem dX4_copyFrom_39 : decode cX4_copyFrom 39 = .ok (.aload_n 1, 1) := by decide +kernel
theorem dX4_copyFrom_40 : decode cX4_copyFrom 40 = .ok (.getfield 15, 3) := by decide +kernel
theorem dX4_copyFrom_43 : decode cX4_copyFrom 43 = .ok (.iload_n 2, 1) := by decide +kernel
theorem dX4_copyFrom_44 : decode cX4_copyFrom 44 = .ok (.iaload, 1) := by decide +kernel
theorem dX4_copyFrom_45 : decode cX4_copyFrom 45 = .ok (.iastore, 1) := by decide +kernel
theorem dX4_copyFrom_46 : decode cX4_copyFrom 46 = .ok (.iinc 2 1, 3) := by decide +kernel
theorem dX4_copyFrom_49 : decode cX4_copyFrom 49 = .ok (.goto (-21), 3) := by decide +kernel
theorem dX4_copyFrom_52 : decode cX4_copyFrom 52 = .ok (.aload_n 0, 1) := by decide +kernel
theorem dX4_copyFrom_53 : decode cX4_copyFrom 53 = .ok (.aload_n 1, 1) := by decide +kernel
theorem dX4_copyFrom_54 : decode cX4_copyFrom 54 = .ok (.getfield 18, 3) := by decide +kernel
theorem dX4_copyFrom_57 : decode cX4_copyFrom 57 = .ok (.putfield 18, 3) := by decide +kernel
theorem dX4_copyFrom_60 : decode cX4_copyFrom 60 = .ok (.aload_n 0, 1) := by decide +kernel
theorem dX4_copyFrom_61 : decode cX4_copyFrom 61 = .ok (.aload_n 1, 1) := by decide +kernel
theorem dX4_copyFrom_62 : decode cX4_copyFrom 62 = .ok (.getfield 22, 3) := by decide +kernel
theorem dX4_copyFrom_65 : decode cX4_copyFrom 65 = .ok (.putfield 22, 3) := by decide +kernel
theorem dX4_copyFrom_68 : decode cX4_copyFrom 68 = .ok (.return_, 1) := by decide +kernel
theorem dX4_rolls_0 : decode cX4_rolls 0 = .ok (.aload_n 0, 1) := by decide +kernel
theorem dX4_rolls_1 : decode cX4_rolls 1 = .ok (.getfield 18, 3) := by decide +kernel
theorem dX4_rolls_4 : decode cX4_rolls 4 = .ok (.ireturn, 1) := by decide +kernel
theorem dX4_frameNow_0 : decode cX4_frameNow 0 = .ok (.aload_n 0, 1) := by decide +kernel
theorem dX4_frameNow_1 : decode cX4_frameNow 1 = .ok (.getfield 22, 3) := by decide +kernel
theorem dX4_frameNow_4 : decode cX4_frameNow 4 = .ok (.ireturn, 1) := by decide +kernel
theorem dX4_isOver_0 : decode cX4_isOver 0 = .ok (.aload_n 0, 1) := by decide +kernel
theorem dX4_isOver_1 : decode cX4_isOver 1 = .ok (.getfield 22, 3) := by decide +kernel
theorem dX4_isOver_4 : decode cX4_isOver 4 = .ok (.bipush 10, 2) := by decide +kernel
theorem dX4_isOver_6 : decode cX4_isOver 6 = .ok (.if_icmp .lt 7, 3) := by decide +kernel
theorem dX4_isOver_9 : decode cX4_isOver 9 = .ok (.iconst 1, 1) := by decide +kernel
theorem dX4_isOver_10 : decode cX4_isOver 10 = .ok (.goto 4, 3) := by decide +kernel
theorem dX4_isOver_13 : decode cX4_isOver 13 = .ok (.iconst 0, 1) := by decide +kernel
theorem dX4_isOver_14 : decode cX4_isOver 14 = .ok (.ireturn, 1) := by decide +kernel
theorem dX4_takenBy_0 : decode cX4_takenBy 0 = .ok (.iload_n 1, 1) := by decide +kernel
theorem dX4_takenBy_1 : decode cX4_takenBy 1 = .ok (.ifCond .lt 26, 3) := by decide +kernel
theorem dX4_takenBy_4 : decode cX4_takenBy 4 = .ok (.iload_n 1, 1) := by decide +kernel
theorem dX4_takenBy_5 : decode cX4_takenBy 5 = .ok (.aload_n 0, 1) := by decide +kernel
theorem dX4_takenBy_6 : decode cX4_takenBy 6 = .ok (.getfield 18, 3) := by decide +kernel
theorem dX4_takenBy_9 : decode cX4_takenBy 9 = .ok (.if_icmp .ge 18, 3) := by decide +kernel
theorem dX4_takenBy_12 : decode cX4_takenBy 12 = .ok (.iload_n 1, 1) := by decide +kernel
theorem dX4_takenBy_13 : decode cX4_takenBy 13 = .ok (.bipush 21, 2) := by decide +kernel
theorem dX4_takenBy_15 : decode cX4_takenBy 15 = .ok (.if_icmp .ge 12, 3) := by decide +kernel
theorem dX4_takenBy_18 : decode cX4_takenBy 18 = .ok (.aload_n 0, 1) := by decide +kernel
theorem dX4_takenBy_19 : decode cX4_takenBy 19 = .ok (.getfield 9, 3) := by decide +kernel
theorem dX4_takenBy_22 : decode cX4_takenBy 22 = .ok (.iload_n 1, 1) := by decide +kernel
theorem dX4_takenBy_23 : decode cX4_takenBy 23 = .ok (.iaload, 1) := by decide +kernel
theorem dX4_takenBy_24 : decode cX4_takenBy 24 = .ok (.goto 4, 3) := by decide +kernel
theorem dX4_takenBy_27 : decode cX4_takenBy 27 = .ok (.iconst 0, 1) := by decide +kernel
theorem dX4_takenBy_28 : decode cX4_takenBy 28 = .ok (.ireturn, 1) := by decide +kernel
theorem dX4_startOf_0 : decode cX4_startOf 0 = .ok (.iload_n 1, 1) := by decide +kernel
theorem dX4_startOf_1 : decode cX4_startOf 1 = .ok (.ifCond .lt 26, 3) := by decide +kernel
theorem dX4_startOf_4 : decode cX4_startOf 4 = .ok (.iload_n 1, 1) := by decide +kernel
theorem dX4_startOf_5 : decode cX4_startOf 5 = .ok (.bipush 10, 2) := by decide +kernel
theorem dX4_startOf_7 : decode cX4_startOf 7 = .ok (.if_icmp .gt 20, 3) := by decide +kernel
theorem dX4_startOf_10 : decode cX4_startOf 10 = .ok (.iload_n 1, 1) := by decide +kernel
theorem dX4_startOf_11 : decode cX4_startOf 11 = .ok (.aload_n 0, 1) := by decide +kernel
theorem dX4_startOf_12 : decode cX4_startOf 12 = .ok (.getfield 22, 3) := by decide +kernel
theorem dX4_startOf_15 : decode cX4_startOf 15 = .ok (.if_icmp .gt 12, 3) := by decide +kernel
theorem dX4_startOf_18 : decode cX4_startOf 18 = .ok (.aload_n 0, 1) := by decide +kernel
theorem dX4_startOf_19 : decode cX4_startOf 19 = .ok (.getfield 15, 3) := by decide +kernel
theorem dX4_startOf_22 : decode cX4_startOf 22 = .ok (.iload_n 1, 1) := by decide +kernel
theorem dX4_startOf_23 : decode cX4_startOf 23 = .ok (.iaload, 1) := by decide +kernel
theorem dX4_startOf_24 : decode cX4_startOf 24 = .ok (.goto 7, 3) := by decide +kernel
theorem dX4_startOf_27 : decode cX4_startOf 27 = .ok (.aload_n 0, 1) := by decide +kernel
theorem dX4_startOf_28 : decode cX4_startOf 28 = .ok (.getfield 18, 3) := by decide +kernel
theorem dX4_startOf_31 : decode cX4_startOf 31 = .ok (.ireturn, 1) := by decide +kernel
set_option maxRecDepth 20000 in
theorem ggX4_rollsIn_X4_startOf : GoodIn wsX4_rollsIn wsX4_startOf := goodIn_r _ [5, 6, 7, 8, 9, 10, 11, 12] (by decide +kernel) (by decide +kernel)
set_option maxRecDepth 20000 in
theorem gX4_rollsIn_X4_startOf : GoodIn wsX4_rollsIn (wsV RX4 25 RX4 yX4_startOf wsX4_startOf) := goodIn_app (goodIn_of _ (by decide +kernel)) ggX4_rollsIn_X4_startOf
theorem dX4_rollsIn_0 : decode cX4_rollsIn 0 = .ok (.aload_n 0, 1) := by decide +kernel
theorem dX4_rollsIn_1 : decode cX4_rollsIn 1 = .ok (.iload_n 1, 1) := by decide +kernel
theorem dX4_rollsIn_2 : decode cX4_rollsIn 2 = .ok (.iconst 1, 1) := by decide +kernel
theorem dX4_rollsIn_3 : decode cX4_rollsIn 3 = .ok (.iadd, 1) := by decide +kernel
theorem dX4_rollsIn_4 : decode cX4_rollsIn 4 = .ok (.invokevirtual 25, 3) := by decide +kernel
theorem dX4_rollsIn_7 : decode cX4_rollsIn 7 = .ok (.aload_n 0, 1) := by decide +kernel
theorem dX4_rollsIn_8 : decode cX4_rollsIn 8 = .ok (.iload_n 1, 1) := by decide +kernel
theorem dX4_rollsIn_9 : decode cX4_rollsIn 9 = .ok (.invokevirtual 25, 3) := by decide +kernel
theorem dX4_rollsIn_12 : decode cX4_rollsIn 12 = .ok (.isub, 1) := by decide +kernel
theorem dX4_rollsIn_13 : decode cX4_rollsIn 13 = .ok (.ireturn, 1) := by decide +kernel
set_option maxRecDepth 20000 in
theorem ggX4_markOf_X4_startOf : GoodIn wsX4_markOf wsX4_startOf := goodIn_r _ [5, 6, 7, 8, 14, 15, 16, 17] (by decide +kernel) (by decide +kernel)
set_option maxRecDepth 20000 in
theorem gX4_markOf_X4_startOf : GoodIn wsX4_markOf (wsV RX4 25 RX4 yX4_startOf wsX4_startOf) := goodIn_app (goodIn_of _ (by decide +kernel)) ggX4_markOf_X4_startOf
set_option maxRecDepth 20000 in
theorem ggX4_markOf_X4_takenBy : GoodIn wsX4_markOf wsX4_takenBy := goodIn_r _ [12, 8, 13, 14, 15, 16, 17] (by decide +kernel) (by decide +kernel)
set_option maxRecDepth 20000 in
theorem gX4_markOf_X4_takenBy : GoodIn wsX4_markOf (wsV RX4 29 RX4 yX4_takenBy wsX4_takenBy) := goodIn_app (goodIn_of _ (by decide +kernel)) ggX4_markOf_X4_takenBy
theorem dX4_markOf_0 : decode cX4_markOf 0 = .ok (.aload_n 0, 1) := by decide +kernel
theorem dX4_markOf_1 : decode cX4_markOf 1 = .ok (.iload_n 1, 1) := by decide +kernel
theorem dX4_markOf_2 : decode cX4_markOf 2 = .ok (.invokevirtual 25, 3) := by decide +kernel
theorem dX4_markOf_5 : decode cX4_markOf 5 = .ok (.istore_n 2, 1) := by decide +kernel
theorem dX4_markOf_6 : decode cX4_markOf 6 = .ok (.aload_n 0, 1) := by decide +kernel
theorem dX4_markOf_7 : decode cX4_markOf 7 = .ok (.iload_n 2, 1) := by decide +kernel
theorem dX4_markOf_8 : decode cX4_markOf 8 = .ok (.invokevirtual 29, 3) := by decide +kernel
theorem dX4_markOf_11 : decode cX4_markOf 11 = .ok (.bipush 10, 2) := by decide +kernel
theorem dX4_markOf_13 : decode cX4_markOf 13 = .ok (.if_icmp .ne 5, 3) := by decide +kernel
theorem dX4_markOf_16 : decode cX4_markOf 16 = .ok (.iconst 1, 1) := by decide +kernel
theorem dX4_markOf_17 : decode cX4_markOf 17 = .ok (.ireturn, 1) := by decide +kernel
theorem dX4_markOf_18 : decode cX4_markOf 18 = .ok (.aload_n 0, 1) := by decide +kernel
theorem dX4_markOf_19 : decode cX4_markOf 19 = .ok (.iload_n 2, 1) := by decide +kernel
theorem dX4_markOf_20 : decode cX4_markOf 20 = .ok (.invokevirtual 29, 3) := by decide +kernel
theorem dX4_markOf_23 : decode cX4_markOf 23 = .ok (.aload_n 0, 1) := by decide +kernel
theorem dX4_markOf_24 : decode cX4_markOf 24 = .ok (.iload_n 2, 1) := by decide +kernel
theorem dX4_markOf_25 : decode cX4_markOf 25 = .ok (.iconst 1, 1) := by decide +kernel
theorem dX4_markOf_26 : decode cX4_markOf 26 = .ok (.iadd, 1) := by decide +kernel
theorem dX4_markOf_27 : decode cX4_markOf 27 = .ok (.invokevirtual 29, 3) := by decide +kernel
theorem dX4_markOf_30 : decode cX4_markOf 30 = .ok (.iadd, 1) := by decide +kernel
theorem dX4_markOf_31 : decode cX4_markOf 31 = .ok (.bipush 10, 2) := by decide +kernel
theorem dX4_markOf_33 : decode cX4_markOf 33 = .ok (.if_icmp .ne 7, 3) := by decide +kernel
theorem dX4_markOf_36 : decode cX4_markOf 36 = .ok (.iconst 2, 1) := by decide +kernel
theorem dX4_markOf_37 : decode cX4_markOf 37 = .ok (.goto 4, 3) := by decide +kernel
theorem dX4_markOf_40 : decode cX4_markOf 40 = .ok (.iconst 0, 1) := by decide +kernel
theorem dX4_markOf_41 : decode cX4_markOf 41 = .ok (.ireturn, 1) := by decide +kernel
set_option maxRecDepth 20000 in
theorem ggX4_pointsOf_X4_startOf : GoodIn wsX4_pointsOf wsX4_startOf := goodIn_r _ [5, 6, 7, 8, 18, 19, 20, 21] (by decide +kernel) (by decide +kernel)
set_option maxRecDepth 20000 in
theorem gX4_pointsOf_X4_startOf : GoodIn wsX4_pointsOf (wsV RX4 25 RX4 yX4_startOf wsX4_startOf) := goodIn_app (goodIn_of _ (by decide +kernel)) ggX4_pointsOf_X4_startOf
set_option maxRecDepth 20000 in
theorem ggX4_pointsOf_X4_takenBy : GoodIn wsX4_pointsOf wsX4_takenBy := goodIn_r _ [12, 8, 13, 18, 19, 20, 21] (by decide +kernel) (by decide +kernel)
set_option maxRecDepth 20000 in
theorem gX4_pointsOf_X4_takenBy : GoodIn wsX4_pointsOf (wsV RX4 29 RX4 yX4_takenBy wsX4_takenBy) := goodIn_app (goodIn_of _ (by decide +kernel)) ggX4_pointsOf_X4_takenBy
set_option maxRecDepth 20000 in
theorem ggX4_pointsOf_X4_markOf : GoodIn wsX4_pointsOf wsX4_markOf := goodIn_r _ [17, 1, 2, 3, 4, 5, 6, 7, 8, 9, 10, 11, 12, 13, 18, 19, 20, 21] (by decide +kernel) (by decide +kernel)
set_option maxRecDepth 20000 in
theorem gX4_pointsOf_X4_markOf : GoodIn wsX4_pointsOf (wsV RX4 32 RX4 yX4_markOf wsX4_markOf) := goodIn_app (goodIn_of _ (by decide +kernel)) ggX4_pointsOf_X4_markOf
theorem dX4_pointsOf_0 : decode cX4_pointsOf 0 = .ok (.aload_n 0, 1) := by decide +kernel
theorem dX4_pointsOf_1 : decode cX4_pointsOf 1 = .ok (.iload_n 1, 1) := by decide +kernel
theorem dX4_pointsOf_2 : decode cX4_pointsOf 2 = .ok (.invokevirtual 25, 3) := by decide +kernel
theorem dX4_pointsOf_5 : decode cX4_pointsOf 5 = .ok (.istore_n 2, 1) := by decide +kernel
theorem dX4_pointsOf_6 : decode cX4_pointsOf 6 = .ok (.aload_n 0, 1) := by decide +kernel
theorem dX4_pointsOf_7 : decode cX4_pointsOf 7 = .ok (.iload_n 2, 1) := by decide +kernel
theorem dX4_pointsOf_8 : decode cX4_pointsOf 8 = .ok (.invokevirtual 29, 3) := by decide +kernel
theorem dX4_pointsOf_11 : decode cX4_pointsOf 11 = .ok (.aload_n 0, 1) := by decide +kernel
theorem dX4_pointsOf_12 : decode cX4_pointsOf 12 = .ok (.iload_n 2, 1) := by decide +kernel
theorem dX4_pointsOf_13 : decode cX4_pointsOf 13 = .ok (.iconst 1, 1) := by decide +kernel
theorem dX4_pointsOf_14 : decode cX4_pointsOf 14 = .ok (.iadd, 1) := by decide +kernel
theorem dX4_pointsOf_15 : decode cX4_pointsOf 15 = .ok (.invokevirtual 29, 3) := by decide +kernel
theorem dX4_pointsOf_18 : decode cX4_pointsOf 18 = .ok (.iadd, 1) := by decide +kernel
theorem dX4_pointsOf_19 : decode cX4_pointsOf 19 = .ok (.istore_n 3, 1) := by decide +kernel
theorem dX4_pointsOf_20 : decode cX4_pointsOf 20 = .ok (.aload_n 0, 1) := by decide +kernel
theorem dX4_pointsOf_21 : decode cX4_pointsOf 21 = .ok (.iload_n 1, 1) := by decide +kernel
theorem dX4_pointsOf_22 : decode cX4_pointsOf 22 = .ok (.invokevirtual 32, 3) := by decide +kernel
theorem dX4_pointsOf_25 : decode cX4_pointsOf 25 = .ok (.ifCond .ne 7, 3) := by decide +kernel
theorem dX4_pointsOf_28 : decode cX4_pointsOf 28 = .ok (.iload_n 3, 1) := by decide +kernel
theorem dX4_pointsOf_29 : decode cX4_pointsOf 29 = .ok (.goto 12, 3) := by decide +kernel
theorem dX4_pointsOf_32 : decode cX4_pointsOf 32 = .ok (.iload_n 3, 1) := by decide +kernel
theorem dX4_pointsOf_33 : decode cX4_pointsOf 33 = .ok (.aload_n 0, 1) := by decide +kernel
theorem dX4_pointsOf_34 : decode cX4_pointsOf 34 = .ok (.iload_n 2, 1) := by decide +kernel
theorem dX4_pointsOf_35 : decode cX4_pointsOf 35 = .ok (.iconst 2, 1) := by decide +kernel
theorem dX4_pointsOf_36 : decode cX4_pointsOf 36 = .ok (.iadd, 1) := by decide +kernel
theorem dX4_pointsOf_37 : decode cX4_pointsOf 37 = .ok (.invokevirtual 29, 3) := by decide +kernel
theorem dX4_pointsOf_40 : decode cX4_pointsOf 40 = .ok (.iadd, 1) := by decide +kernel
theorem dX4_pointsOf_41 : decode cX4_pointsOf 41 = .ok (.ireturn, 1) := by decide +kernel
set_option maxRecDepth 20000 in
theorem ggX4_allPoints_X4_pointsOf : GoodIn wsX4_allPoints wsX4_pointsOf := goodIn_r _ [5, 6, 7, 8, 4, 9, 10, 11, 12, 13, 14, 15, 16, 17, 18, 19, 20, 21, 22, 23, 24, 25] (by decide +kernel) (by decide +kernel)
set_option maxRecDepth 20000 in
theorem gX4_allPoints_X4_pointsOf : GoodIn wsX4_allPoints (wsV RX4 35 RX4 yX4_pointsOf wsX4_pointsOf) := goodIn_app (goodIn_of _ (by decide +kernel)) ggX4_allPoints_X4_pointsOf
theorem dX4_allPoints_0 : decode cX4_allPoints 0 = .ok (.iconst 0, 1) := by decide +kernel
theorem dX4_allPoints_1 : decode cX4_allPoints 1 = .ok (.istore_n 1, 1) := by decide +kernel
theorem dX4_allPoints_2 : decode cX4_allPoints 2 = .ok (.iconst 0, 1) := by decide +kernel
theorem dX4_allPoints_3 : decode cX4_allPoints 3 = .ok (.istore_n 2, 1) := by decide +kernel
theorem dX4_allPoints_4 : decode cX4_allPoints 4 = .ok (.iload_n 2, 1) := by decide +kernel
theorem dX4_allPoints_5 : decode cX4_allPoints 5 = .ok (.bipush 10, 2) := by decide +kernel
theorem dX4_allPoints_7 : decode cX4_allPoints 7 = .ok (.if_icmp .ge 17, 3) := by decide +kernel
theorem dX4_allPoints_10 : decode cX4_allPoints 10 = .ok (.iload_n 1, 1) := by decide +kernel
theorem dX4_allPoints_11 : decode cX4_allPoints 11 = .ok (.aload_n 0, 1) := by decide +kernel
theorem dX4_allPoints_12 : decode cX4_allPoints 12 = .ok (.iload_n 2, 1) := by decide +kernel
theorem dX4_allPoints_13 : decode cX4_allPoints 13 = .ok (.invokevirtual 35, 3) := by decide +kernel
theorem dX4_allPoints_16 : decode cX4_allPoints 16 = .ok (.iadd, 1) := by decide +kernel
theorem dX4_allPoints_17 : decode cX4_allPoints 17 = .ok (.istore_n 1, 1) := by decide +kernel
theorem dX4_allPoints_18 : decode cX4_allPoints 18 = .ok (.iinc 2 1, 3) := by decide +kernel
theorem dX4_allPoints_21 : decode cX4_allPoints 21 = .ok (.goto (-17), 3) := by decide +kernel
theorem dX4_allPoints_24 : decode cX4_allPoints 24 = .ok (.iload_n 1, 1) := by decide +kernel
theorem dX4_allPoints_25 : decode cX4_allPoints 25 = .ok (.ireturn, 1) := by decide +kernel
set_option maxRecDepth 20000 in
theorem ggX4_add_X4_markOf : GoodIn wsX4_add wsX4_markOf := goodIn_r _ [9, 10, 11, 12, 8, 13, 1, 4, 2, 14, 15, 16, 17, 3, 22, 23, 24, 25] (by decide +kernel) (by decide +kernel)
set_option maxRecDepth 20000 in
theorem gX4_add_X4_markOf : GoodIn wsX4_add (wsV RX4 32 RX4 yX4_markOf wsX4_markOf) := goodIn_app (goodIn_of _ (by decide +kernel)) ggX4_add_X4_markOf
set_option maxRecDepth 20000 in
theorem ggX4_add_X4_rollsIn : GoodIn wsX4_add wsX4_rollsIn := goodIn_r _ [21, 10, 11, 12, 8, 13, 1, 4, 2, 22, 23, 24, 25] (by decide +kernel) (by decide +kernel)
set_option maxRecDepth 20000 in
theorem gX4_add_X4_rollsIn : GoodIn wsX4_add (wsV RX4 38 RX4 yX4_rollsIn wsX4_rollsIn) := goodIn_app (goodIn_of _ (by decide +kernel)) ggX4_add_X4_rollsIn
theorem dX4_add_0 : decode cX4_add 0 = .ok (.aload_n 0, 1) := by decide +kernel
theorem dX4_add_1 : decode cX4_add 1 = .ok (.getfield 22, 3) := by decide +kernel
theorem dX4_add_4 : decode cX4_add 4 = .ok (.ifCond .lt 28, 3) := by decide +kernel
theorem dX4_add_7 : decode cX4_add 7 = .ok (.aload_n 0, 1) := by decide +kernel
theorem dX4_add_8 : decode cX4_add 8 = .ok (.getfield 22, 3) := by decide +kernel
theorem dX4_add_11 : decode cX4_add 11 = .ok (.bipush 10, 2) := by decide +kernel
theorem dX4_add_13 : decode cX4_add 13 = .ok (.if_icmp .ge 19, 3) := by decide +kernel
theorem dX4_add_16 : decode cX4_add 16 = .ok (.aload_n 0, 1) := by decide +kernel
theorem dX4_add_17 : decode cX4_add 17 = .ok (.getfield 18, 3) := by decide +kernel
theorem dX4_add_20 : decode cX4_add 20 = .ok (.ifCond .lt 12, 3) := by decide +kernel
theorem dX4_add_23 : decode cX4_add 23 = .ok (.aload_n 0, 1) := by decide +kernel
theorem dX4_add_24 : decode cX4_add 24 = .ok (.getfield 18, 3) := by decide +kernel
theorem dX4_add_27 : decode cX4_add 27 = .ok (.bipush 21, 2) := by decide +kernel
theorem dX4_add_29 : decode cX4_add 29 = .ok (.if_icmp .lt 4, 3) := by decide +kernel
theorem dX4_add_32 : decode cX4_add 32 = .ok (.return_, 1) := by decide +kernel
theorem dX4_add_33 : decode cX4_add 33 = .ok (.aload_n 0, 1) := by decide +kernel
theorem dX4_add_34 : decode cX4_add 34 = .ok (.getfield 9, 3) := by decide +kernel
theorem dX4_add_37 : decode cX4_add 37 = .ok (.aload_n 0, 1) := by decide +kernel
theorem dX4_add_38 : decode cX4_add 38 = .ok (.getfield 18, 3) := by decide +kernel
theorem dX4_add_41 : decode cX4_add 41 = .ok (.iload_n 1, 1) := by decide +kernel
theorem dX4_add_42 : decode cX4_add 42 = .ok (.iastore, 1) := by decide +kernel
theorem dX4_add_43 : decode cX4_add 43 = .ok (.aload_n 0, 1) := by decide +kernel
theorem dX4_add_44 : decode cX4_add 44 = .ok (.dup, 1) := by decide +kernel
theorem dX4_add_45 : decode cX4_add 45 = .ok (.getfield 18, 3) := by decide +kernel
theorem dX4_add_48 : decode cX4_add 48 = .ok (.iconst 1, 1) := by decide +kernel
theorem dX4_add_49 : decode cX4_add 49 = .ok (.iadd, 1) := by decide +kernel
theorem dX4_add_50 : decode cX4_add 50 = .ok (.putfield 18, 3) := by decide +kernel
theorem dX4_add_53 : decode cX4_add 53 = .ok (.aload_n 0, 1) := by decide +kernel
theorem dX4_add_54 : decode cX4_add 54 = .ok (.aload_n 0, 1) := by decide +kernel
theorem dX4_add_55 : decode cX4_add 55 = .ok (.getfield 22, 3) := by decide +kernel
theorem dX4_add_58 : decode cX4_add 58 = .ok (.invokevirtual 32, 3) := by decide +kernel
theorem dX4_add_61 : decode cX4_add 61 = .ok (.istore_n 2, 1) := by decide +kernel
theorem dX4_add_62 : decode cX4_add 62 = .ok (.aload_n 0, 1) := by decide +kernel
theorem dX4_add_63 : decode cX4_add 63 = .ok (.getfield 22, 3) := by decide +kernel
theorem dX4_add_66 : decode cX4_add 66 = .ok (.bipush 9, 2) := by decide +kernel
theorem dX4_add_68 : decode cX4_add 68 = .ok (.if_icmp .ne 15, 3) := by decide +kernel
theorem dX4_add_71 : decode cX4_add 71 = .ok (.iload_n 2, 1) := by decide +kernel
theorem dX4_add_72 : decode cX4_add 72 = .ok (.ifCond .ne 7, 3) := by decide +kernel
theorem dX4_add_75 : decode cX4_add 75 = .ok (.iconst 2, 1) := by decide +kernel
theorem dX4_add_76 : decode cX4_add 76 = .ok (.goto 17, 3) := by decide +kernel
theorem dX4_add_79 : decode cX4_add 79 = .ok (.iconst 3, 1) := by decide +kernel
theorem dX4_add_80 : decode cX4_add 80 = .ok (.goto 13, 3) := by decide +kernel
theorem dX4_add_83 : decode cX4_add 83 = .ok (.iload_n 2, 1) := by decide +kernel
theorem dX4_add_84 : decode cX4_add 84 = .ok (.iconst 1, 1) := by decide +kernel
theorem dX4_add_85 : decode cX4_add 85 = .ok (.if_icmp .ne 7, 3) := by decide +kernel
theorem dX4_add_88 : decode cX4_add 88 = .ok (.iconst 1, 1) := by decide +kernel
theorem dX4_add_89 : decode cX4_add 89 = .ok (.goto 4, 3) := by decide +kernel
theorem dX4_add_92 : decode cX4_add 92 = .ok (.iconst 2, 1) := by decide +kernel
theorem dX4_add_93 : decode cX4_add 93 = .ok (.istore_n 3, 1) := by decide +kernel
theorem dX4_add_94 : decode cX4_add 94 = .ok (.aload_n 0, 1) := by decide +kernel
theorem dX4_add_95 : decode cX4_add 95 = .ok (.aload_n 0, 1) := by decide +kernel
theorem dX4_add_96 : decode cX4_add 96 = .ok (.getfield 22, 3) := by decide +kernel
theorem dX4_add_99 : decode cX4_add 99 = .ok (.invokevirtual 38, 3) := by decide +kernel
theorem dX4_add_102 : decode cX4_add 102 = .ok (.iload_n 3, 1) := by decide +kernel
theorem dX4_add_103 : decode cX4_add 103 = .ok (.if_icmp .lt 26, 3) := by decide +kernel
theorem dX4_add_106 : decode cX4_add 106 = .ok (.aload_n 0, 1) := by decide +kernel
theorem dX4_add_107 : decode cX4_add 107 = .ok (.dup, 1) := by decide +kernel
theorem dX4_add_108 : decode cX4_add 108 = .ok (.getfield 22, 3) := by decide +kernel
theorem dX4_add_111 : decode cX4_add 111 = .ok (.iconst 1, 1) := by decide +kernel
theorem dX4_add_112 : decode cX4_add 112 = .ok (.iadd, 1) := by decide +kernel
theorem dX4_add_113 : decode cX4_add 113 = .ok (.putfield 22, 3) := by decide +kernel
theorem dX4_add_116 : decode cX4_add 116 = .ok (.aload_n 0, 1) := by decide +kernel
theorem dX4_add_117 : decode cX4_add 117 = .ok (.getfield 15, 3) := by decide +kernel
theorem dX4_add_120 : decode cX4_add 120 = .ok (.aload_n 0, 1) := by decide +kernel
theorem dX4_add_121 : decode cX4_add 121 = .ok (.getfield 22, 3) := by decide +kernel
theorem dX4_add_124 : decode cX4_add 124 = .ok (.aload_n 0, 1) := by decide +kernel
theorem dX4_add_125 : decode cX4_add 125 = .ok (.getfield 18, 3) := by decide +kernel
theorem dX4_add_128 : decode cX4_add 128 = .ok (.iastore, 1) := by decide +kernel
theorem dX4_add_129 : decode cX4_add 129 = .ok (.return_, 1) := by decide +kernel
set_option maxRecDepth 20000 in
theorem ggX4_wantsNewRack_X4_isOver : GoodIn wsX4_wantsNewRack wsX4_isOver := goodIn_r _ [7, 1, 26, 27, 28, 29] (by decide +kernel) (by decide +kernel)
set_option maxRecDepth 20000 in
theorem gX4_wantsNewRack_X4_isOver : GoodIn wsX4_wantsNewRack (wsV RX4 41 RX4 yX4_isOver wsX4_isOver) := goodIn_app (goodIn_of _ (by decide +kernel)) ggX4_wantsNewRack_X4_isOver
set_option maxRecDepth 20000 in
theorem ggX4_wantsNewRack_X4_rollsIn : GoodIn wsX4_wantsNewRack wsX4_rollsIn := goodIn_r _ [11, 12, 13, 14, 6, 15, 1, 16, 2, 26, 27, 28, 29] (by decide +kernel) (by decide +kernel)
set_option maxRecDepth 20000 in
theorem gX4_wantsNewRack_X4_rollsIn : GoodIn wsX4_wantsNewRack (wsV RX4 38 RX4 yX4_rollsIn wsX4_rollsIn) := goodIn_app (goodIn_of _ (by decide +kernel)) ggX4_wantsNewRack_X4_rollsIn
set_option maxRecDepth 20000 in
theorem ggX4_wantsNewRack_X4_takenBy : GoodIn wsX4_wantsNewRack wsX4_takenBy := goodIn_r _ [20, 2, 21, 26, 27, 28, 29] (by decide +kernel) (by decide +kernel)
set_option maxRecDepth 20000 in
theorem gX4_wantsNewRack_X4_takenBy : GoodIn wsX4_wantsNewRack (wsV RX4 29 RX4 yX4_takenBy wsX4_takenBy) := goodIn_app (goodIn_of _ (by decide +kernel)) ggX4_wantsNewRack_X4_takenBy
set_option maxRecDepth 20000 in
theorem ggX4_wantsNewRack_X4_markOf : GoodIn wsX4_wantsNewRack wsX4_markOf := goodIn_r _ [25, 12, 13, 14, 6, 15, 1, 16, 2, 17, 18, 19, 20, 21, 26, 27, 28, 29] (by decide +kernel) (by decide +kernel)
set_option maxRecDepth 20000 in
theorem gX4_wantsNewRack_X4_markOf : GoodIn wsX4_wantsNewRack (wsV RX4 32 RX4 yX4_markOf wsX4_markOf) := goodIn_app (goodIn_of _ (by decide +kernel)) ggX4_wantsNewRack_X4_markOf
theorem dX4_wantsNewRack_0 : decode cX4_wantsNewRack 0 = .ok (.aload_n 0, 1) := by decide +kernel
theorem dX4_wantsNewRack_1 : decode cX4_wantsNewRack 1 = .ok (.invokevirtual 41, 3) := by decide +kernel
theorem dX4_wantsNewRack_4 : decode cX4_wantsNewRack 4 = .ok (.ifCond .ne 45, 3) := by decide +kernel
theorem dX4_wantsNewRack_7 : decode cX4_wantsNewRack 7 = .ok (.aload_n 0, 1) := by decide +kernel
theorem dX4_wantsNewRack_8 : decode cX4_wantsNewRack 8 = .ok (.aload_n 0, 1) := by decide +kernel
theorem dX4_wantsNewRack_9 : decode cX4_wantsNewRack 9 = .ok (.getfield 22, 3) := by decide +kernel
theorem dX4_wantsNewRack_12 : decode cX4_wantsNewRack 12 = .ok (.invokevirtual 38, 3) := by decide +kernel
theorem dX4_wantsNewRack_15 : decode cX4_wantsNewRack 15 = .ok (.ifCond .eq 30, 3) := by decide +kernel
theorem dX4_wantsNewRack_18 : decode cX4_wantsNewRack 18 = .ok (.aload_n 0, 1) := by decide +kernel
theorem dX4_wantsNewRack_19 : decode cX4_wantsNewRack 19 = .ok (.aload_n 0, 1) := by decide +kernel
theorem dX4_wantsNewRack_20 : decode cX4_wantsNewRack 20 = .ok (.getfield 18, 3) := by decide +kernel
theorem dX4_wantsNewRack_23 : decode cX4_wantsNewRack 23 = .ok (.iconst 1, 1) := by decide +kernel
theorem dX4_wantsNewRack_24 : decode cX4_wantsNewRack 24 = .ok (.isub, 1) := by decide +kernel
theorem dX4_wantsNewRack_25 : decode cX4_wantsNewRack 25 = .ok (.invokevirtual 29, 3) := by decide +kernel
theorem dX4_wantsNewRack_28 : decode cX4_wantsNewRack 28 = .ok (.bipush 10, 2) := by decide +kernel
theorem dX4_wantsNewRack_30 : decode cX4_wantsNewRack 30 = .ok (.if_icmp .eq 15, 3) := by decide +kernel
theorem dX4_wantsNewRack_33 : decode cX4_wantsNewRack 33 = .ok (.aload_n 0, 1) := by decide +kernel
theorem dX4_wantsNewRack_34 : decode cX4_wantsNewRack 34 = .ok (.aload_n 0, 1) := by decide +kernel
theorem dX4_wantsNewRack_35 : decode cX4_wantsNewRack 35 = .ok (.getfield 22, 3) := by decide +kernel
theorem dX4_wantsNewRack_38 : decode cX4_wantsNewRack 38 = .ok (.invokevirtual 32, 3) := by decide +kernel
theorem dX4_wantsNewRack_41 : decode cX4_wantsNewRack 41 = .ok (.iconst 2, 1) := by decide +kernel
theorem dX4_wantsNewRack_42 : decode cX4_wantsNewRack 42 = .ok (.if_icmp .ne 7, 3) := by decide +kernel
theorem dX4_wantsNewRack_45 : decode cX4_wantsNewRack 45 = .ok (.iconst 1, 1) := by decide +kernel
theorem dX4_wantsNewRack_46 : decode cX4_wantsNewRack 46 = .ok (.goto 4, 3) := by decide +kernel
theorem dX4_wantsNewRack_49 : decode cX4_wantsNewRack 49 = .ok (.iconst 0, 1) := by decide +kernel
theorem dX4_wantsNewRack_50 : decode cX4_wantsNewRack 50 = .ok (.ireturn, 1) := by decide +kernel
set_option maxRecDepth 20000 in
theorem ggX5_init_X6_init : GoodIn wsX5_init wsX6_init := goodIn_r _ [12, 13, 2, 3, 14, 15, 16, 17, 18, 19, 20, 21, 22, 23, 24, 25, 26, 27, 28, 29, 30, 31, 32, 33, 34, 35, 36, 37, 38, 39, 9, 40, 49, 50, 51, 52, 53, 43, 44, 45, 46, 47, 48, 54, 55, 56, 57] (by decide +kernel) (by decide +kernel)
set_option maxRecDepth 20000 in
theorem gX5_init_X6_init : GoodIn wsX5_init (wsX6_init) := ggX5_init_X6_init
theorem dX5_init_0 : decode cX5_init 0 = .ok (.aload_n 0, 1) := by decide +kernel
theorem dX5_init_1 : decode cX5_init 1 = .ok (.invokespecial 3, 3) := by decide +kernel
theorem dX5_init_4 : decode cX5_init 4 = .ok (.aload_n 0, 1) := by decide +kernel
theorem dX5_init_5 : decode cX5_init 5 = .ok (.iconst 2, 1) := by decide +kernel
theorem dX5_init_6 : decode cX5_init 6 = .ok (.anewarray 9, 3) := by decide +kernel
theorem dX5_init_9 : decode cX5_init 9 = .ok (.putfield 11, 3) := by decide +kernel
theorem dX5_init_12 : decode cX5_init 12 = .ok (.aload_n 0, 1) := by decide +kernel
theorem dX5_init_13 : decode cX5_init 13 = .ok (.iconst 2, 1) := by decide +kernel
theorem dX5_init_14 : decode cX5_init 14 = .ok (.newarray .boolean, 2) := by decide +kernel
theorem dX5_init_16 : decode cX5_init 16 = .ok (.putfield 17, 3) := by decide +kernel
theorem dX5_init_19 : decode cX5_init 19 = .ok (.iconst 0, 1) := by decide +kernel
theorem dX5_init_20 : decode cX5_init 20 = .ok (.istore_n 1, 1) := by decide +kernel
theorem dX5_init_21 : decode cX5_init 21 = .ok (.iload_n 1, 1) := by decide +kernel
theorem dX5_init_22 : decode cX5_init 22 = .ok (.iconst 2, 1) := by decide +kernel
theorem dX5_init_23 : decode cX5_init 23 = .ok (.if_icmp .ge 22, 3) := by decide +kernel
theorem dX5_init_26 : decode cX5_init 26 = .ok (.aload_n 0, 1) := by decide +kernel
theorem dX5_init_27 : decode cX5_init 27 = .ok (.getfield 11, 3) := by decide +kernel
theorem dX5_init_30 : decode cX5_init 30 = .ok (.iload_n 1, 1) := by decide +kernel
theorem dX5_init_31 : decode cX5_init 31 = .ok (.new 9, 3) := by decide +kernel
theorem dX5_init_34 : decode cX5_init 34 = .ok (.dup, 1) := by decide +kernel
theorem dX5_init_35 : decode cX5_init 35 = .ok (.invokespecial 21, 3) := by decide +kernel
theorem dX5_init_38 : decode cX5_init 38 = .ok (.aastore, 1) := by decide +kernel
theorem dX5_init_39 : decode cX5_init 39 = .ok (.iinc 1 1, 3) := by decide +kernel
theorem dX5_init_42 : decode cX5_init 42 = .ok (.goto (-21), 3) := by decide +kernel
theorem dX5_init_45 : decode cX5_init 45 = .ok (.return_, 1) := by decide +kernel
theorem dX5_forget_0 : decode cX5_forget 0 = .ok (.iconst 0, 1) := by decide +kernel
theorem dX5_forget_1 : decode cX5_forget 1 = .ok (.istore_n 1, 1) := by decide +kernel
theorem dX5_forget_2 : decode cX5_forget 2 = .ok (.iload_n 1, 1) := by decide +kernel
theorem dX5_forget_3 : decode cX5_forget 3 = .ok (.iconst 2, 1) := by decide +kernel
theorem dX5_forget_4 : decode cX5_forget 4 = .ok (.if_icmp .ge 16, 3) := by decide +kernel
theorem dX5_forget_7 : decode cX5_forget 7 = .ok (.aload_n 0, 1) := by decide +kernel
theorem dX5_forget_8 : decode cX5_forget 8 = .ok (.getfield 17, 3) := by decide +kernel
theorem dX5_forget_11 : decode cX5_forget 11 = .ok (.iload_n 1, 1) := by decide +kernel
theorem dX5_forget_12 : decode cX5_forget 12 = .ok (.iconst 0, 1) := by decide +kernel
theorem dX5_forget_13 : decode cX5_forget 13 = .ok (.bastore, 1) := by decide +kernel
theorem dX5_forget_14 : decode cX5_forget 14 = .ok (.iinc 1 1, 3) := by decide +kernel
theorem dX5_forget_17 : decode cX5_forget 17 = .ok (.goto (-15), 3) := by decide +kernel
theorem dX5_forget_20 : decode cX5_forget 20 = .ok (.return_, 1) := by decide +kernel
set_option maxRecDepth 20000 in
theorem ggX5_isKept_X7_isSlot : GoodIn wsX5_isKept wsX7_isSlot := goodIn_r _ [4] (by decide +kernel) (by decide +kernel)
set_option maxRecDepth 20000 in
theorem gX5_isKept_X7_isSlot_n22 : GoodIn wsX5_isKept (wsX7_isSlot) := ggX5_isKept_X7_isSlot
theorem dX5_isKept_0 : decode cX5_isKept 0 = .ok (.iload_n 1, 1) := by decide +kernel
theorem dX5_isKept_1 : decode cX5_isKept 1 = .ok (.invokestatic 22, 3) := by decide +kernel
theorem dX5_isKept_4 : decode cX5_isKept 4 = .ok (.ifCond .eq 16, 3) := by decide +kernel
theorem dX5_isKept_7 : decode cX5_isKept 7 = .ok (.aload_n 0, 1) := by decide +kernel
theorem dX5_isKept_8 : decode cX5_isKept 8 = .ok (.getfield 17, 3) := by decide +kernel
theorem dX5_isKept_11 : decode cX5_isKept 11 = .ok (.iload_n 1, 1) := by decide +kernel
theorem dX5_isKept_12 : decode cX5_isKept 12 = .ok (.baload, 1) := by decide +kernel
theorem dX5_isKept_13 : decode cX5_isKept 13 = .ok (.ifCond .eq 7, 3) := by decide +kernel
theorem dX5_isKept_16 : decode cX5_isKept 16 = .ok (.iconst 1, 1) := by decide +kernel
theorem dX5_isKept_17 : decode cX5_isKept 17 = .ok (.goto 4, 3) := by decide +kernel
theorem dX5_isKept_20 : decode cX5_isKept 20 = .ok (.iconst 0, 1) := by decide +kernel
theorem dX5_isKept_21 : decode cX5_isKept 21 = .ok (.ireturn, 1) := by decide +kernel
set_option maxRecDepth 20000 in
theorem ggX5_keep_X7_isSlot : GoodIn wsX5_keep wsX7_isSlot := goodIn_r _ [5] (by decide +kernel) (by decide +kernel)
set_option maxRecDepth 20000 in
theorem gX5_keep_X7_isSlot_n22 : GoodIn wsX5_keep (wsX7_isSlot) := ggX5_keep_X7_isSlot
set_option maxRecDepth 20000 in
theorem ggX5_keep_X6_copyFrom : GoodIn wsX5_keep wsX6_copyFrom := goodIn_r _ [10, 11, 12, 13, 14, 15, 16, 17, 18, 19, 20, 21, 22, 23, 24, 25, 26, 27, 28, 29, 30, 31, 32, 33, 36, 37, 38, 39, 40, 41, 42, 43, 44, 45, 46, 47, 48, 49, 50] (by decide +kernel) (by decide +kernel)
set_option maxRecDepth 20000 in
theorem gX5_keep_X6_copyFrom : GoodIn wsX5_keep (wsV RX5 26 RX6 yX6_copyFrom wsX6_copyFrom) := goodIn_app (goodIn_of _ (by decide +kernel)) ggX5_keep_X6_copyFrom
theorem dX5_keep_0 : decode cX5_keep 0 = .ok (.iload_n 1, 1) := by decide +kernel
theorem dX5_keep_1 : decode cX5_keep 1 = .ok (.invokestatic 22, 3) := by decide +kernel
theorem dX5_keep_4 : decode cX5_keep 4 = .ok (.ifCond .eq 20, 3) := by decide +kernel
theorem dX5_keep_7 : decode cX5_keep 7 = .ok (.aload_n 0, 1) := by decide +kernel
theorem dX5_keep_8 : decode cX5_keep 8 = .ok (.getfield 11, 3) := by decide +kernel
theorem dX5_keep_11 : decode cX5_keep 11 = .ok (.iload_n 1, 1) := by decide +kernel
theorem dX5_keep_12 : decode cX5_keep 12 = .ok (.aaload, 1) := by decide +kernel
theorem dX5_keep_13 : decode cX5_keep 13 = .ok (.aload_n 2, 1) := by decide +kernel
theorem dX5_keep_14 : decode cX5_keep 14 = .ok (.invokevirtual 26, 3) := by decide +kernel
theorem dX5_keep_17 : decode cX5_keep 17 = .ok (.aload_n 0, 1) := by decide +kernel
theorem dX5_keep_18 : decode cX5_keep 18 = .ok (.getfield 17, 3) := by decide +kernel
theorem dX5_keep_21 : decode cX5_keep 21 = .ok (.iload_n 1, 1) := by decide +kernel
theorem dX5_keep_22 : decode cX5_keep 22 = .ok (.iconst 1, 1) := by decide +kernel
theorem dX5_keep_23 : decode cX5_keep 23 = .ok (.bastore, 1) := by decide +kernel
theorem dX5_keep_24 : decode cX5_keep 24 = .ok (.return_, 1) := by decide +kernel
set_option maxRecDepth 20000 in
theorem ggX5_giveBack_X5_isKept : GoodIn wsX5_giveBack wsX5_isKept := goodIn_r _ [6, 7, 8, 9, 10, 39, 40] (by decide +kernel) (by decide +kernel)
set_option maxRecDepth 20000 in
theorem gX5_giveBack_X5_isKept : GoodIn wsX5_giveBack (wsV RX5 30 RX5 yX5_isKept wsX5_isKept) := goodIn_app (goodIn_of _ (by decide +kernel)) ggX5_giveBack_X5_isKept
set_option maxRecDepth 20000 in
theorem ggX5_giveBack_X6_copyFrom : GoodIn wsX5_giveBack wsX6_copyFrom := goodIn_r _ [15, 16, 17, 18, 19, 20, 21, 22, 23, 24, 25, 26, 27, 28, 29, 30, 31, 32, 33, 34, 35, 36, 37, 38, 41, 42, 43, 44, 45, 46, 47, 48, 49, 50, 51, 52, 53, 54, 55] (by decide +kernel) (by decide +kernel)
set_option maxRecDepth 20000 in
theorem gX5_giveBack_X6_copyFrom : GoodIn wsX5_giveBack (wsV RX5 26 RX6 yX6_copyFrom wsX6_copyFrom) := goodIn_app (goodIn_of _ (by decide +kernel)) ggX5_giveBack_X6_copyFrom
theorem dX5_giveBack_0 : decode cX5_giveBack 0 = .ok (.aload_n 0, 1) := by decide +kernel
theorem dX5_giveBack_1 : decode cX5_giveBack 1 = .ok (.iload_n 1, 1) := by decide +kernel
theorem dX5_giveBack_2 : decode cX5_giveBack 2 = .ok (.invokevirtual 30, 3) := by decide +kernel
theorem dX5_giveBack_5 : decode cX5_giveBack 5 = .ok (.ifCond .eq 13, 3) := by decide +kernel
theorem dX5_giveBack_8 : decode cX5_giveBack 8 = .ok (.aload_n 2, 1) := by decide +kernel
theorem dX5_giveBack_9 : decode cX5_giveBack 9 = .ok (.aload_n 0, 1) := by decide +kernel
theorem dX5_giveBack_10 : decode cX5_giveBack 10 = .ok (.getfield 11, 3) := by decide +kernel
theorem dX5_giveBack_13 : decode cX5_giveBack 13 = .ok (.iload_n 1, 1) := by decide +kernel
theorem dX5_giveBack_14 : decode cX5_giveBack 14 = .ok (.aaload, 1) := by decide +kernel
theorem dX5_giveBack_15 : decode cX5_giveBack 15 = .ok (.invokevirtual 26, 3) := by decide +kernel
theorem dX5_giveBack_18 : decode cX5_giveBack 18 = .ok (.return_, 1) := by decide +kernel
set_option maxRecDepth 20000 in
theorem ggX6_init_X2_init : GoodIn wsX6_init wsX2_init := goodIn_r _ [16, 17, 2, 3, 12, 18, 19, 20, 32, 33, 34, 35, 36] (by decide +kernel) (by decide +kernel)
set_option maxRecDepth 20000 in
theorem gX6_init_X2_init : GoodIn wsX6_init (wsX2_init) := ggX6_init_X2_init
set_option maxRecDepth 20000 in
theorem ggX6_init_X4_init : GoodIn wsX6_init wsX4_init := goodIn_r _ [23, 24, 2, 3, 12, 25, 26, 43, 44, 45, 46] (by decide +kernel) (by decide +kernel)
set_option maxRecDepth 20000 in
theorem gX6_init_X4_init : GoodIn wsX6_init (wsX4_init) := ggX6_init_X4_init
set_option maxRecDepth 20000 in
theorem ggX6_init_X6_firstSettings : GoodIn wsX6_init wsX6_firstSettings := goodIn_r _ [31, 13, 37, 38, 39, 40, 41, 42] (by decide +kernel) (by decide +kernel)
set_option maxRecDepth 20000 in
theorem gX6_init_X6_firstSettings : GoodIn wsX6_init (wsV RX6 29 RX6 yX6_firstSettings wsX6_firstSettings) := goodIn_app (goodIn_of _ (by decide +kernel)) ggX6_init_X6_firstSettings
theorem dX6_init_0 : decode cX6_init 0 = .ok (.aload_n 0, 1) := by decide +kernel
theorem dX6_init_1 : decode cX6_init 1 = .ok (.invokespecial 3, 3) := by decide +kernel
theorem dX6_init_4 : decode cX6_init 4 = .ok (.aload_n 0, 1) := by decide +kernel
theorem dX6_init_5 : decode cX6_init 5 = .ok (.new 9, 3) := by decide +kernel
theorem dX6_init_8 : decode cX6_init 8 = .ok (.dup, 1) := by decide +kernel
theorem dX6_init_9 : decode cX6_init 9 = .ok (.invokespecial 11, 3) := by decide +kernel
theorem dX6_init_12 : decode cX6_init 12 = .ok (.putfield 12, 3) := by decide +kernel
theorem dX6_init_15 : decode cX6_init 15 = .ok (.aload_n 0, 1) := by decide +kernel
theorem dX6_init_16 : decode cX6_init 16 = .ok (.new 18, 3) := by decide +kernel
theorem dX6_init_19 : decode cX6_init 19 = .ok (.dup, 1) := by decide +kernel
theorem dX6_init_20 : decode cX6_init 20 = .ok (.invokespecial 20, 3) := by decide +kernel
theorem dX6_init_23 : decode cX6_init 23 = .ok (.putfield 21, 3) := by decide +kernel
theorem dX6_init_26 : decode cX6_init 26 = .ok (.aload_n 0, 1) := by decide +kernel
theorem dX6_init_27 : decode cX6_init 27 = .ok (.iconst 3, 1) := by decide +kernel
theorem dX6_init_28 : decode cX6_init 28 = .ok (.newarray .int, 2) := by decide +kernel
theorem dX6_init_30 : decode cX6_init 30 = .ok (.putfield 25, 3) := by decide +kernel
theorem dX6_init_33 : decode cX6_init 33 = .ok (.aload_n 0, 1) := by decide +kernel
theorem dX6_init_34 : decode cX6_init 34 = .ok (.invokevirtual 29, 3) := by decide +kernel
theorem dX6_init_37 : decode cX6_init 37 = .ok (.return_, 1) := by decide +kernel
theorem dX6_firstSettings_0 : decode cX6_firstSettings 0 = .ok (.aload_n 0, 1) := by decide +kernel
theorem dX6_firstSettings_1 : decode cX6_firstSettings 1 = .ok (.getfield 25, 3) := by decide +kernel
theorem dX6_firstSettings_4 : decode cX6_firstSettings 4 = .ok (.iconst 0, 1) := by decide +kernel
theorem dX6_firstSettings_5 : decode cX6_firstSettings 5 = .ok (.bipush 18, 2) := by decide +kernel
theorem dX6_firstSettings_7 : decode cX6_firstSettings 7 = .ok (.iastore, 1) := by decide +kernel
theorem dX6_firstSettings_8 : decode cX6_firstSettings 8 = .ok (.aload_n 0, 1) := by decide +kernel
theorem dX6_firstSettings_9 : decode cX6_firstSettings 9 = .ok (.getfield 25, 3) := by decide +kernel
theorem dX6_firstSettings_12 : decode cX6_firstSettings 12 = .ok (.iconst 1, 1) := by decide +kernel
theorem dX6_firstSettings_13 : decode cX6_firstSettings 13 = .ok (.iconst 2, 1) := by decide +kernel
theorem dX6_firstSettings_14 : decode cX6_firstSettings 14 = .ok (.iastore, 1) := by decide +kernel
theorem dX6_firstSettings_15 : decode cX6_firstSettings 15 = .ok (.aload_n 0, 1) := by decide +kernel
theorem dX6_firstSettings_16 : decode cX6_firstSettings 16 = .ok (.getfield 25, 3) := by decide +kernel
theorem dX6_firstSettings_19 : decode cX6_firstSettings 19 = .ok (.iconst 2, 1) := by decide +kernel
theorem dX6_firstSettings_20 : decode cX6_firstSettings 20 = .ok (.iconst 1, 1) := by decide +kernel
theorem dX6_firstSettings_21 : decode cX6_firstSettings 21 = .ok (.iastore, 1) := by decide +kernel
theorem dX6_firstSettings_22 : decode cX6_firstSettings 22 = .ok (.return_, 1) := by decide +kernel
set_option maxRecDepth 20000 in
theorem ggX6_renew_X2_newRack : GoodIn wsX6_renew wsX2_newRack := goodIn_r _ [10, 11, 12, 13, 33, 34, 35, 36, 37] (by decide +kernel) (by decide +kernel)
set_option maxRecDepth 20000 in
theorem gX6_renew_X2_newRack : GoodIn wsX6_renew (wsV RX6 32 RX2 yX2_newRack wsX2_newRack) := goodIn_app (goodIn_of _ (by decide +kernel)) ggX6_renew_X2_newRack
set_option maxRecDepth 20000 in
theorem ggX6_renew_X4_clear : GoodIn wsX6_renew wsX4_clear := goodIn_r _ [18, 19, 20, 38, 39, 40, 41] (by decide +kernel) (by decide +kernel)
set_option maxRecDepth 20000 in
theorem gX6_renew_X4_clear : GoodIn wsX6_renew (wsV RX6 35 RX4 yX4_clear wsX4_clear) := goodIn_app (goodIn_of _ (by decide +kernel)) ggX6_renew_X4_clear
set_option maxRecDepth 20000 in
theorem ggX6_renew_X6_firstSettings : GoodIn wsX6_renew wsX6_firstSettings := goodIn_r _ [25, 26, 27, 28, 29, 30, 31, 32] (by decide +kernel) (by decide +kernel)
set_option maxRecDepth 20000 in
theorem gX6_renew_X6_firstSettings : GoodIn wsX6_renew (wsV RX6 29 RX6 yX6_firstSettings wsX6_firstSettings) := goodIn_app (goodIn_of _ (by decide +kernel)) ggX6_renew_X6_firstSettings
theorem dX6_renew_0 : decode cX6_renew 0 = .ok (.aload_n 0, 1) := by decide +kernel
theorem dX6_renew_1 : decode cX6_renew 1 = .ok (.getfield 12, 3) := by decide +kernel
theorem dX6_renew_4 : decode cX6_renew 4 = .ok (.invokevirtual 32, 3) := by decide +kernel
theorem dX6_renew_7 : decode cX6_renew 7 = .ok (.aload_n 0, 1) := by decide +kernel
theorem dX6_renew_8 : decode cX6_renew 8 = .ok (.getfield 21, 3) := by decide +kernel
theorem dX6_renew_11 : decode cX6_renew 11 = .ok (.invokevirtual 35, 3) := by decide +kernel
theorem dX6_renew_14 : decode cX6_renew 14 = .ok (.aload_n 0, 1) := by decide +kernel
theorem dX6_renew_15 : decode cX6_renew 15 = .ok (.invokevirtual 29, 3) := by decide +kernel
theorem dX6_renew_18 : decode cX6_renew 18 = .ok (.aload_n 0, 1) := by decide +kernel
theorem dX6_renew_19 : decode cX6_renew 19 = .ok (.iconst 0, 1) := by decide +kernel
theorem dX6_renew_20 : decode cX6_renew 20 = .ok (.putfield 38, 3) := by decide +kernel
theorem dX6_renew_23 : decode cX6_renew 23 = .ok (.aload_n 0, 1) := by decide +kernel
theorem dX6_renew_24 : decode cX6_renew 24 = .ok (.iconst 0, 1) := by decide +kernel
theorem dX6_renew_25 : decode cX6_renew 25 = .ok (.putfield 42, 3) := by decide +kernel
theorem dX6_renew_28 : decode cX6_renew 28 = .ok (.aload_n 0, 1) := by decide +kernel
theorem dX6_renew_29 : decode cX6_renew 29 = .ok (.iconst 0, 1) := by decide +kernel
theorem dX6_renew_30 : decode cX6_renew 30 = .ok (.putfield 45, 3) := by decide +kernel
theorem dX6_renew_33 : decode cX6_renew 33 = .ok (.return_, 1) := by decide +kernel
set_option maxRecDepth 20000 in
theorem ggX6_copyFrom_X2_copyFrom : GoodIn wsX6_copyFrom wsX2_copyFrom := goodIn_r _ [11, 12, 13, 14, 30, 31, 32, 33, 34] (by decide +kernel) (by decide +kernel)
set_option maxRecDepth 20000 in
theorem gX6_copyFrom_X2_copyFrom : GoodIn wsX6_copyFrom (wsV RX6 48 RX2 yX2_copyFrom wsX2_copyFrom) := goodIn_app (goodIn_of _ (by decide +kernel)) ggX6_copyFrom_X2_copyFrom
set_option maxRecDepth 20000 in
theorem ggX6_copyFrom_X4_copyFrom : GoodIn wsX6_copyFrom wsX4_copyFrom := goodIn_r _ [19, 20, 21, 22, 23, 35, 36, 37, 38] (by decide +kernel) (by decide +kernel)
set_option maxRecDepth 20000 in
theorem gX6_copyFrom_X4_copyFrom : GoodIn wsX6_copyFrom (wsV RX6 52 RX4 yX4_copyFrom wsX4_copyFrom) := goodIn_app (goodIn_of _ (by decide +kernel)) ggX6_copyFrom_X4_copyFrom
theorem dX6_copyFrom_0 : decode cX6_copyFrom 0 = .ok (.aload_n 0, 1) := by decide +kernel
theorem dX6_copyFrom_1 : decode cX6_copyFrom 1 = .ok (.getfield 12, 3) := by decide +kernel
theorem dX6_copyFrom_4 : decode cX6_copyFrom 4 = .ok (.aload_n 1, 1) := by decide +kernel
theorem dX6_copyFrom_5 : decode cX6_copyFrom 5 = .ok (.getfield 12, 3) := by decide +kernel
theorem dX6_copyFrom_8 : decode cX6_copyFrom 8 = .ok (.invokevirtual 48, 3) := by decide +kernel
theorem dX6_copyFrom_11 : decode cX6_copyFrom 11 = .ok (.aload_n 0, 1) := by decide +kernel
theorem dX6_copyFrom_12 : decode cX6_copyFrom 12 = .ok (.getfield 21, 3) := by decide +kernel
theorem dX6_copyFrom_15 : decode cX6_copyFrom 15 = .ok (.aload_n 1, 1) := by decide +kernel
theorem dX6_copyFrom_16 : decode cX6_copyFrom 16 = .ok (.getfield 21, 3) := by decide +kernel
theorem dX6_copyFrom_19 : decode cX6_copyFrom 19 = .ok (.invokevirtual 52, 3) := by decide +kernel
theorem dX6_copyFrom_22 : decode cX6_copyFrom 22 = .ok (.iconst 0, 1) := by decide +kernel
theorem dX6_copyFrom_23 : decode cX6_copyFrom 23 = .ok (.istore_n 2, 1) := by decide +kernel
theorem dX6_copyFrom_24 : decode cX6_copyFrom 24 = .ok (.iload_n 2, 1) := by decide +kernel
theorem dX6_copyFrom_25 : decode cX6_copyFrom 25 = .ok (.iconst 3, 1) := by decide +kernel
theorem dX6_copyFrom_26 : decode cX6_copyFrom 26 = .ok (.if_icmp .ge 21, 3) := by decide +kernel
theorem dX6_copyFrom_29 : decode cX6_copyFrom 29 = .ok (.aload_n 0, 1) := by decide +kernel
theorem dX6_copyFrom_30 : decode cX6_copyFrom 30 = .ok (.getfield 25, 3) := by decide +kernel
theorem dX6_copyFrom_33 : decode cX6_copyFrom 33 = .ok (.iload_n 2, 1) := by decide +kernel
theorem dX6_copyFrom_34 : decode cX6_copyFrom 34 = .ok (.aload_n 1, 1) := by decide +kernel
theorem dX6_copyFrom_35 : decode cX6_copyFrom 35 = .ok (.getfield 25, 3) := by decide +kernel
theorem dX6_copyFrom_38 : decode cX6_copyFrom 38 = .ok (.iload_n 2, 1) := by decide +kernel
theorem dX6_copyFrom_39 : decode cX6_copyFrom 39 = .ok (.iaload, 1) := by decide +kernel
theorem dX6_copyFrom_40 : decode cX6_copyFrom 40 = .ok (.iastore, 1) := by decide +kernel
theorem dX6_copyFrom_41 : decode cX6_copyFrom 41 = .ok (.iinc 2 1, 3) := by decide +kernel
theorem dX6_copyFrom_44 : decode cX6_copyFrom 44 = .ok (.goto (-20), 3) := by decide +kernel
theorem dX6_copyFrom_47 : decode cX6_copyFrom 47 = .ok (.aload_n 0, 1) := by decide +kernel
theorem dX6_copyFrom_48 : decode cX6_copyFrom 48 = .ok (.aload_n 1, 1) := by decide +kernel
theorem dX6_copyFrom_49 : decode cX6_copyFrom 49 = .ok (.getfield 38, 3) := by decide +kernel
theorem dX6_copyFrom_52 : decode cX6_copyFrom 52 = .ok (.putfield 38, 3) := by decide +kernel
theorem dX6_copyFrom_55 : decode cX6_copyFrom 55 = .ok (.aload_n 0, 1) := by decide +kernel
theorem dX6_copyFrom_56 : decode cX6_copyFrom 56 = .ok (.aload_n 1, 1) := by decide +kernel
theorem dX6_copyFrom_57 : decode cX6_copyFrom 57 = .ok (.getfield 42, 3) := by decide +kernel
theorem dX6_copyFrom_60 : decode cX6_copyFrom 60 = .ok (.putfield 42, 3) := by decide +kernel
theorem dX6_copyFrom_63 : decode cX6_copyFrom 63 = .ok (.aload_n 0, 1) := by decide +kernel
theorem dX6_copyFrom_64 : decode cX6_copyFrom 64 = .ok (.aload_n 1, 1) := by decide +kernel
theorem dX6_copyFrom_65 : decode cX6_copyFrom 65 = .ok (.getfield 45, 3) := by decide +kernel
theorem dX6_copyFrom_68 : decode cX6_copyFrom 68 = .ok (.putfield 45, 3) := by decide +kernel
theorem dX6_copyFrom_71 : decode cX6_copyFrom 71 = .ok (.return_, 1) := by decide +kernel
set_option maxRecDepth 20000 in
theorem ggX6_settingAt_X7_isSetting : GoodIn wsX6_settingAt wsX7_isSetting := goodIn_r _ [4] (by decide +kernel) (by decide +kernel)
set_option maxRecDepth 20000 in
theorem gX6_settingAt_X7_isSetting_n55 : GoodIn wsX6_settingAt (wsX7_isSetting) := ggX6_settingAt_X7_isSetting
theorem dX6_settingAt_0 : decode cX6_settingAt 0 = .ok (.iload_n 1, 1) := by decide +kernel
theorem dX6_settingAt_1 : decode cX6_settingAt 1 = .ok (.invokestatic 55, 3) := by decide +kernel
theorem dX6_settingAt_4 : decode cX6_settingAt 4 = .ok (.ifCond .eq 12, 3) := by decide +kernel
theorem dX6_settingAt_7 : decode cX6_settingAt 7 = .ok (.aload_n 0, 1) := by decide +kernel
theorem dX6_settingAt_8 : decode cX6_settingAt 8 = .ok (.getfield 25, 3) := by decide +kernel
theorem dX6_settingAt_11 : decode cX6_settingAt 11 = .ok (.iload_n 1, 1) := by decide +kernel
theorem dX6_settingAt_12 : decode cX6_settingAt 12 = .ok (.iaload, 1) := by decide +kernel
theorem dX6_settingAt_13 : decode cX6_settingAt 13 = .ok (.goto 4, 3) := by decide +kernel
theorem dX6_settingAt_16 : decode cX6_settingAt 16 = .ok (.iconst 0, 1) := by decide +kernel
theorem dX6_settingAt_17 : decode cX6_settingAt 17 = .ok (.ireturn, 1) := by decide +kernel
set_option maxRecDepth 20000 in
theorem ggX6_change_X6_settingAt : GoodIn wsX6_change wsX6_settingAt := goodIn_r _ [6, 1, 7, 8, 9, 10, 11, 12, 13, 14, 15] (by decide +kernel) (by decide +kernel)
set_option maxRecDepth 20000 in
theorem gX6_change_X6_settingAt : GoodIn wsX6_change (wsV RX6 59 RX6 yX6_settingAt wsX6_settingAt) := goodIn_app (goodIn_of _ (by decide +kernel)) ggX6_change_X6_settingAt
set_option maxRecDepth 20000 in
theorem ggX6_change_X7_isSetting : GoodIn wsX6_change wsX7_isSetting := goodIn_r _ [9] (by decide +kernel) (by decide +kernel)
set_option maxRecDepth 20000 in
theorem gX6_change_X7_isSetting_n55 : GoodIn wsX6_change (wsX7_isSetting) := ggX6_change_X7_isSetting
theorem dX6_change_0 : decode cX6_change 0 = .ok (.aload_n 0, 1) := by decide +kernel
theorem dX6_change_1 : decode cX6_change 1 = .ok (.iload_n 1, 1) := by decide +kernel
theorem dX6_change_2 : decode cX6_change 2 = .ok (.invokevirtual 59, 3) := by decide +kernel
theorem dX6_change_5 : decode cX6_change 5 = .ok (.istore_n 3, 1) := by decide +kernel
theorem dX6_change_6 : decode cX6_change 6 = .ok (.iload_n 1, 1) := by decide +kernel
theorem dX6_change_7 : decode cX6_change 7 = .ok (.invokestatic 55, 3) := by decide +kernel
theorem dX6_change_10 : decode cX6_change 10 = .ok (.ifCond .eq 10, 3) := by decide +kernel
theorem dX6_change_13 : decode cX6_change 13 = .ok (.aload_n 0, 1) := by decide +kernel
theorem dX6_change_14 : decode cX6_change 14 = .ok (.getfield 25, 3) := by decide +kernel
theorem dX6_change_17 : decode cX6_change 17 = .ok (.iload_n 1, 1) := by decide +kernel
theorem dX6_change_18 : decode cX6_change 18 = .ok (.iload_n 2, 1) := by decide +kernel
theorem dX6_change_19 : decode cX6_change 19 = .ok (.iastore, 1) := by decide +kernel
theorem dX6_change_20 : decode cX6_change 20 = .ok (.iload_n 3, 1) := by decide +kernel
theorem dX6_change_21 : decode cX6_change 21 = .ok (.ireturn, 1) := by decide +kernel
set_option maxRecDepth 20000 in
theorem ggX6_beginGame_X4_allPoints : GoodIn wsX6_beginGame wsX4_allPoints := goodIn_r _ [7, 8, 9, 10, 6, 11, 12, 13, 14, 15, 16, 17, 18, 19, 20, 21, 22, 23, 24, 25, 26, 27, 46, 47, 48, 49] (by decide +kernel) (by decide +kernel)
set_option maxRecDepth 20000 in
theorem gX6_beginGame_X4_allPoints : GoodIn wsX6_beginGame (wsV RX6 63 RX4 yX4_allPoints wsX4_allPoints) := goodIn_app (goodIn_of _ (by decide +kernel)) ggX6_beginGame_X4_allPoints
set_option maxRecDepth 20000 in
theorem ggX6_beginGame_X2_newRack : GoodIn wsX6_beginGame wsX2_newRack := goodIn_r _ [32, 33, 34, 35, 50, 51, 52, 53, 54] (by decide +kernel) (by decide +kernel)
set_option maxRecDepth 20000 in
theorem gX6_beginGame_X2_newRack : GoodIn wsX6_beginGame (wsV RX6 32 RX2 yX2_newRack wsX2_newRack) := goodIn_app (goodIn_of _ (by decide +kernel)) ggX6_beginGame_X2_newRack
set_option maxRecDepth 20000 in
theorem ggX6_beginGame_X4_clear : GoodIn wsX6_beginGame wsX4_clear := goodIn_r _ [39, 18, 16, 46, 47, 48, 49] (by decide +kernel) (by decide +kernel)
set_option maxRecDepth 20000 in
theorem gX6_beginGame_X4_clear : GoodIn wsX6_beginGame (wsV RX6 35 RX4 yX4_clear wsX4_clear) := goodIn_app (goodIn_of _ (by decide +kernel)) ggX6_beginGame_X4_clear
theorem dX6_beginGame_0 : decode cX6_beginGame 0 = .ok (.aload_n 0, 1) := by decide +kernel
theorem dX6_beginGame_1 : decode cX6_beginGame 1 = .ok (.getfield 21, 3) := by decide +kernel
theorem dX6_beginGame_4 : decode cX6_beginGame 4 = .ok (.invokevirtual 63, 3) := by decide +kernel
theorem dX6_beginGame_7 : decode cX6_beginGame 7 = .ok (.istore_n 1, 1) := by decide +kernel
theorem dX6_beginGame_8 : decode cX6_beginGame 8 = .ok (.aload_n 0, 1) := by decide +kernel
theorem dX6_beginGame_9 : decode cX6_beginGame 9 = .ok (.getfield 12, 3) := by decide +kernel
theorem dX6_beginGame_12 : decode cX6_beginGame 12 = .ok (.invokevirtual 32, 3) := by decide +kernel
theorem dX6_beginGame_15 : decode cX6_beginGame 15 = .ok (.aload_n 0, 1) := by decide +kernel
theorem dX6_beginGame_16 : decode cX6_beginGame 16 = .ok (.getfield 21, 3) := by decide +kernel
theorem dX6_beginGame_19 : decode cX6_beginGame 19 = .ok (.invokevirtual 35, 3) := by decide +kernel
theorem dX6_beginGame_22 : decode cX6_beginGame 22 = .ok (.iload_n 1, 1) := by decide +kernel
theorem dX6_beginGame_23 : decode cX6_beginGame 23 = .ok (.ireturn, 1) := by decide +kernel
theorem dX6_stops_0 : decode cX6_stops 0 = .ok (.iload_n 1, 1) := by decide +kernel
theorem dX6_stops_1 : decode cX6_stops 1 = .ok (.iconst 1, 1) := by decide +kernel
theorem dX6_stops_2 : decode cX6_stops 2 = .ok (.if_icmp .lt 16, 3) := by decide +kernel
theorem dX6_stops_5 : decode cX6_stops 5 = .ok (.bipush 90, 2) := by decide +kernel
theorem dX6_stops_7 : decode cX6_stops 7 = .ok (.iload_n 1, 1) := by decide +kernel
theorem dX6_stops_8 : decode cX6_stops 8 = .ok (.idiv, 1) := by decide +kernel
theorem dX6_stops_9 : decode cX6_stops 9 = .ok (.aload_n 0, 1) := by decide +kernel
theorem dX6_stops_10 : decode cX6_stops 10 = .ok (.getfield 25, 3) := by decide +kernel
theorem dX6_stops_13 : decode cX6_stops 13 = .ok (.iconst 0, 1) := by decide +kernel
theorem dX6_stops_14 : decode cX6_stops 14 = .ok (.iaload, 1) := by decide +kernel
theorem dX6_stops_15 : decode cX6_stops 15 = .ok (.if_icmp .le 7, 3) := by decide +kernel
theorem dX6_stops_18 : decode cX6_stops 18 = .ok (.iconst 1, 1) := by decide +kernel
theorem dX6_stops_19 : decode cX6_stops 19 = .ok (.goto 4, 3) := by decide +kernel
theorem dX6_stops_22 : decode cX6_stops 22 = .ok (.iconst 0, 1) := by decide +kernel
theorem dX6_stops_23 : decode cX6_stops 23 = .ok (.ireturn, 1) := by decide +kernel
set_option maxRecDepth 20000 in
theorem ggX6_bowl_X6_stops : GoodIn wsX6_bowl wsX6_stops := goodIn_r _ [11, 4, 114, 115, 116, 117, 118, 119] (by decide +kernel) (by decide +kernel)
set_option maxRecDepth 20000 in
theorem gX6_bowl_X6_stops : GoodIn wsX6_bowl (wsV RX6 67 RX6 yX6_stops wsX6_stops) := goodIn_app (goodIn_of _ (by decide +kernel)) ggX6_bowl_X6_stops
set_option maxRecDepth 20000 in
theorem ggX6_bowl_X2_meetBall : GoodIn wsX6_bowl wsX2_meetBall := goodIn_r _ [16, 17, 18, 19, 20, 21, 15, 22, 23, 24, 25, 26, 27, 28, 29, 30, 31, 32, 33, 34, 35, 36, 37, 38, 39, 40, 41, 42, 43, 44, 45, 46, 47, 48, 49, 50, 51, 120, 121, 122, 123, 124] (by decide +kernel) (by decide +kernel)
set_option maxRecDepth 20000 in
theorem gX6_bowl_X2_meetBall : GoodIn wsX6_bowl (wsV RX6 70 RX2 yX2_meetBall wsX2_meetBall) := goodIn_app (goodIn_of _ (by decide +kernel)) ggX6_bowl_X2_meetBall
set_option maxRecDepth 20000 in
theorem ggX6_bowl_X2_tell : GoodIn wsX6_bowl wsX2_tell := goodIn_r _ [55, 56, 57, 58, 59, 15, 60, 35, 120, 121, 122, 123, 124] (by decide +kernel) (by decide +kernel)
set_option maxRecDepth 20000 in
theorem gX6_bowl_X2_tell : GoodIn wsX6_bowl (wsV RX6 74 RX2 yX2_tell wsX2_tell) := goodIn_app (goodIn_of _ (by decide +kernel)) ggX6_bowl_X2_tell
set_option maxRecDepth 20000 in
theorem ggX6_bowl_J6_bitCount_0f7a4 : GoodIn wsX6_bowl wsJ6_bitCount_0f7a4 := goodIn_r _ [63, 64, 65, 66] (by decide +kernel) (by decide +kernel)
set_option maxRecDepth 20000 in
theorem gX6_bowl_J6_bitCount_0f7a4 : GoodIn wsX6_bowl (va_wsS RX6 77 yJ6_bitCount_0f7a4 wsJ6_bitCount_0f7a4) := goodIn_app (goodIn_of _ (by decide +kernel)) ggX6_bowl_J6_bitCount_0f7a4
set_option maxRecDepth 20000 in
theorem ggX6_bowl_X4_add : GoodIn wsX6_bowl wsX4_add := goodIn_r _ [71, 72, 73, 74, 75, 76, 77, 78, 70, 79, 80, 81, 82, 83, 84, 85, 86, 87, 88, 89, 90, 91, 125, 126, 127, 128] (by decide +kernel) (by decide +kernel)
set_option maxRecDepth 20000 in
theorem gX6_bowl_X4_add : GoodIn wsX6_bowl (wsV RX6 82 RX4 yX4_add wsX4_add) := goodIn_app (goodIn_of _ (by decide +kernel)) ggX6_bowl_X4_add
set_option maxRecDepth 20000 in
theorem ggX6_bowl_X4_wantsNewRack : GoodIn wsX6_bowl wsX4_wantsNewRack := goodIn_r _ [95, 72, 73, 96, 97, 98, 70, 99, 88, 89, 90, 91, 80, 81, 82, 83, 75, 84, 85, 86, 87, 74, 76, 77, 78, 79, 125, 126, 127, 128] (by decide +kernel) (by decide +kernel)
set_option maxRecDepth 20000 in
theorem gX6_bowl_X4_wantsNewRack : GoodIn wsX6_bowl (wsV RX6 86 RX4 yX4_wantsNewRack wsX4_wantsNewRack) := goodIn_app (goodIn_of _ (by decide +kernel)) ggX6_bowl_X4_wantsNewRack
set_option maxRecDepth 20000 in
theorem ggX6_bowl_X2_newRack : GoodIn wsX6_bowl wsX2_newRack := goodIn_r _ [103, 35, 23, 56, 120, 121, 122, 123, 124] (by decide +kernel) (by decide +kernel)
set_option maxRecDepth 20000 in
theorem gX6_bowl_X2_newRack : GoodIn wsX6_bowl (wsV RX6 32 RX2 yX2_newRack wsX2_newRack) := goodIn_app (goodIn_of _ (by decide +kernel)) ggX6_bowl_X2_newRack
set_option maxRecDepth 20000 in
theorem ggX6_bowl_X4_isOver : GoodIn wsX6_bowl wsX4_isOver := goodIn_r _ [99, 72, 125, 126, 127, 128] (by decide +kernel) (by decide +kernel)
set_option maxRecDepth 20000 in
theorem gX6_bowl_X4_isOver : GoodIn wsX6_bowl (wsV RX6 90 RX4 yX4_isOver wsX4_isOver) := goodIn_app (goodIn_of _ (by decide +kernel)) ggX6_bowl_X4_isOver
set_option maxRecDepth 20000 in
theorem ggX6_bowl_X2_setAgain : GoodIn wsX6_bowl wsX2_setAgain := goodIn_r _ [108, 56, 35, 109, 110, 111, 15, 112, 57, 58, 59, 60, 113, 62, 46, 63, 64, 65, 66, 120, 121, 122, 123, 124] (by decide +kernel) (by decide +kernel)
set_option maxRecDepth 20000 in
theorem gX6_bowl_X2_setAgain : GoodIn wsX6_bowl (wsV RX6 93 RX2 yX2_setAgain wsX2_setAgain) := goodIn_app (goodIn_of _ (by decide +kernel)) ggX6_bowl_X2_setAgain
theorem dX6_bowl_0 : decode cX6_bowl 0 = .ok (.aload_n 0, 1) := by decide +kernel
theorem dX6_bowl_1 : decode cX6_bowl 1 = .ok (.iload_n 3, 1) := by decide +kernel
theorem dX6_bowl_2 : decode cX6_bowl 2 = .ok (.invokevirtual 67, 3) := by decide +kernel
theorem dX6_bowl_5 : decode cX6_bowl 5 = .ok (.ifCond .eq 15, 3) := by decide +kernel
theorem dX6_bowl_8 : decode cX6_bowl 8 = .ok (.aload_n 0, 1) := by decide +kernel
theorem dX6_bowl_9 : decode cX6_bowl 9 = .ok (.dup, 1) := by decide +kernel
theorem dX6_bowl_10 : decode cX6_bowl 10 = .ok (.getfield 38, 3) := by decide +kernel
theorem dX6_bowl_13 : decode cX6_bowl 13 = .ok (.iconst 1, 1) := by decide +kernel
theorem dX6_bowl_14 : decode cX6_bowl 14 = .ok (.iadd, 1) := by decide +kernel
theorem dX6_bowl_15 : decode cX6_bowl 15 = .ok (.putfield 38, 3) := by decide +kernel
theorem dX6_bowl_18 : decode cX6_bowl 18 = .ok (.iconst (-1), 1) := by decide +kernel
theorem dX6_bowl_19 : decode cX6_bowl 19 = .ok (.ireturn, 1) := by decide +kernel
theorem dX6_bowl_20 : decode cX6_bowl 20 = .ok (.iconst 0, 1) := by decide +kernel
theorem dX6_bowl_21 : decode cX6_bowl 21 = .ok (.istore 5, 2) := by decide +kernel
theorem dX6_bowl_23 : decode cX6_bowl 23 = .ok (.iload 4, 2) := by decide +kernel
theorem dX6_bowl_25 : decode cX6_bowl 25 = .ok (.ifCond .eq 16, 3) := by decide +kernel
theorem dX6_bowl_28 : decode cX6_bowl 28 = .ok (.aload_n 0, 1) := by decide +kernel
theorem dX6_bowl_29 : decode cX6_bowl 29 = .ok (.dup, 1) := by decide +kernel
theorem dX6_bowl_30 : decode cX6_bowl 30 = .ok (.getfield 45, 3) := by decide +kernel
theorem dX6_bowl_33 : decode cX6_bowl 33 = .ok (.iconst 1, 1) := by decide +kernel
theorem dX6_bowl_34 : decode cX6_bowl 34 = .ok (.iadd, 1) := by decide +kernel
theorem dX6_bowl_35 : decode cX6_bowl 35 = .ok (.putfield 45, 3) := by decide +kernel
theorem dX6_bowl_38 : decode cX6_bowl 38 = .ok (.goto 30, 3) := by decide +kernel
theorem dX6_bowl_41 : decode cX6_bowl 41 = .ok (.aload_n 0, 1) := by decide +kernel
theorem dX6_bowl_42 : decode cX6_bowl 42 = .ok (.getfield 12, 3) := by decide +kernel
theorem dX6_bowl_45 : decode cX6_bowl 45 = .ok (.iload_n 1, 1) := by decide +kernel
theorem dX6_bowl_46 : decode cX6_bowl 46 = .ok (.iload_n 2, 1) := by decide +kernel
theorem dX6_bowl_47 : decode cX6_bowl 47 = .ok (.invokevirtual 70, 3) := by decide +kernel
theorem dX6_bowl_50 : decode cX6_bowl 50 = .ok (.aload_n 0, 1) := by decide +kernel
theorem dX6_bowl_51 : decode cX6_bowl 51 = .ok (.getfield 12, 3) := by decide +kernel
theorem dX6_bowl_54 : decode cX6_bowl 54 = .ok (.aload_n 0, 1) := by decide +kernel
theorem dX6_bowl_55 : decode cX6_bowl 55 = .ok (.getfield 25, 3) := by decide +kernel
theorem dX6_bowl_58 : decode cX6_bowl 58 = .ok (.iconst 1, 1) := by decide +kernel
theorem dX6_bowl_59 : decode cX6_bowl 59 = .ok (.iaload, 1) := by decide +kernel
theorem dX6_bowl_60 : decode cX6_bowl 60 = .ok (.invokevirtual 74, 3) := by decide +kernel
theorem dX6_bowl_63 : decode cX6_bowl 63 = .ok (.invokestatic 77, 3) := by decide +kernel
theorem dX6_bowl_66 : decode cX6_bowl 66 = .ok (.istore 5, 2) := by decide +kernel
theorem dX6_bowl_68 : decode cX6_bowl 68 = .ok (.aload_n 0, 1) := by decide +kernel
theorem dX6_bowl_69 : decode cX6_bowl 69 = .ok (.getfield 21, 3) := by decide +kernel
theorem dX6_bowl_72 : decode cX6_bowl 72 = .ok (.iload 5, 2) := by decide +kernel
theorem dX6_bowl_74 : decode cX6_bowl 74 = .ok (.invokevirtual 82, 3) := by decide +kernel
theorem dX6_bowl_77 : decode cX6_bowl 77 = .ok (.aload_n 0, 1) := by decide +kernel
theorem dX6_bowl_78 : decode cX6_bowl 78 = .ok (.getfield 21, 3) := by decide +kernel
theorem dX6_bowl_81 : decode cX6_bowl 81 = .ok (.invokevirtual 86, 3) := by decide +kernel
theorem dX6_bowl_84 : decode cX6_bowl 84 = .ok (.ifCond .eq 13, 3) := by decide +kernel
theorem dX6_bowl_87 : decode cX6_bowl 87 = .ok (.aload_n 0, 1) := by decide +kernel
theorem dX6_bowl_88 : decode cX6_bowl 88 = .ok (.getfield 12, 3) := by decide +kernel
theorem dX6_bowl_91 : decode cX6_bowl 91 = .ok (.invokevirtual 32, 3) := by decide +kernel
theorem dX6_bowl_94 : decode cX6_bowl 94 = .ok (.goto 35, 3) := by decide +kernel
theorem dX6_bowl_97 : decode cX6_bowl 97 = .ok (.aload_n 0, 1) := by decide +kernel
theorem dX6_bowl_98 : decode cX6_bowl 98 = .ok (.getfield 21, 3) := by decide +kernel
theorem dX6_bowl_101 : decode cX6_bowl 101 = .ok (.invokevirtual 90, 3) := by decide +kernel
theorem dX6_bowl_104 : decode cX6_bowl 104 = .ok (.ifCond .ne 25, 3) := by decide +kernel
theorem dX6_bowl_107 : decode cX6_bowl 107 = .ok (.aload_n 0, 1) := by decide +kernel
theorem dX6_bowl_108 : decode cX6_bowl 108 = .ok (.dup, 1) := by decide +kernel
theorem dX6_bowl_109 : decode cX6_bowl 109 = .ok (.getfield 42, 3) := by decide +kernel
theorem dX6_bowl_112 : decode cX6_bowl 112 = .ok (.aload_n 0, 1) := by decide +kernel
theorem dX6_bowl_113 : decode cX6_bowl 113 = .ok (.getfield 12, 3) := by decide +kernel
theorem dX6_bowl_116 : decode cX6_bowl 116 = .ok (.aload_n 0, 1) := by decide +kernel
theorem dX6_bowl_117 : decode cX6_bowl 117 = .ok (.getfield 25, 3) := by decide +kernel
theorem dX6_bowl_120 : decode cX6_bowl 120 = .ok (.iconst 2, 1) := by decide +kernel
theorem dX6_bowl_121 : decode cX6_bowl 121 = .ok (.iaload, 1) := by decide +kernel
theorem dX6_bowl_122 : decode cX6_bowl 122 = .ok (.invokevirtual 93, 3) := by decide +kernel
theorem dX6_bowl_125 : decode cX6_bowl 125 = .ok (.iadd, 1) := by decide +kernel
theorem dX6_bowl_126 : decode cX6_bowl 126 = .ok (.putfield 42, 3) := by decide +kernel
theorem dX6_bowl_129 : decode cX6_bowl 129 = .ok (.iload 5, 2) := by decide +kernel
theorem dX6_bowl_131 : decode cX6_bowl 131 = .ok (.ireturn, 1) := by decide +kernel
set_option maxRecDepth 20000 in
theorem ggX6_tryRoll_X7_isBall : GoodIn wsX6_tryRoll wsX7_isBall := goodIn_r _ [4] (by decide +kernel) (by decide +kernel)
set_option maxRecDepth 20000 in
theorem gX6_tryRoll_X7_isBall_n96 : GoodIn wsX6_tryRoll (wsX7_isBall) := ggX6_tryRoll_X7_isBall
set_option maxRecDepth 20000 in
theorem ggX6_tryRoll_X7_isSpeed : GoodIn wsX6_tryRoll wsX7_isSpeed := goodIn_r _ [6] (by decide +kernel) (by decide +kernel)
set_option maxRecDepth 20000 in
theorem gX6_tryRoll_X7_isSpeed_n100 : GoodIn wsX6_tryRoll (wsX7_isSpeed) := ggX6_tryRoll_X7_isSpeed
set_option maxRecDepth 20000 in
theorem ggX6_tryRoll_X4_isOver : GoodIn wsX6_tryRoll wsX4_isOver := goodIn_r _ [11, 12, 129, 130, 131, 132] (by decide +kernel) (by decide +kernel)
set_option maxRecDepth 20000 in
theorem gX6_tryRoll_X4_isOver : GoodIn wsX6_tryRoll (wsV RX6 90 RX4 yX4_isOver wsX4_isOver) := goodIn_app (goodIn_of _ (by decide +kernel)) ggX6_tryRoll_X4_isOver
set_option maxRecDepth 20000 in
theorem ggX6_tryRoll_X6_bowl : GoodIn wsX6_tryRoll wsX6_bowl := goodIn_r _ [17, 18, 19, 20, 21, 1, 22, 23, 24, 25, 16, 26, 27, 28, 29, 30, 31, 32, 33, 34, 35, 36, 37, 38, 39, 40, 41, 42, 43, 44, 45, 46, 47, 48, 49, 50, 51, 52, 53, 54, 55, 56, 57, 58, 59, 60, 61, 62, 63, 64, 65, 66, 67, 68, 69, 70, 71, 72, 73, 74, 75, 76, 77, 78, 79, 80, 81, 82, 83, 84, 10, 85, 12, 86, 87, 88, 89, 90, 91, 92, 93, 94, 95, 96, 97, 98, 99, 100, 101, 102, 103, 104, 105, 106, 107, 108, 109, 8, 9, 11, 110, 111, 112, 113, 7, 114, 115, 116, 117, 118, 119, 120, 121, 122, 123, 124, 125, 126, 127, 128, 133, 134, 135, 136, 137, 129, 130, 131, 132] (by decide +kernel) (by decide +kernel)
set_option maxRecDepth 20000 in
theorem gX6_tryRoll_X6_bowl : GoodIn wsX6_tryRoll (wsV RX6 103 RX6 yX6_bowl wsX6_bowl) := goodIn_app (goodIn_of _ (by decide +kernel)) ggX6_tryRoll_X6_bowl
theorem dX6_tryRoll_0 : decode cX6_tryRoll 0 = .ok (.iload_n 1, 1) := by decide +kernel
theorem dX6_tryRoll_1 : decode cX6_tryRoll 1 = .ok (.iload_n 2, 1) := by decide +kernel
theorem dX6_tryRoll_2 : decode cX6_tryRoll 2 = .ok (.invokestatic 96, 3) := by decide +kernel
theorem dX6_tryRoll_5 : decode cX6_tryRoll 5 = .ok (.ifCond .eq 24, 3) := by decide +kernel
theorem dX6_tryRoll_8 : decode cX6_tryRoll 8 = .ok (.iload_n 3, 1) := by decide +kernel
theorem dX6_tryRoll_9 : decode cX6_tryRoll 9 = .ok (.invokestatic 100, 3) := by decide +kernel
theorem dX6_tryRoll_12 : decode cX6_tryRoll 12 = .ok (.ifCond .eq 17, 3) := by decide +kernel
theorem dX6_tryRoll_15 : decode cX6_tryRoll 15 = .ok (.aload_n 0, 1) := by decide +kernel
theorem dX6_tryRoll_16 : decode cX6_tryRoll 16 = .ok (.getfield 21, 3) := by decide +kernel
theorem dX6_tryRoll_19 : decode cX6_tryRoll 19 = .ok (.invokevirtual 90, 3) := by decide +kernel
theorem dX6_tryRoll_22 : decode cX6_tryRoll 22 = .ok (.ifCond .ne 7, 3) := by decide +kernel
theorem dX6_tryRoll_25 : decode cX6_tryRoll 25 = .ok (.iconst 1, 1) := by decide +kernel
theorem dX6_tryRoll_26 : decode cX6_tryRoll 26 = .ok (.goto 4, 3) := by decide +kernel
theorem dX6_tryRoll_29 : decode cX6_tryRoll 29 = .ok (.iconst 0, 1) := by decide +kernel
theorem dX6_tryRoll_30 : decode cX6_tryRoll 30 = .ok (.istore 5, 2) := by decide +kernel
theorem dX6_tryRoll_32 : decode cX6_tryRoll 32 = .ok (.iload 5, 2) := by decide +kernel
theorem dX6_tryRoll_34 : decode cX6_tryRoll 34 = .ok (.ifCond .eq 13, 3) := by decide +kernel
theorem dX6_tryRoll_37 : decode cX6_tryRoll 37 = .ok (.aload_n 0, 1) := by decide +kernel
theorem dX6_tryRoll_38 : decode cX6_tryRoll 38 = .ok (.iload_n 1, 1) := by decide +kernel
theorem dX6_tryRoll_39 : decode cX6_tryRoll 39 = .ok (.iload_n 2, 1) := by decide +kernel
theorem dX6_tryRoll_40 : decode cX6_tryRoll 40 = .ok (.iload_n 3, 1) := by decide +kernel
theorem dX6_tryRoll_41 : decode cX6_tryRoll 41 = .ok (.iload 4, 2) := by decide +kernel
theorem dX6_tryRoll_43 : decode cX6_tryRoll 43 = .ok (.invokevirtual 103, 3) := by decide +kernel
theorem dX6_tryRoll_46 : decode cX6_tryRoll 46 = .ok (.pop, 1) := by decide +kernel
theorem dX6_tryRoll_47 : decode cX6_tryRoll 47 = .ok (.iload 5, 2) := by decide +kernel
theorem dX6_tryRoll_49 : decode cX6_tryRoll 49 = .ok (.ireturn, 1) := by decide +kernel
set_option maxRecDepth 20000 in
theorem ggX6_tryTouch_X7_isLeaning : GoodIn wsX6_tryTouch wsX7_isLeaning := goodIn_r _ [4] (by decide +kernel) (by decide +kernel)
set_option maxRecDepth 20000 in
theorem gX6_tryTouch_X7_isLeaning_n107 : GoodIn wsX6_tryTouch (wsX7_isLeaning) := ggX6_tryTouch_X7_isLeaning
set_option maxRecDepth 20000 in
theorem ggX6_tryTouch_X2_isUp : GoodIn wsX6_tryTouch wsX2_isUp := goodIn_r _ [9, 10, 28, 29, 30, 31, 32] (by decide +kernel) (by decide +kernel)
set_option maxRecDepth 20000 in
theorem gX6_tryTouch_X2_isUp : GoodIn wsX6_tryTouch (wsV RX6 110 RX2 yX2_isUp wsX2_isUp) := goodIn_app (goodIn_of _ (by decide +kernel)) ggX6_tryTouch_X2_isUp
set_option maxRecDepth 20000 in
theorem ggX6_tryTouch_X2_makeLean : GoodIn wsX6_tryTouch wsX2_makeLean := goodIn_r _ [14, 10, 15, 16, 17, 8, 18, 19, 3, 20, 21, 6, 7, 9, 28, 29, 30, 31, 32] (by decide +kernel) (by decide +kernel)
set_option maxRecDepth 20000 in
theorem gX6_tryTouch_X2_makeLean : GoodIn wsX6_tryTouch (wsV RX6 113 RX2 yX2_makeLean wsX2_makeLean) := goodIn_app (goodIn_of _ (by decide +kernel)) ggX6_tryTouch_X2_makeLean
theorem dX6_tryTouch_0 : decode cX6_tryTouch 0 = .ok (.iload_n 2, 1) := by decide +kernel
theorem dX6_tryTouch_1 : decode cX6_tryTouch 1 = .ok (.invokestatic 107, 3) := by decide +kernel
theorem dX6_tryTouch_4 : decode cX6_tryTouch 4 = .ok (.ifCond .eq 18, 3) := by decide +kernel
theorem dX6_tryTouch_7 : decode cX6_tryTouch 7 = .ok (.aload_n 0, 1) := by decide +kernel
theorem dX6_tryTouch_8 : decode cX6_tryTouch 8 = .ok (.getfield 12, 3) := by decide +kernel
theorem dX6_tryTouch_11 : decode cX6_tryTouch 11 = .ok (.iload_n 1, 1) := by decide +kernel
theorem dX6_tryTouch_12 : decode cX6_tryTouch 12 = .ok (.invokevirtual 110, 3) := by decide +kernel
theorem dX6_tryTouch_15 : decode cX6_tryTouch 15 = .ok (.ifCond .eq 7, 3) := by decide +kernel
theorem dX6_tryTouch_18 : decode cX6_tryTouch 18 = .ok (.iconst 1, 1) := by decide +kernel
theorem dX6_tryTouch_19 : decode cX6_tryTouch 19 = .ok (.goto 4, 3) := by decide +kernel
theorem dX6_tryTouch_22 : decode cX6_tryTouch 22 = .ok (.iconst 0, 1) := by decide +kernel
theorem dX6_tryTouch_23 : decode cX6_tryTouch 23 = .ok (.istore_n 3, 1) := by decide +kernel
theorem dX6_tryTouch_24 : decode cX6_tryTouch 24 = .ok (.iload_n 3, 1) := by decide +kernel
theorem dX6_tryTouch_25 : decode cX6_tryTouch 25 = .ok (.ifCond .eq 13, 3) := by decide +kernel
theorem dX6_tryTouch_28 : decode cX6_tryTouch 28 = .ok (.aload_n 0, 1) := by decide +kernel
theorem dX6_tryTouch_29 : decode cX6_tryTouch 29 = .ok (.getfield 12, 3) := by decide +kernel
theorem dX6_tryTouch_32 : decode cX6_tryTouch 32 = .ok (.iload_n 1, 1) := by decide +kernel
theorem dX6_tryTouch_33 : decode cX6_tryTouch 33 = .ok (.iload_n 2, 1) := by decide +kernel
theorem dX6_tryTouch_34 : decode cX6_tryTouch 34 = .ok (.invokevirtual 113, 3) := by decide +kernel
theorem dX6_tryTouch_37 : decode cX6_tryTouch 37 = .ok (.pop, 1) := by decide +kernel
theorem dX6_tryTouch_38 : decode cX6_tryTouch 38 = .ok (.iload_n 3, 1) := by decide +kernel
theorem dX6_tryTouch_39 : decode cX6_tryTouch 39 = .ok (.ireturn, 1) := by decide +kernel
set_option maxRecDepth 20000 in
theorem ggX6_trySet_X7_isSetting : GoodIn wsX6_trySet wsX7_isSetting := goodIn_r _ [3] (by decide +kernel) (by decide +kernel)
set_option maxRecDepth 20000 in
theorem gX6_trySet_X7_isSetting_n55 : GoodIn wsX6_trySet (wsX7_isSetting) := ggX6_trySet_X7_isSetting
set_option maxRecDepth 20000 in
theorem ggX6_trySet_X7_isValue : GoodIn wsX6_trySet wsX7_isValue := goodIn_r _ [5, 6, 7, 2, 8] (by decide +kernel) (by decide +kernel)
set_option maxRecDepth 20000 in
theorem gX6_trySet_X7_isValue_n117 : GoodIn wsX6_trySet (wsX7_isValue) := ggX6_trySet_X7_isValue
set_option maxRecDepth 20000 in
theorem ggX6_trySet_X6_change : GoodIn wsX6_trySet wsX6_change := goodIn_r _ [13, 14, 15, 16, 17, 12, 18, 1, 2, 3, 19, 20, 21, 22, 23, 24] (by decide +kernel) (by decide +kernel)
set_option maxRecDepth 20000 in
theorem gX6_trySet_X6_change : GoodIn wsX6_trySet (wsV RX6 120 RX6 yX6_change wsX6_change) := goodIn_app (goodIn_of _ (by decide +kernel)) ggX6_trySet_X6_change
theorem dX6_trySet_0 : decode cX6_trySet 0 = .ok (.iload_n 1, 1) := by decide +kernel
theorem dX6_trySet_1 : decode cX6_trySet 1 = .ok (.invokestatic 55, 3) := by decide +kernel
theorem dX6_trySet_4 : decode cX6_trySet 4 = .ok (.ifCond .eq 15, 3) := by decide +kernel
theorem dX6_trySet_7 : decode cX6_trySet 7 = .ok (.iload_n 1, 1) := by decide +kernel
theorem dX6_trySet_8 : decode cX6_trySet 8 = .ok (.iload_n 2, 1) := by decide +kernel
theorem dX6_trySet_9 : decode cX6_trySet 9 = .ok (.invokestatic 117, 3) := by decide +kernel
theorem dX6_trySet_12 : decode cX6_trySet 12 = .ok (.ifCond .eq 7, 3) := by decide +kernel
theorem dX6_trySet_15 : decode cX6_trySet 15 = .ok (.iconst 1, 1) := by decide +kernel
theorem dX6_trySet_16 : decode cX6_trySet 16 = .ok (.goto 4, 3) := by decide +kernel
theorem dX6_trySet_19 : decode cX6_trySet 19 = .ok (.iconst 0, 1) := by decide +kernel
theorem dX6_trySet_20 : decode cX6_trySet 20 = .ok (.istore_n 3, 1) := by decide +kernel
theorem dX6_trySet_21 : decode cX6_trySet 21 = .ok (.iload_n 3, 1) := by decide +kernel
theorem dX6_trySet_22 : decode cX6_trySet 22 = .ok (.ifCond .eq 10, 3) := by decide +kernel
theorem dX6_trySet_25 : decode cX6_trySet 25 = .ok (.aload_n 0, 1) := by decide +kernel
theorem dX6_trySet_26 : decode cX6_trySet 26 = .ok (.iload_n 1, 1) := by decide +kernel
theorem dX6_trySet_27 : decode cX6_trySet 27 = .ok (.iload_n 2, 1) := by decide +kernel
theorem dX6_trySet_28 : decode cX6_trySet 28 = .ok (.invokevirtual 120, 3) := by decide +kernel
theorem dX6_trySet_31 : decode cX6_trySet 31 = .ok (.pop, 1) := by decide +kernel
theorem dX6_trySet_32 : decode cX6_trySet 32 = .ok (.iload_n 3, 1) := by decide +kernel
theorem dX6_trySet_33 : decode cX6_trySet 33 = .ok (.ireturn, 1) := by decide +kernel
