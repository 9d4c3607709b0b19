set_option maxRecDepth 20000 in
theorem ggX8_init_X8_clear : GoodIn wsX8_init wsX8_clear := goodIn_r _ [17, 18, 19, 16, 20] (by decide +kernel) (by decide +kernel)
set_option maxRecDepth 20000 in
theorem gX8_init_X8_clear : GoodIn wsX8_init (va_wsS RX8 35 yX8_clear wsX8_clear) := goodIn_app (goodIn_of _ (by decide +kernel)) ggX8_init_X8_clear
theorem dX8_init_0 : decode cX8_init 0 = .ok (.aload_n 0, 1) := by decide +kernel
theorem dX8_init_1 : decode cX8_init 1 = .ok (.invokespecial 1, 3) := by decide +kernel
theorem dX8_init_4 : decode cX8_init 4 = .ok (.aload_n 0, 1) := by decide +kernel
theorem dX8_init_5 : decode cX8_init 5 = .ok (.bipush 120, 2) := by decide +kernel
theorem dX8_init_7 : decode cX8_init 7 = .ok (.newarray .int, 2) := by decide +kernel
theorem dX8_init_9 : decode cX8_init 9 = .ok (.putfield 7, 3) := by decide +kernel
theorem dX8_init_12 : decode cX8_init 12 = .ok (.aload_n 0, 1) := by decide +kernel
theorem dX8_init_13 : decode cX8_init 13 = .ok (.bipush 79, 2) := by decide +kernel
theorem dX8_init_15 : decode cX8_init 15 = .ok (.newarray .int, 2) := by decide +kernel
theorem dX8_init_17 : decode cX8_init 17 = .ok (.putfield 13, 3) := by decide +kernel
theorem dX8_init_20 : decode cX8_init 20 = .ok (.aload_n 0, 1) := by decide +kernel
theorem dX8_init_21 : decode cX8_init 21 = .ok (.bipush 79, 2) := by decide +kernel
theorem dX8_init_23 : decode cX8_init 23 = .ok (.newarray .int, 2) := by decide +kernel
theorem dX8_init_25 : decode cX8_init 25 = .ok (.putfield 16, 3) := by decide +kernel
theorem dX8_init_28 : decode cX8_init 28 = .ok (.aload_n 0, 1) := by decide +kernel
theorem dX8_init_29 : decode cX8_init 29 = .ok (.sipush 1106, 3) := by decide +kernel
theorem dX8_init_32 : decode cX8_init 32 = .ok (.newarray .int, 2) := by decide +kernel
theorem dX8_init_34 : decode cX8_init 34 = .ok (.putfield 19, 3) := by decide +kernel
theorem dX8_init_37 : decode cX8_init 37 = .ok (.aload_n 0, 1) := by decide +kernel
theorem dX8_init_38 : decode cX8_init 38 = .ok (.sipush 158, 3) := by decide +kernel
theorem dX8_init_41 : decode cX8_init 41 = .ok (.newarray .int, 2) := by decide +kernel
theorem dX8_init_43 : decode cX8_init 43 = .ok (.putfield 22, 3) := by decide +kernel
theorem dX8_init_46 : decode cX8_init 46 = .ok (.aload_n 0, 1) := by decide +kernel
theorem dX8_init_47 : decode cX8_init 47 = .ok (.iconst 2, 1) := by decide +kernel
theorem dX8_init_48 : decode cX8_init 48 = .ok (.newarray .boolean, 2) := by decide +kernel
theorem dX8_init_50 : decode cX8_init 50 = .ok (.putfield 25, 3) := by decide +kernel
theorem dX8_init_53 : decode cX8_init 53 = .ok (.aload_n 0, 1) := by decide +kernel
theorem dX8_init_54 : decode cX8_init 54 = .ok (.bipush 10, 2) := by decide +kernel
theorem dX8_init_56 : decode cX8_init 56 = .ok (.newarray .int, 2) := by decide +kernel
theorem dX8_init_58 : decode cX8_init 58 = .ok (.putfield 29, 3) := by decide +kernel
theorem dX8_init_61 : decode cX8_init 61 = .ok (.aload_n 0, 1) := by decide +kernel
theorem dX8_init_62 : decode cX8_init 62 = .ok (.bipush 30, 2) := by decide +kernel
theorem dX8_init_64 : decode cX8_init 64 = .ok (.newarray .int, 2) := by decide +kernel
theorem dX8_init_66 : decode cX8_init 66 = .ok (.putfield 32, 3) := by decide +kernel
theorem dX8_init_69 : decode cX8_init 69 = .ok (.aload_n 0, 1) := by decide +kernel
theorem dX8_init_70 : decode cX8_init 70 = .ok (.getfield 13, 3) := by decide +kernel
theorem dX8_init_73 : decode cX8_init 73 = .ok (.invokestatic 35, 3) := by decide +kernel
theorem dX8_init_76 : decode cX8_init 76 = .ok (.return_, 1) := by decide +kernel
theorem dX8_thrown_0 : decode cX8_thrown 0 = .ok (.aload_n 0, 1) := by decide +kernel
theorem dX8_thrown_1 : decode cX8_thrown 1 = .ok (.getfield 39, 3) := by decide +kernel
theorem dX8_thrown_4 : decode cX8_thrown 4 = .ok (.ireturn, 1) := by decide +kernel
theorem dX8_refused_0 : decode cX8_refused 0 = .ok (.aload_n 0, 1) := by decide +kernel
theorem dX8_refused_1 : decode cX8_refused 1 = .ok (.iload_n 1, 1) := by decide +kernel
theorem dX8_refused_2 : decode cX8_refused 2 = .ok (.putfield 39, 3) := by decide +kernel
theorem dX8_refused_5 : decode cX8_refused 5 = .ok (.iload_n 1, 1) := by decide +kernel
theorem dX8_refused_6 : decode cX8_refused 6 = .ok (.ifCond .le 7, 3) := by decide +kernel
theorem dX8_refused_9 : decode cX8_refused 9 = .ok (.iconst 1, 1) := by decide +kernel
theorem dX8_refused_10 : decode cX8_refused 10 = .ok (.goto 4, 3) := by decide +kernel
theorem dX8_refused_13 : decode cX8_refused 13 = .ok (.iconst 0, 1) := by decide +kernel
theorem dX8_refused_14 : decode cX8_refused 14 = .ok (.ireturn, 1) := by decide +kernel
theorem dX8_in_0 : decode cX8_in 0 = .ok (.lload_n 0, 1) := by decide +kernel
theorem dX8_in_1 : decode cX8_in 1 = .ok (.lload_n 2, 1) := by decide +kernel
theorem dX8_in_2 : decode cX8_in 2 = .ok (.lcmp, 1) := by decide +kernel
theorem dX8_in_3 : decode cX8_in 3 = .ok (.ifCond .lt 14, 3) := by decide +kernel
theorem dX8_in_6 : decode cX8_in 6 = .ok (.lload_n 0, 1) := by decide +kernel
theorem dX8_in_7 : decode cX8_in 7 = .ok (.lload 4, 2) := by decide +kernel
theorem dX8_in_9 : decode cX8_in 9 = .ok (.lcmp, 1) := by decide +kernel
theorem dX8_in_10 : decode cX8_in 10 = .ok (.ifCond .gt 7, 3) := by decide +kernel
theorem dX8_in_13 : decode cX8_in 13 = .ok (.iconst 1, 1) := by decide +kernel
theorem dX8_in_14 : decode cX8_in 14 = .ok (.goto 4, 3) := by decide +kernel
theorem dX8_in_17 : decode cX8_in 17 = .ok (.iconst 0, 1) := by decide +kernel
theorem dX8_in_18 : decode cX8_in 18 = .ok (.ireturn, 1) := by decide +kernel
theorem dX8_copyState_0 : decode cX8_copyState 0 = .ok (.iconst 0, 1) := by decide +kernel
theorem dX8_copyState_1 : decode cX8_copyState 1 = .ok (.istore 4, 2) := by decide +kernel
theorem dX8_copyState_3 : decode cX8_copyState 3 = .ok (.iload 4, 2) := by decide +kernel
theorem dX8_copyState_5 : decode cX8_copyState 5 = .ok (.bipush 79, 2) := by decide +kernel
theorem dX8_copyState_7 : decode cX8_copyState 7 = .ok (.if_icmp .ge 21, 3) := by decide +kernel
theorem dX8_copyState_10 : decode cX8_copyState 10 = .ok (.aload_n 2, 1) := by decide +kernel
theorem dX8_copyState_11 : decode cX8_copyState 11 = .ok (.iload_n 3, 1) := by decide +kernel
theorem dX8_copyState_12 : decode cX8_copyState 12 = .ok (.iload 4, 2) := by decide +kernel
theorem dX8_copyState_14 : decode cX8_copyState 14 = .ok (.iadd, 1) := by decide +kernel
theorem dX8_copyState_15 : decode cX8_copyState 15 = .ok (.aload_n 0, 1) := by decide +kernel
theorem dX8_copyState_16 : decode cX8_copyState 16 = .ok (.iload_n 1, 1) := by decide +kernel
theorem dX8_copyState_17 : decode cX8_copyState 17 = .ok (.iload 4, 2) := by decide +kernel
theorem dX8_copyState_19 : decode cX8_copyState 19 = .ok (.iadd, 1) := by decide +kernel
theorem dX8_copyState_20 : decode cX8_copyState 20 = .ok (.iaload, 1) := by decide +kernel
theorem dX8_copyState_21 : decode cX8_copyState 21 = .ok (.iastore, 1) := by decide +kernel
theorem dX8_copyState_22 : decode cX8_copyState 22 = .ok (.iinc 4 1, 3) := by decide +kernel
theorem dX8_copyState_25 : decode cX8_copyState 25 = .ok (.goto (-22), 3) := by decide +kernel
theorem dX8_copyState_28 : decode cX8_copyState 28 = .ok (.return_, 1) := by decide +kernel
set_option maxRecDepth 20000 in
theorem ggX8_clear_X8_rack : GoodIn wsX8_clear wsX8_rack := goodIn_r _ [4] (by decide +kernel) (by decide +kernel)
set_option maxRecDepth 20000 in
theorem gX8_clear_X8_rack : GoodIn wsX8_clear (va_wsS RX8 43 yX8_rack wsX8_rack) := goodIn_app (goodIn_of _ (by decide +kernel)) ggX8_clear_X8_rack
theorem dX8_clear_0 : decode cX8_clear 0 = .ok (.iconst 0, 1) := by decide +kernel
theorem dX8_clear_1 : decode cX8_clear 1 = .ok (.istore_n 1, 1) := by decide +kernel
theorem dX8_clear_2 : decode cX8_clear 2 = .ok (.iload_n 1, 1) := by decide +kernel
theorem dX8_clear_3 : decode cX8_clear 3 = .ok (.bipush 79, 2) := by decide +kernel
theorem dX8_clear_5 : decode cX8_clear 5 = .ok (.if_icmp .ge 13, 3) := by decide +kernel
theorem dX8_clear_8 : decode cX8_clear 8 = .ok (.aload_n 0, 1) := by decide +kernel
theorem dX8_clear_9 : decode cX8_clear 9 = .ok (.iload_n 1, 1) := by decide +kernel
theorem dX8_clear_10 : decode cX8_clear 10 = .ok (.iconst 0, 1) := by decide +kernel
theorem dX8_clear_11 : decode cX8_clear 11 = .ok (.iastore, 1) := by decide +kernel
theorem dX8_clear_12 : decode cX8_clear 12 = .ok (.iinc 1 1, 3) := by decide +kernel
theorem dX8_clear_15 : decode cX8_clear 15 = .ok (.goto (-13), 3) := by decide +kernel
theorem dX8_clear_18 : decode cX8_clear 18 = .ok (.aload_n 0, 1) := by decide +kernel
theorem dX8_clear_19 : decode cX8_clear 19 = .ok (.bipush 76, 2) := by decide +kernel
theorem dX8_clear_21 : decode cX8_clear 21 = .ok (.bipush 18, 2) := by decide +kernel
theorem dX8_clear_23 : decode cX8_clear 23 = .ok (.iastore, 1) := by decide +kernel
theorem dX8_clear_24 : decode cX8_clear 24 = .ok (.aload_n 0, 1) := by decide +kernel
theorem dX8_clear_25 : decode cX8_clear 25 = .ok (.bipush 77, 2) := by decide +kernel
theorem dX8_clear_27 : decode cX8_clear 27 = .ok (.iconst 2, 1) := by decide +kernel
theorem dX8_clear_28 : decode cX8_clear 28 = .ok (.iastore, 1) := by decide +kernel
theorem dX8_clear_29 : decode cX8_clear 29 = .ok (.aload_n 0, 1) := by decide +kernel
theorem dX8_clear_30 : decode cX8_clear 30 = .ok (.bipush 78, 2) := by decide +kernel
theorem dX8_clear_32 : decode cX8_clear 32 = .ok (.iconst 1, 1) := by decide +kernel
theorem dX8_clear_33 : decode cX8_clear 33 = .ok (.iastore, 1) := by decide +kernel
theorem dX8_clear_34 : decode cX8_clear 34 = .ok (.aload_n 0, 1) := by decide +kernel
theorem dX8_clear_35 : decode cX8_clear 35 = .ok (.invokestatic 43, 3) := by decide +kernel
theorem dX8_clear_38 : decode cX8_clear 38 = .ok (.return_, 1) := by decide +kernel
set_option maxRecDepth 20000 in
theorem ggX8_isPin_X8_in : GoodIn wsX8_isPin wsX8_in := goodIn_r _ [5] (by decide +kernel) (by decide +kernel)
set_option maxRecDepth 20000 in
theorem gX8_isPin_X8_in : GoodIn wsX8_isPin (va_wsS RX8 48 yX8_in wsX8_in) := goodIn_app (goodIn_of _ (by decide +kernel)) ggX8_isPin_X8_in
theorem dX8_isPin_0 : decode cX8_isPin 0 = .ok (.iload_n 0, 1) := by decide +kernel
theorem dX8_isPin_1 : decode cX8_isPin 1 = .ok (.i2l, 1) := by decide +kernel
theorem dX8_isPin_2 : decode cX8_isPin 2 = .ok (.lconst 0, 1) := by decide +kernel
theorem dX8_isPin_3 : decode cX8_isPin 3 = .ok (.ldc2_w 46, 3) := by decide +kernel
theorem dX8_isPin_6 : decode cX8_isPin 6 = .ok (.invokestatic 48, 3) := by decide +kernel
theorem dX8_isPin_9 : decode cX8_isPin 9 = .ok (.ireturn, 1) := by decide +kernel
set_option maxRecDepth 20000 in
theorem ggX8_isBall_X8_in : GoodIn wsX8_isBall wsX8_in := goodIn_r _ [7] (by decide +kernel) (by decide +kernel)
set_option maxRecDepth 20000 in
theorem gX8_isBall_X8_in : GoodIn wsX8_isBall (va_wsS RX8 48 yX8_in wsX8_in) := goodIn_app (goodIn_of _ (by decide +kernel)) ggX8_isBall_X8_in
theorem dX8_isBall_0 : decode cX8_isBall 0 = .ok (.iload_n 0, 1) := by decide +kernel
theorem dX8_isBall_1 : decode cX8_isBall 1 = .ok (.i2l, 1) := by decide +kernel
theorem dX8_isBall_2 : decode cX8_isBall 2 = .ok (.lconst 0, 1) := by decide +kernel
theorem dX8_isBall_3 : decode cX8_isBall 3 = .ok (.ldc2_w 52, 3) := by decide +kernel
theorem dX8_isBall_6 : decode cX8_isBall 6 = .ok (.invokestatic 48, 3) := by decide +kernel
theorem dX8_isBall_9 : decode cX8_isBall 9 = .ok (.ifCond .eq 21, 3) := by decide +kernel
theorem dX8_isBall_12 : decode cX8_isBall 12 = .ok (.iload_n 1, 1) := by decide +kernel
theorem dX8_isBall_13 : decode cX8_isBall 13 = .ok (.i2l, 1) := by decide +kernel
theorem dX8_isBall_14 : decode cX8_isBall 14 = .ok (.ldc2_w 54, 3) := by decide +kernel
theorem dX8_isBall_17 : decode cX8_isBall 17 = .ok (.ldc2_w 56, 3) := by decide +kernel
theorem dX8_isBall_20 : decode cX8_isBall 20 = .ok (.invokestatic 48, 3) := by decide +kernel
theorem dX8_isBall_23 : decode cX8_isBall 23 = .ok (.ifCond .eq 7, 3) := by decide +kernel
theorem dX8_isBall_26 : decode cX8_isBall 26 = .ok (.iconst 1, 1) := by decide +kernel
theorem dX8_isBall_27 : decode cX8_isBall 27 = .ok (.goto 4, 3) := by decide +kernel
theorem dX8_isBall_30 : decode cX8_isBall 30 = .ok (.iconst 0, 1) := by decide +kernel
theorem dX8_isBall_31 : decode cX8_isBall 31 = .ok (.ireturn, 1) := by decide +kernel
theorem dX8_firstOf_0 : decode cX8_firstOf 0 = .ok (.iload_n 0, 1) := by decide +kernel
theorem dX8_firstOf_1 : decode cX8_firstOf 1 = .ok (.iload_n 0, 1) := by decide +kernel
theorem dX8_firstOf_2 : decode cX8_firstOf 2 = .ok (.iconst 1, 1) := by decide +kernel
theorem dX8_firstOf_3 : decode cX8_firstOf 3 = .ok (.iadd, 1) := by decide +kernel
theorem dX8_firstOf_4 : decode cX8_firstOf 4 = .ok (.imul, 1) := by decide +kernel
theorem dX8_firstOf_5 : decode cX8_firstOf 5 = .ok (.iconst 2, 1) := by decide +kernel
theorem dX8_firstOf_6 : decode cX8_firstOf 6 = .ok (.idiv, 1) := by decide +kernel
theorem dX8_firstOf_7 : decode cX8_firstOf 7 = .ok (.ireturn, 1) := by decide +kernel
theorem dX8_rowOf_0 : decode cX8_rowOf 0 = .ok (.iload_n 0, 1) := by decide +kernel
theorem dX8_rowOf_1 : decode cX8_rowOf 1 = .ok (.ifCond .ne 7, 3) := by decide +kernel
theorem dX8_rowOf_4 : decode cX8_rowOf 4 = .ok (.iconst 0, 1) := by decide +kernel
theorem dX8_rowOf_5 : decode cX8_rowOf 5 = .ok (.goto 23, 3) := by decide +kernel
theorem dX8_rowOf_8 : decode cX8_rowOf 8 = .ok (.iload_n 0, 1) := by decide +kernel
theorem dX8_rowOf_9 : decode cX8_rowOf 9 = .ok (.iconst 3, 1) := by decide +kernel
theorem dX8_rowOf_10 : decode cX8_rowOf 10 = .ok (.if_icmp .ge 7, 3) := by decide +kernel
theorem dX8_rowOf_13 : decode cX8_rowOf 13 = .ok (.iconst 1, 1) := by decide +kernel
theorem dX8_rowOf_14 : decode cX8_rowOf 14 = .ok (.goto 14, 3) := by decide +kernel
theorem dX8_rowOf_17 : decode cX8_rowOf 17 = .ok (.iload_n 0, 1) := by decide +kernel
theorem dX8_rowOf_18 : decode cX8_rowOf 18 = .ok (.bipush 6, 2) := by decide +kernel
theorem dX8_rowOf_20 : decode cX8_rowOf 20 = .ok (.if_icmp .ge 7, 3) := by decide +kernel
theorem dX8_rowOf_23 : decode cX8_rowOf 23 = .ok (.iconst 2, 1) := by decide +kernel
theorem dX8_rowOf_24 : decode cX8_rowOf 24 = .ok (.goto 4, 3) := by decide +kernel
theorem dX8_rowOf_27 : decode cX8_rowOf 27 = .ok (.iconst 3, 1) := by decide +kernel
theorem dX8_rowOf_28 : decode cX8_rowOf 28 = .ok (.ireturn, 1) := by decide +kernel
set_option maxRecDepth 20000 in
theorem ggX8_boardOf_X8_rowOf : GoodIn wsX8_boardOf wsX8_rowOf := goodIn_r _ [4] (by decide +kernel) (by decide +kernel)
set_option maxRecDepth 20000 in
theorem gX8_boardOf_X8_rowOf : GoodIn wsX8_boardOf (va_wsS RX8 58 yX8_rowOf wsX8_rowOf) := goodIn_app (goodIn_of _ (by decide +kernel)) ggX8_boardOf_X8_rowOf
set_option maxRecDepth 20000 in
theorem ggX8_boardOf_X8_firstOf : GoodIn wsX8_boardOf wsX8_firstOf := goodIn_r _ [7] (by decide +kernel) (by decide +kernel)
set_option maxRecDepth 20000 in
theorem gX8_boardOf_X8_firstOf : GoodIn wsX8_boardOf (va_wsS RX8 62 yX8_firstOf wsX8_firstOf) := goodIn_app (goodIn_of _ (by decide +kernel)) ggX8_boardOf_X8_firstOf
theorem dX8_boardOf_0 : decode cX8_boardOf 0 = .ok (.iload_n 1, 1) := by decide +kernel
theorem dX8_boardOf_1 : decode cX8_boardOf 1 = .ok (.invokestatic 58, 3) := by decide +kernel
theorem dX8_boardOf_4 : decode cX8_boardOf 4 = .ok (.istore_n 2, 1) := by decide +kernel
theorem dX8_boardOf_5 : decode cX8_boardOf 5 = .ok (.bipush 20, 2) := by decide +kernel
theorem dX8_boardOf_7 : decode cX8_boardOf 7 = .ok (.iconst 3, 1) := by decide +kernel
theorem dX8_boardOf_8 : decode cX8_boardOf 8 = .ok (.iload_n 2, 1) := by decide +kernel
theorem dX8_boardOf_9 : decode cX8_boardOf 9 = .ok (.imul, 1) := by decide +kernel
theorem dX8_boardOf_10 : decode cX8_boardOf 10 = .ok (.isub, 1) := by decide +kernel
theorem dX8_boardOf_11 : decode cX8_boardOf 11 = .ok (.bipush 6, 2) := by decide +kernel
theorem dX8_boardOf_13 : decode cX8_boardOf 13 = .ok (.iload_n 1, 1) := by decide +kernel
theorem dX8_boardOf_14 : decode cX8_boardOf 14 = .ok (.iload_n 2, 1) := by decide +kernel
theorem dX8_boardOf_15 : decode cX8_boardOf 15 = .ok (.invokestatic 62, 3) := by decide +kernel
theorem dX8_boardOf_18 : decode cX8_boardOf 18 = .ok (.isub, 1) := by decide +kernel
theorem dX8_boardOf_19 : decode cX8_boardOf 19 = .ok (.imul, 1) := by decide +kernel
theorem dX8_boardOf_20 : decode cX8_boardOf 20 = .ok (.iadd, 1) := by decide +kernel
theorem dX8_boardOf_21 : decode cX8_boardOf 21 = .ok (.aload_n 0, 1) := by decide +kernel
theorem dX8_boardOf_22 : decode cX8_boardOf 22 = .ok (.bipush 10, 2) := by decide +kernel
theorem dX8_boardOf_24 : decode cX8_boardOf 24 = .ok (.iload_n 1, 1) := by decide +kernel
theorem dX8_boardOf_25 : decode cX8_boardOf 25 = .ok (.iadd, 1) := by decide +kernel
theorem dX8_boardOf_26 : decode cX8_boardOf 26 = .ok (.iaload, 1) := by decide +kernel
theorem dX8_boardOf_27 : decode cX8_boardOf 27 = .ok (.iadd, 1) := by decide +kernel
theorem dX8_boardOf_28 : decode cX8_boardOf 28 = .ok (.ireturn, 1) := by decide +kernel
theorem dX8_rack_0 : decode cX8_rack 0 = .ok (.iconst 0, 1) := by decide +kernel
theorem dX8_rack_1 : decode cX8_rack 1 = .ok (.istore_n 1, 1) := by decide +kernel
theorem dX8_rack_2 : decode cX8_rack 2 = .ok (.iload_n 1, 1) := by decide +kernel
theorem dX8_rack_3 : decode cX8_rack 3 = .ok (.bipush 10, 2) := by decide +kernel
theorem dX8_rack_5 : decode cX8_rack 5 = .ok (.if_icmp .ge 29, 3) := by decide +kernel
theorem dX8_rack_8 : decode cX8_rack 8 = .ok (.aload_n 0, 1) := by decide +kernel
theorem dX8_rack_9 : decode cX8_rack 9 = .ok (.iconst 0, 1) := by decide +kernel
theorem dX8_rack_10 : decode cX8_rack 10 = .ok (.iload_n 1, 1) := by decide +kernel
theorem dX8_rack_11 : decode cX8_rack 11 = .ok (.iadd, 1) := by decide +kernel
theorem dX8_rack_12 : decode cX8_rack 12 = .ok (.iconst 0, 1) := by decide +kernel
theorem dX8_rack_13 : decode cX8_rack 13 = .ok (.iastore, 1) := by decide +kernel
theorem dX8_rack_14 : decode cX8_rack 14 = .ok (.aload_n 0, 1) := by decide +kernel
theorem dX8_rack_15 : decode cX8_rack 15 = .ok (.bipush 10, 2) := by decide +kernel
theorem dX8_rack_17 : decode cX8_rack 17 = .ok (.iload_n 1, 1) := by decide +kernel
theorem dX8_rack_18 : decode cX8_rack 18 = .ok (.iadd, 1) := by decide +kernel
theorem dX8_rack_19 : decode cX8_rack 19 = .ok (.iconst 0, 1) := by decide +kernel
theorem dX8_rack_20 : decode cX8_rack 20 = .ok (.iastore, 1) := by decide +kernel
theorem dX8_rack_21 : decode cX8_rack 21 = .ok (.aload_n 0, 1) := by decide +kernel
theorem dX8_rack_22 : decode cX8_rack 22 = .ok (.bipush 20, 2) := by decide +kernel
theorem dX8_rack_24 : decode cX8_rack 24 = .ok (.iload_n 1, 1) := by decide +kernel
theorem dX8_rack_25 : decode cX8_rack 25 = .ok (.iadd, 1) := by decide +kernel
theorem dX8_rack_26 : decode cX8_rack 26 = .ok (.iconst 1, 1) := by decide +kernel
theorem dX8_rack_27 : decode cX8_rack 27 = .ok (.iastore, 1) := by decide +kernel
theorem dX8_rack_28 : decode cX8_rack 28 = .ok (.iinc 1 1, 3) := by decide +kernel
theorem dX8_rack_31 : decode cX8_rack 31 = .ok (.goto (-29), 3) := by decide +kernel
theorem dX8_rack_34 : decode cX8_rack 34 = .ok (.return_, 1) := by decide +kernel
theorem dX8_toldOf_0 : decode cX8_toldOf 0 = .ok (.iconst 0, 1) := by decide +kernel
theorem dX8_toldOf_1 : decode cX8_toldOf 1 = .ok (.istore_n 1, 1) := by decide +kernel
theorem dX8_toldOf_2 : decode cX8_toldOf 2 = .ok (.iconst 0, 1) := by decide +kernel
theorem dX8_toldOf_3 : decode cX8_toldOf 3 = .ok (.istore_n 2, 1) := by decide +kernel
theorem dX8_toldOf_4 : decode cX8_toldOf 4 = .ok (.iload_n 2, 1) := by decide +kernel
theorem dX8_toldOf_5 : decode cX8_toldOf 5 = .ok (.bipush 10, 2) := by decide +kernel
theorem dX8_toldOf_7 : decode cX8_toldOf 7 = .ok (.if_icmp .ge 18, 3) := by decide +kernel
theorem dX8_toldOf_10 : decode cX8_toldOf 10 = .ok (.iload_n 1, 1) := by decide +kernel
theorem dX8_toldOf_11 : decode cX8_toldOf 11 = .ok (.aload_n 0, 1) := by decide +kernel
theorem dX8_toldOf_12 : decode cX8_toldOf 12 = .ok (.bipush 20, 2) := by decide +kernel
theorem dX8_toldOf_14 : decode cX8_toldOf 14 = .ok (.iload_n 2, 1) := by decide +kernel
theorem dX8_toldOf_15 : decode cX8_toldOf 15 = .ok (.iadd, 1) := by decide +kernel
theorem dX8_toldOf_16 : decode cX8_toldOf 16 = .ok (.iaload, 1) := by decide +kernel
theorem dX8_toldOf_17 : decode cX8_toldOf 17 = .ok (.iadd, 1) := by decide +kernel
theorem dX8_toldOf_18 : decode cX8_toldOf 18 = .ok (.istore_n 1, 1) := by decide +kernel
theorem dX8_toldOf_19 : decode cX8_toldOf 19 = .ok (.iinc 2 1, 3) := by decide +kernel
theorem dX8_toldOf_22 : decode cX8_toldOf 22 = .ok (.goto (-18), 3) := by decide +kernel
theorem dX8_toldOf_25 : decode cX8_toldOf 25 = .ok (.iload_n 1, 1) := by decide +kernel
theorem dX8_toldOf_26 : decode cX8_toldOf 26 = .ok (.ireturn, 1) := by decide +kernel
theorem dX8_standing_0 : decode cX8_standing 0 = .ok (.iconst 0, 1) := by decide +kernel
theorem dX8_standing_1 : decode cX8_standing 1 = .ok (.istore_n 1, 1) := by decide +kernel
theorem dX8_standing_2 : decode cX8_standing 2 = .ok (.iconst 0, 1) := by decide +kernel
theorem dX8_standing_3 : decode cX8_standing 3 = .ok (.istore_n 2, 1) := by decide +kernel
theorem dX8_standing_4 : decode cX8_standing 4 = .ok (.iload_n 2, 1) := by decide +kernel
theorem dX8_standing_5 : decode cX8_standing 5 = .ok (.bipush 10, 2) := by decide +kernel
theorem dX8_standing_7 : decode cX8_standing 7 = .ok (.if_icmp .ge 26, 3) := by decide +kernel
theorem dX8_standing_10 : decode cX8_standing 10 = .ok (.iload_n 1, 1) := by decide +kernel
theorem dX8_standing_11 : decode cX8_standing 11 = .ok (.aload_n 0, 1) := by decide +kernel
theorem dX8_standing_12 : decode cX8_standing 12 = .ok (.iconst 0, 1) := by decide +kernel
theorem dX8_standing_13 : decode cX8_standing 13 = .ok (.iload_n 2, 1) := by decide +kernel
theorem dX8_standing_14 : decode cX8_standing 14 = .ok (.iadd, 1) := by decide +kernel
theorem dX8_standing_15 : decode cX8_standing 15 = .ok (.iaload, 1) := by decide +kernel
theorem dX8_standing_16 : decode cX8_standing 16 = .ok (.iconst 4, 1) := by decide +kernel
theorem dX8_standing_17 : decode cX8_standing 17 = .ok (.if_icmp .ne 7, 3) := by decide +kernel
theorem dX8_standing_20 : decode cX8_standing 20 = .ok (.iconst 0, 1) := by decide +kernel
theorem dX8_standing_21 : decode cX8_standing 21 = .ok (.goto 4, 3) := by decide +kernel
theorem dX8_standing_24 : decode cX8_standing 24 = .ok (.iconst 1, 1) := by decide +kernel
theorem dX8_standing_25 : decode cX8_standing 25 = .ok (.iadd, 1) := by decide +kernel
theorem dX8_standing_26 : decode cX8_standing 26 = .ok (.istore_n 1, 1) := by decide +kernel
theorem dX8_standing_27 : decode cX8_standing 27 = .ok (.iinc 2 1, 3) := by decide +kernel
theorem dX8_standing_30 : decode cX8_standing 30 = .ok (.goto (-26), 3) := by decide +kernel
theorem dX8_standing_33 : decode cX8_standing 33 = .ok (.iload_n 1, 1) := by decide +kernel
theorem dX8_standing_34 : decode cX8_standing 34 = .ok (.ireturn, 1) := by decide +kernel
theorem dX8_leanMore_0 : decode cX8_leanMore 0 = .ok (.aload_n 1, 1) := by decide +kernel
theorem dX8_leanMore_1 : decode cX8_leanMore 1 = .ok (.iconst 0, 1) := by decide +kernel
theorem dX8_leanMore_2 : decode cX8_leanMore 2 = .ok (.iload_n 2, 1) := by decide +kernel
theorem dX8_leanMore_3 : decode cX8_leanMore 3 = .ok (.iadd, 1) := by decide +kernel
theorem dX8_leanMore_4 : decode cX8_leanMore 4 = .ok (.iaload, 1) := by decide +kernel
theorem dX8_leanMore_5 : decode cX8_leanMore 5 = .ok (.iload_n 3, 1) := by decide +kernel
theorem dX8_leanMore_6 : decode cX8_leanMore 6 = .ok (.iadd, 1) := by decide +kernel
theorem dX8_leanMore_7 : decode cX8_leanMore 7 = .ok (.iconst 3, 1) := by decide +kernel
theorem dX8_leanMore_8 : decode cX8_leanMore 8 = .ok (.if_icmp .le 20, 3) := by decide +kernel
theorem dX8_leanMore_11 : decode cX8_leanMore 11 = .ok (.aload_n 1, 1) := by decide +kernel
theorem dX8_leanMore_12 : decode cX8_leanMore 12 = .ok (.iconst 0, 1) := by decide +kernel
theorem dX8_leanMore_13 : decode cX8_leanMore 13 = .ok (.iload_n 2, 1) := by decide +kernel
theorem dX8_leanMore_14 : decode cX8_leanMore 14 = .ok (.iadd, 1) := by decide +kernel
theorem dX8_leanMore_15 : decode cX8_leanMore 15 = .ok (.iconst 4, 1) := by decide +kernel
theorem dX8_leanMore_16 : decode cX8_leanMore 16 = .ok (.iastore, 1) := by decide +kernel
theorem dX8_leanMore_17 : decode cX8_leanMore 17 = .ok (.aload_n 0, 1) := by decide +kernel
theorem dX8_leanMore_18 : decode cX8_leanMore 18 = .ok (.getfield 29, 3) := by decide +kernel
theorem dX8_leanMore_21 : decode cX8_leanMore 21 = .ok (.iload_n 2, 1) := by decide +kernel
theorem dX8_leanMore_22 : decode cX8_leanMore 22 = .ok (.iload 4, 2) := by decide +kernel
theorem dX8_leanMore_24 : decode cX8_leanMore 24 = .ok (.iastore, 1) := by decide +kernel
theorem dX8_leanMore_25 : decode cX8_leanMore 25 = .ok (.goto 12, 3) := by decide +kernel
theorem dX8_leanMore_28 : decode cX8_leanMore 28 = .ok (.aload_n 1, 1) := by decide +kernel
theorem dX8_leanMore_29 : decode cX8_leanMore 29 = .ok (.iconst 0, 1) := by decide +kernel
theorem dX8_leanMore_30 : decode cX8_leanMore 30 = .ok (.iload_n 2, 1) := by decide +kernel
theorem dX8_leanMore_31 : decode cX8_leanMore 31 = .ok (.iadd, 1) := by decide +kernel
theorem dX8_leanMore_32 : decode cX8_leanMore 32 = .ok (.dup2, 1) := by decide +kernel
theorem dX8_leanMore_33 : decode cX8_leanMore 33 = .ok (.iaload, 1) := by decide +kernel
theorem dX8_leanMore_34 : decode cX8_leanMore 34 = .ok (.iload_n 3, 1) := by decide +kernel
theorem dX8_leanMore_35 : decode cX8_leanMore 35 = .ok (.iadd, 1) := by decide +kernel
theorem dX8_leanMore_36 : decode cX8_leanMore 36 = .ok (.iastore, 1) := by decide +kernel
theorem dX8_leanMore_37 : decode cX8_leanMore 37 = .ok (.return_, 1) := by decide +kernel
set_option maxRecDepth 20000 in
theorem ggX8_meet_X8_boardOf : GoodIn wsX8_meet wsX8_boardOf := goodIn_r _ [9, 10, 11, 8, 12, 13, 14, 15] (by decide +kernel) (by decide +kernel)
set_option maxRecDepth 20000 in
theorem gX8_meet_X8_boardOf : GoodIn wsX8_meet (va_wsS RX8 65 yX8_boardOf wsX8_boardOf) := goodIn_app (goodIn_of _ (by decide +kernel)) ggX8_meet_X8_boardOf
set_option maxRecDepth 20000 in
theorem ggX8_meet_X8_in : GoodIn wsX8_meet wsX8_in := goodIn_r _ [18] (by decide +kernel) (by decide +kernel)
set_option maxRecDepth 20000 in
theorem gX8_meet_X8_in : GoodIn wsX8_meet (va_wsS RX8 48 yX8_in wsX8_in) := goodIn_app (goodIn_of _ (by decide +kernel)) ggX8_meet_X8_in
set_option maxRecDepth 20000 in
theorem ggX8_meet_X8_leanMore : GoodIn wsX8_meet wsX8_leanMore := goodIn_r _ [22, 3, 23, 24, 25, 26, 27, 28, 29, 30, 31, 32, 33, 34, 35] (by decide +kernel) (by decide +kernel)
set_option maxRecDepth 20000 in
theorem gX8_meet_X8_leanMore : GoodIn wsX8_meet (wsV RX8 73 RX8 yX8_leanMore wsX8_leanMore) := goodIn_app (goodIn_of _ (by decide +kernel)) ggX8_meet_X8_leanMore
theorem dX8_meet_0 : decode cX8_meet 0 = .ok (.aload_n 1, 1) := by decide +kernel
theorem dX8_meet_1 : decode cX8_meet 1 = .ok (.iload_n 2, 1) := by decide +kernel
theorem dX8_meet_2 : decode cX8_meet 2 = .ok (.invokestatic 65, 3) := by decide +kernel
theorem dX8_meet_5 : decode cX8_meet 5 = .ok (.iload_n 3, 1) := by decide +kernel
theorem dX8_meet_6 : decode cX8_meet 6 = .ok (.isub, 1) := by decide +kernel
theorem dX8_meet_7 : decode cX8_meet 7 = .ok (.istore 4, 2) := by decide +kernel
theorem dX8_meet_9 : decode cX8_meet 9 = .ok (.iload 4, 2) := by decide +kernel
theorem dX8_meet_11 : decode cX8_meet 11 = .ok (.i2l, 1) := by decide +kernel
theorem dX8_meet_12 : decode cX8_meet 12 = .ok (.ldc2_w 69, 3) := by decide +kernel
theorem dX8_meet_15 : decode cX8_meet 15 = .ok (.ldc2_w 71, 3) := by decide +kernel
theorem dX8_meet_18 : decode cX8_meet 18 = .ok (.invokestatic 48, 3) := by decide +kernel
theorem dX8_meet_21 : decode cX8_meet 21 = .ok (.ifCond .eq 54, 3) := by decide +kernel
theorem dX8_meet_24 : decode cX8_meet 24 = .ok (.aload_n 1, 1) := by decide +kernel
theorem dX8_meet_25 : decode cX8_meet 25 = .ok (.iconst 0, 1) := by decide +kernel
theorem dX8_meet_26 : decode cX8_meet 26 = .ok (.iload_n 2, 1) := by decide +kernel
theorem dX8_meet_27 : decode cX8_meet 27 = .ok (.iadd, 1) := by decide +kernel
theorem dX8_meet_28 : decode cX8_meet 28 = .ok (.iconst 4, 1) := by decide +kernel
theorem dX8_meet_29 : decode cX8_meet 29 = .ok (.iastore, 1) := by decide +kernel
theorem dX8_meet_30 : decode cX8_meet 30 = .ok (.aload_n 0, 1) := by decide +kernel
theorem dX8_meet_31 : decode cX8_meet 31 = .ok (.getfield 29, 3) := by decide +kernel
theorem dX8_meet_34 : decode cX8_meet 34 = .ok (.iload_n 2, 1) := by decide +kernel
theorem dX8_meet_35 : decode cX8_meet 35 = .ok (.iload 4, 2) := by decide +kernel
theorem dX8_meet_37 : decode cX8_meet 37 = .ok (.ifCond .le 7, 3) := by decide +kernel
theorem dX8_meet_40 : decode cX8_meet 40 = .ok (.iconst 2, 1) := by decide +kernel
theorem dX8_meet_41 : decode cX8_meet 41 = .ok (.goto 13, 3) := by decide +kernel
theorem dX8_meet_44 : decode cX8_meet 44 = .ok (.iload 4, 2) := by decide +kernel
theorem dX8_meet_46 : decode cX8_meet 46 = .ok (.ifCond .ge 7, 3) := by decide +kernel
theorem dX8_meet_49 : decode cX8_meet 49 = .ok (.iconst 1, 1) := by decide +kernel
theorem dX8_meet_50 : decode cX8_meet 50 = .ok (.goto 4, 3) := by decide +kernel
theorem dX8_meet_53 : decode cX8_meet 53 = .ok (.iconst 3, 1) := by decide +kernel
theorem dX8_meet_54 : decode cX8_meet 54 = .ok (.iastore, 1) := by decide +kernel
theorem dX8_meet_55 : decode cX8_meet 55 = .ok (.iload 4, 2) := by decide +kernel
theorem dX8_meet_57 : decode cX8_meet 57 = .ok (.ifCond .le 7, 3) := by decide +kernel
theorem dX8_meet_60 : decode cX8_meet 60 = .ok (.iconst (-1), 1) := by decide +kernel
theorem dX8_meet_61 : decode cX8_meet 61 = .ok (.goto 13, 3) := by decide +kernel
theorem dX8_meet_64 : decode cX8_meet 64 = .ok (.iload 4, 2) := by decide +kernel
theorem dX8_meet_66 : decode cX8_meet 66 = .ok (.ifCond .ge 7, 3) := by decide +kernel
theorem dX8_meet_69 : decode cX8_meet 69 = .ok (.iconst 1, 1) := by decide +kernel
theorem dX8_meet_70 : decode cX8_meet 70 = .ok (.goto 4, 3) := by decide +kernel
theorem dX8_meet_73 : decode cX8_meet 73 = .ok (.iconst 0, 1) := by decide +kernel
theorem dX8_meet_74 : decode cX8_meet 74 = .ok (.ireturn, 1) := by decide +kernel
theorem dX8_meet_75 : decode cX8_meet 75 = .ok (.iload 4, 2) := by decide +kernel
theorem dX8_meet_77 : decode cX8_meet 77 = .ok (.iconst 4, 1) := by decide +kernel
theorem dX8_meet_78 : decode cX8_meet 78 = .ok (.if_icmp .eq 10, 3) := by decide +kernel
theorem dX8_meet_81 : decode cX8_meet 81 = .ok (.iload 4, 2) := by decide +kernel
theorem dX8_meet_83 : decode cX8_meet 83 = .ok (.bipush (-4), 2) := by decide +kernel
theorem dX8_meet_85 : decode cX8_meet 85 = .ok (.if_icmp .ne 71, 3) := by decide +kernel
theorem dX8_meet_88 : decode cX8_meet 88 = .ok (.aload_n 1, 1) := by decide +kernel
theorem dX8_meet_89 : decode cX8_meet 89 = .ok (.bipush 10, 2) := by decide +kernel
theorem dX8_meet_91 : decode cX8_meet 91 = .ok (.iload_n 2, 1) := by decide +kernel
theorem dX8_meet_92 : decode cX8_meet 92 = .ok (.iadd, 1) := by decide +kernel
theorem dX8_meet_93 : decode cX8_meet 93 = .ok (.iaload, 1) := by decide +kernel
theorem dX8_meet_94 : decode cX8_meet 94 = .ok (.iload 4, 2) := by decide +kernel
theorem dX8_meet_96 : decode cX8_meet 96 = .ok (.ifCond .le 7, 3) := by decide +kernel
theorem dX8_meet_99 : decode cX8_meet 99 = .ok (.iconst 1, 1) := by decide +kernel
theorem dX8_meet_100 : decode cX8_meet 100 = .ok (.goto 4, 3) := by decide +kernel
theorem dX8_meet_103 : decode cX8_meet 103 = .ok (.iconst (-1), 1) := by decide +kernel
theorem dX8_meet_104 : decode cX8_meet 104 = .ok (.iadd, 1) := by decide +kernel
theorem dX8_meet_105 : decode cX8_meet 105 = .ok (.istore 5, 2) := by decide +kernel
theorem dX8_meet_107 : decode cX8_meet 107 = .ok (.aload_n 1, 1) := by decide +kernel
theorem dX8_meet_108 : decode cX8_meet 108 = .ok (.bipush 10, 2) := by decide +kernel
theorem dX8_meet_110 : decode cX8_meet 110 = .ok (.iload_n 2, 1) := by decide +kernel
theorem dX8_meet_111 : decode cX8_meet 111 = .ok (.iadd, 1) := by decide +kernel
theorem dX8_meet_112 : decode cX8_meet 112 = .ok (.iload 5, 2) := by decide +kernel
theorem dX8_meet_114 : decode cX8_meet 114 = .ok (.i2l, 1) := by decide +kernel
theorem dX8_meet_115 : decode cX8_meet 115 = .ok (.ldc2_w 54, 3) := by decide +kernel
theorem dX8_meet_118 : decode cX8_meet 118 = .ok (.ldc2_w 56, 3) := by decide +kernel
theorem dX8_meet_121 : decode cX8_meet 121 = .ok (.invokestatic 48, 3) := by decide +kernel
theorem dX8_meet_124 : decode cX8_meet 124 = .ok (.ifCond .eq 8, 3) := by decide +kernel
theorem dX8_meet_127 : decode cX8_meet 127 = .ok (.iload 5, 2) := by decide +kernel
theorem dX8_meet_129 : decode cX8_meet 129 = .ok (.goto 9, 3) := by decide +kernel
theorem dX8_meet_132 : decode cX8_meet 132 = .ok (.aload_n 1, 1) := by decide +kernel
theorem dX8_meet_133 : decode cX8_meet 133 = .ok (.bipush 10, 2) := by decide +kernel
theorem dX8_meet_135 : decode cX8_meet 135 = .ok (.iload_n 2, 1) := by decide +kernel
theorem dX8_meet_136 : decode cX8_meet 136 = .ok (.iadd, 1) := by decide +kernel
theorem dX8_meet_137 : decode cX8_meet 137 = .ok (.iaload, 1) := by decide +kernel
theorem dX8_meet_138 : decode cX8_meet 138 = .ok (.iastore, 1) := by decide +kernel
theorem dX8_meet_139 : decode cX8_meet 139 = .ok (.aload_n 0, 1) := by decide +kernel
theorem dX8_meet_140 : decode cX8_meet 140 = .ok (.aload_n 1, 1) := by decide +kernel
theorem dX8_meet_141 : decode cX8_meet 141 = .ok (.iload_n 2, 1) := by decide +kernel
theorem dX8_meet_142 : decode cX8_meet 142 = .ok (.iconst 1, 1) := by decide +kernel
theorem dX8_meet_143 : decode cX8_meet 143 = .ok (.iload 4, 2) := by decide +kernel
theorem dX8_meet_145 : decode cX8_meet 145 = .ok (.ifCond .le 7, 3) := by decide +kernel
theorem dX8_meet_148 : decode cX8_meet 148 = .ok (.iconst 2, 1) := by decide +kernel
theorem dX8_meet_149 : decode cX8_meet 149 = .ok (.goto 4, 3) := by decide +kernel
theorem dX8_meet_152 : decode cX8_meet 152 = .ok (.iconst 1, 1) := by decide +kernel
theorem dX8_meet_153 : decode cX8_meet 153 = .ok (.invokevirtual 73, 3) := by decide +kernel
theorem dX8_meet_156 : decode cX8_meet 156 = .ok (.iconst 0, 1) := by decide +kernel
theorem dX8_meet_157 : decode cX8_meet 157 = .ok (.ireturn, 1) := by decide +kernel
set_option maxRecDepth 20000 in
theorem ggX8_pushFrom_X8_rowOf : GoodIn wsX8_pushFrom wsX8_rowOf := goodIn_r _ [5] (by decide +kernel) (by decide +kernel)
set_option maxRecDepth 20000 in
theorem gX8_pushFrom_X8_rowOf : GoodIn wsX8_pushFrom (va_wsS RX8 58 yX8_rowOf wsX8_rowOf) := goodIn_app (goodIn_of _ (by decide +kernel)) ggX8_pushFrom_X8_rowOf
set_option maxRecDepth 20000 in
theorem ggX8_pushFrom_X8_firstOf : GoodIn wsX8_pushFrom wsX8_firstOf := goodIn_r _ [8] (by decide +kernel) (by decide +kernel)
set_option maxRecDepth 20000 in
theorem gX8_pushFrom_X8_firstOf : GoodIn wsX8_pushFrom (va_wsS RX8 62 yX8_firstOf wsX8_firstOf) := goodIn_app (goodIn_of _ (by decide +kernel)) ggX8_pushFrom_X8_firstOf
set_option maxRecDepth 20000 in
theorem ggX8_pushFrom_X8_leanMore : GoodIn wsX8_pushFrom wsX8_leanMore := goodIn_r _ [12, 1, 13, 14, 15, 16, 17, 18, 19, 20, 21, 22, 23, 24, 25] (by decide +kernel) (by decide +kernel)
set_option maxRecDepth 20000 in
theorem gX8_pushFrom_X8_leanMore : GoodIn wsX8_pushFrom (wsV RX8 73 RX8 yX8_leanMore wsX8_leanMore) := goodIn_app (goodIn_of _ (by decide +kernel)) ggX8_pushFrom_X8_leanMore
theorem dX8_pushFrom_0 : decode cX8_pushFrom 0 = .ok (.iload_n 2, 1) := by decide +kernel
theorem dX8_pushFrom_1 : decode cX8_pushFrom 1 = .ok (.invokestatic 58, 3) := by decide +kernel
theorem dX8_pushFrom_4 : decode cX8_pushFrom 4 = .ok (.istore_n 3, 1) := by decide +kernel
theorem dX8_pushFrom_5 : decode cX8_pushFrom 5 = .ok (.iload_n 3, 1) := by decide +kernel
theorem dX8_pushFrom_6 : decode cX8_pushFrom 6 = .ok (.iconst 1, 1) := by decide +kernel
theorem dX8_pushFrom_7 : decode cX8_pushFrom 7 = .ok (.iadd, 1) := by decide +kernel
theorem dX8_pushFrom_8 : decode cX8_pushFrom 8 = .ok (.invokestatic 62, 3) := by decide +kernel
theorem dX8_pushFrom_11 : decode cX8_pushFrom 11 = .ok (.iload_n 2, 1) := by decide +kernel
theorem dX8_pushFrom_12 : decode cX8_pushFrom 12 = .ok (.iadd, 1) := by decide +kernel
theorem dX8_pushFrom_13 : decode cX8_pushFrom 13 = .ok (.iload_n 3, 1) := by decide +kernel
theorem dX8_pushFrom_14 : decode cX8_pushFrom 14 = .ok (.invokestatic 62, 3) := by decide +kernel
theorem dX8_pushFrom_17 : decode cX8_pushFrom 17 = .ok (.isub, 1) := by decide +kernel
theorem dX8_pushFrom_18 : decode cX8_pushFrom 18 = .ok (.istore 4, 2) := by decide +kernel
theorem dX8_pushFrom_20 : decode cX8_pushFrom 20 = .ok (.aload_n 0, 1) := by decide +kernel
theorem dX8_pushFrom_21 : decode cX8_pushFrom 21 = .ok (.getfield 29, 3) := by decide +kernel
theorem dX8_pushFrom_24 : decode cX8_pushFrom 24 = .ok (.iload_n 2, 1) := by decide +kernel
theorem dX8_pushFrom_25 : decode cX8_pushFrom 25 = .ok (.iaload, 1) := by decide +kernel
theorem dX8_pushFrom_26 : decode cX8_pushFrom 26 = .ok (.iconst 1, 1) := by decide +kernel
theorem dX8_pushFrom_27 : decode cX8_pushFrom 27 = .ok (.iand, 1) := by decide +kernel
theorem dX8_pushFrom_28 : decode cX8_pushFrom 28 = .ok (.ifCond .le 22, 3) := by decide +kernel
theorem dX8_pushFrom_31 : decode cX8_pushFrom 31 = .ok (.aload_n 1, 1) := by decide +kernel
theorem dX8_pushFrom_32 : decode cX8_pushFrom 32 = .ok (.iconst 0, 1) := by decide +kernel
theorem dX8_pushFrom_33 : decode cX8_pushFrom 33 = .ok (.iload 4, 2) := by decide +kernel
theorem dX8_pushFrom_35 : decode cX8_pushFrom 35 = .ok (.iadd, 1) := by decide +kernel
theorem dX8_pushFrom_36 : decode cX8_pushFrom 36 = .ok (.iaload, 1) := by decide +kernel
theorem dX8_pushFrom_37 : decode cX8_pushFrom 37 = .ok (.iconst 4, 1) := by decide +kernel
theorem dX8_pushFrom_38 : decode cX8_pushFrom 38 = .ok (.if_icmp .eq 12, 3) := by decide +kernel
theorem dX8_pushFrom_41 : decode cX8_pushFrom 41 = .ok (.aload_n 0, 1) := by decide +kernel
theorem dX8_pushFrom_42 : decode cX8_pushFrom 42 = .ok (.aload_n 1, 1) := by decide +kernel
theorem dX8_pushFrom_43 : decode cX8_pushFrom 43 = .ok (.iload 4, 2) := by decide +kernel
theorem dX8_pushFrom_45 : decode cX8_pushFrom 45 = .ok (.iconst 2, 1) := by decide +kernel
theorem dX8_pushFrom_46 : decode cX8_pushFrom 46 = .ok (.iconst 1, 1) := by decide +kernel
theorem dX8_pushFrom_47 : decode cX8_pushFrom 47 = .ok (.invokevirtual 73, 3) := by decide +kernel
theorem dX8_pushFrom_50 : decode cX8_pushFrom 50 = .ok (.aload_n 0, 1) := by decide +kernel
theorem dX8_pushFrom_51 : decode cX8_pushFrom 51 = .ok (.getfield 29, 3) := by decide +kernel
theorem dX8_pushFrom_54 : decode cX8_pushFrom 54 = .ok (.iload_n 2, 1) := by decide +kernel
theorem dX8_pushFrom_55 : decode cX8_pushFrom 55 = .ok (.iaload, 1) := by decide +kernel
theorem dX8_pushFrom_56 : decode cX8_pushFrom 56 = .ok (.iconst 2, 1) := by decide +kernel
theorem dX8_pushFrom_57 : decode cX8_pushFrom 57 = .ok (.iand, 1) := by decide +kernel
theorem dX8_pushFrom_58 : decode cX8_pushFrom 58 = .ok (.ifCond .le 26, 3) := by decide +kernel
theorem dX8_pushFrom_61 : decode cX8_pushFrom 61 = .ok (.aload_n 1, 1) := by decide +kernel
theorem dX8_pushFrom_62 : decode cX8_pushFrom 62 = .ok (.iconst 0, 1) := by decide +kernel
theorem dX8_pushFrom_63 : decode cX8_pushFrom 63 = .ok (.iload 4, 2) := by decide +kernel
theorem dX8_pushFrom_65 : decode cX8_pushFrom 65 = .ok (.iadd, 1) := by decide +kernel
theorem dX8_pushFrom_66 : decode cX8_pushFrom 66 = .ok (.iconst 1, 1) := by decide +kernel
theorem dX8_pushFrom_67 : decode cX8_pushFrom 67 = .ok (.iadd, 1) := by decide +kernel
theorem dX8_pushFrom_68 : decode cX8_pushFrom 68 = .ok (.iaload, 1) := by decide +kernel
theorem dX8_pushFrom_69 : decode cX8_pushFrom 69 = .ok (.iconst 4, 1) := by decide +kernel
theorem dX8_pushFrom_70 : decode cX8_pushFrom 70 = .ok (.if_icmp .eq 14, 3) := by decide +kernel
theorem dX8_pushFrom_73 : decode cX8_pushFrom 73 = .ok (.aload_n 0, 1) := by decide +kernel
theorem dX8_pushFrom_74 : decode cX8_pushFrom 74 = .ok (.aload_n 1, 1) := by decide +kernel
theorem dX8_pushFrom_75 : decode cX8_pushFrom 75 = .ok (.iload 4, 2) := by decide +kernel
theorem dX8_pushFrom_77 : decode cX8_pushFrom 77 = .ok (.iconst 1, 1) := by decide +kernel
theorem dX8_pushFrom_78 : decode cX8_pushFrom 78 = .ok (.iadd, 1) := by decide +kernel
theorem dX8_pushFrom_79 : decode cX8_pushFrom 79 = .ok (.iconst 2, 1) := by decide +kernel
theorem dX8_pushFrom_80 : decode cX8_pushFrom 80 = .ok (.iconst 2, 1) := by decide +kernel
theorem dX8_pushFrom_81 : decode cX8_pushFrom 81 = .ok (.invokevirtual 73, 3) := by decide +kernel
theorem dX8_pushFrom_84 : decode cX8_pushFrom 84 = .ok (.return_, 1) := by decide +kernel
set_option maxRecDepth 20000 in
theorem ggX8_ball_X8_firstOf : GoodIn wsX8_ball wsX8_firstOf := goodIn_r _ [5] (by decide +kernel) (by decide +kernel)
set_option maxRecDepth 20000 in
theorem gX8_ball_X8_firstOf : GoodIn wsX8_ball (va_wsS RX8 62 yX8_firstOf wsX8_firstOf) := goodIn_app (goodIn_of _ (by decide +kernel)) ggX8_ball_X8_firstOf
set_option maxRecDepth 20000 in
theorem ggX8_ball_X8_meet : GoodIn wsX8_ball wsX8_meet := goodIn_r _ [9, 10, 11, 1, 12, 13, 14, 15, 4, 16, 17, 18, 19, 2, 3, 5, 20, 21, 22, 23, 24, 25, 26, 31, 32, 33, 34, 35, 36, 37, 38, 39, 40, 41, 42, 43] (by decide +kernel) (by decide +kernel)
set_option maxRecDepth 20000 in
theorem gX8_ball_X8_meet : GoodIn wsX8_ball (wsV RX8 77 RX8 yX8_meet wsX8_meet) := goodIn_app (goodIn_of _ (by decide +kernel)) ggX8_ball_X8_meet
set_option maxRecDepth 20000 in
theorem ggX8_ball_X8_pushFrom : GoodIn wsX8_ball wsX8_pushFrom := goodIn_r _ [30, 1, 17, 18, 4, 19, 2, 3, 5, 23, 24, 25, 26, 31, 32, 33, 34, 35, 36, 37, 38, 39, 40, 41, 42, 43] (by decide +kernel) (by decide +kernel)
set_option maxRecDepth 20000 in
theorem gX8_ball_X8_pushFrom : GoodIn wsX8_ball (wsV RX8 81 RX8 yX8_pushFrom wsX8_pushFrom) := goodIn_app (goodIn_of _ (by decide +kernel)) ggX8_ball_X8_pushFrom
theorem dX8_ball_0 : decode cX8_ball 0 = .ok (.iconst 0, 1) := by decide +kernel
theorem dX8_ball_1 : decode cX8_ball 1 = .ok (.istore 4, 2) := by decide +kernel
theorem dX8_ball_3 : decode cX8_ball 3 = .ok (.iload 4, 2) := by decide +kernel
theorem dX8_ball_5 : decode cX8_ball 5 = .ok (.bipush 10, 2) := by decide +kernel
theorem dX8_ball_7 : decode cX8_ball 7 = .ok (.if_icmp .ge 17, 3) := by decide +kernel
theorem dX8_ball_10 : decode cX8_ball 10 = .ok (.aload_n 0, 1) := by decide +kernel
theorem dX8_ball_11 : decode cX8_ball 11 = .ok (.getfield 29, 3) := by decide +kernel
theorem dX8_ball_14 : decode cX8_ball 14 = .ok (.iload 4, 2) := by decide +kernel
theorem dX8_ball_16 : decode cX8_ball 16 = .ok (.iconst 0, 1) := by decide +kernel
theorem dX8_ball_17 : decode cX8_ball 17 = .ok (.iastore, 1) := by decide +kernel
theorem dX8_ball_18 : decode cX8_ball 18 = .ok (.iinc 4 1, 3) := by decide +kernel
theorem dX8_ball_21 : decode cX8_ball 21 = .ok (.goto (-18), 3) := by decide +kernel
theorem dX8_ball_24 : decode cX8_ball 24 = .ok (.iconst 0, 1) := by decide +kernel
theorem dX8_ball_25 : decode cX8_ball 25 = .ok (.istore 4, 2) := by decide +kernel
theorem dX8_ball_27 : decode cX8_ball 27 = .ok (.iconst 0, 1) := by decide +kernel
theorem dX8_ball_28 : decode cX8_ball 28 = .ok (.istore 5, 2) := by decide +kernel
theorem dX8_ball_30 : decode cX8_ball 30 = .ok (.iload 5, 2) := by decide +kernel
theorem dX8_ball_32 : decode cX8_ball 32 = .ok (.iconst 4, 1) := by decide +kernel
theorem dX8_ball_33 : decode cX8_ball 33 = .ok (.if_icmp .ge 107, 3) := by decide +kernel
theorem dX8_ball_36 : decode cX8_ball 36 = .ok (.iload_n 2, 1) := by decide +kernel
theorem dX8_ball_37 : decode cX8_ball 37 = .ok (.iload_n 3, 1) := by decide +kernel
theorem dX8_ball_38 : decode cX8_ball 38 = .ok (.iload 5, 2) := by decide +kernel
theorem dX8_ball_40 : decode cX8_ball 40 = .ok (.imul, 1) := by decide +kernel
theorem dX8_ball_41 : decode cX8_ball 41 = .ok (.iadd, 1) := by decide +kernel
theorem dX8_ball_42 : decode cX8_ball 42 = .ok (.iload 4, 2) := by decide +kernel
theorem dX8_ball_44 : decode cX8_ball 44 = .ok (.iadd, 1) := by decide +kernel
theorem dX8_ball_45 : decode cX8_ball 45 = .ok (.istore 6, 2) := by decide +kernel
theorem dX8_ball_47 : decode cX8_ball 47 = .ok (.iload 5, 2) := by decide +kernel
theorem dX8_ball_49 : decode cX8_ball 49 = .ok (.invokestatic 62, 3) := by decide +kernel
theorem dX8_ball_52 : decode cX8_ball 52 = .ok (.istore 7, 2) := by decide +kernel
theorem dX8_ball_54 : decode cX8_ball 54 = .ok (.iload 7, 2) := by decide +kernel
theorem dX8_ball_56 : decode cX8_ball 56 = .ok (.iload 5, 2) := by decide +kernel
theorem dX8_ball_58 : decode cX8_ball 58 = .ok (.iconst 1, 1) := by decide +kernel
theorem dX8_ball_59 : decode cX8_ball 59 = .ok (.iadd, 1) := by decide +kernel
theorem dX8_ball_60 : decode cX8_ball 60 = .ok (.invokestatic 62, 3) := by decide +kernel
theorem dX8_ball_63 : decode cX8_ball 63 = .ok (.if_icmp .ge 33, 3) := by decide +kernel
theorem dX8_ball_66 : decode cX8_ball 66 = .ok (.aload_n 1, 1) := by decide +kernel
theorem dX8_ball_67 : decode cX8_ball 67 = .ok (.iconst 0, 1) := by decide +kernel
theorem dX8_ball_68 : decode cX8_ball 68 = .ok (.iload 7, 2) := by decide +kernel
theorem dX8_ball_70 : decode cX8_ball 70 = .ok (.iadd, 1) := by decide +kernel
theorem dX8_ball_71 : decode cX8_ball 71 = .ok (.iaload, 1) := by decide +kernel
theorem dX8_ball_72 : decode cX8_ball 72 = .ok (.iconst 4, 1) := by decide +kernel
theorem dX8_ball_73 : decode cX8_ball 73 = .ok (.if_icmp .eq 17, 3) := by decide +kernel
theorem dX8_ball_76 : decode cX8_ball 76 = .ok (.iload 4, 2) := by decide +kernel
theorem dX8_ball_78 : decode cX8_ball 78 = .ok (.aload_n 0, 1) := by decide +kernel
theorem dX8_ball_79 : decode cX8_ball 79 = .ok (.aload_n 1, 1) := by decide +kernel
theorem dX8_ball_80 : decode cX8_ball 80 = .ok (.iload 7, 2) := by decide +kernel
theorem dX8_ball_82 : decode cX8_ball 82 = .ok (.iload 6, 2) := by decide +kernel
theorem dX8_ball_84 : decode cX8_ball 84 = .ok (.invokevirtual 77, 3) := by decide +kernel
theorem dX8_ball_87 : decode cX8_ball 87 = .ok (.iadd, 1) := by decide +kernel
theorem dX8_ball_88 : decode cX8_ball 88 = .ok (.istore 4, 2) := by decide +kernel
theorem dX8_ball_90 : decode cX8_ball 90 = .ok (.iinc 7 1, 3) := by decide +kernel
theorem dX8_ball_93 : decode cX8_ball 93 = .ok (.goto (-39), 3) := by decide +kernel
theorem dX8_ball_96 : decode cX8_ball 96 = .ok (.iload 5, 2) := by decide +kernel
theorem dX8_ball_98 : decode cX8_ball 98 = .ok (.invokestatic 62, 3) := by decide +kernel
theorem dX8_ball_101 : decode cX8_ball 101 = .ok (.istore 7, 2) := by decide +kernel
theorem dX8_ball_103 : decode cX8_ball 103 = .ok (.iload 7, 2) := by decide +kernel
theorem dX8_ball_105 : decode cX8_ball 105 = .ok (.iload 5, 2) := by decide +kernel
theorem dX8_ball_107 : decode cX8_ball 107 = .ok (.iconst 1, 1) := by decide +kernel
theorem dX8_ball_108 : decode cX8_ball 108 = .ok (.iadd, 1) := by decide +kernel
theorem dX8_ball_109 : decode cX8_ball 109 = .ok (.invokestatic 62, 3) := by decide +kernel
theorem dX8_ball_112 : decode cX8_ball 112 = .ok (.if_icmp .ge 22, 3) := by decide +kernel
theorem dX8_ball_115 : decode cX8_ball 115 = .ok (.iload 5, 2) := by decide +kernel
theorem dX8_ball_117 : decode cX8_ball 117 = .ok (.iconst 3, 1) := by decide +kernel
theorem dX8_ball_118 : decode cX8_ball 118 = .ok (.if_icmp .ge 16, 3) := by decide +kernel
theorem dX8_ball_121 : decode cX8_ball 121 = .ok (.aload_n 0, 1) := by decide +kernel
theorem dX8_ball_122 : decode cX8_ball 122 = .ok (.aload_n 1, 1) := by decide +kernel
theorem dX8_ball_123 : decode cX8_ball 123 = .ok (.iload 7, 2) := by decide +kernel
theorem dX8_ball_125 : decode cX8_ball 125 = .ok (.invokevirtual 81, 3) := by decide +kernel
theorem dX8_ball_128 : decode cX8_ball 128 = .ok (.iinc 7 1, 3) := by decide +kernel
theorem dX8_ball_131 : decode cX8_ball 131 = .ok (.goto (-28), 3) := by decide +kernel
theorem dX8_ball_134 : decode cX8_ball 134 = .ok (.iinc 5 1, 3) := by decide +kernel
theorem dX8_ball_137 : decode cX8_ball 137 = .ok (.goto (-107), 3) := by decide +kernel
theorem dX8_ball_140 : decode cX8_ball 140 = .ok (.return_, 1) := by decide +kernel
theorem dX8_tell_0 : decode cX8_tell 0 = .ok (.iconst 0, 1) := by decide +kernel
theorem dX8_tell_1 : decode cX8_tell 1 = .ok (.istore_n 1, 1) := by decide +kernel
theorem dX8_tell_2 : decode cX8_tell 2 = .ok (.iload_n 1, 1) := by decide +kernel
theorem dX8_tell_3 : decode cX8_tell 3 = .ok (.bipush 10, 2) := by decide +kernel
theorem dX8_tell_5 : decode cX8_tell 5 = .ok (.if_icmp .ge 51, 3) := by decide +kernel
theorem dX8_tell_8 : decode cX8_tell 8 = .ok (.aload_n 0, 1) := by decide +kernel
theorem dX8_tell_9 : decode cX8_tell 9 = .ok (.bipush 20, 2) := by decide +kernel
theorem dX8_tell_11 : decode cX8_tell 11 = .ok (.iload_n 1, 1) := by decide +kernel
theorem dX8_tell_12 : decode cX8_tell 12 = .ok (.iadd, 1) := by decide +kernel
theorem dX8_tell_13 : decode cX8_tell 13 = .ok (.aload_n 0, 1) := by decide +kernel
theorem dX8_tell_14 : decode cX8_tell 14 = .ok (.bipush 20, 2) := by decide +kernel
theorem dX8_tell_16 : decode cX8_tell 16 = .ok (.iload_n 1, 1) := by decide +kernel
theorem dX8_tell_17 : decode cX8_tell 17 = .ok (.iadd, 1) := by decide +kernel
theorem dX8_tell_18 : decode cX8_tell 18 = .ok (.iaload, 1) := by decide +kernel
theorem dX8_tell_19 : decode cX8_tell 19 = .ok (.iconst 1, 1) := by decide +kernel
theorem dX8_tell_20 : decode cX8_tell 20 = .ok (.if_icmp .ne 28, 3) := by decide +kernel
theorem dX8_tell_23 : decode cX8_tell 23 = .ok (.aload_n 0, 1) := by decide +kernel
theorem dX8_tell_24 : decode cX8_tell 24 = .ok (.iconst 0, 1) := by decide +kernel
theorem dX8_tell_25 : decode cX8_tell 25 = .ok (.iload_n 1, 1) := by decide +kernel
theorem dX8_tell_26 : decode cX8_tell 26 = .ok (.iadd, 1) := by decide +kernel
theorem dX8_tell_27 : decode cX8_tell 27 = .ok (.iaload, 1) := by decide +kernel
theorem dX8_tell_28 : decode cX8_tell 28 = .ok (.iconst 4, 1) := by decide +kernel
theorem dX8_tell_29 : decode cX8_tell 29 = .ok (.if_icmp .eq 19, 3) := by decide +kernel
theorem dX8_tell_32 : decode cX8_tell 32 = .ok (.aload_n 0, 1) := by decide +kernel
theorem dX8_tell_33 : decode cX8_tell 33 = .ok (.iconst 0, 1) := by decide +kernel
theorem dX8_tell_34 : decode cX8_tell 34 = .ok (.iload_n 1, 1) := by decide +kernel
theorem dX8_tell_35 : decode cX8_tell 35 = .ok (.iadd, 1) := by decide +kernel
theorem dX8_tell_36 : decode cX8_tell 36 = .ok (.iaload, 1) := by decide +kernel
theorem dX8_tell_37 : decode cX8_tell 37 = .ok (.aload_n 0, 1) := by decide +kernel
theorem dX8_tell_38 : decode cX8_tell 38 = .ok (.bipush 77, 2) := by decide +kernel
theorem dX8_tell_40 : decode cX8_tell 40 = .ok (.iaload, 1) := by decide +kernel
theorem dX8_tell_41 : decode cX8_tell 41 = .ok (.if_icmp .gt 7, 3) := by decide +kernel
theorem dX8_tell_44 : decode cX8_tell 44 = .ok (.iconst 1, 1) := by decide +kernel
theorem dX8_tell_45 : decode cX8_tell 45 = .ok (.goto 4, 3) := by decide +kernel
theorem dX8_tell_48 : decode cX8_tell 48 = .ok (.iconst 0, 1) := by decide +kernel
theorem dX8_tell_49 : decode cX8_tell 49 = .ok (.iastore, 1) := by decide +kernel
theorem dX8_tell_50 : decode cX8_tell 50 = .ok (.iinc 1 1, 3) := by decide +kernel
theorem dX8_tell_53 : decode cX8_tell 53 = .ok (.goto (-51), 3) := by decide +kernel
theorem dX8_tell_56 : decode cX8_tell 56 = .ok (.return_, 1) := by decide +kernel
theorem dX8_slips_0 : decode cX8_slips 0 = .ok (.aload_n 0, 1) := by decide +kernel
theorem dX8_slips_1 : decode cX8_slips 1 = .ok (.bipush 20, 2) := by decide +kernel
theorem dX8_slips_3 : decode cX8_slips 3 = .ok (.iload_n 1, 1) := by decide +kernel
theorem dX8_slips_4 : decode cX8_slips 4 = .ok (.iadd, 1) := by decide +kernel
theorem dX8_slips_5 : decode cX8_slips 5 = .ok (.iaload, 1) := by decide +kernel
theorem dX8_slips_6 : decode cX8_slips 6 = .ok (.iconst 1, 1) := by decide +kernel
theorem dX8_slips_7 : decode cX8_slips 7 = .ok (.if_icmp .ne 28, 3) := by decide +kernel
theorem dX8_slips_10 : decode cX8_slips 10 = .ok (.aload_n 0, 1) := by decide +kernel
theorem dX8_slips_11 : decode cX8_slips 11 = .ok (.iconst 0, 1) := by decide +kernel
theorem dX8_slips_12 : decode cX8_slips 12 = .ok (.iload_n 1, 1) := by decide +kernel
theorem dX8_slips_13 : decode cX8_slips 13 = .ok (.iadd, 1) := by decide +kernel
theorem dX8_slips_14 : decode cX8_slips 14 = .ok (.iaload, 1) := by decide +kernel
theorem dX8_slips_15 : decode cX8_slips 15 = .ok (.iconst 4, 1) := by decide +kernel
theorem dX8_slips_16 : decode cX8_slips 16 = .ok (.if_icmp .eq 19, 3) := by decide +kernel
theorem dX8_slips_19 : decode cX8_slips 19 = .ok (.aload_n 0, 1) := by decide +kernel
theorem dX8_slips_20 : decode cX8_slips 20 = .ok (.iconst 0, 1) := by decide +kernel
theorem dX8_slips_21 : decode cX8_slips 21 = .ok (.iload_n 1, 1) := by decide +kernel
theorem dX8_slips_22 : decode cX8_slips 22 = .ok (.iadd, 1) := by decide +kernel
theorem dX8_slips_23 : decode cX8_slips 23 = .ok (.iaload, 1) := by decide +kernel
theorem dX8_slips_24 : decode cX8_slips 24 = .ok (.aload_n 0, 1) := by decide +kernel
theorem dX8_slips_25 : decode cX8_slips 25 = .ok (.bipush 78, 2) := by decide +kernel
theorem dX8_slips_27 : decode cX8_slips 27 = .ok (.iaload, 1) := by decide +kernel
theorem dX8_slips_28 : decode cX8_slips 28 = .ok (.if_icmp .le 7, 3) := by decide +kernel
theorem dX8_slips_31 : decode cX8_slips 31 = .ok (.iconst 1, 1) := by decide +kernel
theorem dX8_slips_32 : decode cX8_slips 32 = .ok (.goto 4, 3) := by decide +kernel
theorem dX8_slips_35 : decode cX8_slips 35 = .ok (.iconst 0, 1) := by decide +kernel
theorem dX8_slips_36 : decode cX8_slips 36 = .ok (.ireturn, 1) := by decide +kernel
set_option maxRecDepth 20000 in
theorem ggX8_setAgain_X8_slips : GoodIn wsX8_setAgain wsX8_slips := goodIn_r _ [4] (by decide +kernel) (by decide +kernel)
set_option maxRecDepth 20000 in
theorem gX8_setAgain_X8_slips : GoodIn wsX8_setAgain (va_wsS RX8 85 yX8_slips wsX8_slips) := goodIn_app (goodIn_of _ (by decide +kernel)) ggX8_setAgain_X8_slips
theorem dX8_setAgain_0 : decode cX8_setAgain 0 = .ok (.iconst 0, 1) := by decide +kernel
theorem dX8_setAgain_1 : decode cX8_setAgain 1 = .ok (.istore_n 1, 1) := by decide +kernel
theorem dX8_setAgain_2 : decode cX8_setAgain 2 = .ok (.iload_n 1, 1) := by decide +kernel
theorem dX8_setAgain_3 : decode cX8_setAgain 3 = .ok (.bipush 10, 2) := by decide +kernel
theorem dX8_setAgain_5 : decode cX8_setAgain 5 = .ok (.if_icmp .ge 52, 3) := by decide +kernel
theorem dX8_setAgain_8 : decode cX8_setAgain 8 = .ok (.aload_n 0, 1) := by decide +kernel
theorem dX8_setAgain_9 : decode cX8_setAgain 9 = .ok (.iload_n 1, 1) := by decide +kernel
theorem dX8_setAgain_10 : decode cX8_setAgain 10 = .ok (.invokestatic 85, 3) := by decide +kernel
theorem dX8_setAgain_13 : decode cX8_setAgain 13 = .ok (.ifCond .eq 18, 3) := by decide +kernel
theorem dX8_setAgain_16 : decode cX8_setAgain 16 = .ok (.aload_n 0, 1) := by decide +kernel
theorem dX8_setAgain_17 : decode cX8_setAgain 17 = .ok (.bipush 74, 2) := by decide +kernel
theorem dX8_setAgain_19 : decode cX8_setAgain 19 = .ok (.dup2, 1) := by decide +kernel
theorem dX8_setAgain_20 : decode cX8_setAgain 20 = .ok (.iaload, 1) := by decide +kernel
theorem dX8_setAgain_21 : decode cX8_setAgain 21 = .ok (.iconst 1, 1) := by decide +kernel
theorem dX8_setAgain_22 : decode cX8_setAgain 22 = .ok (.iadd, 1) := by decide +kernel
theorem dX8_setAgain_23 : decode cX8_setAgain 23 = .ok (.iastore, 1) := by decide +kernel
theorem dX8_setAgain_24 : decode cX8_setAgain 24 = .ok (.aload_n 0, 1) := by decide +kernel
theorem dX8_setAgain_25 : decode cX8_setAgain 25 = .ok (.bipush 20, 2) := by decide +kernel
theorem dX8_setAgain_27 : decode cX8_setAgain 27 = .ok (.iload_n 1, 1) := by decide +kernel
theorem dX8_setAgain_28 : decode cX8_setAgain 28 = .ok (.iadd, 1) := by decide +kernel
theorem dX8_setAgain_29 : decode cX8_setAgain 29 = .ok (.iconst 0, 1) := by decide +kernel
theorem dX8_setAgain_30 : decode cX8_setAgain 30 = .ok (.iastore, 1) := by decide +kernel
theorem dX8_setAgain_31 : decode cX8_setAgain 31 = .ok (.aload_n 0, 1) := by decide +kernel
theorem dX8_setAgain_32 : decode cX8_setAgain 32 = .ok (.iconst 0, 1) := by decide +kernel
theorem dX8_setAgain_33 : decode cX8_setAgain 33 = .ok (.iload_n 1, 1) := by decide +kernel
theorem dX8_setAgain_34 : decode cX8_setAgain 34 = .ok (.iadd, 1) := by decide +kernel
theorem dX8_setAgain_35 : decode cX8_setAgain 35 = .ok (.aload_n 0, 1) := by decide +kernel
theorem dX8_setAgain_36 : decode cX8_setAgain 36 = .ok (.bipush 20, 2) := by decide +kernel
theorem dX8_setAgain_38 : decode cX8_setAgain 38 = .ok (.iload_n 1, 1) := by decide +kernel
theorem dX8_setAgain_39 : decode cX8_setAgain 39 = .ok (.iadd, 1) := by decide +kernel
theorem dX8_setAgain_40 : decode cX8_setAgain 40 = .ok (.iaload, 1) := by decide +kernel
theorem dX8_setAgain_41 : decode cX8_setAgain 41 = .ok (.iconst 1, 1) := by decide +kernel
theorem dX8_setAgain_42 : decode cX8_setAgain 42 = .ok (.if_icmp .ne 7, 3) := by decide +kernel
theorem dX8_setAgain_45 : decode cX8_setAgain 45 = .ok (.iconst 0, 1) := by decide +kernel
theorem dX8_setAgain_46 : decode cX8_setAgain 46 = .ok (.goto 4, 3) := by decide +kernel
theorem dX8_setAgain_49 : decode cX8_setAgain 49 = .ok (.iconst 4, 1) := by decide +kernel
theorem dX8_setAgain_50 : decode cX8_setAgain 50 = .ok (.iastore, 1) := by decide +kernel
theorem dX8_setAgain_51 : decode cX8_setAgain 51 = .ok (.iinc 1 1, 3) := by decide +kernel
theorem dX8_setAgain_54 : decode cX8_setAgain 54 = .ok (.goto (-52), 3) := by decide +kernel
theorem dX8_setAgain_57 : decode cX8_setAgain 57 = .ok (.return_, 1) := by decide +kernel
theorem dX8_isOver_0 : decode cX8_isOver 0 = .ok (.aload_n 0, 1) := by decide +kernel
theorem dX8_isOver_1 : decode cX8_isOver 1 = .ok (.bipush 52, 2) := by decide +kernel
theorem dX8_isOver_3 : decode cX8_isOver 3 = .ok (.iaload, 1) := by decide +kernel
theorem dX8_isOver_4 : decode cX8_isOver 4 = .ok (.bipush 10, 2) := by decide +kernel
theorem dX8_isOver_6 : decode cX8_isOver 6 = .ok (.if_icmp .ne 7, 3) := by decide +kernel
theorem dX8_isOver_9 : decode cX8_isOver 9 = .ok (.iconst 1, 1) := by decide +kernel
theorem dX8_isOver_10 : decode cX8_isOver 10 = .ok (.goto 4, 3) := by decide +kernel
theorem dX8_isOver_13 : decode cX8_isOver 13 = .ok (.iconst 0, 1) := by decide +kernel
theorem dX8_isOver_14 : decode cX8_isOver 14 = .ok (.ireturn, 1) := by decide +kernel
theorem dX8_rollOf_0 : decode cX8_rollOf 0 = .ok (.iload_n 2, 1) := by decide +kernel
theorem dX8_rollOf_1 : decode cX8_rollOf 1 = .ok (.aload_n 0, 1) := by decide +kernel
theorem dX8_rollOf_2 : decode cX8_rollOf 2 = .ok (.bipush 63, 2) := by decide +kernel
theorem dX8_rollOf_4 : decode cX8_rollOf 4 = .ok (.iload_n 1, 1) := by decide +kernel
theorem dX8_rollOf_5 : decode cX8_rollOf 5 = .ok (.iadd, 1) := by decide +kernel
theorem dX8_rollOf_6 : decode cX8_rollOf 6 = .ok (.iaload, 1) := by decide +kernel
theorem dX8_rollOf_7 : decode cX8_rollOf 7 = .ok (.if_icmp .ge 19, 3) := by decide +kernel
theorem dX8_rollOf_10 : decode cX8_rollOf 10 = .ok (.aload_n 0, 1) := by decide +kernel
theorem dX8_rollOf_11 : decode cX8_rollOf 11 = .ok (.bipush 30, 2) := by decide +kernel
theorem dX8_rollOf_13 : decode cX8_rollOf 13 = .ok (.aload_n 0, 1) := by decide +kernel
theorem dX8_rollOf_14 : decode cX8_rollOf 14 = .ok (.bipush 53, 2) := by decide +kernel
theorem dX8_rollOf_16 : decode cX8_rollOf 16 = .ok (.iload_n 1, 1) := by decide +kernel
theorem dX8_rollOf_17 : decode cX8_rollOf 17 = .ok (.iadd, 1) := by decide +kernel
theorem dX8_rollOf_18 : decode cX8_rollOf 18 = .ok (.iaload, 1) := by decide +kernel
theorem dX8_rollOf_19 : decode cX8_rollOf 19 = .ok (.iadd, 1) := by decide +kernel
theorem dX8_rollOf_20 : decode cX8_rollOf 20 = .ok (.iload_n 2, 1) := by decide +kernel
theorem dX8_rollOf_21 : decode cX8_rollOf 21 = .ok (.iadd, 1) := by decide +kernel
theorem dX8_rollOf_22 : decode cX8_rollOf 22 = .ok (.iaload, 1) := by decide +kernel
theorem dX8_rollOf_23 : decode cX8_rollOf 23 = .ok (.goto 4, 3) := by decide +kernel
theorem dX8_rollOf_26 : decode cX8_rollOf 26 = .ok (.iconst 0, 1) := by decide +kernel
theorem dX8_rollOf_27 : decode cX8_rollOf 27 = .ok (.ireturn, 1) := by decide +kernel
set_option maxRecDepth 20000 in
theorem ggX8_markOf_X8_rollOf : GoodIn wsX8_markOf wsX8_rollOf := goodIn_r _ [4] (by decide +kernel) (by decide +kernel)
set_option maxRecDepth 20000 in
theorem gX8_markOf_X8_rollOf : GoodIn wsX8_markOf (va_wsS RX8 89 yX8_rollOf wsX8_rollOf) := goodIn_app (goodIn_of _ (by decide +kernel)) ggX8_markOf_X8_rollOf
theorem dX8_markOf_0 : decode cX8_markOf 0 = .ok (.aload_n 0, 1) := by decide +kernel
theorem dX8_markOf_1 : decode cX8_markOf 1 = .ok (.iload_n 1, 1) := by decide +kernel
theorem dX8_markOf_2 : decode cX8_markOf 2 = .ok (.iconst 0, 1) := by decide +kernel
theorem dX8_markOf_3 : decode cX8_markOf 3 = .ok (.invokestatic 89, 3) := by decide +kernel
theorem dX8_markOf_6 : decode cX8_markOf 6 = .ok (.bipush 10, 2) := by decide +kernel
theorem dX8_markOf_8 : decode cX8_markOf 8 = .ok (.if_icmp .ne 7, 3) := by decide +kernel
theorem dX8_markOf_11 : decode cX8_markOf 11 = .ok (.iconst 1, 1) := by decide +kernel
theorem dX8_markOf_12 : decode cX8_markOf 12 = .ok (.goto 26, 3) := by decide +kernel
theorem dX8_markOf_15 : decode cX8_markOf 15 = .ok (.aload_n 0, 1) := by decide +kernel
theorem dX8_markOf_16 : decode cX8_markOf 16 = .ok (.iload_n 1, 1) := by decide +kernel
theorem dX8_markOf_17 : decode cX8_markOf 17 = .ok (.iconst 0, 1) := by decide +kernel
theorem dX8_markOf_18 : decode cX8_markOf 18 = .ok (.invokestatic 89, 3) := by decide +kernel
theorem dX8_markOf_21 : decode cX8_markOf 21 = .ok (.aload_n 0, 1) := by decide +kernel
theorem dX8_markOf_22 : decode cX8_markOf 22 = .ok (.iload_n 1, 1) := by decide +kernel
theorem dX8_markOf_23 : decode cX8_markOf 23 = .ok (.iconst 1, 1) := by decide +kernel
theorem dX8_markOf_24 : decode cX8_markOf 24 = .ok (.invokestatic 89, 3) := by decide +kernel
theorem dX8_markOf_27 : decode cX8_markOf 27 = .ok (.iadd, 1) := by decide +kernel
theorem dX8_markOf_28 : decode cX8_markOf 28 = .ok (.bipush 10, 2) := by decide +kernel
theorem dX8_markOf_30 : decode cX8_markOf 30 = .ok (.if_icmp .ne 7, 3) := by decide +kernel
theorem dX8_markOf_33 : decode cX8_markOf 33 = .ok (.iconst 2, 1) := by decide +kernel
theorem dX8_markOf_34 : decode cX8_markOf 34 = .ok (.goto 4, 3) := by decide +kernel
theorem dX8_markOf_37 : decode cX8_markOf 37 = .ok (.iconst 0, 1) := by decide +kernel
theorem dX8_markOf_38 : decode cX8_markOf 38 = .ok (.ireturn, 1) := by decide +kernel
theorem dX8_later_0 : decode cX8_later 0 = .ok (.iload_n 1, 1) := by decide +kernel
theorem dX8_later_1 : decode cX8_later 1 = .ok (.aload_n 0, 1) := by decide +kernel
theorem dX8_later_2 : decode cX8_later 2 = .ok (.bipush 51, 2) := by decide +kernel
theorem dX8_later_4 : decode cX8_later 4 = .ok (.iaload, 1) := by decide +kernel
theorem dX8_later_5 : decode cX8_later 5 = .ok (.if_icmp .ge 12, 3) := by decide +kernel
theorem dX8_later_8 : decode cX8_later 8 = .ok (.aload_n 0, 1) := by decide +kernel
theorem dX8_later_9 : decode cX8_later 9 = .ok (.bipush 30, 2) := by decide +kernel
theorem dX8_later_11 : decode cX8_later 11 = .ok (.iload_n 1, 1) := by decide +kernel
theorem dX8_later_12 : decode cX8_later 12 = .ok (.iadd, 1) := by decide +kernel
theorem dX8_later_13 : decode cX8_later 13 = .ok (.iaload, 1) := by decide +kernel
theorem dX8_later_14 : decode cX8_later 14 = .ok (.goto 4, 3) := by decide +kernel
theorem dX8_later_17 : decode cX8_later 17 = .ok (.iconst 0, 1) := by decide +kernel
theorem dX8_later_18 : decode cX8_later 18 = .ok (.ireturn, 1) := by decide +kernel
set_option maxRecDepth 20000 in
theorem ggX8_pointsOf_X8_rollOf : GoodIn wsX8_pointsOf wsX8_rollOf := goodIn_r _ [4] (by decide +kernel) (by decide +kernel)
set_option maxRecDepth 20000 in
theorem gX8_pointsOf_X8_rollOf : GoodIn wsX8_pointsOf (va_wsS RX8 89 yX8_rollOf wsX8_rollOf) := goodIn_app (goodIn_of _ (by decide +kernel)) ggX8_pointsOf_X8_rollOf
set_option maxRecDepth 20000 in
theorem ggX8_pointsOf_X8_markOf : GoodIn wsX8_pointsOf wsX8_markOf := goodIn_r _ [7, 1, 2, 3, 4] (by decide +kernel) (by decide +kernel)
set_option maxRecDepth 20000 in
theorem gX8_pointsOf_X8_markOf : GoodIn wsX8_pointsOf (va_wsS RX8 92 yX8_markOf wsX8_markOf) := goodIn_app (goodIn_of _ (by decide +kernel)) ggX8_pointsOf_X8_markOf
set_option maxRecDepth 20000 in
theorem ggX8_pointsOf_X8_later : GoodIn wsX8_pointsOf wsX8_later := goodIn_r _ [10] (by decide +kernel) (by decide +kernel)
set_option maxRecDepth 20000 in
theorem gX8_pointsOf_X8_later : GoodIn wsX8_pointsOf (va_wsS RX8 95 yX8_later wsX8_later) := goodIn_app (goodIn_of _ (by decide +kernel)) ggX8_pointsOf_X8_later
theorem dX8_pointsOf_0 : decode cX8_pointsOf 0 = .ok (.aload_n 0, 1) := by decide +kernel
theorem dX8_pointsOf_1 : decode cX8_pointsOf 1 = .ok (.iload_n 1, 1) := by decide +kernel
theorem dX8_pointsOf_2 : decode cX8_pointsOf 2 = .ok (.iconst 0, 1) := by decide +kernel
theorem dX8_pointsOf_3 : decode cX8_pointsOf 3 = .ok (.invokestatic 89, 3) := by decide +kernel
theorem dX8_pointsOf_6 : decode cX8_pointsOf 6 = .ok (.aload_n 0, 1) := by decide +kernel
theorem dX8_pointsOf_7 : decode cX8_pointsOf 7 = .ok (.iload_n 1, 1) := by decide +kernel
theorem dX8_pointsOf_8 : decode cX8_pointsOf 8 = .ok (.iconst 1, 1) := by decide +kernel
theorem dX8_pointsOf_9 : decode cX8_pointsOf 9 = .ok (.invokestatic 89, 3) := by decide +kernel
theorem dX8_pointsOf_12 : decode cX8_pointsOf 12 = .ok (.iadd, 1) := by decide +kernel
theorem dX8_pointsOf_13 : decode cX8_pointsOf 13 = .ok (.aload_n 0, 1) := by decide +kernel
theorem dX8_pointsOf_14 : decode cX8_pointsOf 14 = .ok (.iload_n 1, 1) := by decide +kernel
theorem dX8_pointsOf_15 : decode cX8_pointsOf 15 = .ok (.iconst 2, 1) := by decide +kernel
theorem dX8_pointsOf_16 : decode cX8_pointsOf 16 = .ok (.invokestatic 89, 3) := by decide +kernel
theorem dX8_pointsOf_19 : decode cX8_pointsOf 19 = .ok (.iadd, 1) := by decide +kernel
theorem dX8_pointsOf_20 : decode cX8_pointsOf 20 = .ok (.istore_n 2, 1) := by decide +kernel
theorem dX8_pointsOf_21 : decode cX8_pointsOf 21 = .ok (.aload_n 0, 1) := by decide +kernel
theorem dX8_pointsOf_22 : decode cX8_pointsOf 22 = .ok (.iload_n 1, 1) := by decide +kernel
theorem dX8_pointsOf_23 : decode cX8_pointsOf 23 = .ok (.invokestatic 92, 3) := by decide +kernel
theorem dX8_pointsOf_26 : decode cX8_pointsOf 26 = .ok (.istore_n 3, 1) := by decide +kernel
theorem dX8_pointsOf_27 : decode cX8_pointsOf 27 = .ok (.aload_n 0, 1) := by decide +kernel
theorem dX8_pointsOf_28 : decode cX8_pointsOf 28 = .ok (.bipush 53, 2) := by decide +kernel
theorem dX8_pointsOf_30 : decode cX8_pointsOf 30 = .ok (.iload_n 1, 1) := by decide +kernel
theorem dX8_pointsOf_31 : decode cX8_pointsOf 31 = .ok (.iadd, 1) := by decide +kernel
theorem dX8_pointsOf_32 : decode cX8_pointsOf 32 = .ok (.iaload, 1) := by decide +kernel
theorem dX8_pointsOf_33 : decode cX8_pointsOf 33 = .ok (.aload_n 0, 1) := by decide +kernel
theorem dX8_pointsOf_34 : decode cX8_pointsOf 34 = .ok (.bipush 63, 2) := by decide +kernel
theorem dX8_pointsOf_36 : decode cX8_pointsOf 36 = .ok (.iload_n 1, 1) := by decide +kernel
theorem dX8_pointsOf_37 : decode cX8_pointsOf 37 = .ok (.iadd, 1) := by decide +kernel
theorem dX8_pointsOf_38 : decode cX8_pointsOf 38 = .ok (.iaload, 1) := by decide +kernel
theorem dX8_pointsOf_39 : decode cX8_pointsOf 39 = .ok (.iadd, 1) := by decide +kernel
theorem dX8_pointsOf_40 : decode cX8_pointsOf 40 = .ok (.istore 4, 2) := by decide +kernel
theorem dX8_pointsOf_42 : decode cX8_pointsOf 42 = .ok (.iload_n 1, 1) := by decide +kernel
theorem dX8_pointsOf_43 : decode cX8_pointsOf 43 = .ok (.bipush 9, 2) := by decide +kernel
theorem dX8_pointsOf_45 : decode cX8_pointsOf 45 = .ok (.if_icmp .ge 34, 3) := by decide +kernel
theorem dX8_pointsOf_48 : decode cX8_pointsOf 48 = .ok (.iload_n 3, 1) := by decide +kernel
theorem dX8_pointsOf_49 : decode cX8_pointsOf 49 = .ok (.ifCond .le 30, 3) := by decide +kernel
theorem dX8_pointsOf_52 : decode cX8_pointsOf 52 = .ok (.iload_n 2, 1) := by decide +kernel
theorem dX8_pointsOf_53 : decode cX8_pointsOf 53 = .ok (.aload_n 0, 1) := by decide +kernel
theorem dX8_pointsOf_54 : decode cX8_pointsOf 54 = .ok (.iload 4, 2) := by decide +kernel
theorem dX8_pointsOf_56 : decode cX8_pointsOf 56 = .ok (.invokestatic 95, 3) := by decide +kernel
theorem dX8_pointsOf_59 : decode cX8_pointsOf 59 = .ok (.iload_n 3, 1) := by decide +kernel
theorem dX8_pointsOf_60 : decode cX8_pointsOf 60 = .ok (.iconst 1, 1) := by decide +kernel
theorem dX8_pointsOf_61 : decode cX8_pointsOf 61 = .ok (.if_icmp .ne 14, 3) := by decide +kernel
theorem dX8_pointsOf_64 : decode cX8_pointsOf 64 = .ok (.aload_n 0, 1) := by decide +kernel
theorem dX8_pointsOf_65 : decode cX8_pointsOf 65 = .ok (.iload 4, 2) := by decide +kernel
theorem dX8_pointsOf_67 : decode cX8_pointsOf 67 = .ok (.iconst 1, 1) := by decide +kernel
theorem dX8_pointsOf_68 : decode cX8_pointsOf 68 = .ok (.iadd, 1) := by decide +kernel
theorem dX8_pointsOf_69 : decode cX8_pointsOf 69 = .ok (.invokestatic 95, 3) := by decide +kernel
theorem dX8_pointsOf_72 : decode cX8_pointsOf 72 = .ok (.goto 4, 3) := by decide +kernel
theorem dX8_pointsOf_75 : decode cX8_pointsOf 75 = .ok (.iconst 0, 1) := by decide +kernel
theorem dX8_pointsOf_76 : decode cX8_pointsOf 76 = .ok (.iadd, 1) := by decide +kernel
theorem dX8_pointsOf_77 : decode cX8_pointsOf 77 = .ok (.iadd, 1) := by decide +kernel
theorem dX8_pointsOf_78 : decode cX8_pointsOf 78 = .ok (.istore_n 2, 1) := by decide +kernel
theorem dX8_pointsOf_79 : decode cX8_pointsOf 79 = .ok (.iload_n 2, 1) := by decide +kernel
theorem dX8_pointsOf_80 : decode cX8_pointsOf 80 = .ok (.ireturn, 1) := by decide +kernel
set_option maxRecDepth 20000 in
theorem ggX8_points_X8_pointsOf : GoodIn wsX8_points wsX8_pointsOf := goodIn_r _ [4, 5, 6, 3, 7, 8, 9, 10, 11, 12, 13] (by decide +kernel) (by decide +kernel)
set_option maxRecDepth 20000 in
theorem gX8_points_X8_pointsOf : GoodIn wsX8_points (va_wsS RX8 98 yX8_pointsOf wsX8_pointsOf) := goodIn_app (goodIn_of _ (by decide +kernel)) ggX8_points_X8_pointsOf
theorem dX8_points_0 : decode cX8_points 0 = .ok (.iconst 0, 1) := by decide +kernel
theorem dX8_points_1 : decode cX8_points 1 = .ok (.istore_n 1, 1) := by decide +kernel
theorem dX8_points_2 : decode cX8_points 2 = .ok (.iconst 0, 1) := by decide +kernel
theorem dX8_points_3 : decode cX8_points 3 = .ok (.istore_n 2, 1) := by decide +kernel
theorem dX8_points_4 : decode cX8_points 4 = .ok (.iload_n 2, 1) := by decide +kernel
theorem dX8_points_5 : decode cX8_points 5 = .ok (.bipush 10, 2) := by decide +kernel
theorem dX8_points_7 : decode cX8_points 7 = .ok (.if_icmp .ge 17, 3) := by decide +kernel
theorem dX8_points_10 : decode cX8_points 10 = .ok (.iload_n 1, 1) := by decide +kernel
theorem dX8_points_11 : decode cX8_points 11 = .ok (.aload_n 0, 1) := by decide +kernel
theorem dX8_points_12 : decode cX8_points 12 = .ok (.iload_n 2, 1) := by decide +kernel
theorem dX8_points_13 : decode cX8_points 13 = .ok (.invokestatic 98, 3) := by decide +kernel
theorem dX8_points_16 : decode cX8_points 16 = .ok (.iadd, 1) := by decide +kernel
theorem dX8_points_17 : decode cX8_points 17 = .ok (.istore_n 1, 1) := by decide +kernel
theorem dX8_points_18 : decode cX8_points 18 = .ok (.iinc 2 1, 3) := by decide +kernel
theorem dX8_points_21 : decode cX8_points 21 = .ok (.goto (-17), 3) := by decide +kernel
theorem dX8_points_24 : decode cX8_points 24 = .ok (.iload_n 1, 1) := by decide +kernel
theorem dX8_points_25 : decode cX8_points 25 = .ok (.ireturn, 1) := by decide +kernel
set_option maxRecDepth 20000 in
theorem ggX8_goOn_X8_markOf : GoodIn wsX8_goOn wsX8_markOf := goodIn_r _ [4, 5, 6, 3, 7] (by decide +kernel) (by decide +kernel)
set_option maxRecDepth 20000 in
theorem gX8_goOn_X8_markOf : GoodIn wsX8_goOn (va_wsS RX8 92 yX8_markOf wsX8_markOf) := goodIn_app (goodIn_of _ (by decide +kernel)) ggX8_goOn_X8_markOf
set_option maxRecDepth 20000 in
theorem ggX8_goOn_X8_rack : GoodIn wsX8_goOn wsX8_rack := goodIn_r _ [10] (by decide +kernel) (by decide +kernel)
set_option maxRecDepth 20000 in
theorem gX8_goOn_X8_rack : GoodIn wsX8_goOn (va_wsS RX8 43 yX8_rack wsX8_rack) := goodIn_app (goodIn_of _ (by decide +kernel)) ggX8_goOn_X8_rack
set_option maxRecDepth 20000 in
theorem ggX8_goOn_X8_setAgain : GoodIn wsX8_goOn wsX8_setAgain := goodIn_r _ [13, 14, 15, 3, 16] (by decide +kernel) (by decide +kernel)
set_option maxRecDepth 20000 in
theorem gX8_goOn_X8_setAgain : GoodIn wsX8_goOn (va_wsS RX8 101 yX8_setAgain wsX8_setAgain) := goodIn_app (goodIn_of _ (by decide +kernel)) ggX8_goOn_X8_setAgain
set_option maxRecDepth 20000 in
theorem ggX8_goOn_X8_rollOf : GoodIn wsX8_goOn wsX8_rollOf := goodIn_r _ [7] (by decide +kernel) (by decide +kernel)
set_option maxRecDepth 20000 in
theorem gX8_goOn_X8_rollOf : GoodIn wsX8_goOn (va_wsS RX8 89 yX8_rollOf wsX8_rollOf) := goodIn_app (goodIn_of _ (by decide +kernel)) ggX8_goOn_X8_rollOf
theorem dX8_goOn_0 : decode cX8_goOn 0 = .ok (.aload_n 0, 1) := by decide +kernel
theorem dX8_goOn_1 : decode cX8_goOn 1 = .ok (.bipush 52, 2) := by decide +kernel
theorem dX8_goOn_3 : decode cX8_goOn 3 = .ok (.iaload, 1) := by decide +kernel
theorem dX8_goOn_4 : decode cX8_goOn 4 = .ok (.istore_n 1, 1) := by decide +kernel
theorem dX8_goOn_5 : decode cX8_goOn 5 = .ok (.aload_n 0, 1) := by decide +kernel
theorem dX8_goOn_6 : decode cX8_goOn 6 = .ok (.bipush 63, 2) := by decide +kernel
theorem dX8_goOn_8 : decode cX8_goOn 8 = .ok (.iload_n 1, 1) := by decide +kernel
theorem dX8_goOn_9 : decode cX8_goOn 9 = .ok (.iadd, 1) := by decide +kernel
theorem dX8_goOn_10 : decode cX8_goOn 10 = .ok (.iaload, 1) := by decide +kernel
theorem dX8_goOn_11 : decode cX8_goOn 11 = .ok (.istore_n 2, 1) := by decide +kernel
theorem dX8_goOn_12 : decode cX8_goOn 12 = .ok (.aload_n 0, 1) := by decide +kernel
theorem dX8_goOn_13 : decode cX8_goOn 13 = .ok (.iload_n 1, 1) := by decide +kernel
theorem dX8_goOn_14 : decode cX8_goOn 14 = .ok (.invokestatic 92, 3) := by decide +kernel
theorem dX8_goOn_17 : decode cX8_goOn 17 = .ok (.istore_n 3, 1) := by decide +kernel
theorem dX8_goOn_18 : decode cX8_goOn 18 = .ok (.iload_n 1, 1) := by decide +kernel
theorem dX8_goOn_19 : decode cX8_goOn 19 = .ok (.bipush 9, 2) := by decide +kernel
theorem dX8_goOn_21 : decode cX8_goOn 21 = .ok (.if_icmp .ge 48, 3) := by decide +kernel
theorem dX8_goOn_24 : decode cX8_goOn 24 = .ok (.iload_n 2, 1) := by decide +kernel
theorem dX8_goOn_25 : decode cX8_goOn 25 = .ok (.iconst 2, 1) := by decide +kernel
theorem dX8_goOn_26 : decode cX8_goOn 26 = .ok (.if_icmp .eq 8, 3) := by decide +kernel
theorem dX8_goOn_29 : decode cX8_goOn 29 = .ok (.iload_n 3, 1) := by decide +kernel
theorem dX8_goOn_30 : decode cX8_goOn 30 = .ok (.iconst 1, 1) := by decide +kernel
theorem dX8_goOn_31 : decode cX8_goOn 31 = .ok (.if_icmp .ne 31, 3) := by decide +kernel
theorem dX8_goOn_34 : decode cX8_goOn 34 = .ok (.aload_n 0, 1) := by decide +kernel
theorem dX8_goOn_35 : decode cX8_goOn 35 = .ok (.bipush 52, 2) := by decide +kernel
theorem dX8_goOn_37 : decode cX8_goOn 37 = .ok (.dup2, 1) := by decide +kernel
theorem dX8_goOn_38 : decode cX8_goOn 38 = .ok (.iaload, 1) := by decide +kernel
theorem dX8_goOn_39 : decode cX8_goOn 39 = .ok (.iconst 1, 1) := by decide +kernel
theorem dX8_goOn_40 : decode cX8_goOn 40 = .ok (.iadd, 1) := by decide +kernel
theorem dX8_goOn_41 : decode cX8_goOn 41 = .ok (.iastore, 1) := by decide +kernel
theorem dX8_goOn_42 : decode cX8_goOn 42 = .ok (.aload_n 0, 1) := by decide +kernel
theorem dX8_goOn_43 : decode cX8_goOn 43 = .ok (.bipush 53, 2) := by decide +kernel
theorem dX8_goOn_45 : decode cX8_goOn 45 = .ok (.aload_n 0, 1) := by decide +kernel
theorem dX8_goOn_46 : decode cX8_goOn 46 = .ok (.bipush 52, 2) := by decide +kernel
theorem dX8_goOn_48 : decode cX8_goOn 48 = .ok (.iaload, 1) := by decide +kernel
theorem dX8_goOn_49 : decode cX8_goOn 49 = .ok (.iadd, 1) := by decide +kernel
theorem dX8_goOn_50 : decode cX8_goOn 50 = .ok (.aload_n 0, 1) := by decide +kernel
theorem dX8_goOn_51 : decode cX8_goOn 51 = .ok (.bipush 51, 2) := by decide +kernel
theorem dX8_goOn_53 : decode cX8_goOn 53 = .ok (.iaload, 1) := by decide +kernel
theorem dX8_goOn_54 : decode cX8_goOn 54 = .ok (.iastore, 1) := by decide +kernel
theorem dX8_goOn_55 : decode cX8_goOn 55 = .ok (.aload_n 0, 1) := by decide +kernel
theorem dX8_goOn_56 : decode cX8_goOn 56 = .ok (.invokestatic 43, 3) := by decide +kernel
theorem dX8_goOn_59 : decode cX8_goOn 59 = .ok (.goto 75, 3) := by decide +kernel
theorem dX8_goOn_62 : decode cX8_goOn 62 = .ok (.aload_n 0, 1) := by decide +kernel
theorem dX8_goOn_63 : decode cX8_goOn 63 = .ok (.invokestatic 101, 3) := by decide +kernel
theorem dX8_goOn_66 : decode cX8_goOn 66 = .ok (.goto 68, 3) := by decide +kernel
theorem dX8_goOn_69 : decode cX8_goOn 69 = .ok (.iload_n 2, 1) := by decide +kernel
theorem dX8_goOn_70 : decode cX8_goOn 70 = .ok (.iconst 3, 1) := by decide +kernel
theorem dX8_goOn_71 : decode cX8_goOn 71 = .ok (.if_icmp .eq 12, 3) := by decide +kernel
theorem dX8_goOn_74 : decode cX8_goOn 74 = .ok (.iload_n 2, 1) := by decide +kernel
theorem dX8_goOn_75 : decode cX8_goOn 75 = .ok (.iconst 2, 1) := by decide +kernel
theorem dX8_goOn_76 : decode cX8_goOn 76 = .ok (.if_icmp .ne 18, 3) := by decide +kernel
theorem dX8_goOn_79 : decode cX8_goOn 79 = .ok (.iload_n 3, 1) := by decide +kernel
theorem dX8_goOn_80 : decode cX8_goOn 80 = .ok (.ifCond .ne 14, 3) := by decide +kernel
theorem dX8_goOn_83 : decode cX8_goOn 83 = .ok (.aload_n 0, 1) := by decide +kernel
theorem dX8_goOn_84 : decode cX8_goOn 84 = .ok (.bipush 52, 2) := by decide +kernel
theorem dX8_goOn_86 : decode cX8_goOn 86 = .ok (.dup2, 1) := by decide +kernel
theorem dX8_goOn_87 : decode cX8_goOn 87 = .ok (.iaload, 1) := by decide +kernel
theorem dX8_goOn_88 : decode cX8_goOn 88 = .ok (.iconst 1, 1) := by decide +kernel
theorem dX8_goOn_89 : decode cX8_goOn 89 = .ok (.iadd, 1) := by decide +kernel
theorem dX8_goOn_90 : decode cX8_goOn 90 = .ok (.iastore, 1) := by decide +kernel
theorem dX8_goOn_91 : decode cX8_goOn 91 = .ok (.goto 43, 3) := by decide +kernel
theorem dX8_goOn_94 : decode cX8_goOn 94 = .ok (.iload_n 2, 1) := by decide +kernel
theorem dX8_goOn_95 : decode cX8_goOn 95 = .ok (.iconst 1, 1) := by decide +kernel
theorem dX8_goOn_96 : decode cX8_goOn 96 = .ok (.if_icmp .ne 11, 3) := by decide +kernel
theorem dX8_goOn_99 : decode cX8_goOn 99 = .ok (.iload_n 3, 1) := by decide +kernel
theorem dX8_goOn_100 : decode cX8_goOn 100 = .ok (.iconst 1, 1) := by decide +kernel
theorem dX8_goOn_101 : decode cX8_goOn 101 = .ok (.if_icmp .ne 29, 3) := by decide +kernel
theorem dX8_goOn_104 : decode cX8_goOn 104 = .ok (.goto 19, 3) := by decide +kernel
theorem dX8_goOn_107 : decode cX8_goOn 107 = .ok (.iload_n 3, 1) := by decide +kernel
theorem dX8_goOn_108 : decode cX8_goOn 108 = .ok (.iconst 2, 1) := by decide +kernel
theorem dX8_goOn_109 : decode cX8_goOn 109 = .ok (.if_icmp .eq 14, 3) := by decide +kernel
theorem dX8_goOn_112 : decode cX8_goOn 112 = .ok (.aload_n 0, 1) := by decide +kernel
theorem dX8_goOn_113 : decode cX8_goOn 113 = .ok (.iload_n 1, 1) := by decide +kernel
theorem dX8_goOn_114 : decode cX8_goOn 114 = .ok (.iconst 1, 1) := by decide +kernel
theorem dX8_goOn_115 : decode cX8_goOn 115 = .ok (.invokestatic 89, 3) := by decide +kernel
theorem dX8_goOn_118 : decode cX8_goOn 118 = .ok (.bipush 10, 2) := by decide +kernel
theorem dX8_goOn_120 : decode cX8_goOn 120 = .ok (.if_icmp .ne 10, 3) := by decide +kernel
theorem dX8_goOn_123 : decode cX8_goOn 123 = .ok (.aload_n 0, 1) := by decide +kernel
theorem dX8_goOn_124 : decode cX8_goOn 124 = .ok (.invokestatic 43, 3) := by decide +kernel
theorem dX8_goOn_127 : decode cX8_goOn 127 = .ok (.goto 7, 3) := by decide +kernel
theorem dX8_goOn_130 : decode cX8_goOn 130 = .ok (.aload_n 0, 1) := by decide +kernel
theorem dX8_goOn_131 : decode cX8_goOn 131 = .ok (.invokestatic 101, 3) := by decide +kernel
theorem dX8_goOn_134 : decode cX8_goOn 134 = .ok (.return_, 1) := by decide +kernel
set_option maxRecDepth 20000 in
theorem ggX8_rollOn_X8_toldOf : GoodIn wsX8_rollOn wsX8_toldOf := goodIn_r _ [5] (by decide +kernel) (by decide +kernel)
set_option maxRecDepth 20000 in
theorem gX8_rollOn_X8_toldOf : GoodIn wsX8_rollOn (va_wsS RX8 104 yX8_toldOf wsX8_toldOf) := goodIn_app (goodIn_of _ (by decide +kernel)) ggX8_rollOn_X8_toldOf
set_option maxRecDepth 20000 in
theorem ggX8_rollOn_X8_ball : GoodIn wsX8_rollOn wsX8_ball := goodIn_r _ [9, 10, 11, 12, 4, 13, 14, 15, 16, 17, 18, 19, 20, 21, 22, 23, 24, 25, 26, 27, 28, 29, 30, 31, 32, 33, 34, 35, 36, 37, 38, 60, 61, 62, 63, 64, 65, 66, 67, 68, 69, 70, 71, 72] (by decide +kernel) (by decide +kernel)
set_option maxRecDepth 20000 in
theorem gX8_rollOn_X8_ball : GoodIn wsX8_rollOn (wsV RX8 108 RX8 yX8_ball wsX8_ball) := goodIn_app (goodIn_of _ (by decide +kernel)) ggX8_rollOn_X8_ball
set_option maxRecDepth 20000 in
theorem ggX8_rollOn_X8_tell : GoodIn wsX8_rollOn wsX8_tell := goodIn_r _ [41] (by decide +kernel) (by decide +kernel)
set_option maxRecDepth 20000 in
theorem gX8_rollOn_X8_tell : GoodIn wsX8_rollOn (va_wsS RX8 112 yX8_tell wsX8_tell) := goodIn_app (goodIn_of _ (by decide +kernel)) ggX8_rollOn_X8_tell
set_option maxRecDepth 20000 in
theorem ggX8_rollOn_X8_goOn : GoodIn wsX8_rollOn wsX8_goOn := goodIn_r _ [44, 45, 46, 4, 47, 48, 49, 50, 51, 52, 53, 54, 55, 56, 57, 58, 59] (by decide +kernel) (by decide +kernel)
set_option maxRecDepth 20000 in
theorem gX8_rollOn_X8_goOn : GoodIn wsX8_rollOn (va_wsS RX8 115 yX8_goOn wsX8_goOn) := goodIn_app (goodIn_of _ (by decide +kernel)) ggX8_rollOn_X8_goOn
theorem dX8_rollOn_0 : decode cX8_rollOn 0 = .ok (.aload_n 1, 1) := by decide +kernel
theorem dX8_rollOn_1 : decode cX8_rollOn 1 = .ok (.invokestatic 104, 3) := by decide +kernel
theorem dX8_rollOn_4 : decode cX8_rollOn 4 = .ok (.istore 5, 2) := by decide +kernel
theorem dX8_rollOn_6 : decode cX8_rollOn 6 = .ok (.iconst 0, 1) := by decide +kernel
theorem dX8_rollOn_7 : decode cX8_rollOn 7 = .ok (.istore 6, 2) := by decide +kernel
theorem dX8_rollOn_9 : decode cX8_rollOn 9 = .ok (.iload 6, 2) := by decide +kernel
theorem dX8_rollOn_11 : decode cX8_rollOn 11 = .ok (.bipush 30, 2) := by decide +kernel
theorem dX8_rollOn_13 : decode cX8_rollOn 13 = .ok (.if_icmp .ge 20, 3) := by decide +kernel
theorem dX8_rollOn_16 : decode cX8_rollOn 16 = .ok (.aload_n 0, 1) := by decide +kernel
theorem dX8_rollOn_17 : decode cX8_rollOn 17 = .ok (.getfield 32, 3) := by decide +kernel
theorem dX8_rollOn_20 : decode cX8_rollOn 20 = .ok (.iload 6, 2) := by decide +kernel
theorem dX8_rollOn_22 : decode cX8_rollOn 22 = .ok (.aload_n 1, 1) := by decide +kernel
theorem dX8_rollOn_23 : decode cX8_rollOn 23 = .ok (.iload 6, 2) := by decide +kernel
theorem dX8_rollOn_25 : decode cX8_rollOn 25 = .ok (.iaload, 1) := by decide +kernel
theorem dX8_rollOn_26 : decode cX8_rollOn 26 = .ok (.iastore, 1) := by decide +kernel
theorem dX8_rollOn_27 : decode cX8_rollOn 27 = .ok (.iinc 6 1, 3) := by decide +kernel
theorem dX8_rollOn_30 : decode cX8_rollOn 30 = .ok (.goto (-21), 3) := by decide +kernel
theorem dX8_rollOn_33 : decode cX8_rollOn 33 = .ok (.aload_n 0, 1) := by decide +kernel
theorem dX8_rollOn_34 : decode cX8_rollOn 34 = .ok (.aload_n 1, 1) := by decide +kernel
theorem dX8_rollOn_35 : decode cX8_rollOn 35 = .ok (.iload_n 2, 1) := by decide +kernel
theorem dX8_rollOn_36 : decode cX8_rollOn 36 = .ok (.iload_n 3, 1) := by decide +kernel
theorem dX8_rollOn_37 : decode cX8_rollOn 37 = .ok (.invokevirtual 108, 3) := by decide +kernel
theorem dX8_rollOn_40 : decode cX8_rollOn 40 = .ok (.aload_n 1, 1) := by decide +kernel
theorem dX8_rollOn_41 : decode cX8_rollOn 41 = .ok (.invokestatic 112, 3) := by decide +kernel
theorem dX8_rollOn_44 : decode cX8_rollOn 44 = .ok (.iload 4, 2) := by decide +kernel
theorem dX8_rollOn_46 : decode cX8_rollOn 46 = .ok (.ifCond .eq 7, 3) := by decide +kernel
theorem dX8_rollOn_49 : decode cX8_rollOn 49 = .ok (.iconst 0, 1) := by decide +kernel
theorem dX8_rollOn_50 : decode cX8_rollOn 50 = .ok (.goto 10, 3) := by decide +kernel
theorem dX8_rollOn_53 : decode cX8_rollOn 53 = .ok (.iload 5, 2) := by decide +kernel
theorem dX8_rollOn_55 : decode cX8_rollOn 55 = .ok (.aload_n 1, 1) := by decide +kernel
theorem dX8_rollOn_56 : decode cX8_rollOn 56 = .ok (.invokestatic 104, 3) := by decide +kernel
theorem dX8_rollOn_59 : decode cX8_rollOn 59 = .ok (.isub, 1) := by decide +kernel
theorem dX8_rollOn_60 : decode cX8_rollOn 60 = .ok (.istore 6, 2) := by decide +kernel
theorem dX8_rollOn_62 : decode cX8_rollOn 62 = .ok (.iconst 0, 1) := by decide +kernel
theorem dX8_rollOn_63 : decode cX8_rollOn 63 = .ok (.istore 7, 2) := by decide +kernel
theorem dX8_rollOn_65 : decode cX8_rollOn 65 = .ok (.iload 7, 2) := by decide +kernel
theorem dX8_rollOn_67 : decode cX8_rollOn 67 = .ok (.bipush 30, 2) := by decide +kernel
theorem dX8_rollOn_69 : decode cX8_rollOn 69 = .ok (.if_icmp .ge 25, 3) := by decide +kernel
theorem dX8_rollOn_72 : decode cX8_rollOn 72 = .ok (.iload 4, 2) := by decide +kernel
theorem dX8_rollOn_74 : decode cX8_rollOn 74 = .ok (.ifCond .eq 20, 3) := by decide +kernel
theorem dX8_rollOn_77 : decode cX8_rollOn 77 = .ok (.aload_n 1, 1) := by decide +kernel
theorem dX8_rollOn_78 : decode cX8_rollOn 78 = .ok (.iload 7, 2) := by decide +kernel
theorem dX8_rollOn_80 : decode cX8_rollOn 80 = .ok (.aload_n 0, 1) := by decide +kernel
theorem dX8_rollOn_81 : decode cX8_rollOn 81 = .ok (.getfield 32, 3) := by decide +kernel
theorem dX8_rollOn_84 : decode cX8_rollOn 84 = .ok (.iload 7, 2) := by decide +kernel
theorem dX8_rollOn_86 : decode cX8_rollOn 86 = .ok (.iaload, 1) := by decide +kernel
theorem dX8_rollOn_87 : decode cX8_rollOn 87 = .ok (.iastore, 1) := by decide +kernel
theorem dX8_rollOn_88 : decode cX8_rollOn 88 = .ok (.iinc 7 1, 3) := by decide +kernel
theorem dX8_rollOn_91 : decode cX8_rollOn 91 = .ok (.goto (-26), 3) := by decide +kernel
theorem dX8_rollOn_94 : decode cX8_rollOn 94 = .ok (.aload_n 1, 1) := by decide +kernel
theorem dX8_rollOn_95 : decode cX8_rollOn 95 = .ok (.bipush 75, 2) := by decide +kernel
theorem dX8_rollOn_97 : decode cX8_rollOn 97 = .ok (.dup2, 1) := by decide +kernel
theorem dX8_rollOn_98 : decode cX8_rollOn 98 = .ok (.iaload, 1) := by decide +kernel
theorem dX8_rollOn_99 : decode cX8_rollOn 99 = .ok (.iload 4, 2) := by decide +kernel
theorem dX8_rollOn_101 : decode cX8_rollOn 101 = .ok (.ifCond .eq 7, 3) := by decide +kernel
theorem dX8_rollOn_104 : decode cX8_rollOn 104 = .ok (.iconst 1, 1) := by decide +kernel
theorem dX8_rollOn_105 : decode cX8_rollOn 105 = .ok (.goto 4, 3) := by decide +kernel
theorem dX8_rollOn_108 : decode cX8_rollOn 108 = .ok (.iconst 0, 1) := by decide +kernel
theorem dX8_rollOn_109 : decode cX8_rollOn 109 = .ok (.iadd, 1) := by decide +kernel
theorem dX8_rollOn_110 : decode cX8_rollOn 110 = .ok (.iastore, 1) := by decide +kernel
theorem dX8_rollOn_111 : decode cX8_rollOn 111 = .ok (.aload_n 1, 1) := by decide +kernel
theorem dX8_rollOn_112 : decode cX8_rollOn 112 = .ok (.bipush 30, 2) := by decide +kernel
theorem dX8_rollOn_114 : decode cX8_rollOn 114 = .ok (.aload_n 1, 1) := by decide +kernel
theorem dX8_rollOn_115 : decode cX8_rollOn 115 = .ok (.bipush 51, 2) := by decide +kernel
theorem dX8_rollOn_117 : decode cX8_rollOn 117 = .ok (.iaload, 1) := by decide +kernel
theorem dX8_rollOn_118 : decode cX8_rollOn 118 = .ok (.iadd, 1) := by decide +kernel
theorem dX8_rollOn_119 : decode cX8_rollOn 119 = .ok (.iload 6, 2) := by decide +kernel
theorem dX8_rollOn_121 : decode cX8_rollOn 121 = .ok (.iastore, 1) := by decide +kernel
theorem dX8_rollOn_122 : decode cX8_rollOn 122 = .ok (.aload_n 1, 1) := by decide +kernel
theorem dX8_rollOn_123 : decode cX8_rollOn 123 = .ok (.bipush 51, 2) := by decide +kernel
theorem dX8_rollOn_125 : decode cX8_rollOn 125 = .ok (.dup2, 1) := by decide +kernel
theorem dX8_rollOn_126 : decode cX8_rollOn 126 = .ok (.iaload, 1) := by decide +kernel
theorem dX8_rollOn_127 : decode cX8_rollOn 127 = .ok (.iconst 1, 1) := by decide +kernel
theorem dX8_rollOn_128 : decode cX8_rollOn 128 = .ok (.iadd, 1) := by decide +kernel
theorem dX8_rollOn_129 : decode cX8_rollOn 129 = .ok (.iastore, 1) := by decide +kernel
theorem dX8_rollOn_130 : decode cX8_rollOn 130 = .ok (.aload_n 1, 1) := by decide +kernel
theorem dX8_rollOn_131 : decode cX8_rollOn 131 = .ok (.bipush 63, 2) := by decide +kernel
theorem dX8_rollOn_133 : decode cX8_rollOn 133 = .ok (.aload_n 1, 1) := by decide +kernel
theorem dX8_rollOn_134 : decode cX8_rollOn 134 = .ok (.bipush 52, 2) := by decide +kernel
theorem dX8_rollOn_136 : decode cX8_rollOn 136 = .ok (.iaload, 1) := by decide +kernel
theorem dX8_rollOn_137 : decode cX8_rollOn 137 = .ok (.iadd, 1) := by decide +kernel
theorem dX8_rollOn_138 : decode cX8_rollOn 138 = .ok (.dup2, 1) := by decide +kernel
theorem dX8_rollOn_139 : decode cX8_rollOn 139 = .ok (.iaload, 1) := by decide +kernel
theorem dX8_rollOn_140 : decode cX8_rollOn 140 = .ok (.iconst 1, 1) := by decide +kernel
theorem dX8_rollOn_141 : decode cX8_rollOn 141 = .ok (.iadd, 1) := by decide +kernel
theorem dX8_rollOn_142 : decode cX8_rollOn 142 = .ok (.iastore, 1) := by decide +kernel
theorem dX8_rollOn_143 : decode cX8_rollOn 143 = .ok (.aload_n 1, 1) := by decide +kernel
theorem dX8_rollOn_144 : decode cX8_rollOn 144 = .ok (.invokestatic 115, 3) := by decide +kernel
theorem dX8_rollOn_147 : decode cX8_rollOn 147 = .ok (.iload 6, 2) := by decide +kernel
theorem dX8_rollOn_149 : decode cX8_rollOn 149 = .ok (.ireturn, 1) := by decide +kernel
theorem dX8_isStopped_0 : decode cX8_isStopped 0 = .ok (.bipush 90, 2) := by decide +kernel
theorem dX8_isStopped_2 : decode cX8_isStopped 2 = .ok (.iload_n 1, 1) := by decide +kernel
theorem dX8_isStopped_3 : decode cX8_isStopped 3 = .ok (.idiv, 1) := by decide +kernel
theorem dX8_isStopped_4 : decode cX8_isStopped 4 = .ok (.aload_n 0, 1) := by decide +kernel
theorem dX8_isStopped_5 : decode cX8_isStopped 5 = .ok (.bipush 76, 2) := by decide +kernel
theorem dX8_isStopped_7 : decode cX8_isStopped 7 = .ok (.iaload, 1) := by decide +kernel
theorem dX8_isStopped_8 : decode cX8_isStopped 8 = .ok (.if_icmp .le 7, 3) := by decide +kernel
theorem dX8_isStopped_11 : decode cX8_isStopped 11 = .ok (.iconst 1, 1) := by decide +kernel
theorem dX8_isStopped_12 : decode cX8_isStopped 12 = .ok (.goto 4, 3) := by decide +kernel
theorem dX8_isStopped_15 : decode cX8_isStopped 15 = .ok (.iconst 0, 1) := by decide +kernel
theorem dX8_isStopped_16 : decode cX8_isStopped 16 = .ok (.ireturn, 1) := by decide +kernel
set_option maxRecDepth 20000 in
theorem ggX8_throwOn_X8_isStopped : GoodIn wsX8_throwOn wsX8_isStopped := goodIn_r _ [4] (by decide +kernel) (by decide +kernel)
set_option maxRecDepth 20000 in
theorem gX8_throwOn_X8_isStopped : GoodIn wsX8_throwOn (va_wsS RX8 118 yX8_isStopped wsX8_isStopped) := goodIn_app (goodIn_of _ (by decide +kernel)) ggX8_throwOn_X8_isStopped
set_option maxRecDepth 20000 in
theorem ggX8_throwOn_X8_rollOn : GoodIn wsX8_throwOn wsX8_rollOn := goodIn_r _ [8, 9, 10, 11, 3, 12, 13, 14, 15, 16, 17, 18, 19, 20, 21, 22, 23, 24, 25, 26, 27, 28, 29, 30, 31, 32, 33, 34, 35, 36, 37, 38, 39, 40, 41, 42, 43, 44, 45, 46, 47, 48, 49, 50, 51, 52, 53, 54, 55, 56, 57, 58, 59, 60, 61, 62, 63, 64, 65, 66, 67, 68, 69, 70, 71, 72, 73, 74, 75, 76, 77, 78, 79] (by decide +kernel) (by decide +kernel)
set_option maxRecDepth 20000 in
theorem gX8_throwOn_X8_rollOn : GoodIn wsX8_throwOn (wsV RX8 121 RX8 yX8_rollOn wsX8_rollOn) := goodIn_app (goodIn_of _ (by decide +kernel)) ggX8_throwOn_X8_rollOn
theorem dX8_throwOn_0 : decode cX8_throwOn 0 = .ok (.aload_n 1, 1) := by decide +kernel
theorem dX8_throwOn_1 : decode cX8_throwOn 1 = .ok (.iload 4, 2) := by decide +kernel
theorem dX8_throwOn_3 : decode cX8_throwOn 3 = .ok (.invokestatic 118, 3) := by decide +kernel
theorem dX8_throwOn_6 : decode cX8_throwOn 6 = .ok (.ifCond .eq 13, 3) := by decide +kernel
theorem dX8_throwOn_9 : decode cX8_throwOn 9 = .ok (.aload_n 1, 1) := by decide +kernel
theorem dX8_throwOn_10 : decode cX8_throwOn 10 = .ok (.bipush 73, 2) := by decide +kernel
theorem dX8_throwOn_12 : decode cX8_throwOn 12 = .ok (.dup2, 1) := by decide +kernel
theorem dX8_throwOn_13 : decode cX8_throwOn 13 = .ok (.iaload, 1) := by decide +kernel
theorem dX8_throwOn_14 : decode cX8_throwOn 14 = .ok (.iconst 1, 1) := by decide +kernel
theorem dX8_throwOn_15 : decode cX8_throwOn 15 = .ok (.iadd, 1) := by decide +kernel
theorem dX8_throwOn_16 : decode cX8_throwOn 16 = .ok (.iastore, 1) := by decide +kernel
theorem dX8_throwOn_17 : decode cX8_throwOn 17 = .ok (.iconst (-1), 1) := by decide +kernel
theorem dX8_throwOn_18 : decode cX8_throwOn 18 = .ok (.ireturn, 1) := by decide +kernel
theorem dX8_throwOn_19 : decode cX8_throwOn 19 = .ok (.aload_n 0, 1) := by decide +kernel
theorem dX8_throwOn_20 : decode cX8_throwOn 20 = .ok (.aload_n 1, 1) := by decide +kernel
theorem dX8_throwOn_21 : decode cX8_throwOn 21 = .ok (.iload_n 2, 1) := by decide +kernel
theorem dX8_throwOn_22 : decode cX8_throwOn 22 = .ok (.iload_n 3, 1) := by decide +kernel
theorem dX8_throwOn_23 : decode cX8_throwOn 23 = .ok (.iload 5, 2) := by decide +kernel
theorem dX8_throwOn_25 : decode cX8_throwOn 25 = .ok (.invokevirtual 121, 3) := by decide +kernel
theorem dX8_throwOn_28 : decode cX8_throwOn 28 = .ok (.ireturn, 1) := by decide +kernel
set_option maxRecDepth 20000 in
theorem ggX8_beginOn_X8_points : GoodIn wsX8_beginOn wsX8_points := goodIn_r _ [4, 5, 6, 3, 7, 8, 9, 10, 11, 12, 13, 14, 15, 16] (by decide +kernel) (by decide +kernel)
set_option maxRecDepth 20000 in
theorem gX8_beginOn_X8_points : GoodIn wsX8_beginOn (va_wsS RX8 125 yX8_points wsX8_points) := goodIn_app (goodIn_of _ (by decide +kernel)) ggX8_beginOn_X8_points
set_option maxRecDepth 20000 in
theorem ggX8_beginOn_X8_rack : GoodIn wsX8_beginOn wsX8_rack := goodIn_r _ [19] (by decide +kernel) (by decide +kernel)
set_option maxRecDepth 20000 in
theorem gX8_beginOn_X8_rack : GoodIn wsX8_beginOn (va_wsS RX8 43 yX8_rack wsX8_rack) := goodIn_app (goodIn_of _ (by decide +kernel)) ggX8_beginOn_X8_rack
theorem dX8_beginOn_0 : decode cX8_beginOn 0 = .ok (.aload_n 0, 1) := by decide +kernel
theorem dX8_beginOn_1 : decode cX8_beginOn 1 = .ok (.invokestatic 125, 3) := by decide +kernel
theorem dX8_beginOn_4 : decode cX8_beginOn 4 = .ok (.istore_n 1, 1) := by decide +kernel
theorem dX8_beginOn_5 : decode cX8_beginOn 5 = .ok (.bipush 30, 2) := by decide +kernel
theorem dX8_beginOn_7 : decode cX8_beginOn 7 = .ok (.istore_n 2, 1) := by decide +kernel
theorem dX8_beginOn_8 : decode cX8_beginOn 8 = .ok (.iload_n 2, 1) := by decide +kernel
theorem dX8_beginOn_9 : decode cX8_beginOn 9 = .ok (.bipush 73, 2) := by decide +kernel
theorem dX8_beginOn_11 : decode cX8_beginOn 11 = .ok (.if_icmp .ge 13, 3) := by decide +kernel
theorem dX8_beginOn_14 : decode cX8_beginOn 14 = .ok (.aload_n 0, 1) := by decide +kernel
theorem dX8_beginOn_15 : decode cX8_beginOn 15 = .ok (.iload_n 2, 1) := by decide +kernel
theorem dX8_beginOn_16 : decode cX8_beginOn 16 = .ok (.iconst 0, 1) := by decide +kernel
theorem dX8_beginOn_17 : decode cX8_beginOn 17 = .ok (.iastore, 1) := by decide +kernel
theorem dX8_beginOn_18 : decode cX8_beginOn 18 = .ok (.iinc 2 1, 3) := by decide +kernel
theorem dX8_beginOn_21 : decode cX8_beginOn 21 = .ok (.goto (-13), 3) := by decide +kernel
theorem dX8_beginOn_24 : decode cX8_beginOn 24 = .ok (.aload_n 0, 1) := by decide +kernel
theorem dX8_beginOn_25 : decode cX8_beginOn 25 = .ok (.invokestatic 43, 3) := by decide +kernel
theorem dX8_beginOn_28 : decode cX8_beginOn 28 = .ok (.iload_n 1, 1) := by decide +kernel
theorem dX8_beginOn_29 : decode cX8_beginOn 29 = .ok (.ireturn, 1) := by decide +kernel
set_option maxRecDepth 20000 in
theorem ggX8_isSetting_X8_in : GoodIn wsX8_isSetting wsX8_in := goodIn_r _ [6] (by decide +kernel) (by decide +kernel)
set_option maxRecDepth 20000 in
theorem gX8_isSetting_X8_in : GoodIn wsX8_isSetting (va_wsS RX8 48 yX8_in wsX8_in) := goodIn_app (goodIn_of _ (by decide +kernel)) ggX8_isSetting_X8_in
theorem dX8_isSetting_0 : decode cX8_isSetting 0 = .ok (.iload_n 0, 1) := by decide +kernel
theorem dX8_isSetting_1 : decode cX8_isSetting 1 = .ok (.ifCond .ne 17, 3) := by decide +kernel
theorem dX8_isSetting_4 : decode cX8_isSetting 4 = .ok (.iload_n 1, 1) := by decide +kernel
theorem dX8_isSetting_5 : decode cX8_isSetting 5 = .ok (.i2l, 1) := by decide +kernel
theorem dX8_isSetting_6 : decode cX8_isSetting 6 = .ok (.ldc2_w 71, 3) := by decide +kernel
theorem dX8_isSetting_9 : decode cX8_isSetting 9 = .ok (.ldc2_w 128, 3) := by decide +kernel
theorem dX8_isSetting_12 : decode cX8_isSetting 12 = .ok (.invokestatic 48, 3) := by decide +kernel
theorem dX8_isSetting_15 : decode cX8_isSetting 15 = .ok (.goto 30, 3) := by decide +kernel
theorem dX8_isSetting_18 : decode cX8_isSetting 18 = .ok (.iload_n 0, 1) := by decide +kernel
theorem dX8_isSetting_19 : decode cX8_isSetting 19 = .ok (.iconst 1, 1) := by decide +kernel
theorem dX8_isSetting_20 : decode cX8_isSetting 20 = .ok (.if_icmp .eq 8, 3) := by decide +kernel
theorem dX8_isSetting_23 : decode cX8_isSetting 23 = .ok (.iload_n 0, 1) := by decide +kernel
theorem dX8_isSetting_24 : decode cX8_isSetting 24 = .ok (.iconst 2, 1) := by decide +kernel
theorem dX8_isSetting_25 : decode cX8_isSetting 25 = .ok (.if_icmp .ne 19, 3) := by decide +kernel
theorem dX8_isSetting_28 : decode cX8_isSetting 28 = .ok (.iload_n 1, 1) := by decide +kernel
theorem dX8_isSetting_29 : decode cX8_isSetting 29 = .ok (.i2l, 1) := by decide +kernel
theorem dX8_isSetting_30 : decode cX8_isSetting 30 = .ok (.lconst 0, 1) := by decide +kernel
theorem dX8_isSetting_31 : decode cX8_isSetting 31 = .ok (.ldc2_w 71, 3) := by decide +kernel
theorem dX8_isSetting_34 : decode cX8_isSetting 34 = .ok (.invokestatic 48, 3) := by decide +kernel
theorem dX8_isSetting_37 : decode cX8_isSetting 37 = .ok (.ifCond .eq 7, 3) := by decide +kernel
theorem dX8_isSetting_40 : decode cX8_isSetting 40 = .ok (.iconst 1, 1) := by decide +kernel
theorem dX8_isSetting_41 : decode cX8_isSetting 41 = .ok (.goto 4, 3) := by decide +kernel
theorem dX8_isSetting_44 : decode cX8_isSetting 44 = .ok (.iconst 0, 1) := by decide +kernel
theorem dX8_isSetting_45 : decode cX8_isSetting 45 = .ok (.ireturn, 1) := by decide +kernel
set_option maxRecDepth 20000 in
theorem ggX8_append_X8_in : GoodIn wsX8_append wsX8_in := goodIn_r _ [7] (by decide +kernel) (by decide +kernel)
set_option maxRecDepth 20000 in
theorem gX8_append_X8_in : GoodIn wsX8_append (va_wsS RX8 48 yX8_in wsX8_in) := goodIn_app (goodIn_of _ (by decide +kernel)) ggX8_append_X8_in
set_option maxRecDepth 20000 in
theorem ggX8_append_X8_refused : GoodIn wsX8_append wsX8_refused := goodIn_r _ [11, 12, 13, 14, 15, 16, 17, 18, 19, 20, 21, 22, 23, 24, 25] (by decide +kernel) (by decide +kernel)
set_option maxRecDepth 20000 in
theorem gX8_append_X8_refused : GoodIn wsX8_append (wsV RX8 135 RX8 yX8_refused wsX8_refused) := goodIn_app (goodIn_of _ (by decide +kernel)) ggX8_append_X8_refused
theorem dX8_append_0 : decode cX8_append 0 = .ok (.aload_n 0, 1) := by decide +kernel
theorem dX8_append_1 : decode cX8_append 1 = .ok (.iload_n 1, 1) := by decide +kernel
theorem dX8_append_2 : decode cX8_append 2 = .ok (.i2l, 1) := by decide +kernel
theorem dX8_append_3 : decode cX8_append 3 = .ok (.lconst 0, 1) := by decide +kernel
theorem dX8_append_4 : decode cX8_append 4 = .ok (.ldc2_w 130, 3) := by decide +kernel
theorem dX8_append_7 : decode cX8_append 7 = .ok (.invokestatic 48, 3) := by decide +kernel
theorem dX8_append_10 : decode cX8_append 10 = .ok (.ifCond .ne 7, 3) := by decide +kernel
theorem dX8_append_13 : decode cX8_append 13 = .ok (.iconst 1, 1) := by decide +kernel
theorem dX8_append_14 : decode cX8_append 14 = .ok (.goto 17, 3) := by decide +kernel
theorem dX8_append_17 : decode cX8_append 17 = .ok (.aload_n 0, 1) := by decide +kernel
theorem dX8_append_18 : decode cX8_append 18 = .ok (.getfield 132, 3) := by decide +kernel
theorem dX8_append_21 : decode cX8_append 21 = .ok (.bipush 120, 2) := by decide +kernel
theorem dX8_append_23 : decode cX8_append 23 = .ok (.if_icmp .ne 7, 3) := by decide +kernel
theorem dX8_append_26 : decode cX8_append 26 = .ok (.iconst 2, 1) := by decide +kernel
theorem dX8_append_27 : decode cX8_append 27 = .ok (.goto 4, 3) := by decide +kernel
theorem dX8_append_30 : decode cX8_append 30 = .ok (.iconst 0, 1) := by decide +kernel
theorem dX8_append_31 : decode cX8_append 31 = .ok (.invokevirtual 135, 3) := by decide +kernel
theorem dX8_append_34 : decode cX8_append 34 = .ok (.ifCond .eq 5, 3) := by decide +kernel
theorem dX8_append_37 : decode cX8_append 37 = .ok (.iconst 0, 1) := by decide +kernel
theorem dX8_append_38 : decode cX8_append 38 = .ok (.ireturn, 1) := by decide +kernel
theorem dX8_append_39 : decode cX8_append 39 = .ok (.aload_n 0, 1) := by decide +kernel
theorem dX8_append_40 : decode cX8_append 40 = .ok (.getfield 7, 3) := by decide +kernel
theorem dX8_append_43 : decode cX8_append 43 = .ok (.aload_n 0, 1) := by decide +kernel
theorem dX8_append_44 : decode cX8_append 44 = .ok (.getfield 132, 3) := by decide +kernel
theorem dX8_append_47 : decode cX8_append 47 = .ok (.iload_n 1, 1) := by decide +kernel
theorem dX8_append_48 : decode cX8_append 48 = .ok (.iastore, 1) := by decide +kernel
theorem dX8_append_49 : decode cX8_append 49 = .ok (.aload_n 0, 1) := by decide +kernel
theorem dX8_append_50 : decode cX8_append 50 = .ok (.dup, 1) := by decide +kernel
theorem dX8_append_51 : decode cX8_append 51 = .ok (.getfield 132, 3) := by decide +kernel
theorem dX8_append_54 : decode cX8_append 54 = .ok (.iconst 1, 1) := by decide +kernel
theorem dX8_append_55 : decode cX8_append 55 = .ok (.iadd, 1) := by decide +kernel
theorem dX8_append_56 : decode cX8_append 56 = .ok (.putfield 132, 3) := by decide +kernel
theorem dX8_append_59 : decode cX8_append 59 = .ok (.aload_n 0, 1) := by decide +kernel
theorem dX8_append_60 : decode cX8_append 60 = .ok (.getfield 132, 3) := by decide +kernel
theorem dX8_append_63 : decode cX8_append 63 = .ok (.ireturn, 1) := by decide +kernel
theorem dX8_clearText_0 : decode cX8_clearText 0 = .ok (.aload_n 0, 1) := by decide +kernel
theorem dX8_clearText_1 : decode cX8_clearText 1 = .ok (.iconst 0, 1) := by decide +kernel
theorem dX8_clearText_2 : decode cX8_clearText 2 = .ok (.putfield 39, 3) := by decide +kernel
theorem dX8_clearText_5 : decode cX8_clearText 5 = .ok (.aload_n 0, 1) := by decide +kernel
theorem dX8_clearText_6 : decode cX8_clearText 6 = .ok (.getfield 132, 3) := by decide +kernel
theorem dX8_clearText_9 : decode cX8_clearText 9 = .ok (.istore_n 1, 1) := by decide +kernel
theorem dX8_clearText_10 : decode cX8_clearText 10 = .ok (.aload_n 0, 1) := by decide +kernel
theorem dX8_clearText_11 : decode cX8_clearText 11 = .ok (.iconst 0, 1) := by decide +kernel
theorem dX8_clearText_12 : decode cX8_clearText 12 = .ok (.putfield 132, 3) := by decide +kernel
theorem dX8_clearText_15 : decode cX8_clearText 15 = .ok (.iload_n 1, 1) := by decide +kernel
theorem dX8_clearText_16 : decode cX8_clearText 16 = .ok (.ireturn, 1) := by decide +kernel
theorem dX8_at_0 : decode cX8_at 0 = .ok (.iload_n 1, 1) := by decide +kernel
theorem dX8_at_1 : decode cX8_at 1 = .ok (.aload_n 0, 1) := by decide +kernel
theorem dX8_at_2 : decode cX8_at 2 = .ok (.getfield 132, 3) := by decide +kernel
theorem dX8_at_5 : decode cX8_at 5 = .ok (.if_icmp .ge 12, 3) := by decide +kernel
theorem dX8_at_8 : decode cX8_at 8 = .ok (.aload_n 0, 1) := by decide +kernel
theorem dX8_at_9 : decode cX8_at 9 = .ok (.getfield 7, 3) := by decide +kernel
theorem dX8_at_12 : decode cX8_at 12 = .ok (.iload_n 1, 1) := by decide +kernel
theorem dX8_at_13 : decode cX8_at 13 = .ok (.iaload, 1) := by decide +kernel
theorem dX8_at_14 : decode cX8_at 14 = .ok (.goto 4, 3) := by decide +kernel
theorem dX8_at_17 : decode cX8_at 17 = .ok (.iconst (-1), 1) := by decide +kernel
theorem dX8_at_18 : decode cX8_at 18 = .ok (.ireturn, 1) := by decide +kernel
set_option maxRecDepth 20000 in
theorem ggX8_figures_X8_at : GoodIn wsX8_figures wsX8_at := goodIn_r _ [7, 8, 9, 13, 14, 15, 16, 17, 18, 19, 20, 21, 22, 23, 24, 25] (by decide +kernel) (by decide +kernel)
set_option maxRecDepth 20000 in
theorem gX8_figures_X8_at : GoodIn wsX8_figures (wsV RX8 142 RX8 yX8_at wsX8_at) := goodIn_app (goodIn_of _ (by decide +kernel)) ggX8_figures_X8_at
set_option maxRecDepth 20000 in
theorem ggX8_figures_X8_in : GoodIn wsX8_figures wsX8_in := goodIn_r _ [12] (by decide +kernel) (by decide +kernel)
set_option maxRecDepth 20000 in
theorem gX8_figures_X8_in : GoodIn wsX8_figures (va_wsS RX8 48 yX8_in wsX8_in) := goodIn_app (goodIn_of _ (by decide +kernel)) ggX8_figures_X8_in
theorem dX8_figures_0 : decode cX8_figures 0 = .ok (.iconst 0, 1) := by decide +kernel
theorem dX8_figures_1 : decode cX8_figures 1 = .ok (.istore_n 3, 1) := by decide +kernel
theorem dX8_figures_2 : decode cX8_figures 2 = .ok (.bipush 10, 2) := by decide +kernel
theorem dX8_figures_4 : decode cX8_figures 4 = .ok (.istore 4, 2) := by decide +kernel
theorem dX8_figures_6 : decode cX8_figures 6 = .ok (.iload 4, 2) := by decide +kernel
theorem dX8_figures_8 : decode cX8_figures 8 = .ok (.ifCond .le 80, 3) := by decide +kernel
theorem dX8_figures_11 : decode cX8_figures 11 = .ok (.aload_n 0, 1) := by decide +kernel
theorem dX8_figures_12 : decode cX8_figures 12 = .ok (.aload_n 0, 1) := by decide +kernel
theorem dX8_figures_13 : decode cX8_figures 13 = .ok (.getfield 139, 3) := by decide +kernel
theorem dX8_figures_16 : decode cX8_figures 16 = .ok (.invokevirtual 142, 3) := by decide +kernel
theorem dX8_figures_19 : decode cX8_figures 19 = .ok (.bipush 48, 2) := by decide +kernel
theorem dX8_figures_21 : decode cX8_figures 21 = .ok (.isub, 1) := by decide +kernel
theorem dX8_figures_22 : decode cX8_figures 22 = .ok (.istore 5, 2) := by decide +kernel
theorem dX8_figures_24 : decode cX8_figures 24 = .ok (.iload_n 3, 1) := by decide +kernel
theorem dX8_figures_25 : decode cX8_figures 25 = .ok (.iload 5, 2) := by decide +kernel
theorem dX8_figures_27 : decode cX8_figures 27 = .ok (.iload 4, 2) := by decide +kernel
theorem dX8_figures_29 : decode cX8_figures 29 = .ok (.imul, 1) := by decide +kernel
theorem dX8_figures_30 : decode cX8_figures 30 = .ok (.iadd, 1) := by decide +kernel
theorem dX8_figures_31 : decode cX8_figures 31 = .ok (.istore 6, 2) := by decide +kernel
theorem dX8_figures_33 : decode cX8_figures 33 = .ok (.iload 5, 2) := by decide +kernel
theorem dX8_figures_35 : decode cX8_figures 35 = .ok (.i2l, 1) := by decide +kernel
theorem dX8_figures_36 : decode cX8_figures 36 = .ok (.lconst 0, 1) := by decide +kernel
theorem dX8_figures_37 : decode cX8_figures 37 = .ok (.ldc2_w 46, 3) := by decide +kernel
theorem dX8_figures_40 : decode cX8_figures 40 = .ok (.invokestatic 48, 3) := by decide +kernel
theorem dX8_figures_43 : decode cX8_figures 43 = .ok (.ifCond .eq 20, 3) := by decide +kernel
theorem dX8_figures_46 : decode cX8_figures 46 = .ok (.iload 6, 2) := by decide +kernel
theorem dX8_figures_48 : decode cX8_figures 48 = .ok (.iload_n 2, 1) := by decide +kernel
theorem dX8_figures_49 : decode cX8_figures 49 = .ok (.if_icmp .gt 14, 3) := by decide +kernel
theorem dX8_figures_52 : decode cX8_figures 52 = .ok (.iload 6, 2) := by decide +kernel
theorem dX8_figures_54 : decode cX8_figures 54 = .ok (.iload 4, 2) := by decide +kernel
theorem dX8_figures_56 : decode cX8_figures 56 = .ok (.iadd, 1) := by decide +kernel
theorem dX8_figures_57 : decode cX8_figures 57 = .ok (.iconst 1, 1) := by decide +kernel
theorem dX8_figures_58 : decode cX8_figures 58 = .ok (.isub, 1) := by decide +kernel
theorem dX8_figures_59 : decode cX8_figures 59 = .ok (.iload_n 1, 1) := by decide +kernel
theorem dX8_figures_60 : decode cX8_figures 60 = .ok (.if_icmp .ge 5, 3) := by decide +kernel
theorem dX8_figures_63 : decode cX8_figures 63 = .ok (.iconst (-1), 1) := by decide +kernel
theorem dX8_figures_64 : decode cX8_figures 64 = .ok (.ireturn, 1) := by decide +kernel
theorem dX8_figures_65 : decode cX8_figures 65 = .ok (.iload 6, 2) := by decide +kernel
theorem dX8_figures_67 : decode cX8_figures 67 = .ok (.istore_n 3, 1) := by decide +kernel
theorem dX8_figures_68 : decode cX8_figures 68 = .ok (.aload_n 0, 1) := by decide +kernel
theorem dX8_figures_69 : decode cX8_figures 69 = .ok (.dup, 1) := by decide +kernel
theorem dX8_figures_70 : decode cX8_figures 70 = .ok (.getfield 139, 3) := by decide +kernel
theorem dX8_figures_73 : decode cX8_figures 73 = .ok (.iconst 1, 1) := by decide +kernel
theorem dX8_figures_74 : decode cX8_figures 74 = .ok (.iadd, 1) := by decide +kernel
theorem dX8_figures_75 : decode cX8_figures 75 = .ok (.putfield 139, 3) := by decide +kernel
theorem dX8_figures_78 : decode cX8_figures 78 = .ok (.iload 4, 2) := by decide +kernel
theorem dX8_figures_80 : decode cX8_figures 80 = .ok (.bipush 10, 2) := by decide +kernel
theorem dX8_figures_82 : decode cX8_figures 82 = .ok (.idiv, 1) := by decide +kernel
theorem dX8_figures_83 : decode cX8_figures 83 = .ok (.istore 4, 2) := by decide +kernel
theorem dX8_figures_85 : decode cX8_figures 85 = .ok (.goto (-79), 3) := by decide +kernel
theorem dX8_figures_88 : decode cX8_figures 88 = .ok (.iload_n 3, 1) := by decide +kernel
theorem dX8_figures_89 : decode cX8_figures 89 = .ok (.ireturn, 1) := by decide +kernel
set_option maxRecDepth 20000 in
theorem ggX8_readRoll_X8_figures : GoodIn wsX8_readRoll wsX8_figures := goodIn_r _ [7, 1, 8, 9, 10, 11, 6, 12, 13, 14, 15, 16, 17, 87, 88, 89, 90, 91, 92, 93, 94, 95, 96, 97, 98, 99] (by decide +kernel) (by decide +kernel)
set_option maxRecDepth 20000 in
theorem gX8_readRoll_X8_figures : GoodIn wsX8_readRoll (wsV RX8 145 RX8 yX8_figures wsX8_figures) := goodIn_app (goodIn_of _ (by decide +kernel)) ggX8_readRoll_X8_figures
set_option maxRecDepth 20000 in
theorem ggX8_readRoll_X8_at : GoodIn wsX8_readRoll wsX8_at := goodIn_r _ [12, 13, 14, 87, 88, 89, 90, 91, 92, 93, 94, 95, 96, 97, 98, 99] (by decide +kernel) (by decide +kernel)
set_option maxRecDepth 20000 in
theorem gX8_readRoll_X8_at : GoodIn wsX8_readRoll (wsV RX8 142 RX8 yX8_at wsX8_at) := goodIn_app (goodIn_of _ (by decide +kernel)) ggX8_readRoll_X8_at
set_option maxRecDepth 20000 in
theorem ggX8_readRoll_X8_isOver : GoodIn wsX8_readRoll wsX8_isOver := goodIn_r _ [20] (by decide +kernel) (by decide +kernel)
set_option maxRecDepth 20000 in
theorem gX8_readRoll_X8_isOver : GoodIn wsX8_readRoll (va_wsS RX8 149 yX8_isOver wsX8_isOver) := goodIn_app (goodIn_of _ (by decide +kernel)) ggX8_readRoll_X8_isOver
set_option maxRecDepth 20000 in
theorem ggX8_readRoll_X8_throwOn : GoodIn wsX8_readRoll wsX8_throwOn := goodIn_r _ [24, 25, 26, 6, 27, 28, 29, 30, 31, 32, 33, 34, 35, 36, 37, 38, 39, 40, 41, 42, 43, 44, 45, 46, 47, 48, 49, 50, 51, 52, 53, 54, 55, 56, 57, 15, 16, 17, 58, 59, 60, 61, 62, 63, 64, 65, 66, 67, 68, 69, 70, 71, 72, 73, 74, 75, 76, 77, 78, 79, 80, 81, 82, 83, 84, 85, 86, 87, 88, 89, 90, 91, 92, 93, 94, 95, 96, 97, 98, 99] (by decide +kernel) (by decide +kernel)
set_option maxRecDepth 20000 in
theorem gX8_readRoll_X8_throwOn : GoodIn wsX8_readRoll (wsV RX8 156 RX8 yX8_throwOn wsX8_throwOn) := goodIn_app (goodIn_of _ (by decide +kernel)) ggX8_readRoll_X8_throwOn
theorem dX8_readRoll_0 : decode cX8_readRoll 0 = .ok (.aload_n 0, 1) := by decide +kernel
theorem dX8_readRoll_1 : decode cX8_readRoll 1 = .ok (.iconst 0, 1) := by decide +kernel
theorem dX8_readRoll_2 : decode cX8_readRoll 2 = .ok (.bipush 40, 2) := by decide +kernel
theorem dX8_readRoll_4 : decode cX8_readRoll 4 = .ok (.invokevirtual 145, 3) := by decide +kernel
theorem dX8_readRoll_7 : decode cX8_readRoll 7 = .ok (.istore_n 2, 1) := by decide +kernel
theorem dX8_readRoll_8 : decode cX8_readRoll 8 = .ok (.iload_n 2, 1) := by decide +kernel
theorem dX8_readRoll_9 : decode cX8_readRoll 9 = .ok (.iconst (-1), 1) := by decide +kernel
theorem dX8_readRoll_10 : decode cX8_readRoll 10 = .ok (.if_icmp .ne 5, 3) := by decide +kernel
theorem dX8_readRoll_13 : decode cX8_readRoll 13 = .ok (.iconst 0, 1) := by decide +kernel
theorem dX8_readRoll_14 : decode cX8_readRoll 14 = .ok (.ireturn, 1) := by decide +kernel
theorem dX8_readRoll_15 : decode cX8_readRoll 15 = .ok (.aload_n 0, 1) := by decide +kernel
theorem dX8_readRoll_16 : decode cX8_readRoll 16 = .ok (.aload_n 0, 1) := by decide +kernel
theorem dX8_readRoll_17 : decode cX8_readRoll 17 = .ok (.getfield 139, 3) := by decide +kernel
theorem dX8_readRoll_20 : decode cX8_readRoll 20 = .ok (.invokevirtual 142, 3) := by decide +kernel
theorem dX8_readRoll_23 : decode cX8_readRoll 23 = .ok (.istore_n 3, 1) := by decide +kernel
theorem dX8_readRoll_24 : decode cX8_readRoll 24 = .ok (.iload_n 3, 1) := by decide +kernel
theorem dX8_readRoll_25 : decode cX8_readRoll 25 = .ok (.bipush 108, 2) := by decide +kernel
theorem dX8_readRoll_27 : decode cX8_readRoll 27 = .ok (.if_icmp .ne 8, 3) := by decide +kernel
theorem dX8_readRoll_30 : decode cX8_readRoll 30 = .ok (.bipush (-2), 2) := by decide +kernel
theorem dX8_readRoll_32 : decode cX8_readRoll 32 = .ok (.goto 45, 3) := by decide +kernel
theorem dX8_readRoll_35 : decode cX8_readRoll 35 = .ok (.iload_n 3, 1) := by decide +kernel
theorem dX8_readRoll_36 : decode cX8_readRoll 36 = .ok (.bipush 107, 2) := by decide +kernel
theorem dX8_readRoll_38 : decode cX8_readRoll 38 = .ok (.if_icmp .ne 7, 3) := by decide +kernel
theorem dX8_readRoll_41 : decode cX8_readRoll 41 = .ok (.iconst (-1), 1) := by decide +kernel
theorem dX8_readRoll_42 : decode cX8_readRoll 42 = .ok (.goto 35, 3) := by decide +kernel
theorem dX8_readRoll_45 : decode cX8_readRoll 45 = .ok (.iload_n 3, 1) := by decide +kernel
theorem dX8_readRoll_46 : decode cX8_readRoll 46 = .ok (.bipush 109, 2) := by decide +kernel
theorem dX8_readRoll_48 : decode cX8_readRoll 48 = .ok (.if_icmp .ne 7, 3) := by decide +kernel
theorem dX8_readRoll_51 : decode cX8_readRoll 51 = .ok (.iconst 0, 1) := by decide +kernel
theorem dX8_readRoll_52 : decode cX8_readRoll 52 = .ok (.goto 25, 3) := by decide +kernel
theorem dX8_readRoll_55 : decode cX8_readRoll 55 = .ok (.iload_n 3, 1) := by decide +kernel
theorem dX8_readRoll_56 : decode cX8_readRoll 56 = .ok (.bipush 114, 2) := by decide +kernel
theorem dX8_readRoll_58 : decode cX8_readRoll 58 = .ok (.if_icmp .ne 7, 3) := by decide +kernel
theorem dX8_readRoll_61 : decode cX8_readRoll 61 = .ok (.iconst 1, 1) := by decide +kernel
theorem dX8_readRoll_62 : decode cX8_readRoll 62 = .ok (.goto 15, 3) := by decide +kernel
theorem dX8_readRoll_65 : decode cX8_readRoll 65 = .ok (.iload_n 3, 1) := by decide +kernel
theorem dX8_readRoll_66 : decode cX8_readRoll 66 = .ok (.bipush 115, 2) := by decide +kernel
theorem dX8_readRoll_68 : decode cX8_readRoll 68 = .ok (.if_icmp .ne 7, 3) := by decide +kernel
theorem dX8_readRoll_71 : decode cX8_readRoll 71 = .ok (.iconst 2, 1) := by decide +kernel
theorem dX8_readRoll_72 : decode cX8_readRoll 72 = .ok (.goto 5, 3) := by decide +kernel
theorem dX8_readRoll_75 : decode cX8_readRoll 75 = .ok (.bipush 9, 2) := by decide +kernel
theorem dX8_readRoll_77 : decode cX8_readRoll 77 = .ok (.istore 4, 2) := by decide +kernel
theorem dX8_readRoll_79 : decode cX8_readRoll 79 = .ok (.iload 4, 2) := by decide +kernel
theorem dX8_readRoll_81 : decode cX8_readRoll 81 = .ok (.bipush 9, 2) := by decide +kernel
theorem dX8_readRoll_83 : decode cX8_readRoll 83 = .ok (.if_icmp .ne 5, 3) := by decide +kernel
theorem dX8_readRoll_86 : decode cX8_readRoll 86 = .ok (.iconst 0, 1) := by decide +kernel
theorem dX8_readRoll_87 : decode cX8_readRoll 87 = .ok (.ireturn, 1) := by decide +kernel
theorem dX8_readRoll_88 : decode cX8_readRoll 88 = .ok (.aload_n 0, 1) := by decide +kernel
theorem dX8_readRoll_89 : decode cX8_readRoll 89 = .ok (.dup, 1) := by decide +kernel
theorem dX8_readRoll_90 : decode cX8_readRoll 90 = .ok (.getfield 139, 3) := by decide +kernel
theorem dX8_readRoll_93 : decode cX8_readRoll 93 = .ok (.iconst 1, 1) := by decide +kernel
theorem dX8_readRoll_94 : decode cX8_readRoll 94 = .ok (.iadd, 1) := by decide +kernel
theorem dX8_readRoll_95 : decode cX8_readRoll 95 = .ok (.putfield 139, 3) := by decide +kernel
theorem dX8_readRoll_98 : decode cX8_readRoll 98 = .ok (.aload_n 0, 1) := by decide +kernel
theorem dX8_readRoll_99 : decode cX8_readRoll 99 = .ok (.iconst 1, 1) := by decide +kernel
theorem dX8_readRoll_100 : decode cX8_readRoll 100 = .ok (.bipush 30, 2) := by decide +kernel
theorem dX8_readRoll_102 : decode cX8_readRoll 102 = .ok (.invokevirtual 145, 3) := by decide +kernel
theorem dX8_readRoll_105 : decode cX8_readRoll 105 = .ok (.istore 5, 2) := by decide +kernel
theorem dX8_readRoll_107 : decode cX8_readRoll 107 = .ok (.iload 5, 2) := by decide +kernel
theorem dX8_readRoll_109 : decode cX8_readRoll 109 = .ok (.iconst (-1), 1) := by decide +kernel
theorem dX8_readRoll_110 : decode cX8_readRoll 110 = .ok (.if_icmp .ne 5, 3) := by decide +kernel
theorem dX8_readRoll_113 : decode cX8_readRoll 113 = .ok (.iconst 0, 1) := by decide +kernel
theorem dX8_readRoll_114 : decode cX8_readRoll 114 = .ok (.ireturn, 1) := by decide +kernel
theorem dX8_readRoll_115 : decode cX8_readRoll 115 = .ok (.aload_n 0, 1) := by decide +kernel
theorem dX8_readRoll_116 : decode cX8_readRoll 116 = .ok (.aload_n 0, 1) := by decide +kernel
theorem dX8_readRoll_117 : decode cX8_readRoll 117 = .ok (.getfield 139, 3) := by decide +kernel
theorem dX8_readRoll_120 : decode cX8_readRoll 120 = .ok (.invokevirtual 142, 3) := by decide +kernel
theorem dX8_readRoll_123 : decode cX8_readRoll 123 = .ok (.bipush 102, 2) := by decide +kernel
theorem dX8_readRoll_125 : decode cX8_readRoll 125 = .ok (.if_icmp .ne 7, 3) := by decide +kernel
theorem dX8_readRoll_128 : decode cX8_readRoll 128 = .ok (.iconst 1, 1) := by decide +kernel
theorem dX8_readRoll_129 : decode cX8_readRoll 129 = .ok (.goto 4, 3) := by decide +kernel
theorem dX8_readRoll_132 : decode cX8_readRoll 132 = .ok (.iconst 0, 1) := by decide +kernel
theorem dX8_readRoll_133 : decode cX8_readRoll 133 = .ok (.istore 6, 2) := by decide +kernel
theorem dX8_readRoll_135 : decode cX8_readRoll 135 = .ok (.aload_n 0, 1) := by decide +kernel
theorem dX8_readRoll_136 : decode cX8_readRoll 136 = .ok (.dup, 1) := by decide +kernel
theorem dX8_readRoll_137 : decode cX8_readRoll 137 = .ok (.getfield 139, 3) := by decide +kernel
theorem dX8_readRoll_140 : decode cX8_readRoll 140 = .ok (.iload 6, 2) := by decide +kernel
theorem dX8_readRoll_142 : decode cX8_readRoll 142 = .ok (.ifCond .eq 7, 3) := by decide +kernel
theorem dX8_readRoll_145 : decode cX8_readRoll 145 = .ok (.iconst 1, 1) := by decide +kernel
theorem dX8_readRoll_146 : decode cX8_readRoll 146 = .ok (.goto 4, 3) := by decide +kernel
theorem dX8_readRoll_149 : decode cX8_readRoll 149 = .ok (.iconst 0, 1) := by decide +kernel
theorem dX8_readRoll_150 : decode cX8_readRoll 150 = .ok (.iadd, 1) := by decide +kernel
theorem dX8_readRoll_151 : decode cX8_readRoll 151 = .ok (.putfield 139, 3) := by decide +kernel
theorem dX8_readRoll_154 : decode cX8_readRoll 154 = .ok (.aload_n 1, 1) := by decide +kernel
theorem dX8_readRoll_155 : decode cX8_readRoll 155 = .ok (.invokestatic 149, 3) := by decide +kernel
theorem dX8_readRoll_158 : decode cX8_readRoll 158 = .ok (.ifCond .eq 16, 3) := by decide +kernel
theorem dX8_readRoll_161 : decode cX8_readRoll 161 = .ok (.aload_n 0, 1) := by decide +kernel
theorem dX8_readRoll_162 : decode cX8_readRoll 162 = .ok (.dup, 1) := by decide +kernel
theorem dX8_readRoll_163 : decode cX8_readRoll 163 = .ok (.getfield 153, 3) := by decide +kernel
theorem dX8_readRoll_166 : decode cX8_readRoll 166 = .ok (.iconst 1, 1) := by decide +kernel
theorem dX8_readRoll_167 : decode cX8_readRoll 167 = .ok (.iadd, 1) := by decide +kernel
theorem dX8_readRoll_168 : decode cX8_readRoll 168 = .ok (.putfield 153, 3) := by decide +kernel
theorem dX8_readRoll_171 : decode cX8_readRoll 171 = .ok (.goto 16, 3) := by decide +kernel
theorem dX8_readRoll_174 : decode cX8_readRoll 174 = .ok (.aload_n 0, 1) := by decide +kernel
theorem dX8_readRoll_175 : decode cX8_readRoll 175 = .ok (.aload_n 1, 1) := by decide +kernel
theorem dX8_readRoll_176 : decode cX8_readRoll 176 = .ok (.iload_n 2, 1) := by decide +kernel
theorem dX8_readRoll_177 : decode cX8_readRoll 177 = .ok (.iload 4, 2) := by decide +kernel
theorem dX8_readRoll_179 : decode cX8_readRoll 179 = .ok (.iload 5, 2) := by decide +kernel
theorem dX8_readRoll_181 : decode cX8_readRoll 181 = .ok (.iload 6, 2) := by decide +kernel
theorem dX8_readRoll_183 : decode cX8_readRoll 183 = .ok (.invokevirtual 156, 3) := by decide +kernel
theorem dX8_readRoll_186 : decode cX8_readRoll 186 = .ok (.pop, 1) := by decide +kernel
theorem dX8_readRoll_187 : decode cX8_readRoll 187 = .ok (.iconst 1, 1) := by decide +kernel
theorem dX8_readRoll_188 : decode cX8_readRoll 188 = .ok (.ireturn, 1) := by decide +kernel
set_option maxRecDepth 20000 in
theorem ggX8_readText_X8_clear : GoodIn wsX8_readText wsX8_clear := goodIn_r _ [7, 8, 9, 6, 10] (by decide +kernel) (by decide +kernel)
set_option maxRecDepth 20000 in
theorem gX8_readText_X8_clear : GoodIn wsX8_readText (va_wsS RX8 35 yX8_clear wsX8_clear) := goodIn_app (goodIn_of _ (by decide +kernel)) ggX8_readText_X8_clear
set_option maxRecDepth 20000 in
theorem ggX8_readText_X8_at : GoodIn wsX8_readText wsX8_at := goodIn_r _ [14, 3, 15, 94, 95, 96, 97, 98, 99, 100, 101, 102, 103, 104, 105, 106] (by decide +kernel) (by decide +kernel)
set_option maxRecDepth 20000 in
theorem gX8_readText_X8_at : GoodIn wsX8_readText (wsV RX8 142 RX8 yX8_at wsX8_at) := goodIn_app (goodIn_of _ (by decide +kernel)) ggX8_readText_X8_at
set_option maxRecDepth 20000 in
theorem ggX8_readText_X8_readRoll : GoodIn wsX8_readText wsX8_readRoll := goodIn_r _ [19, 2, 1, 20, 21, 22, 6, 23, 24, 11, 12, 13, 14, 3, 15, 25, 26, 27, 28, 29, 30, 31, 32, 33, 34, 35, 36, 37, 38, 39, 40, 41, 42, 43, 44, 45, 46, 47, 48, 49, 50, 51, 52, 53, 54, 55, 56, 57, 58, 59, 60, 61, 62, 63, 64, 65, 66, 67, 68, 69, 70, 71, 72, 73, 74, 75, 76, 77, 78, 79, 80, 81, 82, 83, 84, 85, 86, 87, 8, 9, 10, 88, 89, 90, 91, 92, 93, 94, 95, 96, 97, 98, 99, 100, 101, 102, 103, 104, 105, 106] (by decide +kernel) (by decide +kernel)
set_option maxRecDepth 20000 in
theorem gX8_readText_X8_readRoll : GoodIn wsX8_readText (wsV RX8 160 RX8 yX8_readRoll wsX8_readRoll) := goodIn_app (goodIn_of _ (by decide +kernel)) ggX8_readText_X8_readRoll
theorem dX8_readText_0 : decode cX8_readText 0 = .ok (.aload_n 1, 1) := by decide +kernel
theorem dX8_readText_1 : decode cX8_readText 1 = .ok (.invokestatic 35, 3) := by decide +kernel
theorem dX8_readText_4 : decode cX8_readText 4 = .ok (.aload_n 0, 1) := by decide +kernel
theorem dX8_readText_5 : decode cX8_readText 5 = .ok (.iconst 0, 1) := by decide +kernel
theorem dX8_readText_6 : decode cX8_readText 6 = .ok (.putfield 153, 3) := by decide +kernel
theorem dX8_readText_9 : decode cX8_readText 9 = .ok (.aload_n 0, 1) := by decide +kernel
theorem dX8_readText_10 : decode cX8_readText 10 = .ok (.iconst 0, 1) := by decide +kernel
theorem dX8_readText_11 : decode cX8_readText 11 = .ok (.putfield 139, 3) := by decide +kernel
theorem dX8_readText_14 : decode cX8_readText 14 = .ok (.aload_n 0, 1) := by decide +kernel
theorem dX8_readText_15 : decode cX8_readText 15 = .ok (.iconst 0, 1) := by decide +kernel
theorem dX8_readText_16 : decode cX8_readText 16 = .ok (.invokevirtual 142, 3) := by decide +kernel
theorem dX8_readText_19 : decode cX8_readText 19 = .ok (.bipush 80, 2) := by decide +kernel
theorem dX8_readText_21 : decode cX8_readText 21 = .ok (.if_icmp .eq 5, 3) := by decide +kernel
theorem dX8_readText_24 : decode cX8_readText 24 = .ok (.iconst 0, 1) := by decide +kernel
theorem dX8_readText_25 : decode cX8_readText 25 = .ok (.ireturn, 1) := by decide +kernel
theorem dX8_readText_26 : decode cX8_readText 26 = .ok (.aload_n 0, 1) := by decide +kernel
theorem dX8_readText_27 : decode cX8_readText 27 = .ok (.iconst 1, 1) := by decide +kernel
theorem dX8_readText_28 : decode cX8_readText 28 = .ok (.putfield 139, 3) := by decide +kernel
theorem dX8_readText_31 : decode cX8_readText 31 = .ok (.aload_n 0, 1) := by decide +kernel
theorem dX8_readText_32 : decode cX8_readText 32 = .ok (.getfield 139, 3) := by decide +kernel
theorem dX8_readText_35 : decode cX8_readText 35 = .ok (.aload_n 0, 1) := by decide +kernel
theorem dX8_readText_36 : decode cX8_readText 36 = .ok (.getfield 132, 3) := by decide +kernel
theorem dX8_readText_39 : decode cX8_readText 39 = .ok (.if_icmp .ge 16, 3) := by decide +kernel
theorem dX8_readText_42 : decode cX8_readText 42 = .ok (.aload_n 0, 1) := by decide +kernel
theorem dX8_readText_43 : decode cX8_readText 43 = .ok (.aload_n 1, 1) := by decide +kernel
theorem dX8_readText_44 : decode cX8_readText 44 = .ok (.invokevirtual 160, 3) := by decide +kernel
theorem dX8_readText_47 : decode cX8_readText 47 = .ok (.ifCond .ne (-16), 3) := by decide +kernel
theorem dX8_readText_50 : decode cX8_readText 50 = .ok (.aload_n 0, 1) := by decide +kernel
theorem dX8_readText_51 : decode cX8_readText 51 = .ok (.getfield 139, 3) := by decide +kernel
theorem dX8_readText_54 : decode cX8_readText 54 = .ok (.ireturn, 1) := by decide +kernel
theorem dX8_readText_55 : decode cX8_readText 55 = .ok (.iconst (-1), 1) := by decide +kernel
theorem dX8_readText_56 : decode cX8_readText 56 = .ok (.ireturn, 1) := by decide +kernel
set_option maxRecDepth 20000 in
theorem ggX8_errorPosition_X8_readText : GoodIn wsX8_errorPosition wsX8_readText := goodIn_r _ [7, 8, 9, 10, 11, 12, 6, 13, 14, 15, 16, 17, 18, 19, 20, 21, 22, 23, 24, 25, 26, 27, 28, 29, 30, 31, 32, 33, 34, 35, 36, 37, 38, 39, 40, 41, 42, 43, 44, 45, 46, 47, 48, 49, 50, 51, 52, 53, 54, 55, 56, 57, 58, 59, 60, 61, 62, 63, 64, 65, 66, 67, 68, 69, 70, 71, 72, 73, 74, 75, 76, 77, 78, 79, 80, 81, 82, 83, 84, 85, 86, 87, 88, 89, 90, 91, 92, 93, 94, 95, 96, 97, 98, 99, 100, 101, 102, 103, 104, 105, 106, 107, 108, 109, 110, 111, 112] (by decide +kernel) (by decide +kernel)
set_option maxRecDepth 20000 in
theorem gX8_errorPosition_X8_readText : GoodIn wsX8_errorPosition (wsV RX8 163 RX8 yX8_readText wsX8_readText) := goodIn_app (goodIn_of _ (by decide +kernel)) ggX8_errorPosition_X8_readText
theorem dX8_errorPosition_0 : decode cX8_errorPosition 0 = .ok (.aload_n 0, 1) := by decide +kernel
theorem dX8_errorPosition_1 : decode cX8_errorPosition 1 = .ok (.iconst 0, 1) := by decide +kernel
theorem dX8_errorPosition_2 : decode cX8_errorPosition 2 = .ok (.putfield 39, 3) := by decide +kernel
theorem dX8_errorPosition_5 : decode cX8_errorPosition 5 = .ok (.aload_n 0, 1) := by decide +kernel
theorem dX8_errorPosition_6 : decode cX8_errorPosition 6 = .ok (.aload_n 0, 1) := by decide +kernel
theorem dX8_errorPosition_7 : decode cX8_errorPosition 7 = .ok (.getfield 16, 3) := by decide +kernel
theorem dX8_errorPosition_10 : decode cX8_errorPosition 10 = .ok (.invokevirtual 163, 3) := by decide +kernel
theorem dX8_errorPosition_13 : decode cX8_errorPosition 13 = .ok (.ireturn, 1) := by decide +kernel
set_option maxRecDepth 20000 in
theorem ggX8_load_X8_readText : GoodIn wsX8_load wsX8_readText := goodIn_r _ [10, 5, 11, 12, 13, 14, 9, 15, 16, 17, 18, 19, 20, 21, 22, 23, 24, 25, 26, 27, 28, 29, 30, 31, 32, 33, 34, 35, 36, 37, 38, 39, 40, 41, 42, 43, 44, 45, 46, 47, 48, 49, 50, 51, 52, 53, 54, 55, 56, 57, 58, 59, 60, 61, 62, 63, 64, 65, 66, 67, 68, 69, 70, 71, 72, 73, 74, 75, 76, 77, 78, 79, 80, 81, 82, 83, 84, 85, 86, 87, 88, 89, 90, 91, 92, 93, 94, 95, 96, 97, 98, 99, 100, 101, 110, 111, 112, 113, 114, 115, 116, 117, 118, 119, 120, 121, 122] (by decide +kernel) (by decide +kernel)
set_option maxRecDepth 20000 in
theorem gX8_load_X8_readText : GoodIn wsX8_load (wsV RX8 163 RX8 yX8_readText wsX8_readText) := goodIn_app (goodIn_of _ (by decide +kernel)) ggX8_load_X8_readText
set_option maxRecDepth 20000 in
theorem ggX8_load_X8_refused : GoodIn wsX8_load wsX8_refused := goodIn_r _ [105, 106, 110, 111, 112, 113, 114, 115, 116, 117, 118, 119, 120, 121, 122] (by decide +kernel) (by decide +kernel)
set_option maxRecDepth 20000 in
theorem gX8_load_X8_refused : GoodIn wsX8_load (wsV RX8 135 RX8 yX8_refused wsX8_refused) := goodIn_app (goodIn_of _ (by decide +kernel)) ggX8_load_X8_refused
set_option maxRecDepth 20000 in
theorem ggX8_load_X8_copyState : GoodIn wsX8_load wsX8_copyState := goodIn_r _ [109] (by decide +kernel) (by decide +kernel)
set_option maxRecDepth 20000 in
theorem gX8_load_X8_copyState : GoodIn wsX8_load (va_wsS RX8 166 yX8_copyState wsX8_copyState) := goodIn_app (goodIn_of _ (by decide +kernel)) ggX8_load_X8_copyState
theorem dX8_load_0 : decode cX8_load 0 = .ok (.aload_n 0, 1) := by decide +kernel
theorem dX8_load_1 : decode cX8_load 1 = .ok (.aload_n 0, 1) := by decide +kernel
theorem dX8_load_2 : decode cX8_load 2 = .ok (.aload_n 0, 1) := by decide +kernel
theorem dX8_load_3 : decode cX8_load 3 = .ok (.getfield 16, 3) := by decide +kernel
theorem dX8_load_6 : decode cX8_load 6 = .ok (.invokevirtual 163, 3) := by decide +kernel
theorem dX8_load_9 : decode cX8_load 9 = .ok (.iconst (-1), 1) := by decide +kernel
theorem dX8_load_10 : decode cX8_load 10 = .ok (.if_icmp .ne 7, 3) := by decide +kernel
theorem dX8_load_13 : decode cX8_load 13 = .ok (.iconst 0, 1) := by decide +kernel
theorem dX8_load_14 : decode cX8_load 14 = .ok (.goto 4, 3) := by decide +kernel
theorem dX8_load_17 : decode cX8_load 17 = .ok (.iconst 1, 1) := by decide +kernel
theorem dX8_load_18 : decode cX8_load 18 = .ok (.invokevirtual 135, 3) := by decide +kernel
theorem dX8_load_21 : decode cX8_load 21 = .ok (.ifCond .eq 5, 3) := by decide +kernel
theorem dX8_load_24 : decode cX8_load 24 = .ok (.iconst 0, 1) := by decide +kernel
theorem dX8_load_25 : decode cX8_load 25 = .ok (.ireturn, 1) := by decide +kernel
theorem dX8_load_26 : decode cX8_load 26 = .ok (.aload_n 0, 1) := by decide +kernel
theorem dX8_load_27 : decode cX8_load 27 = .ok (.getfield 16, 3) := by decide +kernel
theorem dX8_load_30 : decode cX8_load 30 = .ok (.iconst 0, 1) := by decide +kernel
theorem dX8_load_31 : decode cX8_load 31 = .ok (.aload_n 0, 1) := by decide +kernel
theorem dX8_load_32 : decode cX8_load 32 = .ok (.getfield 13, 3) := by decide +kernel
theorem dX8_load_35 : decode cX8_load 35 = .ok (.iconst 0, 1) := by decide +kernel
theorem dX8_load_36 : decode cX8_load 36 = .ok (.invokestatic 166, 3) := by decide +kernel
theorem dX8_load_39 : decode cX8_load 39 = .ok (.aload_n 0, 1) := by decide +kernel
theorem dX8_load_40 : decode cX8_load 40 = .ok (.iconst 0, 1) := by decide +kernel
theorem dX8_load_41 : decode cX8_load 41 = .ok (.putfield 170, 3) := by decide +kernel
theorem dX8_load_44 : decode cX8_load 44 = .ok (.aload_n 0, 1) := by decide +kernel
theorem dX8_load_45 : decode cX8_load 45 = .ok (.getfield 25, 3) := by decide +kernel
theorem dX8_load_48 : decode cX8_load 48 = .ok (.iconst 0, 1) := by decide +kernel
theorem dX8_load_49 : decode cX8_load 49 = .ok (.iconst 0, 1) := by decide +kernel
theorem dX8_load_50 : decode cX8_load 50 = .ok (.bastore, 1) := by decide +kernel
theorem dX8_load_51 : decode cX8_load 51 = .ok (.aload_n 0, 1) := by decide +kernel
theorem dX8_load_52 : decode cX8_load 52 = .ok (.getfield 25, 3) := by decide +kernel
theorem dX8_load_55 : decode cX8_load 55 = .ok (.iconst 1, 1) := by decide +kernel
theorem dX8_load_56 : decode cX8_load 56 = .ok (.iconst 0, 1) := by decide +kernel
theorem dX8_load_57 : decode cX8_load 57 = .ok (.bastore, 1) := by decide +kernel
theorem dX8_load_58 : decode cX8_load 58 = .ok (.aload_n 0, 1) := by decide +kernel
theorem dX8_load_59 : decode cX8_load 59 = .ok (.getfield 153, 3) := by decide +kernel
theorem dX8_load_62 : decode cX8_load 62 = .ok (.ireturn, 1) := by decide +kernel
set_option maxRecDepth 20000 in
theorem ggX8_about_X8_in : GoodIn wsX8_about wsX8_in := goodIn_r _ [6] (by decide +kernel) (by decide +kernel)
set_option maxRecDepth 20000 in
theorem gX8_about_X8_in : GoodIn wsX8_about (va_wsS RX8 48 yX8_in wsX8_in) := goodIn_app (goodIn_of _ (by decide +kernel)) ggX8_about_X8_in
set_option maxRecDepth 20000 in
theorem ggX8_about_X8_refused : GoodIn wsX8_about wsX8_refused := goodIn_r _ [10, 11, 36, 37, 38, 39, 40, 41, 42, 43, 44, 45, 46, 47, 48] (by decide +kernel) (by decide +kernel)
set_option maxRecDepth 20000 in
theorem gX8_about_X8_refused : GoodIn wsX8_about (wsV RX8 135 RX8 yX8_refused wsX8_refused) := goodIn_app (goodIn_of _ (by decide +kernel)) ggX8_about_X8_refused
set_option maxRecDepth 20000 in
theorem ggX8_about_X8_isOver : GoodIn wsX8_about wsX8_isOver := goodIn_r _ [14] (by decide +kernel) (by decide +kernel)
