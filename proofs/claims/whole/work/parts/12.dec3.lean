theorem dX12_isUnder_30 : decode cX12_isUnder 30 = .ok (.iconst 5, 1) := by decide +kernel
theorem dX12_isUnder_31 : decode cX12_isUnder 31 = .ok (.if_icmp .ne 7, 3) := by decide +kernel
theorem dX12_isUnder_34 : decode cX12_isUnder 34 = .ok (.iconst 1, 1) := by decide +kernel
theorem dX12_isUnder_35 : decode cX12_isUnder 35 = .ok (.goto 4, 3) := by decide +kernel
theorem dX12_isUnder_38 : decode cX12_isUnder 38 = .ok (.iconst 0, 1) := by decide +kernel
theorem dX12_isUnder_39 : decode cX12_isUnder 39 = .ok (.ireturn, 1) := by decide +kernel
set_option maxRecDepth 20000 in
theorem ggX12_numberOf_X12_in : GoodIn wsX12_numberOf wsX12_in := goodIn_r _ [5] rfl (by decide +kernel)
set_option maxRecDepth 20000 in
theorem gX12_numberOf_X12_in : GoodIn wsX12_numberOf (va_wsS RX12 108 yX12_in wsX12_in) := goodIn_app (goodIn_of _ (by decide +kernel)) ggX12_numberOf_X12_in
theorem dX12_numberOf_0 : decode cX12_numberOf 0 = .ok (.iload_n 0, 1) := by decide +kernel
theorem dX12_numberOf_1 : decode cX12_numberOf 1 = .ok (.i2l, 1) := by decide +kernel
theorem dX12_numberOf_2 : decode cX12_numberOf 2 = .ok (.lconst 1, 1) := by decide +kernel
theorem dX12_numberOf_3 : decode cX12_numberOf 3 = .ok (.ldc2_w 106, 3) := by decide +kernel
theorem dX12_numberOf_6 : decode cX12_numberOf 6 = .ok (.invokestatic 108, 3) := by decide +kernel
theorem dX12_numberOf_9 : decode cX12_numberOf 9 = .ok (.ifCond .eq 14, 3) := by decide +kernel
theorem dX12_numberOf_12 : decode cX12_numberOf 12 = .ok (.iload_n 0, 1) := by decide +kernel
theorem dX12_numberOf_13 : decode cX12_numberOf 13 = .ok (.iconst 1, 1) := by decide +kernel
theorem dX12_numberOf_14 : decode cX12_numberOf 14 = .ok (.isub, 1) := by decide +kernel
theorem dX12_numberOf_15 : decode cX12_numberOf 15 = .ok (.bipush 20, 2) := by decide +kernel
theorem dX12_numberOf_17 : decode cX12_numberOf 17 = .ok (.irem, 1) := by decide +kernel
theorem dX12_numberOf_18 : decode cX12_numberOf 18 = .ok (.iconst 1, 1) := by decide +kernel
theorem dX12_numberOf_19 : decode cX12_numberOf 19 = .ok (.iadd, 1) := by decide +kernel
theorem dX12_numberOf_20 : decode cX12_numberOf 20 = .ok (.goto 4, 3) := by decide +kernel
theorem dX12_numberOf_23 : decode cX12_numberOf 23 = .ok (.iconst 0, 1) := by decide +kernel
theorem dX12_numberOf_24 : decode cX12_numberOf 24 = .ok (.ireturn, 1) := by decide +kernel
theorem dX12_besides_0 : decode cX12_besides 0 = .ok (.iconst 0, 1) := by decide +kernel
theorem dX12_besides_1 : decode cX12_besides 1 = .ok (.istore_n 3, 1) := by decide +kernel
theorem dX12_besides_2 : decode cX12_besides 2 = .ok (.iconst 0, 1) := by decide +kernel
theorem dX12_besides_3 : decode cX12_besides 3 = .ok (.istore 4, 2) := by decide +kernel
theorem dX12_besides_5 : decode cX12_besides 5 = .ok (.iload 4, 2) := by decide +kernel
theorem dX12_besides_7 : decode cX12_besides 7 = .ok (.bipush 20, 2) := by decide +kernel
theorem dX12_besides_9 : decode cX12_besides 9 = .ok (.if_icmp .ge 37, 3) := by decide +kernel
theorem dX12_besides_12 : decode cX12_besides 12 = .ok (.aload_n 0, 1) := by decide +kernel
theorem dX12_besides_13 : decode cX12_besides 13 = .ok (.getfield 7, 3) := by decide +kernel
theorem dX12_besides_16 : decode cX12_besides 16 = .ok (.iload 4, 2) := by decide +kernel
theorem dX12_besides_18 : decode cX12_besides 18 = .ok (.iaload, 1) := by decide +kernel
theorem dX12_besides_19 : decode cX12_besides 19 = .ok (.iload_n 1, 1) := by decide +kernel
theorem dX12_besides_20 : decode cX12_besides 20 = .ok (.if_icmp .ne 18, 3) := by decide +kernel
theorem dX12_besides_23 : decode cX12_besides 23 = .ok (.aload_n 0, 1) := by decide +kernel
theorem dX12_besides_24 : decode cX12_besides 24 = .ok (.getfield 7, 3) := by decide +kernel
theorem dX12_besides_27 : decode cX12_besides 27 = .ok (.iload 4, 2) := by decide +kernel
theorem dX12_besides_29 : decode cX12_besides 29 = .ok (.iload_n 2, 1) := by decide +kernel
theorem dX12_besides_30 : decode cX12_besides 30 = .ok (.iadd, 1) := by decide +kernel
theorem dX12_besides_31 : decode cX12_besides 31 = .ok (.bipush 20, 2) := by decide +kernel
theorem dX12_besides_33 : decode cX12_besides 33 = .ok (.irem, 1) := by decide +kernel
theorem dX12_besides_34 : decode cX12_besides 34 = .ok (.iaload, 1) := by decide +kernel
theorem dX12_besides_35 : decode cX12_besides 35 = .ok (.goto 4, 3) := by decide +kernel
theorem dX12_besides_38 : decode cX12_besides 38 = .ok (.iload_n 3, 1) := by decide +kernel
theorem dX12_besides_39 : decode cX12_besides 39 = .ok (.istore_n 3, 1) := by decide +kernel
theorem dX12_besides_40 : decode cX12_besides 40 = .ok (.iinc 4 1, 3) := by decide +kernel
theorem dX12_besides_43 : decode cX12_besides 43 = .ok (.goto (-38), 3) := by decide +kernel
theorem dX12_besides_46 : decode cX12_besides 46 = .ok (.iload_n 3, 1) := by decide +kernel
theorem dX12_besides_47 : decode cX12_besides 47 = .ok (.ireturn, 1) := by decide +kernel
set_option maxRecDepth 20000 in
theorem ggX12_spot_X12_in : GoodIn wsX12_spot wsX12_in := goodIn_r _ [6] rfl (by decide +kernel)
set_option maxRecDepth 20000 in
theorem gX12_spot_X12_in : GoodIn wsX12_spot (va_wsS RX12 108 yX12_in wsX12_in) := goodIn_app (goodIn_of _ (by decide +kernel)) ggX12_spot_X12_in
set_option maxRecDepth 20000 in
theorem ggX12_spot_X12_scoreOf : GoodIn wsX12_spot wsX12_scoreOf := goodIn_r _ [9] rfl (by decide +kernel)
set_option maxRecDepth 20000 in
theorem gX12_spot_X12_scoreOf : GoodIn wsX12_spot (va_wsS RX12 116 yX12_scoreOf wsX12_scoreOf) := goodIn_app (goodIn_of _ (by decide +kernel)) ggX12_spot_X12_scoreOf
set_option maxRecDepth 20000 in
theorem ggX12_spot_X12_kindOf : GoodIn wsX12_spot wsX12_kindOf := goodIn_r _ [12] rfl (by decide +kernel)
set_option maxRecDepth 20000 in
theorem gX12_spot_X12_kindOf : GoodIn wsX12_spot (va_wsS RX12 102 yX12_kindOf wsX12_kindOf) := goodIn_app (goodIn_of _ (by decide +kernel)) ggX12_spot_X12_kindOf
set_option maxRecDepth 20000 in
theorem ggX12_spot_X12_numberOf : GoodIn wsX12_spot wsX12_numberOf := goodIn_r _ [15, 16, 3, 4, 5, 6] rfl (by decide +kernel)
set_option maxRecDepth 20000 in
theorem gX12_spot_X12_numberOf : GoodIn wsX12_spot (va_wsS RX12 119 yX12_numberOf wsX12_numberOf) := goodIn_app (goodIn_of _ (by decide +kernel)) ggX12_spot_X12_numberOf
set_option maxRecDepth 20000 in
theorem ggX12_spot_X12_besides : GoodIn wsX12_spot wsX12_besides := goodIn_r _ [20, 21, 22, 23, 24, 25, 26, 27, 28, 29, 30, 31, 32, 33, 34, 35, 36, 37, 38, 39, 40, 41, 42, 43, 44, 45, 46, 47, 48, 49, 50, 51, 52, 53, 54, 55, 56, 57, 58, 59, 60, 61] rfl (by decide +kernel)
set_option maxRecDepth 20000 in
theorem gX12_spot_X12_besides : GoodIn wsX12_spot (wsV RX12 122 RX12 yX12_besides wsX12_besides) := goodIn_app (goodIn_of _ (by decide +kernel)) ggX12_spot_X12_besides
theorem dX12_spot_0 : decode cX12_spot 0 = .ok (.iload_n 1, 1) := by decide +kernel
theorem dX12_spot_1 : decode cX12_spot 1 = .ok (.i2l, 1) := by decide +kernel
theorem dX12_spot_2 : decode cX12_spot 2 = .ok (.lconst 0, 1) := by decide +kernel
theorem dX12_spot_3 : decode cX12_spot 3 = .ok (.ldc2_w 112, 3) := by decide +kernel
theorem dX12_spot_6 : decode cX12_spot 6 = .ok (.invokestatic 108, 3) := by decide +kernel
theorem dX12_spot_9 : decode cX12_spot 9 = .ok (.ifCond .eq 15, 3) := by decide +kernel
theorem dX12_spot_12 : decode cX12_spot 12 = .ok (.iload_n 2, 1) := by decide +kernel
theorem dX12_spot_13 : decode cX12_spot 13 = .ok (.i2l, 1) := by decide +kernel
theorem dX12_spot_14 : decode cX12_spot 14 = .ok (.lconst 0, 1) := by decide +kernel
theorem dX12_spot_15 : decode cX12_spot 15 = .ok (.ldc2_w 114, 3) := by decide +kernel
theorem dX12_spot_18 : decode cX12_spot 18 = .ok (.invokestatic 108, 3) := by decide +kernel
theorem dX12_spot_21 : decode cX12_spot 21 = .ok (.ifCond .ne 5, 3) := by decide +kernel
theorem dX12_spot_24 : decode cX12_spot 24 = .ok (.iconst (-1), 1) := by decide +kernel
theorem dX12_spot_25 : decode cX12_spot 25 = .ok (.ireturn, 1) := by decide +kernel
theorem dX12_spot_26 : decode cX12_spot 26 = .ok (.iload_n 2, 1) := by decide +kernel
theorem dX12_spot_27 : decode cX12_spot 27 = .ok (.lookupswitch 35 #[(0, 25), (1, 30)], 25) := by decide +kernel
theorem dX12_spot_52 : decode cX12_spot 52 = .ok (.iload_n 1, 1) := by decide +kernel
theorem dX12_spot_53 : decode cX12_spot 53 = .ok (.invokestatic 116, 3) := by decide +kernel
theorem dX12_spot_56 : decode cX12_spot 56 = .ok (.ireturn, 1) := by decide +kernel
theorem dX12_spot_57 : decode cX12_spot 57 = .ok (.iload_n 1, 1) := by decide +kernel
theorem dX12_spot_58 : decode cX12_spot 58 = .ok (.invokestatic 102, 3) := by decide +kernel
theorem dX12_spot_61 : decode cX12_spot 61 = .ok (.ireturn, 1) := by decide +kernel
theorem dX12_spot_62 : decode cX12_spot 62 = .ok (.iload_n 1, 1) := by decide +kernel
theorem dX12_spot_63 : decode cX12_spot 63 = .ok (.invokestatic 119, 3) := by decide +kernel
theorem dX12_spot_66 : decode cX12_spot 66 = .ok (.ifCond .ne 7, 3) := by decide +kernel
theorem dX12_spot_69 : decode cX12_spot 69 = .ok (.iconst 0, 1) := by decide +kernel
theorem dX12_spot_70 : decode cX12_spot 70 = .ok (.goto 22, 3) := by decide +kernel
theorem dX12_spot_73 : decode cX12_spot 73 = .ok (.aload_n 0, 1) := by decide +kernel
theorem dX12_spot_74 : decode cX12_spot 74 = .ok (.iload_n 1, 1) := by decide +kernel
theorem dX12_spot_75 : decode cX12_spot 75 = .ok (.invokestatic 119, 3) := by decide +kernel
theorem dX12_spot_78 : decode cX12_spot 78 = .ok (.iload_n 2, 1) := by decide +kernel
theorem dX12_spot_79 : decode cX12_spot 79 = .ok (.iconst 2, 1) := by decide +kernel
theorem dX12_spot_80 : decode cX12_spot 80 = .ok (.if_icmp .ne 7, 3) := by decide +kernel
theorem dX12_spot_83 : decode cX12_spot 83 = .ok (.iconst 1, 1) := by decide +kernel
theorem dX12_spot_84 : decode cX12_spot 84 = .ok (.goto 5, 3) := by decide +kernel
theorem dX12_spot_87 : decode cX12_spot 87 = .ok (.bipush 19, 2) := by decide +kernel
theorem dX12_spot_89 : decode cX12_spot 89 = .ok (.invokevirtual 122, 3) := by decide +kernel
theorem dX12_spot_92 : decode cX12_spot 92 = .ok (.ireturn, 1) := by decide +kernel
set_option maxRecDepth 20000 in
theorem ggX12_under_X12_in : GoodIn wsX12_under wsX12_in := goodIn_r _ [6] rfl (by decide +kernel)
set_option maxRecDepth 20000 in
theorem gX12_under_X12_in : GoodIn wsX12_under (va_wsS RX12 108 yX12_in wsX12_in) := goodIn_app (goodIn_of _ (by decide +kernel)) ggX12_under_X12_in
set_option maxRecDepth 20000 in
theorem ggX12_under_X12_isUnder : GoodIn wsX12_under wsX12_isUnder := goodIn_r _ [9, 10, 11, 5, 12] rfl (by decide +kernel)
set_option maxRecDepth 20000 in
theorem gX12_under_X12_isUnder : GoodIn wsX12_under (va_wsS RX12 128 yX12_isUnder wsX12_isUnder) := goodIn_app (goodIn_of _ (by decide +kernel)) ggX12_under_X12_isUnder
theorem dX12_under_0 : decode cX12_under 0 = .ok (.iload_n 1, 1) := by decide +kernel
theorem dX12_under_1 : decode cX12_under 1 = .ok (.i2l, 1) := by decide +kernel
theorem dX12_under_2 : decode cX12_under 2 = .ok (.lconst 0, 1) := by decide +kernel
theorem dX12_under_3 : decode cX12_under 3 = .ok (.ldc2_w 112, 3) := by decide +kernel
theorem dX12_under_6 : decode cX12_under 6 = .ok (.invokestatic 108, 3) := by decide +kernel
theorem dX12_under_9 : decode cX12_under 9 = .ok (.ifCond .eq 15, 3) := by decide +kernel
theorem dX12_under_12 : decode cX12_under 12 = .ok (.iload_n 2, 1) := by decide +kernel
theorem dX12_under_13 : decode cX12_under 13 = .ok (.i2l, 1) := by decide +kernel
theorem dX12_under_14 : decode cX12_under 14 = .ok (.lconst 0, 1) := by decide +kernel
theorem dX12_under_15 : decode cX12_under 15 = .ok (.ldc2_w 126, 3) := by decide +kernel
theorem dX12_under_18 : decode cX12_under 18 = .ok (.invokestatic 108, 3) := by decide +kernel
theorem dX12_under_21 : decode cX12_under 21 = .ok (.ifCond .ne 5, 3) := by decide +kernel
theorem dX12_under_24 : decode cX12_under 24 = .ok (.iconst (-1), 1) := by decide +kernel
theorem dX12_under_25 : decode cX12_under 25 = .ok (.ireturn, 1) := by decide +kernel
theorem dX12_under_26 : decode cX12_under 26 = .ok (.iload_n 1, 1) := by decide +kernel
theorem dX12_under_27 : decode cX12_under 27 = .ok (.iload_n 2, 1) := by decide +kernel
theorem dX12_under_28 : decode cX12_under 28 = .ok (.invokestatic 128, 3) := by decide +kernel
theorem dX12_under_31 : decode cX12_under 31 = .ok (.ifCond .eq 7, 3) := by decide +kernel
theorem dX12_under_34 : decode cX12_under 34 = .ok (.iconst 1, 1) := by decide +kernel
theorem dX12_under_35 : decode cX12_under 35 = .ok (.goto 4, 3) := by decide +kernel
theorem dX12_under_38 : decode cX12_under 38 = .ok (.iconst 0, 1) := by decide +kernel
theorem dX12_under_39 : decode cX12_under 39 = .ok (.ireturn, 1) := by decide +kernel
theorem dX12_putFall_0 : decode cX12_putFall 0 = .ok (.aload_n 0, 1) := by decide +kernel
theorem dX12_putFall_1 : decode cX12_putFall 1 = .ok (.getfield 19, 3) := by decide +kernel
theorem dX12_putFall_4 : decode cX12_putFall 4 = .ok (.aload_n 0, 1) := by decide +kernel
theorem dX12_putFall_5 : decode cX12_putFall 5 = .ok (.getfield 132, 3) := by decide +kernel
theorem dX12_putFall_8 : decode cX12_putFall 8 = .ok (.iload_n 1, 1) := by decide +kernel
theorem dX12_putFall_9 : decode cX12_putFall 9 = .ok (.iastore, 1) := by decide +kernel
theorem dX12_putFall_10 : decode cX12_putFall 10 = .ok (.aload_n 0, 1) := by decide +kernel
theorem dX12_putFall_11 : decode cX12_putFall 11 = .ok (.getfield 22, 3) := by decide +kernel
theorem dX12_putFall_14 : decode cX12_putFall 14 = .ok (.aload_n 0, 1) := by decide +kernel
theorem dX12_putFall_15 : decode cX12_putFall 15 = .ok (.getfield 132, 3) := by decide +kernel
theorem dX12_putFall_18 : decode cX12_putFall 18 = .ok (.iload_n 2, 1) := by decide +kernel
theorem dX12_putFall_19 : decode cX12_putFall 19 = .ok (.iastore, 1) := by decide +kernel
theorem dX12_putFall_20 : decode cX12_putFall 20 = .ok (.aload_n 0, 1) := by decide +kernel
theorem dX12_putFall_21 : decode cX12_putFall 21 = .ok (.getfield 22, 3) := by decide +kernel
theorem dX12_putFall_24 : decode cX12_putFall 24 = .ok (.iconst 0, 1) := by decide +kernel
theorem dX12_putFall_25 : decode cX12_putFall 25 = .ok (.dup2, 1) := by decide +kernel
theorem dX12_putFall_26 : decode cX12_putFall 26 = .ok (.iaload, 1) := by decide +kernel
theorem dX12_putFall_27 : decode cX12_putFall 27 = .ok (.aload_n 0, 1) := by decide +kernel
theorem dX12_putFall_28 : decode cX12_putFall 28 = .ok (.getfield 132, 3) := by decide +kernel
theorem dX12_putFall_31 : decode cX12_putFall 31 = .ok (.ifCond .ne 7, 3) := by decide +kernel
theorem dX12_putFall_34 : decode cX12_putFall 34 = .ok (.iconst 0, 1) := by decide +kernel
theorem dX12_putFall_35 : decode cX12_putFall 35 = .ok (.goto 4, 3) := by decide +kernel
theorem dX12_putFall_38 : decode cX12_putFall 38 = .ok (.iload_n 2, 1) := by decide +kernel
theorem dX12_putFall_39 : decode cX12_putFall 39 = .ok (.isub, 1) := by decide +kernel
theorem dX12_putFall_40 : decode cX12_putFall 40 = .ok (.iastore, 1) := by decide +kernel
theorem dX12_putFall_41 : decode cX12_putFall 41 = .ok (.aload_n 0, 1) := by decide +kernel
theorem dX12_putFall_42 : decode cX12_putFall 42 = .ok (.dup, 1) := by decide +kernel
theorem dX12_putFall_43 : decode cX12_putFall 43 = .ok (.getfield 132, 3) := by decide +kernel
theorem dX12_putFall_46 : decode cX12_putFall 46 = .ok (.iconst 1, 1) := by decide +kernel
theorem dX12_putFall_47 : decode cX12_putFall 47 = .ok (.iadd, 1) := by decide +kernel
theorem dX12_putFall_48 : decode cX12_putFall 48 = .ok (.putfield 132, 3) := by decide +kernel
theorem dX12_putFall_51 : decode cX12_putFall 51 = .ok (.return_, 1) := by decide +kernel
set_option maxRecDepth 20000 in
theorem ggX12_layFalls_X12_numberOf : GoodIn wsX12_layFalls wsX12_numberOf := goodIn_r _ [6, 7, 8, 9, 5, 10] rfl (by decide +kernel)
set_option maxRecDepth 20000 in
theorem gX12_layFalls_X12_numberOf : GoodIn wsX12_layFalls (va_wsS RX12 119 yX12_numberOf wsX12_numberOf) := goodIn_app (goodIn_of _ (by decide +kernel)) ggX12_layFalls_X12_numberOf
set_option maxRecDepth 20000 in
theorem ggX12_layFalls_X12_putFall : GoodIn wsX12_layFalls wsX12_putFall := goodIn_r _ [14, 15, 2, 16, 22, 23, 24, 25, 26, 27, 28, 29, 30, 31, 32, 33, 34, 35, 36, 37, 38, 39, 40, 41, 42, 43, 44, 45, 46, 47, 48, 49, 50, 51, 52, 53, 54, 55, 56, 57, 58, 59, 60, 61] rfl (by decide +kernel)
set_option maxRecDepth 20000 in
theorem gX12_layFalls_X12_putFall : GoodIn wsX12_layFalls (wsV RX12 136 RX12 yX12_putFall wsX12_putFall) := goodIn_app (goodIn_of _ (by decide +kernel)) ggX12_layFalls_X12_putFall
set_option maxRecDepth 20000 in
theorem ggX12_layFalls_X12_besides : GoodIn wsX12_layFalls wsX12_besides := goodIn_r _ [20, 21, 22, 23, 24, 25, 26, 27, 28, 29, 30, 31, 32, 33, 34, 35, 36, 37, 38, 39, 40, 41, 42, 43, 44, 45, 46, 47, 48, 49, 50, 51, 52, 53, 54, 55, 56, 57, 58, 59, 60, 61] rfl (by decide +kernel)
set_option maxRecDepth 20000 in
theorem gX12_layFalls_X12_besides : GoodIn wsX12_layFalls (wsV RX12 122 RX12 yX12_besides wsX12_besides) := goodIn_app (goodIn_of _ (by decide +kernel)) ggX12_layFalls_X12_besides
theorem dX12_layFalls_0 : decode cX12_layFalls 0 = .ok (.aload_n 0, 1) := by decide +kernel
theorem dX12_layFalls_1 : decode cX12_layFalls 1 = .ok (.getfield 13, 3) := by decide +kernel
theorem dX12_layFalls_4 : decode cX12_layFalls 4 = .ok (.iload_n 1, 1) := by decide +kernel
theorem dX12_layFalls_5 : decode cX12_layFalls 5 = .ok (.iaload, 1) := by decide +kernel
theorem dX12_layFalls_6 : decode cX12_layFalls 6 = .ok (.istore_n 3, 1) := by decide +kernel
theorem dX12_layFalls_7 : decode cX12_layFalls 7 = .ok (.aload_n 0, 1) := by decide +kernel
theorem dX12_layFalls_8 : decode cX12_layFalls 8 = .ok (.getfield 13, 3) := by decide +kernel
theorem dX12_layFalls_11 : decode cX12_layFalls 11 = .ok (.iconst 2, 1) := by decide +kernel
theorem dX12_layFalls_12 : decode cX12_layFalls 12 = .ok (.iload_n 1, 1) := by decide +kernel
theorem dX12_layFalls_13 : decode cX12_layFalls 13 = .ok (.iadd, 1) := by decide +kernel
theorem dX12_layFalls_14 : decode cX12_layFalls 14 = .ok (.iaload, 1) := by decide +kernel
theorem dX12_layFalls_15 : decode cX12_layFalls 15 = .ok (.istore 4, 2) := by decide +kernel
theorem dX12_layFalls_17 : decode cX12_layFalls 17 = .ok (.iload_n 2, 1) := by decide +kernel
theorem dX12_layFalls_18 : decode cX12_layFalls 18 = .ok (.invokestatic 119, 3) := by decide +kernel
theorem dX12_layFalls_21 : decode cX12_layFalls 21 = .ok (.istore 5, 2) := by decide +kernel
theorem dX12_layFalls_23 : decode cX12_layFalls 23 = .ok (.aload_n 0, 1) := by decide +kernel
theorem dX12_layFalls_24 : decode cX12_layFalls 24 = .ok (.iconst 0, 1) := by decide +kernel
theorem dX12_layFalls_25 : decode cX12_layFalls 25 = .ok (.putfield 132, 3) := by decide +kernel
theorem dX12_layFalls_28 : decode cX12_layFalls 28 = .ok (.aload_n 0, 1) := by decide +kernel
theorem dX12_layFalls_29 : decode cX12_layFalls 29 = .ok (.iload_n 2, 1) := by decide +kernel
theorem dX12_layFalls_30 : decode cX12_layFalls 30 = .ok (.sipush 1000, 3) := by decide +kernel
theorem dX12_layFalls_33 : decode cX12_layFalls 33 = .ok (.invokevirtual 136, 3) := by decide +kernel
theorem dX12_layFalls_36 : decode cX12_layFalls 36 = .ok (.iload 5, 2) := by decide +kernel
theorem dX12_layFalls_38 : decode cX12_layFalls 38 = .ok (.ifCond .le 108, 3) := by decide +kernel
theorem dX12_layFalls_41 : decode cX12_layFalls 41 = .ok (.iload_n 2, 1) := by decide +kernel
theorem dX12_layFalls_42 : decode cX12_layFalls 42 = .ok (.iload 5, 2) := by decide +kernel
theorem dX12_layFalls_44 : decode cX12_layFalls 44 = .ok (.isub, 1) := by decide +kernel
theorem dX12_layFalls_45 : decode cX12_layFalls 45 = .ok (.istore 6, 2) := by decide +kernel
theorem dX12_layFalls_47 : decode cX12_layFalls 47 = .ok (.aload_n 0, 1) := by decide +kernel
theorem dX12_layFalls_48 : decode cX12_layFalls 48 = .ok (.iload 6, 2) := by decide +kernel
theorem dX12_layFalls_50 : decode cX12_layFalls 50 = .ok (.aload_n 0, 1) := by decide +kernel
theorem dX12_layFalls_51 : decode cX12_layFalls 51 = .ok (.iload 5, 2) := by decide +kernel
theorem dX12_layFalls_53 : decode cX12_layFalls 53 = .ok (.bipush 19, 2) := by decide +kernel
theorem dX12_layFalls_55 : decode cX12_layFalls 55 = .ok (.invokevirtual 122, 3) := by decide +kernel
theorem dX12_layFalls_58 : decode cX12_layFalls 58 = .ok (.iadd, 1) := by decide +kernel
theorem dX12_layFalls_59 : decode cX12_layFalls 59 = .ok (.iload_n 3, 1) := by decide +kernel
theorem dX12_layFalls_60 : decode cX12_layFalls 60 = .ok (.invokevirtual 136, 3) := by decide +kernel
theorem dX12_layFalls_63 : decode cX12_layFalls 63 = .ok (.aload_n 0, 1) := by decide +kernel
theorem dX12_layFalls_64 : decode cX12_layFalls 64 = .ok (.iload 6, 2) := by decide +kernel
theorem dX12_layFalls_66 : decode cX12_layFalls 66 = .ok (.aload_n 0, 1) := by decide +kernel
theorem dX12_layFalls_67 : decode cX12_layFalls 67 = .ok (.iload 5, 2) := by decide +kernel
theorem dX12_layFalls_69 : decode cX12_layFalls 69 = .ok (.iconst 1, 1) := by decide +kernel
theorem dX12_layFalls_70 : decode cX12_layFalls 70 = .ok (.invokevirtual 122, 3) := by decide +kernel
theorem dX12_layFalls_73 : decode cX12_layFalls 73 = .ok (.iadd, 1) := by decide +kernel
theorem dX12_layFalls_74 : decode cX12_layFalls 74 = .ok (.iload_n 3, 1) := by decide +kernel
theorem dX12_layFalls_75 : decode cX12_layFalls 75 = .ok (.invokevirtual 136, 3) := by decide +kernel
theorem dX12_layFalls_78 : decode cX12_layFalls 78 = .ok (.iload 6, 2) := by decide +kernel
theorem dX12_layFalls_80 : decode cX12_layFalls 80 = .ok (.ifCond .ne 28, 3) := by decide +kernel
theorem dX12_layFalls_83 : decode cX12_layFalls 83 = .ok (.aload_n 0, 1) := by decide +kernel
theorem dX12_layFalls_84 : decode cX12_layFalls 84 = .ok (.bipush 40, 2) := by decide +kernel
theorem dX12_layFalls_86 : decode cX12_layFalls 86 = .ok (.iload 5, 2) := by decide +kernel
theorem dX12_layFalls_88 : decode cX12_layFalls 88 = .ok (.iadd, 1) := by decide +kernel
theorem dX12_layFalls_89 : decode cX12_layFalls 89 = .ok (.iload 4, 2) := by decide +kernel
theorem dX12_layFalls_91 : decode cX12_layFalls 91 = .ok (.invokevirtual 136, 3) := by decide +kernel
theorem dX12_layFalls_94 : decode cX12_layFalls 94 = .ok (.aload_n 0, 1) := by decide +kernel
theorem dX12_layFalls_95 : decode cX12_layFalls 95 = .ok (.bipush 20, 2) := by decide +kernel
theorem dX12_layFalls_97 : decode cX12_layFalls 97 = .ok (.iload 5, 2) := by decide +kernel
theorem dX12_layFalls_99 : decode cX12_layFalls 99 = .ok (.iadd, 1) := by decide +kernel
theorem dX12_layFalls_100 : decode cX12_layFalls 100 = .ok (.iload 4, 2) := by decide +kernel
theorem dX12_layFalls_102 : decode cX12_layFalls 102 = .ok (.invokevirtual 136, 3) := by decide +kernel
theorem dX12_layFalls_105 : decode cX12_layFalls 105 = .ok (.goto 38, 3) := by decide +kernel
theorem dX12_layFalls_108 : decode cX12_layFalls 108 = .ok (.iload 6, 2) := by decide +kernel
theorem dX12_layFalls_110 : decode cX12_layFalls 110 = .ok (.bipush 20, 2) := by decide +kernel
theorem dX12_layFalls_112 : decode cX12_layFalls 112 = .ok (.if_icmp .ne 21, 3) := by decide +kernel
theorem dX12_layFalls_115 : decode cX12_layFalls 115 = .ok (.aload_n 0, 1) := by decide +kernel
theorem dX12_layFalls_116 : decode cX12_layFalls 116 = .ok (.iload 5, 2) := by decide +kernel
theorem dX12_layFalls_118 : decode cX12_layFalls 118 = .ok (.iload 4, 2) := by decide +kernel
theorem dX12_layFalls_120 : decode cX12_layFalls 120 = .ok (.invokevirtual 136, 3) := by decide +kernel
theorem dX12_layFalls_123 : decode cX12_layFalls 123 = .ok (.aload_n 0, 1) := by decide +kernel
theorem dX12_layFalls_124 : decode cX12_layFalls 124 = .ok (.iconst 0, 1) := by decide +kernel
theorem dX12_layFalls_125 : decode cX12_layFalls 125 = .ok (.iload 4, 2) := by decide +kernel
theorem dX12_layFalls_127 : decode cX12_layFalls 127 = .ok (.invokevirtual 136, 3) := by decide +kernel
theorem dX12_layFalls_130 : decode cX12_layFalls 130 = .ok (.goto 13, 3) := by decide +kernel
theorem dX12_layFalls_133 : decode cX12_layFalls 133 = .ok (.aload_n 0, 1) := by decide +kernel
theorem dX12_layFalls_134 : decode cX12_layFalls 134 = .ok (.iload 5, 2) := by decide +kernel
theorem dX12_layFalls_136 : decode cX12_layFalls 136 = .ok (.iconst 2, 1) := by decide +kernel
theorem dX12_layFalls_137 : decode cX12_layFalls 137 = .ok (.iload 4, 2) := by decide +kernel
theorem dX12_layFalls_139 : decode cX12_layFalls 139 = .ok (.imul, 1) := by decide +kernel
theorem dX12_layFalls_140 : decode cX12_layFalls 140 = .ok (.invokevirtual 136, 3) := by decide +kernel
theorem dX12_layFalls_143 : decode cX12_layFalls 143 = .ok (.goto 56, 3) := by decide +kernel
theorem dX12_layFalls_146 : decode cX12_layFalls 146 = .ok (.iload_n 2, 1) := by decide +kernel
theorem dX12_layFalls_147 : decode cX12_layFalls 147 = .ok (.bipush 61, 2) := by decide +kernel
theorem dX12_layFalls_149 : decode cX12_layFalls 149 = .ok (.if_icmp .ne 36, 3) := by decide +kernel
theorem dX12_layFalls_152 : decode cX12_layFalls 152 = .ok (.aload_n 0, 1) := by decide +kernel
theorem dX12_layFalls_153 : decode cX12_layFalls 153 = .ok (.bipush 62, 2) := by decide +kernel
theorem dX12_layFalls_155 : decode cX12_layFalls 155 = .ok (.iload 4, 2) := by decide +kernel
theorem dX12_layFalls_157 : decode cX12_layFalls 157 = .ok (.invokevirtual 136, 3) := by decide +kernel
theorem dX12_layFalls_160 : decode cX12_layFalls 160 = .ok (.aload_n 0, 1) := by decide +kernel
theorem dX12_layFalls_161 : decode cX12_layFalls 161 = .ok (.bipush 6, 2) := by decide +kernel
theorem dX12_layFalls_163 : decode cX12_layFalls 163 = .ok (.iload_n 3, 1) := by decide +kernel
theorem dX12_layFalls_164 : decode cX12_layFalls 164 = .ok (.invokevirtual 136, 3) := by decide +kernel
theorem dX12_layFalls_167 : decode cX12_layFalls 167 = .ok (.aload_n 0, 1) := by decide +kernel
theorem dX12_layFalls_168 : decode cX12_layFalls 168 = .ok (.bipush 11, 2) := by decide +kernel
theorem dX12_layFalls_170 : decode cX12_layFalls 170 = .ok (.iload_n 3, 1) := by decide +kernel
theorem dX12_layFalls_171 : decode cX12_layFalls 171 = .ok (.invokevirtual 136, 3) := by decide +kernel
theorem dX12_layFalls_174 : decode cX12_layFalls 174 = .ok (.aload_n 0, 1) := by decide +kernel
theorem dX12_layFalls_175 : decode cX12_layFalls 175 = .ok (.bipush 20, 2) := by decide +kernel
theorem dX12_layFalls_177 : decode cX12_layFalls 177 = .ok (.iload 4, 2) := by decide +kernel
theorem dX12_layFalls_179 : decode cX12_layFalls 179 = .ok (.invokevirtual 136, 3) := by decide +kernel
theorem dX12_layFalls_182 : decode cX12_layFalls 182 = .ok (.goto 17, 3) := by decide +kernel
theorem dX12_layFalls_185 : decode cX12_layFalls 185 = .ok (.aload_n 0, 1) := by decide +kernel
theorem dX12_layFalls_186 : decode cX12_layFalls 186 = .ok (.bipush 61, 2) := by decide +kernel
theorem dX12_layFalls_188 : decode cX12_layFalls 188 = .ok (.iconst 2, 1) := by decide +kernel
theorem dX12_layFalls_189 : decode cX12_layFalls 189 = .ok (.iload_n 3, 1) := by decide +kernel
theorem dX12_layFalls_190 : decode cX12_layFalls 190 = .ok (.imul, 1) := by decide +kernel
theorem dX12_layFalls_191 : decode cX12_layFalls 191 = .ok (.iconst 2, 1) := by decide +kernel
theorem dX12_layFalls_192 : decode cX12_layFalls 192 = .ok (.iload 4, 2) := by decide +kernel
theorem dX12_layFalls_194 : decode cX12_layFalls 194 = .ok (.imul, 1) := by decide +kernel
theorem dX12_layFalls_195 : decode cX12_layFalls 195 = .ok (.iadd, 1) := by decide +kernel
theorem dX12_layFalls_196 : decode cX12_layFalls 196 = .ok (.invokevirtual 136, 3) := by decide +kernel
theorem dX12_layFalls_199 : decode cX12_layFalls 199 = .ok (.return_, 1) := by decide +kernel
set_option maxRecDepth 20000 in
theorem ggX12_isPlayer_X12_in : GoodIn wsX12_isPlayer wsX12_in := goodIn_r _ [4] rfl (by decide +kernel)
set_option maxRecDepth 20000 in
theorem gX12_isPlayer_X12_in : GoodIn wsX12_isPlayer (va_wsS RX12 108 yX12_in wsX12_in) := goodIn_app (goodIn_of _ (by decide +kernel)) ggX12_isPlayer_X12_in
theorem dX12_isPlayer_0 : decode cX12_isPlayer 0 = .ok (.iload_n 0, 1) := by decide +kernel
theorem dX12_isPlayer_1 : decode cX12_isPlayer 1 = .ok (.i2l, 1) := by decide +kernel
theorem dX12_isPlayer_2 : decode cX12_isPlayer 2 = .ok (.lconst 0, 1) := by decide +kernel
theorem dX12_isPlayer_3 : decode cX12_isPlayer 3 = .ok (.lconst 1, 1) := by decide +kernel
theorem dX12_isPlayer_4 : decode cX12_isPlayer 4 = .ok (.invokestatic 108, 3) := by decide +kernel
theorem dX12_isPlayer_7 : decode cX12_isPlayer 7 = .ok (.ireturn, 1) := by decide +kernel
set_option maxRecDepth 20000 in
theorem ggX12_hand_X12_isPlayer : GoodIn wsX12_hand wsX12_isPlayer := goodIn_r _ [6, 7, 8, 5, 9] rfl (by decide +kernel)
set_option maxRecDepth 20000 in
theorem gX12_hand_X12_isPlayer : GoodIn wsX12_hand (va_wsS RX12 140 yX12_isPlayer wsX12_isPlayer) := goodIn_app (goodIn_of _ (by decide +kernel)) ggX12_hand_X12_isPlayer
set_option maxRecDepth 20000 in
theorem ggX12_hand_X12_in : GoodIn wsX12_hand wsX12_in := goodIn_r _ [9] rfl (by decide +kernel)
set_option maxRecDepth 20000 in
theorem gX12_hand_X12_in : GoodIn wsX12_hand (va_wsS RX12 108 yX12_in wsX12_in) := goodIn_app (goodIn_of _ (by decide +kernel)) ggX12_hand_X12_in
theorem dX12_hand_0 : decode cX12_hand 0 = .ok (.iload_n 1, 1) := by decide +kernel
theorem dX12_hand_1 : decode cX12_hand 1 = .ok (.invokestatic 140, 3) := by decide +kernel
theorem dX12_hand_4 : decode cX12_hand 4 = .ok (.ifCond .eq 13, 3) := by decide +kernel
theorem dX12_hand_7 : decode cX12_hand 7 = .ok (.iload_n 2, 1) := by decide +kernel
theorem dX12_hand_8 : decode cX12_hand 8 = .ok (.i2l, 1) := by decide +kernel
theorem dX12_hand_9 : decode cX12_hand 9 = .ok (.lconst 0, 1) := by decide +kernel
theorem dX12_hand_10 : decode cX12_hand 10 = .ok (.lconst 1, 1) := by decide +kernel
theorem dX12_hand_11 : decode cX12_hand 11 = .ok (.invokestatic 108, 3) := by decide +kernel
theorem dX12_hand_14 : decode cX12_hand 14 = .ok (.ifCond .ne 5, 3) := by decide +kernel
theorem dX12_hand_17 : decode cX12_hand 17 = .ok (.iconst (-1), 1) := by decide +kernel
theorem dX12_hand_18 : decode cX12_hand 18 = .ok (.ireturn, 1) := by decide +kernel
theorem dX12_hand_19 : decode cX12_hand 19 = .ok (.iload_n 3, 1) := by decide +kernel
theorem dX12_hand_20 : decode cX12_hand 20 = .ok (.i2l, 1) := by decide +kernel
theorem dX12_hand_21 : decode cX12_hand 21 = .ok (.lconst 0, 1) := by decide +kernel
theorem dX12_hand_22 : decode cX12_hand 22 = .ok (.ldc2_w 144, 3) := by decide +kernel
theorem dX12_hand_25 : decode cX12_hand 25 = .ok (.invokestatic 108, 3) := by decide +kernel
theorem dX12_hand_28 : decode cX12_hand 28 = .ok (.ifCond .ne 6, 3) := by decide +kernel
theorem dX12_hand_31 : decode cX12_hand 31 = .ok (.bipush (-2), 2) := by decide +kernel
theorem dX12_hand_33 : decode cX12_hand 33 = .ok (.ireturn, 1) := by decide +kernel
theorem dX12_hand_34 : decode cX12_hand 34 = .ok (.aload_n 0, 1) := by decide +kernel
theorem dX12_hand_35 : decode cX12_hand 35 = .ok (.getfield 13, 3) := by decide +kernel
theorem dX12_hand_38 : decode cX12_hand 38 = .ok (.iconst 2, 1) := by decide +kernel
theorem dX12_hand_39 : decode cX12_hand 39 = .ok (.iload_n 2, 1) := by decide +kernel
theorem dX12_hand_40 : decode cX12_hand 40 = .ok (.imul, 1) := by decide +kernel
theorem dX12_hand_41 : decode cX12_hand 41 = .ok (.iload_n 1, 1) := by decide +kernel
theorem dX12_hand_42 : decode cX12_hand 42 = .ok (.iadd, 1) := by decide +kernel
theorem dX12_hand_43 : decode cX12_hand 43 = .ok (.iaload, 1) := by decide +kernel
theorem dX12_hand_44 : decode cX12_hand 44 = .ok (.istore 4, 2) := by decide +kernel
theorem dX12_hand_46 : decode cX12_hand 46 = .ok (.aload_n 0, 1) := by decide +kernel
theorem dX12_hand_47 : decode cX12_hand 47 = .ok (.getfield 13, 3) := by decide +kernel
theorem dX12_hand_50 : decode cX12_hand 50 = .ok (.iconst 2, 1) := by decide +kernel
theorem dX12_hand_51 : decode cX12_hand 51 = .ok (.iload_n 2, 1) := by decide +kernel
theorem dX12_hand_52 : decode cX12_hand 52 = .ok (.imul, 1) := by decide +kernel
theorem dX12_hand_53 : decode cX12_hand 53 = .ok (.iload_n 1, 1) := by decide +kernel
theorem dX12_hand_54 : decode cX12_hand 54 = .ok (.iadd, 1) := by decide +kernel
theorem dX12_hand_55 : decode cX12_hand 55 = .ok (.iload_n 3, 1) := by decide +kernel
theorem dX12_hand_56 : decode cX12_hand 56 = .ok (.iastore, 1) := by decide +kernel
theorem dX12_hand_57 : decode cX12_hand 57 = .ok (.iload 4, 2) := by decide +kernel
theorem dX12_hand_59 : decode cX12_hand 59 = .ok (.ireturn, 1) := by decide +kernel
set_option maxRecDepth 20000 in
theorem ggX12_fall_X12_isPlayer : GoodIn wsX12_fall wsX12_isPlayer := goodIn_r _ [8, 9, 10, 7, 11] rfl (by decide +kernel)
set_option maxRecDepth 20000 in
theorem gX12_fall_X12_isPlayer : GoodIn wsX12_fall (va_wsS RX12 140 yX12_isPlayer wsX12_isPlayer) := goodIn_app (goodIn_of _ (by decide +kernel)) ggX12_fall_X12_isPlayer
set_option maxRecDepth 20000 in
theorem ggX12_fall_X12_in : GoodIn wsX12_fall wsX12_in := goodIn_r _ [11] rfl (by decide +kernel)
set_option maxRecDepth 20000 in
theorem gX12_fall_X12_in : GoodIn wsX12_fall (va_wsS RX12 108 yX12_in wsX12_in) := goodIn_app (goodIn_of _ (by decide +kernel)) ggX12_fall_X12_in
set_option maxRecDepth 20000 in
theorem ggX12_fall_X12_layFalls : GoodIn wsX12_fall wsX12_layFalls := goodIn_r _ [15, 16, 2, 17, 18, 7, 19, 20, 9, 10, 11, 21, 22, 23, 24, 3, 4, 25, 26, 27, 28, 29, 30, 31, 32, 33, 34, 35, 36, 37, 38, 39, 40, 41, 42, 43, 44, 45, 46, 47, 48, 49, 50, 51, 52, 53, 54, 55, 56, 57, 58, 59, 60, 61, 62, 63, 64, 65, 66, 67, 68, 69] rfl (by decide +kernel)
set_option maxRecDepth 20000 in
theorem gX12_fall_X12_layFalls : GoodIn wsX12_fall (wsV RX12 146 RX12 yX12_layFalls wsX12_layFalls) := goodIn_app (goodIn_of _ (by decide +kernel)) ggX12_fall_X12_layFalls
theorem dX12_fall_0 : decode cX12_fall 0 = .ok (.iload_n 1, 1) := by decide +kernel
theorem dX12_fall_1 : decode cX12_fall 1 = .ok (.invokestatic 140, 3) := by decide +kernel
theorem dX12_fall_4 : decode cX12_fall 4 = .ok (.ifCond .eq 15, 3) := by decide +kernel
theorem dX12_fall_7 : decode cX12_fall 7 = .ok (.iload_n 2, 1) := by decide +kernel
theorem dX12_fall_8 : decode cX12_fall 8 = .ok (.i2l, 1) := by decide +kernel
theorem dX12_fall_9 : decode cX12_fall 9 = .ok (.lconst 1, 1) := by decide +kernel
theorem dX12_fall_10 : decode cX12_fall 10 = .ok (.ldc2_w 112, 3) := by decide +kernel
theorem dX12_fall_13 : decode cX12_fall 13 = .ok (.invokestatic 108, 3) := by decide +kernel
theorem dX12_fall_16 : decode cX12_fall 16 = .ok (.ifCond .ne 5, 3) := by decide +kernel
theorem dX12_fall_19 : decode cX12_fall 19 = .ok (.iconst (-1), 1) := by decide +kernel
theorem dX12_fall_20 : decode cX12_fall 20 = .ok (.ireturn, 1) := by decide +kernel
theorem dX12_fall_21 : decode cX12_fall 21 = .ok (.aload_n 0, 1) := by decide +kernel
theorem dX12_fall_22 : decode cX12_fall 22 = .ok (.iload_n 1, 1) := by decide +kernel
theorem dX12_fall_23 : decode cX12_fall 23 = .ok (.iload_n 2, 1) := by decide +kernel
theorem dX12_fall_24 : decode cX12_fall 24 = .ok (.invokevirtual 146, 3) := by decide +kernel
theorem dX12_fall_27 : decode cX12_fall 27 = .ok (.iload_n 3, 1) := by decide +kernel
theorem dX12_fall_28 : decode cX12_fall 28 = .ok (.iconst (-1), 1) := by decide +kernel
theorem dX12_fall_29 : decode cX12_fall 29 = .ok (.if_icmp .ne 8, 3) := by decide +kernel
theorem dX12_fall_32 : decode cX12_fall 32 = .ok (.aload_n 0, 1) := by decide +kernel
theorem dX12_fall_33 : decode cX12_fall 33 = .ok (.getfield 132, 3) := by decide +kernel
theorem dX12_fall_36 : decode cX12_fall 36 = .ok (.ireturn, 1) := by decide +kernel
theorem dX12_fall_37 : decode cX12_fall 37 = .ok (.iload_n 3, 1) := by decide +kernel
theorem dX12_fall_38 : decode cX12_fall 38 = .ok (.i2l, 1) := by decide +kernel
theorem dX12_fall_39 : decode cX12_fall 39 = .ok (.lconst 0, 1) := by decide +kernel
theorem dX12_fall_40 : decode cX12_fall 40 = .ok (.aload_n 0, 1) := by decide +kernel
theorem dX12_fall_41 : decode cX12_fall 41 = .ok (.getfield 132, 3) := by decide +kernel
theorem dX12_fall_44 : decode cX12_fall 44 = .ok (.iconst 1, 1) := by decide +kernel
theorem dX12_fall_45 : decode cX12_fall 45 = .ok (.isub, 1) := by decide +kernel
theorem dX12_fall_46 : decode cX12_fall 46 = .ok (.i2l, 1) := by decide +kernel
theorem dX12_fall_47 : decode cX12_fall 47 = .ok (.invokestatic 108, 3) := by decide +kernel
theorem dX12_fall_50 : decode cX12_fall 50 = .ok (.ifCond .eq 14, 3) := by decide +kernel
theorem dX12_fall_53 : decode cX12_fall 53 = .ok (.iload 4, 2) := by decide +kernel
theorem dX12_fall_55 : decode cX12_fall 55 = .ok (.i2l, 1) := by decide +kernel
theorem dX12_fall_56 : decode cX12_fall 56 = .ok (.lconst 0, 1) := by decide +kernel
theorem dX12_fall_57 : decode cX12_fall 57 = .ok (.lconst 1, 1) := by decide +kernel
theorem dX12_fall_58 : decode cX12_fall 58 = .ok (.invokestatic 108, 3) := by decide +kernel
theorem dX12_fall_61 : decode cX12_fall 61 = .ok (.ifCond .ne 5, 3) := by decide +kernel
theorem dX12_fall_64 : decode cX12_fall 64 = .ok (.iconst (-1), 1) := by decide +kernel
theorem dX12_fall_65 : decode cX12_fall 65 = .ok (.ireturn, 1) := by decide +kernel
theorem dX12_fall_66 : decode cX12_fall 66 = .ok (.iload 4, 2) := by decide +kernel
theorem dX12_fall_68 : decode cX12_fall 68 = .ok (.ifCond .ne 12, 3) := by decide +kernel
theorem dX12_fall_71 : decode cX12_fall 71 = .ok (.aload_n 0, 1) := by decide +kernel
theorem dX12_fall_72 : decode cX12_fall 72 = .ok (.getfield 19, 3) := by decide +kernel
theorem dX12_fall_75 : decode cX12_fall 75 = .ok (.iload_n 3, 1) := by decide +kernel
theorem dX12_fall_76 : decode cX12_fall 76 = .ok (.iaload, 1) := by decide +kernel
theorem dX12_fall_77 : decode cX12_fall 77 = .ok (.goto 9, 3) := by decide +kernel
theorem dX12_fall_80 : decode cX12_fall 80 = .ok (.aload_n 0, 1) := by decide +kernel
theorem dX12_fall_81 : decode cX12_fall 81 = .ok (.getfield 22, 3) := by decide +kernel
theorem dX12_fall_84 : decode cX12_fall 84 = .ok (.iload_n 3, 1) := by decide +kernel
theorem dX12_fall_85 : decode cX12_fall 85 = .ok (.iaload, 1) := by decide +kernel
theorem dX12_fall_86 : decode cX12_fall 86 = .ok (.ireturn, 1) := by decide +kernel
set_option maxRecDepth 20000 in
theorem ggX12_out_X12_in : GoodIn wsX12_out wsX12_in := goodIn_r _ [6] rfl (by decide +kernel)
set_option maxRecDepth 20000 in
theorem gX12_out_X12_in : GoodIn wsX12_out (va_wsS RX12 108 yX12_in wsX12_in) := goodIn_app (goodIn_of _ (by decide +kernel)) ggX12_out_X12_in
theorem dX12_out_0 : decode cX12_out 0 = .ok (.iload_n 1, 1) := by decide +kernel
theorem dX12_out_1 : decode cX12_out 1 = .ok (.i2l, 1) := by decide +kernel
theorem dX12_out_2 : decode cX12_out 2 = .ok (.lconst 0, 1) := by decide +kernel
theorem dX12_out_3 : decode cX12_out 3 = .ok (.ldc2_w 149, 3) := by decide +kernel
theorem dX12_out_6 : decode cX12_out 6 = .ok (.invokestatic 108, 3) := by decide +kernel
theorem dX12_out_9 : decode cX12_out 9 = .ok (.ifCond .ne 5, 3) := by decide +kernel
theorem dX12_out_12 : decode cX12_out 12 = .ok (.iconst (-1), 1) := by decide +kernel
theorem dX12_out_13 : decode cX12_out 13 = .ok (.ireturn, 1) := by decide +kernel
theorem dX12_out_14 : decode cX12_out 14 = .ok (.iload_n 1, 1) := by decide +kernel
theorem dX12_out_15 : decode cX12_out 15 = .ok (.ifCond .eq 37, 3) := by decide +kernel
theorem dX12_out_18 : decode cX12_out 18 = .ok (.aload_n 0, 1) := by decide +kernel
theorem dX12_out_19 : decode cX12_out 19 = .ok (.getfield 13, 3) := by decide +kernel
theorem dX12_out_22 : decode cX12_out 22 = .ok (.iconst 4, 1) := by decide +kernel
theorem dX12_out_23 : decode cX12_out 23 = .ok (.iaload, 1) := by decide +kernel
theorem dX12_out_24 : decode cX12_out 24 = .ok (.iconst 1, 1) := by decide +kernel
theorem dX12_out_25 : decode cX12_out 25 = .ok (.if_icmp .eq 24, 3) := by decide +kernel
theorem dX12_out_28 : decode cX12_out 28 = .ok (.aload_n 0, 1) := by decide +kernel
theorem dX12_out_29 : decode cX12_out 29 = .ok (.getfield 13, 3) := by decide +kernel
theorem dX12_out_32 : decode cX12_out 32 = .ok (.iconst 5, 1) := by decide +kernel
theorem dX12_out_33 : decode cX12_out 33 = .ok (.iaload, 1) := by decide +kernel
theorem dX12_out_34 : decode cX12_out 34 = .ok (.iconst 1, 1) := by decide +kernel
theorem dX12_out_35 : decode cX12_out 35 = .ok (.if_icmp .eq 14, 3) := by decide +kernel
theorem dX12_out_38 : decode cX12_out 38 = .ok (.aload_n 0, 1) := by decide +kernel
theorem dX12_out_39 : decode cX12_out 39 = .ok (.getfield 13, 3) := by decide +kernel
theorem dX12_out_42 : decode cX12_out 42 = .ok (.bipush 17, 2) := by decide +kernel
theorem dX12_out_44 : decode cX12_out 44 = .ok (.iaload, 1) := by decide +kernel
theorem dX12_out_45 : decode cX12_out 45 = .ok (.iconst 1, 1) := by decide +kernel
theorem dX12_out_46 : decode cX12_out 46 = .ok (.if_icmp .ne 6, 3) := by decide +kernel
theorem dX12_out_49 : decode cX12_out 49 = .ok (.bipush (-3), 2) := by decide +kernel
theorem dX12_out_51 : decode cX12_out 51 = .ok (.ireturn, 1) := by decide +kernel
theorem dX12_out_52 : decode cX12_out 52 = .ok (.aload_n 0, 1) := by decide +kernel
theorem dX12_out_53 : decode cX12_out 53 = .ok (.getfield 13, 3) := by decide +kernel
theorem dX12_out_56 : decode cX12_out 56 = .ok (.bipush 12, 2) := by decide +kernel
theorem dX12_out_58 : decode cX12_out 58 = .ok (.iaload, 1) := by decide +kernel
theorem dX12_out_59 : decode cX12_out 59 = .ok (.istore_n 2, 1) := by decide +kernel
theorem dX12_out_60 : decode cX12_out 60 = .ok (.aload_n 0, 1) := by decide +kernel
theorem dX12_out_61 : decode cX12_out 61 = .ok (.getfield 13, 3) := by decide +kernel
theorem dX12_out_64 : decode cX12_out 64 = .ok (.bipush 12, 2) := by decide +kernel
theorem dX12_out_66 : decode cX12_out 66 = .ok (.iload_n 1, 1) := by decide +kernel
theorem dX12_out_67 : decode cX12_out 67 = .ok (.iastore, 1) := by decide +kernel
theorem dX12_out_68 : decode cX12_out 68 = .ok (.iload_n 2, 1) := by decide +kernel
theorem dX12_out_69 : decode cX12_out 69 = .ok (.ireturn, 1) := by decide +kernel
theorem dX12_leastRest_0 : decode cX12_leastRest 0 = .ok (.aload_n 0, 1) := by decide +kernel
theorem dX12_leastRest_1 : decode cX12_leastRest 1 = .ok (.getfield 13, 3) := by decide +kernel
theorem dX12_leastRest_4 : decode cX12_leastRest 4 = .ok (.bipush 12, 2) := by decide +kernel
theorem dX12_leastRest_6 : decode cX12_leastRest 6 = .ok (.iaload, 1) := by decide +kernel
theorem dX12_leastRest_7 : decode cX12_leastRest 7 = .ok (.ifCond .ne 7, 3) := by decide +kernel
theorem dX12_leastRest_10 : decode cX12_leastRest 10 = .ok (.iconst 1, 1) := by decide +kernel
theorem dX12_leastRest_11 : decode cX12_leastRest 11 = .ok (.goto 4, 3) := by decide +kernel
theorem dX12_leastRest_14 : decode cX12_leastRest 14 = .ok (.iconst 2, 1) := by decide +kernel
theorem dX12_leastRest_15 : decode cX12_leastRest 15 = .ok (.ireturn, 1) := by decide +kernel
set_option maxRecDepth 20000 in
theorem ggX12_nextRest_X12_scoreOf : GoodIn wsX12_nextRest wsX12_scoreOf := goodIn_r _ [5] rfl (by decide +kernel)
set_option maxRecDepth 20000 in
theorem gX12_nextRest_X12_scoreOf : GoodIn wsX12_nextRest (va_wsS RX12 116 yX12_scoreOf wsX12_scoreOf) := goodIn_app (goodIn_of _ (by decide +kernel)) ggX12_nextRest_X12_scoreOf
set_option maxRecDepth 20000 in
theorem ggX12_nextRest_X12_isUnder : GoodIn wsX12_nextRest wsX12_isUnder := goodIn_r _ [8, 9, 10, 4, 11] rfl (by decide +kernel)
set_option maxRecDepth 20000 in
theorem gX12_nextRest_X12_isUnder : GoodIn wsX12_nextRest (va_wsS RX12 128 yX12_isUnder wsX12_isUnder) := goodIn_app (goodIn_of _ (by decide +kernel)) ggX12_nextRest_X12_isUnder
theorem dX12_nextRest_0 : decode cX12_nextRest 0 = .ok (.iload_n 1, 1) := by decide +kernel
theorem dX12_nextRest_1 : decode cX12_nextRest 1 = .ok (.iload_n 2, 1) := by decide +kernel
theorem dX12_nextRest_2 : decode cX12_nextRest 2 = .ok (.invokestatic 116, 3) := by decide +kernel
theorem dX12_nextRest_5 : decode cX12_nextRest 5 = .ok (.isub, 1) := by decide +kernel
theorem dX12_nextRest_6 : decode cX12_nextRest 6 = .ok (.istore_n 3, 1) := by decide +kernel
theorem dX12_nextRest_7 : decode cX12_nextRest 7 = .ok (.aload_n 0, 1) := by decide +kernel
theorem dX12_nextRest_8 : decode cX12_nextRest 8 = .ok (.getfield 13, 3) := by decide +kernel
theorem dX12_nextRest_11 : decode cX12_nextRest 11 = .ok (.bipush 12, 2) := by decide +kernel
theorem dX12_nextRest_13 : decode cX12_nextRest 13 = .ok (.iaload, 1) := by decide +kernel
theorem dX12_nextRest_14 : decode cX12_nextRest 14 = .ok (.ifCond .eq 30, 3) := by decide +kernel
theorem dX12_nextRest_17 : decode cX12_nextRest 17 = .ok (.iload_n 2, 1) := by decide +kernel
theorem dX12_nextRest_18 : decode cX12_nextRest 18 = .ok (.iconst 2, 1) := by decide +kernel
theorem dX12_nextRest_19 : decode cX12_nextRest 19 = .ok (.invokestatic 128, 3) := by decide +kernel
theorem dX12_nextRest_22 : decode cX12_nextRest 22 = .ok (.ifCond .ne 22, 3) := by decide +kernel
theorem dX12_nextRest_25 : decode cX12_nextRest 25 = .ok (.aload_n 0, 1) := by decide +kernel
theorem dX12_nextRest_26 : decode cX12_nextRest 26 = .ok (.getfield 13, 3) := by decide +kernel
theorem dX12_nextRest_29 : decode cX12_nextRest 29 = .ok (.bipush 12, 2) := by decide +kernel
theorem dX12_nextRest_31 : decode cX12_nextRest 31 = .ok (.iaload, 1) := by decide +kernel
theorem dX12_nextRest_32 : decode cX12_nextRest 32 = .ok (.iconst 2, 1) := by decide +kernel
theorem dX12_nextRest_33 : decode cX12_nextRest 33 = .ok (.if_icmp .ne 15, 3) := by decide +kernel
theorem dX12_nextRest_36 : decode cX12_nextRest 36 = .ok (.iload_n 2, 1) := by decide +kernel
theorem dX12_nextRest_37 : decode cX12_nextRest 37 = .ok (.iconst 3, 1) := by decide +kernel
theorem dX12_nextRest_38 : decode cX12_nextRest 38 = .ok (.invokestatic 128, 3) := by decide +kernel
theorem dX12_nextRest_41 : decode cX12_nextRest 41 = .ok (.ifCond .eq 7, 3) := by decide +kernel
theorem dX12_nextRest_44 : decode cX12_nextRest 44 = .ok (.iconst 1, 1) := by decide +kernel
theorem dX12_nextRest_45 : decode cX12_nextRest 45 = .ok (.goto 4, 3) := by decide +kernel
theorem dX12_nextRest_48 : decode cX12_nextRest 48 = .ok (.iconst 0, 1) := by decide +kernel
theorem dX12_nextRest_49 : decode cX12_nextRest 49 = .ok (.istore 4, 2) := by decide +kernel
theorem dX12_nextRest_51 : decode cX12_nextRest 51 = .ok (.iload_n 3, 1) := by decide +kernel
theorem dX12_nextRest_52 : decode cX12_nextRest 52 = .ok (.ifCond .lt 27, 3) := by decide +kernel
theorem dX12_nextRest_55 : decode cX12_nextRest 55 = .ok (.iload_n 3, 1) := by decide +kernel
theorem dX12_nextRest_56 : decode cX12_nextRest 56 = .ok (.ifCond .ne 8, 3) := by decide +kernel
theorem dX12_nextRest_59 : decode cX12_nextRest 59 = .ok (.iload 4, 2) := by decide +kernel
theorem dX12_nextRest_61 : decode cX12_nextRest 61 = .ok (.ifCond .eq 18, 3) := by decide +kernel
theorem dX12_nextRest_64 : decode cX12_nextRest 64 = .ok (.iload_n 3, 1) := by decide +kernel
theorem dX12_nextRest_65 : decode cX12_nextRest 65 = .ok (.iconst 1, 1) := by decide +kernel
theorem dX12_nextRest_66 : decode cX12_nextRest 66 = .ok (.if_icmp .ne 17, 3) := by decide +kernel
theorem dX12_nextRest_69 : decode cX12_nextRest 69 = .ok (.aload_n 0, 1) := by decide +kernel
theorem dX12_nextRest_70 : decode cX12_nextRest 70 = .ok (.getfield 13, 3) := by decide +kernel
theorem dX12_nextRest_73 : decode cX12_nextRest 73 = .ok (.bipush 12, 2) := by decide +kernel
theorem dX12_nextRest_75 : decode cX12_nextRest 75 = .ok (.iaload, 1) := by decide +kernel
theorem dX12_nextRest_76 : decode cX12_nextRest 76 = .ok (.ifCond .eq 7, 3) := by decide +kernel
theorem dX12_nextRest_79 : decode cX12_nextRest 79 = .ok (.iconst 1, 1) := by decide +kernel
theorem dX12_nextRest_80 : decode cX12_nextRest 80 = .ok (.goto 4, 3) := by decide +kernel
theorem dX12_nextRest_83 : decode cX12_nextRest 83 = .ok (.iconst 0, 1) := by decide +kernel
theorem dX12_nextRest_84 : decode cX12_nextRest 84 = .ok (.istore 5, 2) := by decide +kernel
theorem dX12_nextRest_86 : decode cX12_nextRest 86 = .ok (.iload 5, 2) := by decide +kernel
theorem dX12_nextRest_88 : decode cX12_nextRest 88 = .ok (.ifCond .eq 8, 3) := by decide +kernel
theorem dX12_nextRest_91 : decode cX12_nextRest 91 = .ok (.bipush (-5), 2) := by decide +kernel
theorem dX12_nextRest_93 : decode cX12_nextRest 93 = .ok (.goto 4, 3) := by decide +kernel
theorem dX12_nextRest_96 : decode cX12_nextRest 96 = .ok (.iload_n 3, 1) := by decide +kernel
theorem dX12_nextRest_97 : decode cX12_nextRest 97 = .ok (.ireturn, 1) := by decide +kernel
set_option maxRecDepth 20000 in
theorem ggX12_falls_X12_in : GoodIn wsX12_falls wsX12_in := goodIn_r _ [6] rfl (by decide +kernel)
set_option maxRecDepth 20000 in
theorem gX12_falls_X12_in : GoodIn wsX12_falls (va_wsS RX12 108 yX12_in wsX12_in) := goodIn_app (goodIn_of _ (by decide +kernel)) ggX12_falls_X12_in
set_option maxRecDepth 20000 in
theorem ggX12_falls_X12_nextRest : GoodIn wsX12_falls wsX12_nextRest := goodIn_r _ [10, 11, 12, 13, 5, 14, 15, 16, 17, 18, 19, 20, 21, 22, 23, 24, 25, 26, 27, 28, 29, 30, 31, 32, 33, 34, 35, 36, 37, 38, 39, 40, 41, 42, 43, 44, 45, 46, 47, 48, 49, 50, 51, 52, 53, 54, 55, 56, 57, 58, 59, 60] rfl (by decide +kernel)
set_option maxRecDepth 20000 in
theorem gX12_falls_X12_nextRest : GoodIn wsX12_falls (wsV RX12 153 RX12 yX12_nextRest wsX12_nextRest) := goodIn_app (goodIn_of _ (by decide +kernel)) ggX12_falls_X12_nextRest
theorem dX12_falls_0 : decode cX12_falls 0 = .ok (.iload_n 2, 1) := by decide +kernel
theorem dX12_falls_1 : decode cX12_falls 1 = .ok (.i2l, 1) := by decide +kernel
theorem dX12_falls_2 : decode cX12_falls 2 = .ok (.lconst 0, 1) := by decide +kernel
theorem dX12_falls_3 : decode cX12_falls 3 = .ok (.ldc2_w 112, 3) := by decide +kernel
theorem dX12_falls_6 : decode cX12_falls 6 = .ok (.invokestatic 108, 3) := by decide +kernel
theorem dX12_falls_9 : decode cX12_falls 9 = .ok (.ifCond .ne 5, 3) := by decide +kernel
theorem dX12_falls_12 : decode cX12_falls 12 = .ok (.iconst (-1), 1) := by decide +kernel
theorem dX12_falls_13 : decode cX12_falls 13 = .ok (.ireturn, 1) := by decide +kernel
theorem dX12_falls_14 : decode cX12_falls 14 = .ok (.iload_n 1, 1) := by decide +kernel
theorem dX12_falls_15 : decode cX12_falls 15 = .ok (.i2l, 1) := by decide +kernel
theorem dX12_falls_16 : decode cX12_falls 16 = .ok (.lconst 1, 1) := by decide +kernel
theorem dX12_falls_17 : decode cX12_falls 17 = .ok (.ldc2_w 151, 3) := by decide +kernel
theorem dX12_falls_20 : decode cX12_falls 20 = .ok (.invokestatic 108, 3) := by decide +kernel
theorem dX12_falls_23 : decode cX12_falls 23 = .ok (.ifCond .eq 12, 3) := by decide +kernel
theorem dX12_falls_26 : decode cX12_falls 26 = .ok (.aload_n 0, 1) := by decide +kernel
theorem dX12_falls_27 : decode cX12_falls 27 = .ok (.iload_n 1, 1) := by decide +kernel
theorem dX12_falls_28 : decode cX12_falls 28 = .ok (.iload_n 2, 1) := by decide +kernel
theorem dX12_falls_29 : decode cX12_falls 29 = .ok (.invokevirtual 153, 3) := by decide +kernel
theorem dX12_falls_32 : decode cX12_falls 32 = .ok (.goto 5, 3) := by decide +kernel
theorem dX12_falls_35 : decode cX12_falls 35 = .ok (.bipush (-2), 2) := by decide +kernel
theorem dX12_falls_37 : decode cX12_falls 37 = .ok (.ireturn, 1) := by decide +kernel
theorem dX12_isLaid_0 : decode cX12_isLaid 0 = .ok (.aload_n 0, 1) := by decide +kernel
theorem dX12_isLaid_1 : decode cX12_isLaid 1 = .ok (.getfield 32, 3) := by decide +kernel
theorem dX12_isLaid_4 : decode cX12_isLaid 4 = .ok (.iload_n 1, 1) := by decide +kernel
theorem dX12_isLaid_5 : decode cX12_isLaid 5 = .ok (.iaload, 1) := by decide +kernel
theorem dX12_isLaid_6 : decode cX12_isLaid 6 = .ok (.aload_n 0, 1) := by decide +kernel
theorem dX12_isLaid_7 : decode cX12_isLaid 7 = .ok (.getfield 13, 3) := by decide +kernel
theorem dX12_isLaid_10 : decode cX12_isLaid 10 = .ok (.iload_n 1, 1) := by decide +kernel
theorem dX12_isLaid_11 : decode cX12_isLaid 11 = .ok (.iaload, 1) := by decide +kernel
theorem dX12_isLaid_12 : decode cX12_isLaid 12 = .ok (.if_icmp .ne 40, 3) := by decide +kernel
theorem dX12_isLaid_15 : decode cX12_isLaid 15 = .ok (.aload_n 0, 1) := by decide +kernel
theorem dX12_isLaid_16 : decode cX12_isLaid 16 = .ok (.getfield 35, 3) := by decide +kernel
theorem dX12_isLaid_19 : decode cX12_isLaid 19 = .ok (.iload_n 1, 1) := by decide +kernel
theorem dX12_isLaid_20 : decode cX12_isLaid 20 = .ok (.iaload, 1) := by decide +kernel
theorem dX12_isLaid_21 : decode cX12_isLaid 21 = .ok (.aload_n 0, 1) := by decide +kernel
theorem dX12_isLaid_22 : decode cX12_isLaid 22 = .ok (.getfield 13, 3) := by decide +kernel
theorem dX12_isLaid_25 : decode cX12_isLaid 25 = .ok (.iconst 2, 1) := by decide +kernel
theorem dX12_isLaid_26 : decode cX12_isLaid 26 = .ok (.iload_n 1, 1) := by decide +kernel
theorem dX12_isLaid_27 : decode cX12_isLaid 27 = .ok (.iadd, 1) := by decide +kernel
theorem dX12_isLaid_28 : decode cX12_isLaid 28 = .ok (.iaload, 1) := by decide +kernel
theorem dX12_isLaid_29 : decode cX12_isLaid 29 = .ok (.if_icmp .ne 23, 3) := by decide +kernel
theorem dX12_isLaid_32 : decode cX12_isLaid 32 = .ok (.aload_n 0, 1) := by decide +kernel
theorem dX12_isLaid_33 : decode cX12_isLaid 33 = .ok (.getfield 38, 3) := by decide +kernel
theorem dX12_isLaid_36 : decode cX12_isLaid 36 = .ok (.iload_n 1, 1) := by decide +kernel
theorem dX12_isLaid_37 : decode cX12_isLaid 37 = .ok (.iaload, 1) := by decide +kernel
theorem dX12_isLaid_38 : decode cX12_isLaid 38 = .ok (.aload_n 0, 1) := by decide +kernel
theorem dX12_isLaid_39 : decode cX12_isLaid 39 = .ok (.getfield 13, 3) := by decide +kernel
theorem dX12_isLaid_42 : decode cX12_isLaid 42 = .ok (.bipush 12, 2) := by decide +kernel
theorem dX12_isLaid_44 : decode cX12_isLaid 44 = .ok (.iaload, 1) := by decide +kernel
theorem dX12_isLaid_45 : decode cX12_isLaid 45 = .ok (.if_icmp .ne 7, 3) := by decide +kernel
theorem dX12_isLaid_48 : decode cX12_isLaid 48 = .ok (.iconst 1, 1) := by decide +kernel
theorem dX12_isLaid_49 : decode cX12_isLaid 49 = .ok (.goto 4, 3) := by decide +kernel
theorem dX12_isLaid_52 : decode cX12_isLaid 52 = .ok (.iconst 0, 1) := by decide +kernel
theorem dX12_isLaid_53 : decode cX12_isLaid 53 = .ok (.istore_n 2, 1) := by decide +kernel
theorem dX12_isLaid_54 : decode cX12_isLaid 54 = .ok (.aload_n 0, 1) := by decide +kernel
theorem dX12_isLaid_55 : decode cX12_isLaid 55 = .ok (.getfield 32, 3) := by decide +kernel
theorem dX12_isLaid_58 : decode cX12_isLaid 58 = .ok (.iload_n 1, 1) := by decide +kernel
theorem dX12_isLaid_59 : decode cX12_isLaid 59 = .ok (.aload_n 0, 1) := by decide +kernel
theorem dX12_isLaid_60 : decode cX12_isLaid 60 = .ok (.getfield 13, 3) := by decide +kernel
theorem dX12_isLaid_63 : decode cX12_isLaid 63 = .ok (.iload_n 1, 1) := by decide +kernel
theorem dX12_isLaid_64 : decode cX12_isLaid 64 = .ok (.iaload, 1) := by decide +kernel
theorem dX12_isLaid_65 : decode cX12_isLaid 65 = .ok (.iastore, 1) := by decide +kernel
theorem dX12_isLaid_66 : decode cX12_isLaid 66 = .ok (.aload_n 0, 1) := by decide +kernel
theorem dX12_isLaid_67 : decode cX12_isLaid 67 = .ok (.getfield 35, 3) := by decide +kernel
theorem dX12_isLaid_70 : decode cX12_isLaid 70 = .ok (.iload_n 1, 1) := by decide +kernel
theorem dX12_isLaid_71 : decode cX12_isLaid 71 = .ok (.aload_n 0, 1) := by decide +kernel
theorem dX12_isLaid_72 : decode cX12_isLaid 72 = .ok (.getfield 13, 3) := by decide +kernel
theorem dX12_isLaid_75 : decode cX12_isLaid 75 = .ok (.iconst 2, 1) := by decide +kernel
theorem dX12_isLaid_76 : decode cX12_isLaid 76 = .ok (.iload_n 1, 1) := by decide +kernel
theorem dX12_isLaid_77 : decode cX12_isLaid 77 = .ok (.iadd, 1) := by decide +kernel
theorem dX12_isLaid_78 : decode cX12_isLaid 78 = .ok (.iaload, 1) := by decide +kernel
theorem dX12_isLaid_79 : decode cX12_isLaid 79 = .ok (.iastore, 1) := by decide +kernel
theorem dX12_isLaid_80 : decode cX12_isLaid 80 = .ok (.aload_n 0, 1) := by decide +kernel
theorem dX12_isLaid_81 : decode cX12_isLaid 81 = .ok (.getfield 38, 3) := by decide +kernel
theorem dX12_isLaid_84 : decode cX12_isLaid 84 = .ok (.iload_n 1, 1) := by decide +kernel
theorem dX12_isLaid_85 : decode cX12_isLaid 85 = .ok (.aload_n 0, 1) := by decide +kernel
theorem dX12_isLaid_86 : decode cX12_isLaid 86 = .ok (.getfield 13, 3) := by decide +kernel
theorem dX12_isLaid_89 : decode cX12_isLaid 89 = .ok (.bipush 12, 2) := by decide +kernel
theorem dX12_isLaid_91 : decode cX12_isLaid 91 = .ok (.iaload, 1) := by decide +kernel
theorem dX12_isLaid_92 : decode cX12_isLaid 92 = .ok (.iastore, 1) := by decide +kernel
theorem dX12_isLaid_93 : decode cX12_isLaid 93 = .ok (.iload_n 2, 1) := by decide +kernel
theorem dX12_isLaid_94 : decode cX12_isLaid 94 = .ok (.ireturn, 1) := by decide +kernel
set_option maxRecDepth 20000 in
theorem ggX12_dartsValue_X12_nextRest : GoodIn wsX12_dartsValue wsX12_nextRest := goodIn_r _ [11, 12, 13, 14, 10, 15, 16, 17, 18, 19, 20, 21, 22, 23, 24, 25, 26, 27, 28, 29, 30, 31, 32, 33, 34, 35, 36, 37, 38, 39, 40, 41, 42, 43, 44, 45, 46, 47, 48, 49, 50, 51, 52, 53, 54, 55, 56, 57, 58, 59, 60, 61] rfl (by decide +kernel)
set_option maxRecDepth 20000 in
theorem gX12_dartsValue_X12_nextRest : GoodIn wsX12_dartsValue (wsV RX12 153 RX12 yX12_nextRest wsX12_nextRest) := goodIn_app (goodIn_of _ (by decide +kernel)) ggX12_dartsValue_X12_nextRest
theorem dX12_dartsValue_0 : decode cX12_dartsValue 0 = .ok (.dconst 1, 1) := by decide +kernel
theorem dX12_dartsValue_1 : decode cX12_dartsValue 1 = .ok (.dstore_n 3, 1) := by decide +kernel
theorem dX12_dartsValue_2 : decode cX12_dartsValue 2 = .ok (.iconst 0, 1) := by decide +kernel
theorem dX12_dartsValue_3 : decode cX12_dartsValue 3 = .ok (.istore 5, 2) := by decide +kernel
theorem dX12_dartsValue_5 : decode cX12_dartsValue 5 = .ok (.iconst 0, 1) := by decide +kernel
theorem dX12_dartsValue_6 : decode cX12_dartsValue 6 = .ok (.istore 6, 2) := by decide +kernel
theorem dX12_dartsValue_8 : decode cX12_dartsValue 8 = .ok (.iload 6, 2) := by decide +kernel
theorem dX12_dartsValue_10 : decode cX12_dartsValue 10 = .ok (.aload_n 0, 1) := by decide +kernel
theorem dX12_dartsValue_11 : decode cX12_dartsValue 11 = .ok (.getfield 132, 3) := by decide +kernel
theorem dX12_dartsValue_14 : decode cX12_dartsValue 14 = .ok (.if_icmp .ge 86, 3) := by decide +kernel
theorem dX12_dartsValue_17 : decode cX12_dartsValue 17 = .ok (.aload_n 0, 1) := by decide +kernel
theorem dX12_dartsValue_18 : decode cX12_dartsValue 18 = .ok (.iload_n 2, 1) := by decide +kernel
theorem dX12_dartsValue_19 : decode cX12_dartsValue 19 = .ok (.aload_n 0, 1) := by decide +kernel
theorem dX12_dartsValue_20 : decode cX12_dartsValue 20 = .ok (.getfield 19, 3) := by decide +kernel
theorem dX12_dartsValue_23 : decode cX12_dartsValue 23 = .ok (.iload 6, 2) := by decide +kernel
theorem dX12_dartsValue_25 : decode cX12_dartsValue 25 = .ok (.iaload, 1) := by decide +kernel
theorem dX12_dartsValue_26 : decode cX12_dartsValue 26 = .ok (.invokevirtual 153, 3) := by decide +kernel
theorem dX12_dartsValue_29 : decode cX12_dartsValue 29 = .ok (.istore 7, 2) := by decide +kernel
theorem dX12_dartsValue_31 : decode cX12_dartsValue 31 = .ok (.iload 7, 2) := by decide +kernel
theorem dX12_dartsValue_33 : decode cX12_dartsValue 33 = .ok (.ifCond .lt 13, 3) := by decide +kernel
theorem dX12_dartsValue_36 : decode cX12_dartsValue 36 = .ok (.aload_n 0, 1) := by decide +kernel
theorem dX12_dartsValue_37 : decode cX12_dartsValue 37 = .ok (.getfield 19, 3) := by decide +kernel
theorem dX12_dartsValue_40 : decode cX12_dartsValue 40 = .ok (.iload 6, 2) := by decide +kernel
theorem dX12_dartsValue_42 : decode cX12_dartsValue 42 = .ok (.iaload, 1) := by decide +kernel
theorem dX12_dartsValue_43 : decode cX12_dartsValue 43 = .ok (.ifCond .ne 18, 3) := by decide +kernel
theorem dX12_dartsValue_46 : decode cX12_dartsValue 46 = .ok (.iload 5, 2) := by decide +kernel
theorem dX12_dartsValue_48 : decode cX12_dartsValue 48 = .ok (.aload_n 0, 1) := by decide +kernel
theorem dX12_dartsValue_49 : decode cX12_dartsValue 49 = .ok (.getfield 22, 3) := by decide +kernel
theorem dX12_dartsValue_52 : decode cX12_dartsValue 52 = .ok (.iload 6, 2) := by decide +kernel
theorem dX12_dartsValue_54 : decode cX12_dartsValue 54 = .ok (.iaload, 1) := by decide +kernel
theorem dX12_dartsValue_55 : decode cX12_dartsValue 55 = .ok (.iadd, 1) := by decide +kernel
theorem dX12_dartsValue_56 : decode cX12_dartsValue 56 = .ok (.istore 5, 2) := by decide +kernel
theorem dX12_dartsValue_58 : decode cX12_dartsValue 58 = .ok (.goto 36, 3) := by decide +kernel
theorem dX12_dartsValue_61 : decode cX12_dartsValue 61 = .ok (.aload_n 0, 1) := by decide +kernel
theorem dX12_dartsValue_62 : decode cX12_dartsValue 62 = .ok (.getfield 22, 3) := by decide +kernel
theorem dX12_dartsValue_65 : decode cX12_dartsValue 65 = .ok (.iload 6, 2) := by decide +kernel
theorem dX12_dartsValue_67 : decode cX12_dartsValue 67 = .ok (.iaload, 1) := by decide +kernel
theorem dX12_dartsValue_68 : decode cX12_dartsValue 68 = .ok (.i2d, 1) := by decide +kernel
theorem dX12_dartsValue_69 : decode cX12_dartsValue 69 = .ok (.ldc2_w 156, 3) := by decide +kernel
theorem dX12_dartsValue_72 : decode cX12_dartsValue 72 = .ok (.ddiv, 1) := by decide +kernel
theorem dX12_dartsValue_73 : decode cX12_dartsValue 73 = .ok (.dstore 8, 2) := by decide +kernel
theorem dX12_dartsValue_75 : decode cX12_dartsValue 75 = .ok (.dload_n 3, 1) := by decide +kernel
theorem dX12_dartsValue_76 : decode cX12_dartsValue 76 = .ok (.dload 8, 2) := by decide +kernel
theorem dX12_dartsValue_78 : decode cX12_dartsValue 78 = .ok (.aload_n 0, 1) := by decide +kernel
theorem dX12_dartsValue_79 : decode cX12_dartsValue 79 = .ok (.getfield 25, 3) := by decide +kernel
theorem dX12_dartsValue_82 : decode cX12_dartsValue 82 = .ok (.sipush 502, 3) := by decide +kernel
theorem dX12_dartsValue_85 : decode cX12_dartsValue 85 = .ok (.iload_n 1, 1) := by decide +kernel
theorem dX12_dartsValue_86 : decode cX12_dartsValue 86 = .ok (.imul, 1) := by decide +kernel
theorem dX12_dartsValue_87 : decode cX12_dartsValue 87 = .ok (.iload 7, 2) := by decide +kernel
theorem dX12_dartsValue_89 : decode cX12_dartsValue 89 = .ok (.iadd, 1) := by decide +kernel
theorem dX12_dartsValue_90 : decode cX12_dartsValue 90 = .ok (.daload, 1) := by decide +kernel
theorem dX12_dartsValue_91 : decode cX12_dartsValue 91 = .ok (.dmul, 1) := by decide +kernel
theorem dX12_dartsValue_92 : decode cX12_dartsValue 92 = .ok (.dadd, 1) := by decide +kernel
theorem dX12_dartsValue_93 : decode cX12_dartsValue 93 = .ok (.dstore_n 3, 1) := by decide +kernel
theorem dX12_dartsValue_94 : decode cX12_dartsValue 94 = .ok (.iinc 6 1, 3) := by decide +kernel
theorem dX12_dartsValue_97 : decode cX12_dartsValue 97 = .ok (.goto (-89), 3) := by decide +kernel
theorem dX12_dartsValue_100 : decode cX12_dartsValue 100 = .ok (.iload 5, 2) := by decide +kernel
theorem dX12_dartsValue_102 : decode cX12_dartsValue 102 = .ok (.sipush 1000, 3) := by decide +kernel
theorem dX12_dartsValue_105 : decode cX12_dartsValue 105 = .ok (.if_icmp .ne 9, 3) := by decide +kernel
theorem dX12_dartsValue_108 : decode cX12_dartsValue 108 = .ok (.ldc2_w 158, 3) := by decide +kernel
theorem dX12_dartsValue_111 : decode cX12_dartsValue 111 = .ok (.goto 16, 3) := by decide +kernel
theorem dX12_dartsValue_114 : decode cX12_dartsValue 114 = .ok (.dload_n 3, 1) := by decide +kernel
theorem dX12_dartsValue_115 : decode cX12_dartsValue 115 = .ok (.sipush 1000, 3) := by decide +kernel
theorem dX12_dartsValue_118 : decode cX12_dartsValue 118 = .ok (.iload 5, 2) := by decide +kernel
theorem dX12_dartsValue_120 : decode cX12_dartsValue 120 = .ok (.isub, 1) := by decide +kernel
theorem dX12_dartsValue_121 : decode cX12_dartsValue 121 = .ok (.i2d, 1) := by decide +kernel
theorem dX12_dartsValue_122 : decode cX12_dartsValue 122 = .ok (.ldc2_w 156, 3) := by decide +kernel
theorem dX12_dartsValue_125 : decode cX12_dartsValue 125 = .ok (.ddiv, 1) := by decide +kernel
theorem dX12_dartsValue_126 : decode cX12_dartsValue 126 = .ok (.ddiv, 1) := by decide +kernel
theorem dX12_dartsValue_127 : decode cX12_dartsValue 127 = .ok (.dreturn, 1) := by decide +kernel
set_option maxRecDepth 20000 in
theorem ggX12_keepFalls_X12_layFalls : GoodIn wsX12_keepFalls wsX12_layFalls := goodIn_r _ [11, 12, 2, 13, 14, 10, 15, 16, 17, 18, 19, 20, 21, 22, 23, 4, 6, 24, 25, 26, 27, 28, 29, 30, 31, 32, 33, 34, 35, 36, 37, 38, 39, 40, 41, 42, 43, 44, 45, 46, 47, 48, 49, 50, 51, 52, 53, 54, 55, 56, 57, 58, 59, 60, 61, 62, 63, 64, 65, 66, 67, 68] rfl (by decide +kernel)
set_option maxRecDepth 20000 in
theorem gX12_keepFalls_X12_layFalls : GoodIn wsX12_keepFalls (wsV RX12 146 RX12 yX12_layFalls wsX12_layFalls) := goodIn_app (goodIn_of _ (by decide +kernel)) ggX12_keepFalls_X12_layFalls
theorem dX12_keepFalls_0 : decode cX12_keepFalls 0 = .ok (.iconst 1, 1) := by decide +kernel
theorem dX12_keepFalls_1 : decode cX12_keepFalls 1 = .ok (.istore_n 2, 1) := by decide +kernel
theorem dX12_keepFalls_2 : decode cX12_keepFalls 2 = .ok (.iload_n 2, 1) := by decide +kernel
theorem dX12_keepFalls_3 : decode cX12_keepFalls 3 = .ok (.bipush 62, 2) := by decide +kernel
theorem dX12_keepFalls_5 : decode cX12_keepFalls 5 = .ok (.if_icmp .gt 73, 3) := by decide +kernel
theorem dX12_keepFalls_8 : decode cX12_keepFalls 8 = .ok (.aload_n 0, 1) := by decide +kernel
theorem dX12_keepFalls_9 : decode cX12_keepFalls 9 = .ok (.iload_n 1, 1) := by decide +kernel
theorem dX12_keepFalls_10 : decode cX12_keepFalls 10 = .ok (.iload_n 2, 1) := by decide +kernel
theorem dX12_keepFalls_11 : decode cX12_keepFalls 11 = .ok (.invokevirtual 146, 3) := by decide +kernel
theorem dX12_keepFalls_14 : decode cX12_keepFalls 14 = .ok (.aload_n 0, 1) := by decide +kernel
theorem dX12_keepFalls_15 : decode cX12_keepFalls 15 = .ok (.getfield 41, 3) := by decide +kernel
theorem dX12_keepFalls_18 : decode cX12_keepFalls 18 = .ok (.iload_n 2, 1) := by decide +kernel
theorem dX12_keepFalls_19 : decode cX12_keepFalls 19 = .ok (.aload_n 0, 1) := by decide +kernel
theorem dX12_keepFalls_20 : decode cX12_keepFalls 20 = .ok (.getfield 132, 3) := by decide +kernel
theorem dX12_keepFalls_23 : decode cX12_keepFalls 23 = .ok (.iastore, 1) := by decide +kernel
theorem dX12_keepFalls_24 : decode cX12_keepFalls 24 = .ok (.iconst 0, 1) := by decide +kernel
theorem dX12_keepFalls_25 : decode cX12_keepFalls 25 = .ok (.istore_n 3, 1) := by decide +kernel
theorem dX12_keepFalls_26 : decode cX12_keepFalls 26 = .ok (.iload_n 3, 1) := by decide +kernel
theorem dX12_keepFalls_27 : decode cX12_keepFalls 27 = .ok (.aload_n 0, 1) := by decide +kernel
theorem dX12_keepFalls_28 : decode cX12_keepFalls 28 = .ok (.getfield 132, 3) := by decide +kernel
theorem dX12_keepFalls_31 : decode cX12_keepFalls 31 = .ok (.if_icmp .ge 41, 3) := by decide +kernel
theorem dX12_keepFalls_34 : decode cX12_keepFalls 34 = .ok (.aload_n 0, 1) := by decide +kernel
theorem dX12_keepFalls_35 : decode cX12_keepFalls 35 = .ok (.getfield 44, 3) := by decide +kernel
theorem dX12_keepFalls_38 : decode cX12_keepFalls 38 = .ok (.iconst 5, 1) := by decide +kernel
theorem dX12_keepFalls_39 : decode cX12_keepFalls 39 = .ok (.iload_n 2, 1) := by decide +kernel
theorem dX12_keepFalls_40 : decode cX12_keepFalls 40 = .ok (.imul, 1) := by decide +kernel
theorem dX12_keepFalls_41 : decode cX12_keepFalls 41 = .ok (.iload_n 3, 1) := by decide +kernel
theorem dX12_keepFalls_42 : decode cX12_keepFalls 42 = .ok (.iadd, 1) := by decide +kernel
theorem dX12_keepFalls_43 : decode cX12_keepFalls 43 = .ok (.aload_n 0, 1) := by decide +kernel
theorem dX12_keepFalls_44 : decode cX12_keepFalls 44 = .ok (.getfield 19, 3) := by decide +kernel
theorem dX12_keepFalls_47 : decode cX12_keepFalls 47 = .ok (.iload_n 3, 1) := by decide +kernel
theorem dX12_keepFalls_48 : decode cX12_keepFalls 48 = .ok (.iaload, 1) := by decide +kernel
theorem dX12_keepFalls_49 : decode cX12_keepFalls 49 = .ok (.iastore, 1) := by decide +kernel
theorem dX12_keepFalls_50 : decode cX12_keepFalls 50 = .ok (.aload_n 0, 1) := by decide +kernel
theorem dX12_keepFalls_51 : decode cX12_keepFalls 51 = .ok (.getfield 47, 3) := by decide +kernel
theorem dX12_keepFalls_54 : decode cX12_keepFalls 54 = .ok (.iconst 5, 1) := by decide +kernel
theorem dX12_keepFalls_55 : decode cX12_keepFalls 55 = .ok (.iload_n 2, 1) := by decide +kernel
theorem dX12_keepFalls_56 : decode cX12_keepFalls 56 = .ok (.imul, 1) := by decide +kernel
theorem dX12_keepFalls_57 : decode cX12_keepFalls 57 = .ok (.iload_n 3, 1) := by decide +kernel
theorem dX12_keepFalls_58 : decode cX12_keepFalls 58 = .ok (.iadd, 1) := by decide +kernel
theorem dX12_keepFalls_59 : decode cX12_keepFalls 59 = .ok (.aload_n 0, 1) := by decide +kernel
theorem dX12_keepFalls_60 : decode cX12_keepFalls 60 = .ok (.getfield 22, 3) := by decide +kernel
theorem dX12_keepFalls_63 : decode cX12_keepFalls 63 = .ok (.iload_n 3, 1) := by decide +kernel
theorem dX12_keepFalls_64 : decode cX12_keepFalls 64 = .ok (.iaload, 1) := by decide +kernel
theorem dX12_keepFalls_65 : decode cX12_keepFalls 65 = .ok (.iastore, 1) := by decide +kernel
theorem dX12_keepFalls_66 : decode cX12_keepFalls 66 = .ok (.iinc 3 1, 3) := by decide +kernel
theorem dX12_keepFalls_69 : decode cX12_keepFalls 69 = .ok (.goto (-43), 3) := by decide +kernel
theorem dX12_keepFalls_72 : decode cX12_keepFalls 72 = .ok (.iinc 2 1, 3) := by decide +kernel
theorem dX12_keepFalls_75 : decode cX12_keepFalls 75 = .ok (.goto (-73), 3) := by decide +kernel
theorem dX12_keepFalls_78 : decode cX12_keepFalls 78 = .ok (.return_, 1) := by decide +kernel
theorem dX12_takeFalls_0 : decode cX12_takeFalls 0 = .ok (.aload_n 0, 1) := by decide +kernel
theorem dX12_takeFalls_1 : decode cX12_takeFalls 1 = .ok (.aload_n 0, 1) := by decide +kernel
theorem dX12_takeFalls_2 : decode cX12_takeFalls 2 = .ok (.getfield 41, 3) := by decide +kernel
theorem dX12_takeFalls_5 : decode cX12_takeFalls 5 = .ok (.iload_n 1, 1) := by decide +kernel
theorem dX12_takeFalls_6 : decode cX12_takeFalls 6 = .ok (.iaload, 1) := by decide +kernel
theorem dX12_takeFalls_7 : decode cX12_takeFalls 7 = .ok (.putfield 132, 3) := by decide +kernel
theorem dX12_takeFalls_10 : decode cX12_takeFalls 10 = .ok (.iconst 0, 1) := by decide +kernel
theorem dX12_takeFalls_11 : decode cX12_takeFalls 11 = .ok (.istore_n 2, 1) := by decide +kernel
theorem dX12_takeFalls_12 : decode cX12_takeFalls 12 = .ok (.iload_n 2, 1) := by decide +kernel
theorem dX12_takeFalls_13 : decode cX12_takeFalls 13 = .ok (.aload_n 0, 1) := by decide +kernel
theorem dX12_takeFalls_14 : decode cX12_takeFalls 14 = .ok (.getfield 132, 3) := by decide +kernel
theorem dX12_takeFalls_17 : decode cX12_takeFalls 17 = .ok (.if_icmp .ge 41, 3) := by decide +kernel
theorem dX12_takeFalls_20 : decode cX12_takeFalls 20 = .ok (.aload_n 0, 1) := by decide +kernel
theorem dX12_takeFalls_21 : decode cX12_takeFalls 21 = .ok (.getfield 19, 3) := by decide +kernel
theorem dX12_takeFalls_24 : decode cX12_takeFalls 24 = .ok (.iload_n 2, 1) := by decide +kernel
theorem dX12_takeFalls_25 : decode cX12_takeFalls 25 = .ok (.aload_n 0, 1) := by decide +kernel
theorem dX12_takeFalls_26 : decode cX12_takeFalls 26 = .ok (.getfield 44, 3) := by decide +kernel
theorem dX12_takeFalls_29 : decode cX12_takeFalls 29 = .ok (.iconst 5, 1) := by decide +kernel
theorem dX12_takeFalls_30 : decode cX12_takeFalls 30 = .ok (.iload_n 1, 1) := by decide +kernel
theorem dX12_takeFalls_31 : decode cX12_takeFalls 31 = .ok (.imul, 1) := by decide +kernel
theorem dX12_takeFalls_32 : decode cX12_takeFalls 32 = .ok (.iload_n 2, 1) := by decide +kernel
theorem dX12_takeFalls_33 : decode cX12_takeFalls 33 = .ok (.iadd, 1) := by decide +kernel
theorem dX12_takeFalls_34 : decode cX12_takeFalls 34 = .ok (.iaload, 1) := by decide +kernel
theorem dX12_takeFalls_35 : decode cX12_takeFalls 35 = .ok (.iastore, 1) := by decide +kernel
theorem dX12_takeFalls_36 : decode cX12_takeFalls 36 = .ok (.aload_n 0, 1) := by decide +kernel
theorem dX12_takeFalls_37 : decode cX12_takeFalls 37 = .ok (.getfield 22, 3) := by decide +kernel
theorem dX12_takeFalls_40 : decode cX12_takeFalls 40 = .ok (.iload_n 2, 1) := by decide +kernel
theorem dX12_takeFalls_41 : decode cX12_takeFalls 41 = .ok (.aload_n 0, 1) := by decide +kernel
theorem dX12_takeFalls_42 : decode cX12_takeFalls 42 = .ok (.getfield 47, 3) := by decide +kernel
theorem dX12_takeFalls_45 : decode cX12_takeFalls 45 = .ok (.iconst 5, 1) := by decide +kernel
theorem dX12_takeFalls_46 : decode cX12_takeFalls 46 = .ok (.iload_n 1, 1) := by decide +kernel
theorem dX12_takeFalls_47 : decode cX12_takeFalls 47 = .ok (.imul, 1) := by decide +kernel
theorem dX12_takeFalls_48 : decode cX12_takeFalls 48 = .ok (.iload_n 2, 1) := by decide +kernel
theorem dX12_takeFalls_49 : decode cX12_takeFalls 49 = .ok (.iadd, 1) := by decide +kernel
theorem dX12_takeFalls_50 : decode cX12_takeFalls 50 = .ok (.iaload, 1) := by decide +kernel
theorem dX12_takeFalls_51 : decode cX12_takeFalls 51 = .ok (.iastore, 1) := by decide +kernel
theorem dX12_takeFalls_52 : decode cX12_takeFalls 52 = .ok (.iinc 2 1, 3) := by decide +kernel
theorem dX12_takeFalls_55 : decode cX12_takeFalls 55 = .ok (.goto (-43), 3) := by decide +kernel
theorem dX12_takeFalls_58 : decode cX12_takeFalls 58 = .ok (.return_, 1) := by decide +kernel
set_option maxRecDepth 20000 in
theorem ggX12_layDarts_X12_isLaid : GoodIn wsX12_layDarts wsX12_isLaid := goodIn_r _ [8, 9, 10, 11, 12, 69, 70, 71, 72, 73, 74, 75, 76, 77, 78, 79, 80, 81, 82, 83, 84, 85, 86, 87, 88, 89, 90, 91, 92, 93, 94, 95, 96, 97, 98, 99, 100, 101, 102, 103, 104, 105, 106, 107, 108] rfl (by decide +kernel)
set_option maxRecDepth 20000 in
theorem gX12_layDarts_X12_isLaid : GoodIn wsX12_layDarts (wsV RX12 160 RX12 yX12_isLaid wsX12_isLaid) := goodIn_app (goodIn_of _ (by decide +kernel)) ggX12_layDarts_X12_isLaid
set_option maxRecDepth 20000 in
theorem ggX12_layDarts_X12_keepFalls : GoodIn wsX12_layDarts wsX12_keepFalls := goodIn_r _ [16, 17, 18, 19, 20, 21, 22, 23, 24, 25, 7, 26, 10, 27, 28, 29, 30, 31, 32, 33, 34, 35, 36, 37, 38, 39, 40, 41, 42, 69, 70, 71, 72, 73, 74, 75, 76, 77, 78, 79, 80, 81, 82, 83, 84, 85, 86, 87, 88, 89, 90, 91, 92, 93, 94, 95, 96, 97, 98, 99, 100, 101, 102, 103, 104, 105, 106, 107, 108] rfl (by decide +kernel)
set_option maxRecDepth 20000 in
theorem gX12_layDarts_X12_keepFalls : GoodIn wsX12_layDarts (wsV RX12 163 RX12 yX12_keepFalls wsX12_keepFalls) := goodIn_app (goodIn_of _ (by decide +kernel)) ggX12_layDarts_X12_keepFalls
set_option maxRecDepth 20000 in
theorem ggX12_layDarts_X12_leastRest : GoodIn wsX12_layDarts wsX12_leastRest := goodIn_r _ [46, 10, 69, 70, 71, 72, 73, 74, 75, 76, 77, 78, 79, 80, 81, 82, 83, 84, 85, 86, 87, 88, 89, 90, 91, 92, 93, 94, 95, 96, 97, 98, 99, 100, 101, 102, 103, 104, 105, 106, 107, 108] rfl (by decide +kernel)
set_option maxRecDepth 20000 in
theorem gX12_layDarts_X12_leastRest : GoodIn wsX12_layDarts (wsV RX12 167 RX12 yX12_leastRest wsX12_leastRest) := goodIn_app (goodIn_of _ (by decide +kernel)) ggX12_layDarts_X12_leastRest
set_option maxRecDepth 20000 in
theorem ggX12_layDarts_X12_takeFalls : GoodIn wsX12_layDarts wsX12_takeFalls := goodIn_r _ [50, 17, 18, 20, 19, 22, 21, 69, 70, 71, 72, 73, 74, 75, 76, 77, 78, 79, 80, 81, 82, 83, 84, 85, 86, 87, 88, 89, 90, 91, 92, 93, 94, 95, 96, 97, 98, 99, 100, 101, 102, 103, 104, 105, 106, 107, 108] rfl (by decide +kernel)
set_option maxRecDepth 20000 in
theorem gX12_layDarts_X12_takeFalls : GoodIn wsX12_layDarts (wsV RX12 171 RX12 yX12_takeFalls wsX12_takeFalls) := goodIn_app (goodIn_of _ (by decide +kernel)) ggX12_layDarts_X12_takeFalls
set_option maxRecDepth 20000 in
theorem ggX12_layDarts_X12_dartsValue : GoodIn wsX12_layDarts wsX12_dartsValue := goodIn_r _ [54, 18, 20, 22, 55, 1, 2, 56, 57, 58, 7, 59, 10, 60, 61, 62, 63, 64, 65, 66, 67, 68, 69, 70, 71, 72, 73, 74, 75, 76, 77, 78, 79, 80, 81, 82, 83, 84, 85, 86, 87, 88, 89, 90, 91, 92, 93, 94, 95, 96, 97, 98, 99, 100, 101, 102, 103, 104, 105, 106, 107, 108] rfl (by decide +kernel)
set_option maxRecDepth 20000 in
theorem gX12_layDarts_X12_dartsValue : GoodIn wsX12_layDarts (wsV RX12 174 RX12 yX12_dartsValue wsX12_dartsValue) := goodIn_app (goodIn_of _ (by decide +kernel)) ggX12_layDarts_X12_dartsValue
theorem dX12_layDarts_0 : decode cX12_layDarts 0 = .ok (.aload_n 0, 1) := by decide +kernel
theorem dX12_layDarts_1 : decode cX12_layDarts 1 = .ok (.iload_n 1, 1) := by decide +kernel
theorem dX12_layDarts_2 : decode cX12_layDarts 2 = .ok (.invokevirtual 160, 3) := by decide +kernel
theorem dX12_layDarts_5 : decode cX12_layDarts 5 = .ok (.ifCond .eq 4, 3) := by decide +kernel
theorem dX12_layDarts_8 : decode cX12_layDarts 8 = .ok (.return_, 1) := by decide +kernel
theorem dX12_layDarts_9 : decode cX12_layDarts 9 = .ok (.aload_n 0, 1) := by decide +kernel
theorem dX12_layDarts_10 : decode cX12_layDarts 10 = .ok (.iload_n 1, 1) := by decide +kernel
theorem dX12_layDarts_11 : decode cX12_layDarts 11 = .ok (.invokevirtual 163, 3) := by decide +kernel
theorem dX12_layDarts_14 : decode cX12_layDarts 14 = .ok (.aload_n 0, 1) := by decide +kernel
theorem dX12_layDarts_15 : decode cX12_layDarts 15 = .ok (.getfield 25, 3) := by decide +kernel
theorem dX12_layDarts_18 : decode cX12_layDarts 18 = .ok (.sipush 502, 3) := by decide +kernel
theorem dX12_layDarts_21 : decode cX12_layDarts 21 = .ok (.iload_n 1, 1) := by decide +kernel
theorem dX12_layDarts_22 : decode cX12_layDarts 22 = .ok (.imul, 1) := by decide +kernel
theorem dX12_layDarts_23 : decode cX12_layDarts 23 = .ok (.dconst 0, 1) := by decide +kernel
theorem dX12_layDarts_24 : decode cX12_layDarts 24 = .ok (.dastore, 1) := by decide +kernel
theorem dX12_layDarts_25 : decode cX12_layDarts 25 = .ok (.aload_n 0, 1) := by decide +kernel
theorem dX12_layDarts_26 : decode cX12_layDarts 26 = .ok (.invokevirtual 167, 3) := by decide +kernel
theorem dX12_layDarts_29 : decode cX12_layDarts 29 = .ok (.istore_n 2, 1) := by decide +kernel
theorem dX12_layDarts_30 : decode cX12_layDarts 30 = .ok (.iload_n 2, 1) := by decide +kernel
theorem dX12_layDarts_31 : decode cX12_layDarts 31 = .ok (.sipush 501, 3) := by decide +kernel
theorem dX12_layDarts_34 : decode cX12_layDarts 34 = .ok (.if_icmp .gt 125, 3) := by decide +kernel
theorem dX12_layDarts_37 : decode cX12_layDarts 37 = .ok (.ldc2_w 158, 3) := by decide +kernel
theorem dX12_layDarts_40 : decode cX12_layDarts 40 = .ok (.dstore_n 3, 1) := by decide +kernel
theorem dX12_layDarts_41 : decode cX12_layDarts 41 = .ok (.iconst 0, 1) := by decide +kernel
theorem dX12_layDarts_42 : decode cX12_layDarts 42 = .ok (.istore 5, 2) := by decide +kernel
theorem dX12_layDarts_44 : decode cX12_layDarts 44 = .ok (.iconst 1, 1) := by decide +kernel
theorem dX12_layDarts_45 : decode cX12_layDarts 45 = .ok (.istore 6, 2) := by decide +kernel
theorem dX12_layDarts_47 : decode cX12_layDarts 47 = .ok (.iload 6, 2) := by decide +kernel
theorem dX12_layDarts_49 : decode cX12_layDarts 49 = .ok (.bipush 62, 2) := by decide +kernel
theorem dX12_layDarts_51 : decode cX12_layDarts 51 = .ok (.if_icmp .gt 75, 3) := by decide +kernel
theorem dX12_layDarts_54 : decode cX12_layDarts 54 = .ok (.aload_n 0, 1) := by decide +kernel
theorem dX12_layDarts_55 : decode cX12_layDarts 55 = .ok (.iload 6, 2) := by decide +kernel
theorem dX12_layDarts_57 : decode cX12_layDarts 57 = .ok (.invokevirtual 171, 3) := by decide +kernel
theorem dX12_layDarts_60 : decode cX12_layDarts 60 = .ok (.aload_n 0, 1) := by decide +kernel
theorem dX12_layDarts_61 : decode cX12_layDarts 61 = .ok (.iload_n 1, 1) := by decide +kernel
theorem dX12_layDarts_62 : decode cX12_layDarts 62 = .ok (.iload_n 2, 1) := by decide +kernel
theorem dX12_layDarts_63 : decode cX12_layDarts 63 = .ok (.invokevirtual 174, 3) := by decide +kernel
theorem dX12_layDarts_66 : decode cX12_layDarts 66 = .ok (.dstore 7, 2) := by decide +kernel
theorem dX12_layDarts_68 : decode cX12_layDarts 68 = .ok (.dload 7, 2) := by decide +kernel
theorem dX12_layDarts_70 : decode cX12_layDarts 70 = .ok (.dconst 0, 1) := by decide +kernel
theorem dX12_layDarts_71 : decode cX12_layDarts 71 = .ok (.dcmp .l, 1) := by decide +kernel
theorem dX12_layDarts_72 : decode cX12_layDarts 72 = .ok (.ifCond .lt 19, 3) := by decide +kernel
theorem dX12_layDarts_75 : decode cX12_layDarts 75 = .ok (.iload 5, 2) := by decide +kernel
theorem dX12_layDarts_77 : decode cX12_layDarts 77 = .ok (.ifCond .eq 10, 3) := by decide +kernel
theorem dX12_layDarts_80 : decode cX12_layDarts 80 = .ok (.dload 7, 2) := by decide +kernel
theorem dX12_layDarts_82 : decode cX12_layDarts 82 = .ok (.dload_n 3, 1) := by decide +kernel
theorem dX12_layDarts_83 : decode cX12_layDarts 83 = .ok (.dcmp .g, 1) := by decide +kernel
theorem dX12_layDarts_84 : decode cX12_layDarts 84 = .ok (.ifCond .ge 7, 3) := by decide +kernel
theorem dX12_layDarts_87 : decode cX12_layDarts 87 = .ok (.iconst 1, 1) := by decide +kernel
theorem dX12_layDarts_88 : decode cX12_layDarts 88 = .ok (.goto 4, 3) := by decide +kernel
theorem dX12_layDarts_91 : decode cX12_layDarts 91 = .ok (.iconst 0, 1) := by decide +kernel
theorem dX12_layDarts_92 : decode cX12_layDarts 92 = .ok (.istore 9, 2) := by decide +kernel
theorem dX12_layDarts_94 : decode cX12_layDarts 94 = .ok (.iload 9, 2) := by decide +kernel
theorem dX12_layDarts_96 : decode cX12_layDarts 96 = .ok (.ifCond .eq 8, 3) := by decide +kernel
theorem dX12_layDarts_99 : decode cX12_layDarts 99 = .ok (.dload 7, 2) := by decide +kernel
theorem dX12_layDarts_101 : decode cX12_layDarts 101 = .ok (.goto 4, 3) := by decide +kernel
theorem dX12_layDarts_104 : decode cX12_layDarts 104 = .ok (.dload_n 3, 1) := by decide +kernel
theorem dX12_layDarts_105 : decode cX12_layDarts 105 = .ok (.dstore_n 3, 1) := by decide +kernel
theorem dX12_layDarts_106 : decode cX12_layDarts 106 = .ok (.iload 9, 2) := by decide +kernel
theorem dX12_layDarts_108 : decode cX12_layDarts 108 = .ok (.ifCond .eq 8, 3) := by decide +kernel
theorem dX12_layDarts_111 : decode cX12_layDarts 111 = .ok (.iload 6, 2) := by decide +kernel
theorem dX12_layDarts_113 : decode cX12_layDarts 113 = .ok (.goto 5, 3) := by decide +kernel
theorem dX12_layDarts_116 : decode cX12_layDarts 116 = .ok (.iload 5, 2) := by decide +kernel
theorem dX12_layDarts_118 : decode cX12_layDarts 118 = .ok (.istore 5, 2) := by decide +kernel
theorem dX12_layDarts_120 : decode cX12_layDarts 120 = .ok (.iinc 6 1, 3) := by decide +kernel
theorem dX12_layDarts_123 : decode cX12_layDarts 123 = .ok (.goto (-76), 3) := by decide +kernel
theorem dX12_layDarts_126 : decode cX12_layDarts 126 = .ok (.aload_n 0, 1) := by decide +kernel
theorem dX12_layDarts_127 : decode cX12_layDarts 127 = .ok (.getfield 25, 3) := by decide +kernel
theorem dX12_layDarts_130 : decode cX12_layDarts 130 = .ok (.sipush 502, 3) := by decide +kernel
theorem dX12_layDarts_133 : decode cX12_layDarts 133 = .ok (.iload_n 1, 1) := by decide +kernel
theorem dX12_layDarts_134 : decode cX12_layDarts 134 = .ok (.imul, 1) := by decide +kernel
theorem dX12_layDarts_135 : decode cX12_layDarts 135 = .ok (.iload_n 2, 1) := by decide +kernel
theorem dX12_layDarts_136 : decode cX12_layDarts 136 = .ok (.iadd, 1) := by decide +kernel
theorem dX12_layDarts_137 : decode cX12_layDarts 137 = .ok (.dload_n 3, 1) := by decide +kernel
theorem dX12_layDarts_138 : decode cX12_layDarts 138 = .ok (.dastore, 1) := by decide +kernel
theorem dX12_layDarts_139 : decode cX12_layDarts 139 = .ok (.aload_n 0, 1) := by decide +kernel
theorem dX12_layDarts_140 : decode cX12_layDarts 140 = .ok (.getfield 29, 3) := by decide +kernel
theorem dX12_layDarts_143 : decode cX12_layDarts 143 = .ok (.sipush 502, 3) := by decide +kernel
theorem dX12_layDarts_146 : decode cX12_layDarts 146 = .ok (.iload_n 1, 1) := by decide +kernel
theorem dX12_layDarts_147 : decode cX12_layDarts 147 = .ok (.imul, 1) := by decide +kernel
theorem dX12_layDarts_148 : decode cX12_layDarts 148 = .ok (.iload_n 2, 1) := by decide +kernel
theorem dX12_layDarts_149 : decode cX12_layDarts 149 = .ok (.iadd, 1) := by decide +kernel
theorem dX12_layDarts_150 : decode cX12_layDarts 150 = .ok (.iload 5, 2) := by decide +kernel
theorem dX12_layDarts_152 : decode cX12_layDarts 152 = .ok (.iastore, 1) := by decide +kernel
theorem dX12_layDarts_153 : decode cX12_layDarts 153 = .ok (.iinc 2 1, 3) := by decide +kernel
theorem dX12_layDarts_156 : decode cX12_layDarts 156 = .ok (.goto (-126), 3) := by decide +kernel
theorem dX12_layDarts_159 : decode cX12_layDarts 159 = .ok (.return_, 1) := by decide +kernel
set_option maxRecDepth 20000 in
theorem ggX12_isRest_X12_leastRest : GoodIn wsX12_isRest wsX12_leastRest := goodIn_r _ [5, 6, 10, 11, 12, 13, 14, 15, 16, 17, 18, 19, 20, 21, 22, 23, 24, 25, 26, 27, 28, 29, 30, 31, 32, 33, 34, 35, 36, 37, 38, 39, 40, 41, 42, 43, 44, 45, 46, 47, 48, 49] rfl (by decide +kernel)
set_option maxRecDepth 20000 in
theorem gX12_isRest_X12_leastRest : GoodIn wsX12_isRest (wsV RX12 167 RX12 yX12_leastRest wsX12_leastRest) := goodIn_app (goodIn_of _ (by decide +kernel)) ggX12_isRest_X12_leastRest
set_option maxRecDepth 20000 in
theorem ggX12_isRest_X12_in : GoodIn wsX12_isRest wsX12_in := goodIn_r _ [9] rfl (by decide +kernel)
set_option maxRecDepth 20000 in
theorem gX12_isRest_X12_in : GoodIn wsX12_isRest (va_wsS RX12 108 yX12_in wsX12_in) := goodIn_app (goodIn_of _ (by decide +kernel)) ggX12_isRest_X12_in
theorem dX12_isRest_0 : decode cX12_isRest 0 = .ok (.iload_n 1, 1) := by decide +kernel
theorem dX12_isRest_1 : decode cX12_isRest 1 = .ok (.i2l, 1) := by decide +kernel
theorem dX12_isRest_2 : decode cX12_isRest 2 = .ok (.aload_n 0, 1) := by decide +kernel
theorem dX12_isRest_3 : decode cX12_isRest 3 = .ok (.invokevirtual 167, 3) := by decide +kernel
theorem dX12_isRest_6 : decode cX12_isRest 6 = .ok (.i2l, 1) := by decide +kernel
theorem dX12_isRest_7 : decode cX12_isRest 7 = .ok (.iload_n 2, 1) := by decide +kernel
theorem dX12_isRest_8 : decode cX12_isRest 8 = .ok (.i2l, 1) := by decide +kernel
theorem dX12_isRest_9 : decode cX12_isRest 9 = .ok (.invokestatic 108, 3) := by decide +kernel
theorem dX12_isRest_12 : decode cX12_isRest 12 = .ok (.ireturn, 1) := by decide +kernel
set_option maxRecDepth 20000 in
theorem ggX12_dartsAt_X12_layDarts : GoodIn wsX12_dartsAt wsX12_layDarts := goodIn_r _ [6, 1, 7, 8, 9, 10, 11, 5, 12, 13, 14, 15, 16, 17, 18, 19, 20, 21, 22, 23, 24, 25, 26, 27, 28, 29, 30, 31, 32, 33, 34, 35, 36, 37, 38, 39, 40, 41, 42, 43, 44, 45, 46, 47, 48, 49, 50, 51, 52, 53, 54, 55, 56, 57, 58, 59, 60, 61, 62, 63, 64, 65, 66, 67, 68, 69, 70, 71, 72, 73, 74, 75, 76, 77, 78, 79, 80, 81, 82, 83, 84, 85, 86, 87, 88, 89, 90, 91, 92, 93, 94, 95, 96, 97, 98, 99, 100, 101, 102, 103, 104, 105, 106, 107, 108, 109, 110, 111, 112] rfl (by decide +kernel)
set_option maxRecDepth 20000 in
theorem gX12_dartsAt_X12_layDarts : GoodIn wsX12_dartsAt (wsV RX12 178 RX12 yX12_layDarts wsX12_layDarts) := goodIn_app (goodIn_of _ (by decide +kernel)) ggX12_dartsAt_X12_layDarts
theorem dX12_dartsAt_0 : decode cX12_dartsAt 0 = .ok (.aload_n 0, 1) := by decide +kernel
theorem dX12_dartsAt_1 : decode cX12_dartsAt 1 = .ok (.iload_n 1, 1) := by decide +kernel
theorem dX12_dartsAt_2 : decode cX12_dartsAt 2 = .ok (.invokevirtual 178, 3) := by decide +kernel
theorem dX12_dartsAt_5 : decode cX12_dartsAt 5 = .ok (.aload_n 0, 1) := by decide +kernel
theorem dX12_dartsAt_6 : decode cX12_dartsAt 6 = .ok (.getfield 25, 3) := by decide +kernel
theorem dX12_dartsAt_9 : decode cX12_dartsAt 9 = .ok (.sipush 502, 3) := by decide +kernel
theorem dX12_dartsAt_12 : decode cX12_dartsAt 12 = .ok (.iload_n 1, 1) := by decide +kernel
theorem dX12_dartsAt_13 : decode cX12_dartsAt 13 = .ok (.imul, 1) := by decide +kernel
theorem dX12_dartsAt_14 : decode cX12_dartsAt 14 = .ok (.iload_n 2, 1) := by decide +kernel
theorem dX12_dartsAt_15 : decode cX12_dartsAt 15 = .ok (.iadd, 1) := by decide +kernel
theorem dX12_dartsAt_16 : decode cX12_dartsAt 16 = .ok (.daload, 1) := by decide +kernel
theorem dX12_dartsAt_17 : decode cX12_dartsAt 17 = .ok (.dreturn, 1) := by decide +kernel
set_option maxRecDepth 20000 in
theorem ggX12_mayAsk_X12_isPlayer : GoodIn wsX12_mayAsk wsX12_isPlayer := goodIn_r _ [4, 5, 6, 3, 7] rfl (by decide +kernel)
set_option maxRecDepth 20000 in
theorem gX12_mayAsk_X12_isPlayer : GoodIn wsX12_mayAsk (va_wsS RX12 140 yX12_isPlayer wsX12_isPlayer) := goodIn_app (goodIn_of _ (by decide +kernel)) ggX12_mayAsk_X12_isPlayer
set_option maxRecDepth 20000 in
theorem ggX12_mayAsk_X12_isRest : GoodIn wsX12_mayAsk wsX12_isRest := goodIn_r _ [11, 12, 13, 14, 3, 15, 16, 5, 6, 7, 17, 18, 19, 20, 21, 22, 23, 24, 25, 26, 27, 28, 29, 30, 31, 32, 33, 34, 35, 36, 37, 38, 39, 40, 41, 42, 43, 44, 45, 46, 47, 48, 49, 50, 51, 52, 53, 54, 55, 56] rfl (by decide +kernel)
set_option maxRecDepth 20000 in
theorem gX12_mayAsk_X12_isRest : GoodIn wsX12_mayAsk (wsV RX12 181 RX12 yX12_isRest wsX12_isRest) := goodIn_app (goodIn_of _ (by decide +kernel)) ggX12_mayAsk_X12_isRest
theorem dX12_mayAsk_0 : decode cX12_mayAsk 0 = .ok (.iload_n 1, 1) := by decide +kernel
theorem dX12_mayAsk_1 : decode cX12_mayAsk 1 = .ok (.invokestatic 140, 3) := by decide +kernel
theorem dX12_mayAsk_4 : decode cX12_mayAsk 4 = .ok (.ifCond .eq 22, 3) := by decide +kernel
theorem dX12_mayAsk_7 : decode cX12_mayAsk 7 = .ok (.iload_n 2, 1) := by decide +kernel
theorem dX12_mayAsk_8 : decode cX12_mayAsk 8 = .ok (.ifCond .eq 14, 3) := by decide +kernel
theorem dX12_mayAsk_11 : decode cX12_mayAsk 11 = .ok (.aload_n 0, 1) := by decide +kernel
theorem dX12_mayAsk_12 : decode cX12_mayAsk 12 = .ok (.iload_n 2, 1) := by decide +kernel
theorem dX12_mayAsk_13 : decode cX12_mayAsk 13 = .ok (.sipush 501, 3) := by decide +kernel
theorem dX12_mayAsk_16 : decode cX12_mayAsk 16 = .ok (.invokevirtual 181, 3) := by decide +kernel
theorem dX12_mayAsk_19 : decode cX12_mayAsk 19 = .ok (.ifCond .eq 7, 3) := by decide +kernel
theorem dX12_mayAsk_22 : decode cX12_mayAsk 22 = .ok (.iconst 1, 1) := by decide +kernel
theorem dX12_mayAsk_23 : decode cX12_mayAsk 23 = .ok (.goto 4, 3) := by decide +kernel
theorem dX12_mayAsk_26 : decode cX12_mayAsk 26 = .ok (.iconst 0, 1) := by decide +kernel
theorem dX12_mayAsk_27 : decode cX12_mayAsk 27 = .ok (.ireturn, 1) := by decide +kernel
set_option maxRecDepth 20000 in
theorem ggX12_darts_X12_mayAsk : GoodIn wsX12_darts wsX12_mayAsk := goodIn_r _ [6, 7, 8, 5, 9, 10, 11, 12, 13, 14, 15, 16, 17, 18, 19, 20, 21, 101, 102, 103, 104, 105, 106, 107, 108, 109, 110, 111, 112, 113, 114, 115, 116, 117, 118, 119, 120, 121, 122, 123, 124, 125, 126, 127, 128, 129, 130, 131, 132, 133, 134, 135, 136, 137, 138, 139, 140] rfl (by decide +kernel)
set_option maxRecDepth 20000 in
theorem gX12_darts_X12_mayAsk : GoodIn wsX12_darts (wsV RX12 184 RX12 yX12_mayAsk wsX12_mayAsk) := goodIn_app (goodIn_of _ (by decide +kernel)) ggX12_darts_X12_mayAsk
set_option maxRecDepth 20000 in
theorem ggX12_darts_X12_dartsAt : GoodIn wsX12_darts wsX12_dartsAt := goodIn_r _ [25, 26, 27, 28, 29, 5, 30, 31, 32, 33, 34, 35, 36, 37, 21, 38, 39, 40, 41, 42, 43, 44, 45, 46, 47, 48, 49, 50, 51, 52, 53, 54, 55, 56, 57, 10, 11, 12, 58, 59, 60, 61, 62, 63, 64, 65, 66, 17, 18, 19, 20, 67, 68, 69, 70, 71, 72, 73, 74, 75, 76, 77, 78, 79, 80, 81, 82, 83, 84, 85, 86, 87, 88, 101, 102, 103, 104, 105, 106, 107, 108, 109, 110, 111, 112, 113, 114, 115, 116, 117, 118, 119, 120, 121, 122, 123, 124, 125, 126, 127, 128, 129, 130, 131, 132, 133, 134, 135, 136, 137, 138, 139, 140] rfl (by decide +kernel)
set_option maxRecDepth 20000 in
theorem gX12_darts_X12_dartsAt : GoodIn wsX12_darts (wsV RX12 187 RX12 yX12_dartsAt wsX12_dartsAt) := goodIn_app (goodIn_of _ (by decide +kernel)) ggX12_darts_X12_dartsAt
set_option maxRecDepth 20000 in
theorem ggX12_darts_Jxe99ae_doubleToLongBits_ccdee : GoodIn wsX12_darts wsJxe99ae_doubleToLongBits_ccdee := goodIn_r _ [92, 93, 94, 95, 96, 97, 98, 99, 91, 100] rfl (by decide +kernel)
set_option maxRecDepth 20000 in
theorem gX12_darts_Jxe99ae_doubleToLongBits_ccdee : GoodIn wsX12_darts (va_wsS RX12 190 yJxe99ae_doubleToLongBits_ccdee wsJxe99ae_doubleToLongBits_ccdee) := goodIn_app (goodIn_of _ (by decide +kernel)) ggX12_darts_Jxe99ae_doubleToLongBits_ccdee
theorem dX12_darts_0 : decode cX12_darts 0 = .ok (.aload_n 0, 1) := by decide +kernel
theorem dX12_darts_1 : decode cX12_darts 1 = .ok (.iload_n 1, 1) := by decide +kernel
theorem dX12_darts_2 : decode cX12_darts 2 = .ok (.iload_n 2, 1) := by decide +kernel
theorem dX12_darts_3 : decode cX12_darts 3 = .ok (.invokevirtual 184, 3) := by decide +kernel
theorem dX12_darts_6 : decode cX12_darts 6 = .ok (.ifCond .eq 15, 3) := by decide +kernel
theorem dX12_darts_9 : decode cX12_darts 9 = .ok (.aload_n 0, 1) := by decide +kernel
theorem dX12_darts_10 : decode cX12_darts 10 = .ok (.iload_n 1, 1) := by decide +kernel
theorem dX12_darts_11 : decode cX12_darts 11 = .ok (.iload_n 2, 1) := by decide +kernel
theorem dX12_darts_12 : decode cX12_darts 12 = .ok (.invokevirtual 187, 3) := by decide +kernel
theorem dX12_darts_15 : decode cX12_darts 15 = .ok (.invokestatic 190, 3) := by decide +kernel
theorem dX12_darts_18 : decode cX12_darts 18 = .ok (.goto 6, 3) := by decide +kernel
theorem dX12_darts_21 : decode cX12_darts 21 = .ok (.ldc2_w 196, 3) := by decide +kernel
theorem dX12_darts_24 : decode cX12_darts 24 = .ok (.lreturn, 1) := by decide +kernel
set_option maxRecDepth 20000 in
theorem ggX12_dartsCut_X12_mayAsk : GoodIn wsX12_dartsCut wsX12_mayAsk := goodIn_r _ [5, 6, 7, 4, 8, 9, 10, 11, 12, 13, 14, 15, 16, 17, 18, 19, 20, 100, 101, 102, 103, 104, 105, 106, 107, 108, 109, 110, 111, 112, 113, 114, 115, 116, 117, 118, 119, 120, 121, 122, 123, 124, 125, 126, 127, 128, 129, 130, 131, 132, 133, 134, 135, 136, 137, 138, 139] rfl (by decide +kernel)
set_option maxRecDepth 20000 in
theorem gX12_dartsCut_X12_mayAsk : GoodIn wsX12_dartsCut (wsV RX12 184 RX12 yX12_mayAsk wsX12_mayAsk) := goodIn_app (goodIn_of _ (by decide +kernel)) ggX12_dartsCut_X12_mayAsk
set_option maxRecDepth 20000 in
theorem ggX12_dartsCut_X12_dartsAt : GoodIn wsX12_dartsCut wsX12_dartsAt := goodIn_r _ [24, 25, 26, 27, 28, 4, 29, 30, 31, 32, 33, 34, 35, 36, 20, 37, 38, 39, 40, 41, 42, 43, 44, 45, 46, 47, 48, 49, 50, 51, 52, 53, 54, 55, 56, 9, 10, 11, 57, 58, 59, 60, 61, 62, 63, 64, 65, 16, 17, 18, 19, 66, 67, 68, 69, 70, 71, 72, 73, 74, 75, 76, 77, 78, 79, 80, 81, 82, 83, 84, 85, 86, 87, 100, 101, 102, 103, 104, 105, 106, 107, 108, 109, 110, 111, 112, 113, 114, 115, 116, 117, 118, 119, 120, 121, 122, 123, 124, 125, 126, 127, 128, 129, 130, 131, 132, 133, 134, 135, 136, 137, 138, 139] rfl (by decide +kernel)
set_option maxRecDepth 20000 in
theorem gX12_dartsCut_X12_dartsAt : GoodIn wsX12_dartsCut (wsV RX12 187 RX12 yX12_dartsAt wsX12_dartsAt) := goodIn_app (goodIn_of _ (by decide +kernel)) ggX12_dartsCut_X12_dartsAt
set_option maxRecDepth 20000 in
theorem ggX12_dartsCut_Jxf58ca_floatToIntBits_5c35a : GoodIn wsX12_dartsCut wsJxf58ca_floatToIntBits_5c35a := goodIn_r _ [91, 92, 93, 94, 95, 96, 97, 98, 90, 99] rfl (by decide +kernel)
set_option maxRecDepth 20000 in
theorem gX12_dartsCut_Jxf58ca_floatToIntBits_5c35a : GoodIn wsX12_dartsCut (va_wsS RX12 198 yJxf58ca_floatToIntBits_5c35a wsJxf58ca_floatToIntBits_5c35a) := goodIn_app (goodIn_of _ (by decide +kernel)) ggX12_dartsCut_Jxf58ca_floatToIntBits_5c35a
theorem dX12_dartsCut_0 : decode cX12_dartsCut 0 = .ok (.aload_n 0, 1) := by decide +kernel
theorem dX12_dartsCut_1 : decode cX12_dartsCut 1 = .ok (.iload_n 1, 1) := by decide +kernel
theorem dX12_dartsCut_2 : decode cX12_dartsCut 2 = .ok (.iload_n 2, 1) := by decide +kernel
theorem dX12_dartsCut_3 : decode cX12_dartsCut 3 = .ok (.invokevirtual 184, 3) := by decide +kernel
theorem dX12_dartsCut_6 : decode cX12_dartsCut 6 = .ok (.ifCond .eq 16, 3) := by decide +kernel
theorem dX12_dartsCut_9 : decode cX12_dartsCut 9 = .ok (.aload_n 0, 1) := by decide +kernel
theorem dX12_dartsCut_10 : decode cX12_dartsCut 10 = .ok (.iload_n 1, 1) := by decide +kernel
theorem dX12_dartsCut_11 : decode cX12_dartsCut 11 = .ok (.iload_n 2, 1) := by decide +kernel
theorem dX12_dartsCut_12 : decode cX12_dartsCut 12 = .ok (.invokevirtual 187, 3) := by decide +kernel
theorem dX12_dartsCut_15 : decode cX12_dartsCut 15 = .ok (.d2f, 1) := by decide +kernel
theorem dX12_dartsCut_16 : decode cX12_dartsCut 16 = .ok (.invokestatic 198, 3) := by decide +kernel
theorem dX12_dartsCut_19 : decode cX12_dartsCut 19 = .ok (.goto 4, 3) := by decide +kernel
theorem dX12_dartsCut_22 : decode cX12_dartsCut 22 = .ok (.iconst (-1), 1) := by decide +kernel
theorem dX12_dartsCut_23 : decode cX12_dartsCut 23 = .ok (.ireturn, 1) := by decide +kernel
set_option maxRecDepth 20000 in
theorem ggX12_thousandths_X12_mayAsk : GoodIn wsX12_thousandths wsX12_mayAsk := goodIn_r _ [6, 7, 8, 5, 9, 10, 11, 12, 13, 14, 15, 16, 17, 18, 19, 20, 21, 88, 89, 90, 91, 92, 93, 94, 95, 96, 97, 98, 99, 100, 101, 102, 103, 104, 105, 106, 107, 108, 109, 110, 111, 112, 113, 114, 115, 116, 117, 118, 119, 120, 121, 122, 123, 124, 125, 126, 127] rfl (by decide +kernel)
set_option maxRecDepth 20000 in
theorem gX12_thousandths_X12_mayAsk : GoodIn wsX12_thousandths (wsV RX12 184 RX12 yX12_mayAsk wsX12_mayAsk) := goodIn_app (goodIn_of _ (by decide +kernel)) ggX12_thousandths_X12_mayAsk
set_option maxRecDepth 20000 in
theorem ggX12_thousandths_X12_dartsAt : GoodIn wsX12_thousandths wsX12_dartsAt := goodIn_r _ [25, 26, 27, 28, 29, 5, 30, 31, 32, 33, 34, 35, 36, 37, 21, 38, 39, 40, 41, 42, 43, 44, 45, 46, 47, 48, 49, 50, 51, 52, 53, 54, 55, 56, 57, 10, 11, 12, 58, 59, 60, 61, 62, 63, 64, 65, 66, 17, 18, 19, 20, 67, 68, 69, 70, 71, 72, 73, 74, 1, 75, 76, 77, 78, 79, 80, 81, 82, 83, 84, 85, 86, 87, 88, 89, 90, 91, 92, 93, 94, 95, 96, 97, 98, 99, 100, 101, 102, 103, 104, 105, 106, 107, 108, 109, 110, 111, 112, 113, 114, 115, 116, 117, 118, 119, 120, 121, 122, 123, 124, 125, 126, 127] rfl (by decide +kernel)
set_option maxRecDepth 20000 in
theorem gX12_thousandths_X12_dartsAt : GoodIn wsX12_thousandths (wsV RX12 187 RX12 yX12_dartsAt wsX12_dartsAt) := goodIn_app (goodIn_of _ (by decide +kernel)) ggX12_thousandths_X12_dartsAt
theorem dX12_thousandths_0 : decode cX12_thousandths 0 = .ok (.aload_n 0, 1) := by decide +kernel
theorem dX12_thousandths_1 : decode cX12_thousandths 1 = .ok (.iload_n 1, 1) := by decide +kernel
theorem dX12_thousandths_2 : decode cX12_thousandths 2 = .ok (.iload_n 2, 1) := by decide +kernel
theorem dX12_thousandths_3 : decode cX12_thousandths 3 = .ok (.invokevirtual 184, 3) := by decide +kernel
theorem dX12_thousandths_6 : decode cX12_thousandths 6 = .ok (.ifCond .eq 17, 3) := by decide +kernel
theorem dX12_thousandths_9 : decode cX12_thousandths 9 = .ok (.aload_n 0, 1) := by decide +kernel
theorem dX12_thousandths_10 : decode cX12_thousandths 10 = .ok (.iload_n 1, 1) := by decide +kernel
theorem dX12_thousandths_11 : decode cX12_thousandths 11 = .ok (.iload_n 2, 1) := by decide +kernel
theorem dX12_thousandths_12 : decode cX12_thousandths 12 = .ok (.invokevirtual 187, 3) := by decide +kernel
theorem dX12_thousandths_15 : decode cX12_thousandths 15 = .ok (.ldc2_w 156, 3) := by decide +kernel
theorem dX12_thousandths_18 : decode cX12_thousandths 18 = .ok (.dmul, 1) := by decide +kernel
theorem dX12_thousandths_19 : decode cX12_thousandths 19 = .ok (.d2i, 1) := by decide +kernel
theorem dX12_thousandths_20 : decode cX12_thousandths 20 = .ok (.goto 4, 3) := by decide +kernel
theorem dX12_thousandths_23 : decode cX12_thousandths 23 = .ok (.iconst (-1), 1) := by decide +kernel
theorem dX12_thousandths_24 : decode cX12_thousandths 24 = .ok (.ireturn, 1) := by decide +kernel
set_option maxRecDepth 20000 in
theorem ggX12_aim_X12_isPlayer : GoodIn wsX12_aim wsX12_isPlayer := goodIn_r _ [5, 6, 7, 4, 8] rfl (by decide +kernel)
set_option maxRecDepth 20000 in
theorem gX12_aim_X12_isPlayer : GoodIn wsX12_aim (va_wsS RX12 140 yX12_isPlayer wsX12_isPlayer) := goodIn_app (goodIn_of _ (by decide +kernel)) ggX12_aim_X12_isPlayer
set_option maxRecDepth 20000 in
theorem ggX12_aim_X12_isRest : GoodIn wsX12_aim wsX12_isRest := goodIn_r _ [12, 13, 14, 15, 4, 16, 17, 6, 7, 8, 80, 81, 82, 83, 84, 85, 86, 87, 88, 89, 90, 91, 92, 93, 94, 95, 96, 97, 98, 99, 100, 101, 102, 103, 104, 105, 106, 107, 108, 109, 110, 111, 112, 113, 114, 115, 116, 117, 118, 119] rfl (by decide +kernel)
set_option maxRecDepth 20000 in
theorem gX12_aim_X12_isRest : GoodIn wsX12_aim (wsV RX12 181 RX12 yX12_isRest wsX12_isRest) := goodIn_app (goodIn_of _ (by decide +kernel)) ggX12_aim_X12_isRest
set_option maxRecDepth 20000 in
theorem ggX12_aim_X12_layDarts : GoodIn wsX12_aim wsX12_layDarts := goodIn_r _ [21, 22, 23, 1, 24, 25, 26, 4, 27, 28, 17, 29, 30, 31, 32, 33, 34, 35, 36, 37, 38, 39, 40, 41, 42, 43, 44, 45, 46, 47, 48, 6, 7, 8, 49, 50, 51, 52, 53, 54, 55, 56, 57, 13, 14, 15, 16, 58, 59, 60, 61, 62, 63, 64, 65, 66, 67, 68, 69, 70, 71, 72, 73, 74, 75, 76, 77, 78, 79, 80, 81, 82, 83, 84, 85, 86, 87, 88, 89, 90, 91, 92, 93, 94, 95, 96, 97, 98, 99, 100, 101, 102, 103, 104, 105, 106, 107, 108, 109, 110, 111, 112, 113, 114, 115, 116, 117, 118, 119] rfl (by decide +kernel)
set_option maxRecDepth 20000 in
theorem gX12_aim_X12_layDarts : GoodIn wsX12_aim (wsV RX12 178 RX12 yX12_layDarts wsX12_layDarts) := goodIn_app (goodIn_of _ (by decide +kernel)) ggX12_aim_X12_layDarts
theorem dX12_aim_0 : decode cX12_aim 0 = .ok (.iload_n 1, 1) := by decide +kernel
theorem dX12_aim_1 : decode cX12_aim 1 = .ok (.invokestatic 140, 3) := by decide +kernel
theorem dX12_aim_4 : decode cX12_aim 4 = .ok (.ifCond .eq 14, 3) := by decide +kernel
theorem dX12_aim_7 : decode cX12_aim 7 = .ok (.aload_n 0, 1) := by decide +kernel
theorem dX12_aim_8 : decode cX12_aim 8 = .ok (.iload_n 2, 1) := by decide +kernel
theorem dX12_aim_9 : decode cX12_aim 9 = .ok (.sipush 501, 3) := by decide +kernel
theorem dX12_aim_12 : decode cX12_aim 12 = .ok (.invokevirtual 181, 3) := by decide +kernel
theorem dX12_aim_15 : decode cX12_aim 15 = .ok (.ifCond .ne 5, 3) := by decide +kernel
theorem dX12_aim_18 : decode cX12_aim 18 = .ok (.iconst (-1), 1) := by decide +kernel
theorem dX12_aim_19 : decode cX12_aim 19 = .ok (.ireturn, 1) := by decide +kernel
theorem dX12_aim_20 : decode cX12_aim 20 = .ok (.aload_n 0, 1) := by decide +kernel
theorem dX12_aim_21 : decode cX12_aim 21 = .ok (.iload_n 1, 1) := by decide +kernel
theorem dX12_aim_22 : decode cX12_aim 22 = .ok (.invokevirtual 178, 3) := by decide +kernel
theorem dX12_aim_25 : decode cX12_aim 25 = .ok (.aload_n 0, 1) := by decide +kernel
theorem dX12_aim_26 : decode cX12_aim 26 = .ok (.getfield 29, 3) := by decide +kernel
theorem dX12_aim_29 : decode cX12_aim 29 = .ok (.sipush 502, 3) := by decide +kernel
theorem dX12_aim_32 : decode cX12_aim 32 = .ok (.iload_n 1, 1) := by decide +kernel
theorem dX12_aim_33 : decode cX12_aim 33 = .ok (.imul, 1) := by decide +kernel
theorem dX12_aim_34 : decode cX12_aim 34 = .ok (.iload_n 2, 1) := by decide +kernel
theorem dX12_aim_35 : decode cX12_aim 35 = .ok (.iadd, 1) := by decide +kernel
theorem dX12_aim_36 : decode cX12_aim 36 = .ok (.iaload, 1) := by decide +kernel
theorem dX12_aim_37 : decode cX12_aim 37 = .ok (.ireturn, 1) := by decide +kernel
set_option maxRecDepth 20000 in
theorem ggX12_chanceValue_X12_nextRest : GoodIn wsX12_chanceValue wsX12_nextRest := goodIn_r _ [10, 11, 12, 13, 9, 14, 15, 16, 17, 18, 19, 20, 21, 22, 23, 24, 25, 26, 27, 28, 29, 30, 31, 32, 33, 34, 35, 36, 37, 38, 39, 40, 41, 42, 43, 44, 45, 46, 47, 48, 49, 50, 51, 52, 53, 54, 55, 56, 57, 58, 59, 60] rfl (by decide +kernel)
set_option maxRecDepth 20000 in
theorem gX12_chanceValue_X12_nextRest : GoodIn wsX12_chanceValue (wsV RX12 153 RX12 yX12_nextRest wsX12_nextRest) := goodIn_app (goodIn_of _ (by decide +kernel)) ggX12_chanceValue_X12_nextRest
theorem dX12_chanceValue_0 : decode cX12_chanceValue 0 = .ok (.dconst 0, 1) := by decide +kernel
theorem dX12_chanceValue_1 : decode cX12_chanceValue 1 = .ok (.dstore_n 3, 1) := by decide +kernel
theorem dX12_chanceValue_2 : decode cX12_chanceValue 2 = .ok (.iconst 0, 1) := by decide +kernel
theorem dX12_chanceValue_3 : decode cX12_chanceValue 3 = .ok (.istore 5, 2) := by decide +kernel
theorem dX12_chanceValue_5 : decode cX12_chanceValue 5 = .ok (.iload 5, 2) := by decide +kernel
theorem dX12_chanceValue_7 : decode cX12_chanceValue 7 = .ok (.aload_n 0, 1) := by decide +kernel
theorem dX12_chanceValue_8 : decode cX12_chanceValue 8 = .ok (.getfield 132, 3) := by decide +kernel
theorem dX12_chanceValue_11 : decode cX12_chanceValue 11 = .ok (.if_icmp .ge 72, 3) := by decide +kernel
theorem dX12_chanceValue_14 : decode cX12_chanceValue 14 = .ok (.aload_n 0, 1) := by decide +kernel
theorem dX12_chanceValue_15 : decode cX12_chanceValue 15 = .ok (.iload_n 1, 1) := by decide +kernel
theorem dX12_chanceValue_16 : decode cX12_chanceValue 16 = .ok (.aload_n 0, 1) := by decide +kernel
theorem dX12_chanceValue_17 : decode cX12_chanceValue 17 = .ok (.getfield 19, 3) := by decide +kernel
theorem dX12_chanceValue_20 : decode cX12_chanceValue 20 = .ok (.iload 5, 2) := by decide +kernel
theorem dX12_chanceValue_22 : decode cX12_chanceValue 22 = .ok (.iaload, 1) := by decide +kernel
theorem dX12_chanceValue_23 : decode cX12_chanceValue 23 = .ok (.invokevirtual 153, 3) := by decide +kernel
theorem dX12_chanceValue_26 : decode cX12_chanceValue 26 = .ok (.istore 6, 2) := by decide +kernel
theorem dX12_chanceValue_28 : decode cX12_chanceValue 28 = .ok (.iload 6, 2) := by decide +kernel
theorem dX12_chanceValue_30 : decode cX12_chanceValue 30 = .ok (.ifCond .lt 47, 3) := by decide +kernel
theorem dX12_chanceValue_33 : decode cX12_chanceValue 33 = .ok (.aload_n 0, 1) := by decide +kernel
theorem dX12_chanceValue_34 : decode cX12_chanceValue 34 = .ok (.getfield 22, 3) := by decide +kernel
theorem dX12_chanceValue_37 : decode cX12_chanceValue 37 = .ok (.iload 5, 2) := by decide +kernel
theorem dX12_chanceValue_39 : decode cX12_chanceValue 39 = .ok (.iaload, 1) := by decide +kernel
theorem dX12_chanceValue_40 : decode cX12_chanceValue 40 = .ok (.i2d, 1) := by decide +kernel
theorem dX12_chanceValue_41 : decode cX12_chanceValue 41 = .ok (.ldc2_w 156, 3) := by decide +kernel
theorem dX12_chanceValue_44 : decode cX12_chanceValue 44 = .ok (.ddiv, 1) := by decide +kernel
theorem dX12_chanceValue_45 : decode cX12_chanceValue 45 = .ok (.dstore 7, 2) := by decide +kernel
theorem dX12_chanceValue_47 : decode cX12_chanceValue 47 = .ok (.dload_n 3, 1) := by decide +kernel
theorem dX12_chanceValue_48 : decode cX12_chanceValue 48 = .ok (.dload 7, 2) := by decide +kernel
theorem dX12_chanceValue_50 : decode cX12_chanceValue 50 = .ok (.iload 6, 2) := by decide +kernel
theorem dX12_chanceValue_52 : decode cX12_chanceValue 52 = .ok (.ifCond .ne 7, 3) := by decide +kernel
theorem dX12_chanceValue_55 : decode cX12_chanceValue 55 = .ok (.dconst 1, 1) := by decide +kernel
theorem dX12_chanceValue_56 : decode cX12_chanceValue 56 = .ok (.goto 18, 3) := by decide +kernel
theorem dX12_chanceValue_59 : decode cX12_chanceValue 59 = .ok (.aload_n 0, 1) := by decide +kernel
theorem dX12_chanceValue_60 : decode cX12_chanceValue 60 = .ok (.getfield 50, 3) := by decide +kernel
theorem dX12_chanceValue_63 : decode cX12_chanceValue 63 = .ok (.sipush 181, 3) := by decide +kernel
theorem dX12_chanceValue_66 : decode cX12_chanceValue 66 = .ok (.iload_n 2, 1) := by decide +kernel
theorem dX12_chanceValue_67 : decode cX12_chanceValue 67 = .ok (.iconst 1, 1) := by decide +kernel
theorem dX12_chanceValue_68 : decode cX12_chanceValue 68 = .ok (.isub, 1) := by decide +kernel
theorem dX12_chanceValue_69 : decode cX12_chanceValue 69 = .ok (.imul, 1) := by decide +kernel
theorem dX12_chanceValue_70 : decode cX12_chanceValue 70 = .ok (.iload 6, 2) := by decide +kernel
theorem dX12_chanceValue_72 : decode cX12_chanceValue 72 = .ok (.iadd, 1) := by decide +kernel
theorem dX12_chanceValue_73 : decode cX12_chanceValue 73 = .ok (.daload, 1) := by decide +kernel
theorem dX12_chanceValue_74 : decode cX12_chanceValue 74 = .ok (.dmul, 1) := by decide +kernel
theorem dX12_chanceValue_75 : decode cX12_chanceValue 75 = .ok (.dadd, 1) := by decide +kernel
theorem dX12_chanceValue_76 : decode cX12_chanceValue 76 = .ok (.dstore_n 3, 1) := by decide +kernel
theorem dX12_chanceValue_77 : decode cX12_chanceValue 77 = .ok (.iinc 5 1, 3) := by decide +kernel
theorem dX12_chanceValue_80 : decode cX12_chanceValue 80 = .ok (.goto (-75), 3) := by decide +kernel
theorem dX12_chanceValue_83 : decode cX12_chanceValue 83 = .ok (.dload_n 3, 1) := by decide +kernel
theorem dX12_chanceValue_84 : decode cX12_chanceValue 84 = .ok (.dreturn, 1) := by decide +kernel
set_option maxRecDepth 20000 in
theorem ggX12_layChance_X12_takeFalls : GoodIn wsX12_layChance wsX12_takeFalls := goodIn_r _ [8, 9, 10, 11, 12, 13, 14, 34, 35, 36, 37, 38, 39, 40, 41, 42, 43, 44, 45, 46, 47, 48, 49, 50, 51, 52, 53, 54, 55, 56, 57, 58, 59, 60, 61, 62, 63, 64, 65, 66, 67, 68, 69, 70, 71, 72, 73] rfl (by decide +kernel)
set_option maxRecDepth 20000 in
theorem gX12_layChance_X12_takeFalls : GoodIn wsX12_layChance (wsV RX12 171 RX12 yX12_takeFalls wsX12_takeFalls) := goodIn_app (goodIn_of _ (by decide +kernel)) ggX12_layChance_X12_takeFalls
set_option maxRecDepth 20000 in
theorem ggX12_layChance_X12_chanceValue : GoodIn wsX12_layChance wsX12_chanceValue := goodIn_r _ [18, 10, 11, 13, 19, 3, 20, 21, 22, 7, 23, 24, 25, 26, 27, 28, 29, 30, 31, 32, 33, 34, 35, 36, 37, 38, 39, 40, 41, 42, 43, 44, 45, 46, 47, 48, 49, 50, 51, 52, 53, 54, 55, 56, 57, 58, 59, 60, 61, 62, 63, 64, 65, 66, 67, 68, 69, 70, 71, 72, 73] rfl (by decide +kernel)
set_option maxRecDepth 20000 in
theorem gX12_layChance_X12_chanceValue : GoodIn wsX12_layChance (wsV RX12 204 RX12 yX12_chanceValue wsX12_chanceValue) := goodIn_app (goodIn_of _ (by decide +kernel)) ggX12_layChance_X12_chanceValue
theorem dX12_layChance_0 : decode cX12_layChance 0 = .ok (.ldc2_w 158, 3) := by decide +kernel
theorem dX12_layChance_3 : decode cX12_layChance 3 = .ok (.dstore_n 3, 1) := by decide +kernel
theorem dX12_layChance_4 : decode cX12_layChance 4 = .ok (.iconst 1, 1) := by decide +kernel
theorem dX12_layChance_5 : decode cX12_layChance 5 = .ok (.istore 5, 2) := by decide +kernel
theorem dX12_layChance_7 : decode cX12_layChance 7 = .ok (.iload 5, 2) := by decide +kernel
theorem dX12_layChance_9 : decode cX12_layChance 9 = .ok (.bipush 62, 2) := by decide +kernel
theorem dX12_layChance_11 : decode cX12_layChance 11 = .ok (.if_icmp .gt 57, 3) := by decide +kernel
theorem dX12_layChance_14 : decode cX12_layChance 14 = .ok (.aload_n 0, 1) := by decide +kernel
theorem dX12_layChance_15 : decode cX12_layChance 15 = .ok (.iload 5, 2) := by decide +kernel
theorem dX12_layChance_17 : decode cX12_layChance 17 = .ok (.invokevirtual 171, 3) := by decide +kernel
theorem dX12_layChance_20 : decode cX12_layChance 20 = .ok (.aload_n 0, 1) := by decide +kernel
theorem dX12_layChance_21 : decode cX12_layChance 21 = .ok (.iload_n 1, 1) := by decide +kernel
theorem dX12_layChance_22 : decode cX12_layChance 22 = .ok (.iload_n 2, 1) := by decide +kernel
theorem dX12_layChance_23 : decode cX12_layChance 23 = .ok (.invokevirtual 204, 3) := by decide +kernel
theorem dX12_layChance_26 : decode cX12_layChance 26 = .ok (.dstore 6, 2) := by decide +kernel
theorem dX12_layChance_28 : decode cX12_layChance 28 = .ok (.aload_n 0, 1) := by decide +kernel
theorem dX12_layChance_29 : decode cX12_layChance 29 = .ok (.dload 6, 2) := by decide +kernel
theorem dX12_layChance_31 : decode cX12_layChance 31 = .ok (.dload_n 3, 1) := by decide +kernel
theorem dX12_layChance_32 : decode cX12_layChance 32 = .ok (.dcmp .l, 1) := by decide +kernel
theorem dX12_layChance_33 : decode cX12_layChance 33 = .ok (.ifCond .le 8, 3) := by decide +kernel
theorem dX12_layChance_36 : decode cX12_layChance 36 = .ok (.iload 5, 2) := by decide +kernel
theorem dX12_layChance_38 : decode cX12_layChance 38 = .ok (.goto 7, 3) := by decide +kernel
theorem dX12_layChance_41 : decode cX12_layChance 41 = .ok (.aload_n 0, 1) := by decide +kernel
theorem dX12_layChance_42 : decode cX12_layChance 42 = .ok (.getfield 207, 3) := by decide +kernel
theorem dX12_layChance_45 : decode cX12_layChance 45 = .ok (.putfield 207, 3) := by decide +kernel
theorem dX12_layChance_48 : decode cX12_layChance 48 = .ok (.dload 6, 2) := by decide +kernel
theorem dX12_layChance_50 : decode cX12_layChance 50 = .ok (.dload_n 3, 1) := by decide +kernel
theorem dX12_layChance_51 : decode cX12_layChance 51 = .ok (.dcmp .l, 1) := by decide +kernel
theorem dX12_layChance_52 : decode cX12_layChance 52 = .ok (.ifCond .le 8, 3) := by decide +kernel
theorem dX12_layChance_55 : decode cX12_layChance 55 = .ok (.dload 6, 2) := by decide +kernel
theorem dX12_layChance_57 : decode cX12_layChance 57 = .ok (.goto 4, 3) := by decide +kernel
theorem dX12_layChance_60 : decode cX12_layChance 60 = .ok (.dload_n 3, 1) := by decide +kernel
theorem dX12_layChance_61 : decode cX12_layChance 61 = .ok (.dstore_n 3, 1) := by decide +kernel
theorem dX12_layChance_62 : decode cX12_layChance 62 = .ok (.iinc 5 1, 3) := by decide +kernel
theorem dX12_layChance_65 : decode cX12_layChance 65 = .ok (.goto (-58), 3) := by decide +kernel
theorem dX12_layChance_68 : decode cX12_layChance 68 = .ok (.aload_n 0, 1) := by decide +kernel
theorem dX12_layChance_69 : decode cX12_layChance 69 = .ok (.getfield 50, 3) := by decide +kernel
theorem dX12_layChance_72 : decode cX12_layChance 72 = .ok (.sipush 181, 3) := by decide +kernel
theorem dX12_layChance_75 : decode cX12_layChance 75 = .ok (.iload_n 2, 1) := by decide +kernel
theorem dX12_layChance_76 : decode cX12_layChance 76 = .ok (.imul, 1) := by decide +kernel
theorem dX12_layChance_77 : decode cX12_layChance 77 = .ok (.iload_n 1, 1) := by decide +kernel
theorem dX12_layChance_78 : decode cX12_layChance 78 = .ok (.iadd, 1) := by decide +kernel
theorem dX12_layChance_79 : decode cX12_layChance 79 = .ok (.dload_n 3, 1) := by decide +kernel
theorem dX12_layChance_80 : decode cX12_layChance 80 = .ok (.dastore, 1) := by decide +kernel
theorem dX12_layChance_81 : decode cX12_layChance 81 = .ok (.return_, 1) := by decide +kernel
set_option maxRecDepth 20000 in
theorem ggX12_chanceAt_X12_keepFalls : GoodIn wsX12_chanceAt wsX12_keepFalls := goodIn_r _ [6, 7, 8, 9, 10, 11, 12, 13, 14, 15, 5, 16, 17, 18, 19, 20, 21, 22, 23, 24, 25, 26, 27, 28, 29, 30, 31, 32, 33, 66, 67, 68, 69, 70, 71, 72, 73, 74, 75, 76, 77, 78, 79, 80, 81, 82, 83, 84, 85, 86, 87, 88, 89, 90, 91, 92, 93, 94, 95, 96, 97, 98, 99, 100, 101, 102, 103, 104, 105] rfl (by decide +kernel)
set_option maxRecDepth 20000 in
theorem gX12_chanceAt_X12_keepFalls : GoodIn wsX12_chanceAt (wsV RX12 163 RX12 yX12_keepFalls wsX12_keepFalls) := goodIn_app (goodIn_of _ (by decide +kernel)) ggX12_chanceAt_X12_keepFalls
set_option maxRecDepth 20000 in
theorem ggX12_chanceAt_X12_leastRest : GoodIn wsX12_chanceAt wsX12_leastRest := goodIn_r _ [37, 17, 66, 67, 68, 69, 70, 71, 72, 73, 74, 75, 76, 77, 78, 79, 80, 81, 82, 83, 84, 85, 86, 87, 88, 89, 90, 91, 92, 93, 94, 95, 96, 97, 98, 99, 100, 101, 102, 103, 104, 105] rfl (by decide +kernel)
set_option maxRecDepth 20000 in
theorem gX12_chanceAt_X12_leastRest : GoodIn wsX12_chanceAt (wsV RX12 167 RX12 yX12_leastRest wsX12_leastRest) := goodIn_app (goodIn_of _ (by decide +kernel)) ggX12_chanceAt_X12_leastRest
set_option maxRecDepth 20000 in
theorem ggX12_chanceAt_X12_layChance : GoodIn wsX12_chanceAt wsX12_layChance := goodIn_r _ [41, 42, 43, 1, 44, 45, 46, 5, 47, 7, 8, 10, 9, 12, 11, 48, 49, 50, 51, 52, 53, 54, 55, 56, 17, 57, 58, 59, 60, 61, 62, 63, 64, 65, 66, 67, 68, 69, 70, 71, 72, 73, 74, 75, 76, 77, 78, 79, 80, 81, 82, 83, 84, 85, 86, 87, 88, 89, 90, 91, 92, 93, 94, 95, 96, 97, 98, 99, 100, 101, 102, 103, 104, 105] rfl (by decide +kernel)
set_option maxRecDepth 20000 in
theorem gX12_chanceAt_X12_layChance : GoodIn wsX12_chanceAt (wsV RX12 210 RX12 yX12_layChance wsX12_layChance) := goodIn_app (goodIn_of _ (by decide +kernel)) ggX12_chanceAt_X12_layChance
theorem dX12_chanceAt_0 : decode cX12_chanceAt 0 = .ok (.aload_n 0, 1) := by decide +kernel
theorem dX12_chanceAt_1 : decode cX12_chanceAt 1 = .ok (.iload_n 1, 1) := by decide +kernel
theorem dX12_chanceAt_2 : decode cX12_chanceAt 2 = .ok (.invokevirtual 163, 3) := by decide +kernel
theorem dX12_chanceAt_5 : decode cX12_chanceAt 5 = .ok (.iconst 0, 1) := by decide +kernel
theorem dX12_chanceAt_6 : decode cX12_chanceAt 6 = .ok (.istore 4, 2) := by decide +kernel
theorem dX12_chanceAt_8 : decode cX12_chanceAt 8 = .ok (.iload 4, 2) := by decide +kernel
theorem dX12_chanceAt_10 : decode cX12_chanceAt 10 = .ok (.iload_n 2, 1) := by decide +kernel
theorem dX12_chanceAt_11 : decode cX12_chanceAt 11 = .ok (.if_icmp .gt 17, 3) := by decide +kernel
theorem dX12_chanceAt_14 : decode cX12_chanceAt 14 = .ok (.aload_n 0, 1) := by decide +kernel
theorem dX12_chanceAt_15 : decode cX12_chanceAt 15 = .ok (.getfield 50, 3) := by decide +kernel
theorem dX12_chanceAt_18 : decode cX12_chanceAt 18 = .ok (.iload 4, 2) := by decide +kernel
theorem dX12_chanceAt_20 : decode cX12_chanceAt 20 = .ok (.dconst 0, 1) := by decide +kernel
theorem dX12_chanceAt_21 : decode cX12_chanceAt 21 = .ok (.dastore, 1) := by decide +kernel
theorem dX12_chanceAt_22 : decode cX12_chanceAt 22 = .ok (.iinc 4 1, 3) := by decide +kernel
theorem dX12_chanceAt_25 : decode cX12_chanceAt 25 = .ok (.goto (-17), 3) := by decide +kernel
theorem dX12_chanceAt_28 : decode cX12_chanceAt 28 = .ok (.iconst 1, 1) := by decide +kernel
theorem dX12_chanceAt_29 : decode cX12_chanceAt 29 = .ok (.istore 4, 2) := by decide +kernel
theorem dX12_chanceAt_31 : decode cX12_chanceAt 31 = .ok (.iload 4, 2) := by decide +kernel
theorem dX12_chanceAt_33 : decode cX12_chanceAt 33 = .ok (.iload_n 3, 1) := by decide +kernel
theorem dX12_chanceAt_34 : decode cX12_chanceAt 34 = .ok (.if_icmp .ge 35, 3) := by decide +kernel
theorem dX12_chanceAt_37 : decode cX12_chanceAt 37 = .ok (.aload_n 0, 1) := by decide +kernel
theorem dX12_chanceAt_38 : decode cX12_chanceAt 38 = .ok (.invokevirtual 167, 3) := by decide +kernel
theorem dX12_chanceAt_41 : decode cX12_chanceAt 41 = .ok (.istore 5, 2) := by decide +kernel
theorem dX12_chanceAt_43 : decode cX12_chanceAt 43 = .ok (.iload 5, 2) := by decide +kernel
theorem dX12_chanceAt_45 : decode cX12_chanceAt 45 = .ok (.iload_n 2, 1) := by decide +kernel
theorem dX12_chanceAt_46 : decode cX12_chanceAt 46 = .ok (.if_icmp .gt 17, 3) := by decide +kernel
theorem dX12_chanceAt_49 : decode cX12_chanceAt 49 = .ok (.aload_n 0, 1) := by decide +kernel
theorem dX12_chanceAt_50 : decode cX12_chanceAt 50 = .ok (.iload 5, 2) := by decide +kernel
theorem dX12_chanceAt_52 : decode cX12_chanceAt 52 = .ok (.iload 4, 2) := by decide +kernel
theorem dX12_chanceAt_54 : decode cX12_chanceAt 54 = .ok (.invokevirtual 210, 3) := by decide +kernel
theorem dX12_chanceAt_57 : decode cX12_chanceAt 57 = .ok (.iinc 5 1, 3) := by decide +kernel
theorem dX12_chanceAt_60 : decode cX12_chanceAt 60 = .ok (.goto (-17), 3) := by decide +kernel
theorem dX12_chanceAt_63 : decode cX12_chanceAt 63 = .ok (.iinc 4 1, 3) := by decide +kernel
theorem dX12_chanceAt_66 : decode cX12_chanceAt 66 = .ok (.goto (-35), 3) := by decide +kernel
theorem dX12_chanceAt_69 : decode cX12_chanceAt 69 = .ok (.iload_n 3, 1) := by decide +kernel
theorem dX12_chanceAt_70 : decode cX12_chanceAt 70 = .ok (.ifCond .le 9, 3) := by decide +kernel
theorem dX12_chanceAt_73 : decode cX12_chanceAt 73 = .ok (.aload_n 0, 1) := by decide +kernel
theorem dX12_chanceAt_74 : decode cX12_chanceAt 74 = .ok (.iload_n 2, 1) := by decide +kernel
theorem dX12_chanceAt_75 : decode cX12_chanceAt 75 = .ok (.iload_n 3, 1) := by decide +kernel
theorem dX12_chanceAt_76 : decode cX12_chanceAt 76 = .ok (.invokevirtual 210, 3) := by decide +kernel
theorem dX12_chanceAt_79 : decode cX12_chanceAt 79 = .ok (.aload_n 0, 1) := by decide +kernel
theorem dX12_chanceAt_80 : decode cX12_chanceAt 80 = .ok (.getfield 50, 3) := by decide +kernel
theorem dX12_chanceAt_83 : decode cX12_chanceAt 83 = .ok (.sipush 181, 3) := by decide +kernel
theorem dX12_chanceAt_86 : decode cX12_chanceAt 86 = .ok (.iload_n 3, 1) := by decide +kernel
theorem dX12_chanceAt_87 : decode cX12_chanceAt 87 = .ok (.imul, 1) := by decide +kernel
theorem dX12_chanceAt_88 : decode cX12_chanceAt 88 = .ok (.iload_n 2, 1) := by decide +kernel
theorem dX12_chanceAt_89 : decode cX12_chanceAt 89 = .ok (.iadd, 1) := by decide +kernel
theorem dX12_chanceAt_90 : decode cX12_chanceAt 90 = .ok (.daload, 1) := by decide +kernel
theorem dX12_chanceAt_91 : decode cX12_chanceAt 91 = .ok (.dreturn, 1) := by decide +kernel
set_option maxRecDepth 20000 in
theorem ggX12_chance_X12_isPlayer : GoodIn wsX12_chance wsX12_isPlayer := goodIn_r _ [6, 7, 8, 5, 9] rfl (by decide +kernel)
set_option maxRecDepth 20000 in
theorem gX12_chance_X12_isPlayer : GoodIn wsX12_chance (va_wsS RX12 140 yX12_isPlayer wsX12_isPlayer) := goodIn_app (goodIn_of _ (by decide +kernel)) ggX12_chance_X12_isPlayer
set_option maxRecDepth 20000 in
theorem ggX12_chance_X12_isRest : GoodIn wsX12_chance wsX12_isRest := goodIn_r _ [13, 14, 15, 16, 5, 17, 18, 7, 8, 9, 91, 92, 93, 94, 95, 96, 97, 98, 99, 100, 101, 102, 103, 104, 105, 106, 107, 108, 109, 110, 111, 112, 113, 114, 115, 116, 117, 118, 119, 120, 121, 122, 123, 124, 125, 126, 127, 128, 129, 130] rfl (by decide +kernel)
set_option maxRecDepth 20000 in
theorem gX12_chance_X12_isRest : GoodIn wsX12_chance (wsV RX12 181 RX12 yX12_isRest wsX12_isRest) := goodIn_app (goodIn_of _ (by decide +kernel)) ggX12_chance_X12_isRest
set_option maxRecDepth 20000 in
theorem ggX12_chance_X12_in : GoodIn wsX12_chance wsX12_in := goodIn_r _ [9] rfl (by decide +kernel)
set_option maxRecDepth 20000 in
theorem gX12_chance_X12_in : GoodIn wsX12_chance (va_wsS RX12 108 yX12_in wsX12_in) := goodIn_app (goodIn_of _ (by decide +kernel)) ggX12_chance_X12_in
set_option maxRecDepth 20000 in
theorem ggX12_chance_X12_chanceAt : GoodIn wsX12_chance wsX12_chanceAt := goodIn_r _ [22, 23, 24, 25, 26, 5, 27, 28, 29, 30, 31, 32, 33, 34, 35, 36, 37, 18, 38, 39, 40, 41, 7, 8, 9, 42, 43, 44, 45, 46, 47, 48, 49, 50, 14, 15, 16, 17, 51, 52, 53, 54, 55, 56, 57, 58, 59, 60, 61, 62, 63, 64, 65, 66, 67, 68, 69, 70, 71, 72, 73, 74, 75, 76, 77, 78, 91, 92, 93, 94, 95, 96, 97, 98, 99, 100, 101, 102, 103, 104, 105, 106, 107, 108, 109, 110, 111, 112, 113, 114, 115, 116, 117, 118, 119, 120, 121, 122, 123, 124, 125, 126, 127, 128, 129, 130] rfl (by decide +kernel)
set_option maxRecDepth 20000 in
theorem gX12_chance_X12_chanceAt : GoodIn wsX12_chance (wsV RX12 213 RX12 yX12_chanceAt wsX12_chanceAt) := goodIn_app (goodIn_of _ (by decide +kernel)) ggX12_chance_X12_chanceAt
set_option maxRecDepth 20000 in
theorem ggX12_chance_Jxe99ae_doubleToLongBits_ccdee : GoodIn wsX12_chance wsJxe99ae_doubleToLongBits_ccdee := goodIn_r _ [82, 83, 84, 85, 86, 87, 88, 89, 81, 90] rfl (by decide +kernel)
set_option maxRecDepth 20000 in
theorem gX12_chance_Jxe99ae_doubleToLongBits_ccdee : GoodIn wsX12_chance (va_wsS RX12 190 yJxe99ae_doubleToLongBits_ccdee wsJxe99ae_doubleToLongBits_ccdee) := goodIn_app (goodIn_of _ (by decide +kernel)) ggX12_chance_Jxe99ae_doubleToLongBits_ccdee
theorem dX12_chance_0 : decode cX12_chance 0 = .ok (.iload_n 1, 1) := by decide +kernel
theorem dX12_chance_1 : decode cX12_chance 1 = .ok (.invokestatic 140, 3) := by decide +kernel
theorem dX12_chance_4 : decode cX12_chance 4 = .ok (.ifCond .eq 39, 3) := by decide +kernel
theorem dX12_chance_7 : decode cX12_chance 7 = .ok (.aload_n 0, 1) := by decide +kernel
theorem dX12_chance_8 : decode cX12_chance 8 = .ok (.iload_n 2, 1) := by decide +kernel
theorem dX12_chance_9 : decode cX12_chance 9 = .ok (.sipush 180, 3) := by decide +kernel
theorem dX12_chance_12 : decode cX12_chance 12 = .ok (.invokevirtual 181, 3) := by decide +kernel
theorem dX12_chance_15 : decode cX12_chance 15 = .ok (.ifCond .eq 28, 3) := by decide +kernel
theorem dX12_chance_18 : decode cX12_chance 18 = .ok (.iload_n 3, 1) := by decide +kernel
theorem dX12_chance_19 : decode cX12_chance 19 = .ok (.i2l, 1) := by decide +kernel
theorem dX12_chance_20 : decode cX12_chance 20 = .ok (.lconst 0, 1) := by decide +kernel
theorem dX12_chance_21 : decode cX12_chance 21 = .ok (.ldc2_w 114, 3) := by decide +kernel
theorem dX12_chance_24 : decode cX12_chance 24 = .ok (.invokestatic 108, 3) := by decide +kernel
theorem dX12_chance_27 : decode cX12_chance 27 = .ok (.ifCond .eq 16, 3) := by decide +kernel
theorem dX12_chance_30 : decode cX12_chance 30 = .ok (.aload_n 0, 1) := by decide +kernel
theorem dX12_chance_31 : decode cX12_chance 31 = .ok (.iload_n 1, 1) := by decide +kernel
theorem dX12_chance_32 : decode cX12_chance 32 = .ok (.iload_n 2, 1) := by decide +kernel
theorem dX12_chance_33 : decode cX12_chance 33 = .ok (.iload_n 3, 1) := by decide +kernel
theorem dX12_chance_34 : decode cX12_chance 34 = .ok (.invokevirtual 213, 3) := by decide +kernel
theorem dX12_chance_37 : decode cX12_chance 37 = .ok (.invokestatic 190, 3) := by decide +kernel
theorem dX12_chance_40 : decode cX12_chance 40 = .ok (.goto 6, 3) := by decide +kernel
theorem dX12_chance_43 : decode cX12_chance 43 = .ok (.ldc2_w 196, 3) := by decide +kernel
theorem dX12_chance_46 : decode cX12_chance 46 = .ok (.lreturn, 1) := by decide +kernel
set_option maxRecDepth 20000 in
theorem ggX12_chanceAim_X12_isPlayer : GoodIn wsX12_chanceAim wsX12_isPlayer := goodIn_r _ [6, 7, 8, 5, 9] rfl (by decide +kernel)
set_option maxRecDepth 20000 in
theorem gX12_chanceAim_X12_isPlayer : GoodIn wsX12_chanceAim (va_wsS RX12 140 yX12_isPlayer wsX12_isPlayer) := goodIn_app (goodIn_of _ (by decide +kernel)) ggX12_chanceAim_X12_isPlayer
set_option maxRecDepth 20000 in
theorem ggX12_chanceAim_X12_isRest : GoodIn wsX12_chanceAim wsX12_isRest := goodIn_r _ [13, 14, 15, 16, 5, 17, 18, 7, 8, 9, 78, 79, 80, 81, 82, 83, 84, 85, 86, 87, 88, 89, 90, 91, 92, 93, 94, 95, 96, 97, 98, 99, 100, 101, 102, 103, 104, 105, 106, 107, 108, 109, 110, 111, 112, 113, 114, 115, 116, 117] rfl (by decide +kernel)
set_option maxRecDepth 20000 in
theorem gX12_chanceAim_X12_isRest : GoodIn wsX12_chanceAim (wsV RX12 181 RX12 yX12_isRest wsX12_isRest) := goodIn_app (goodIn_of _ (by decide +kernel)) ggX12_chanceAim_X12_isRest
set_option maxRecDepth 20000 in
theorem ggX12_chanceAim_X12_in : GoodIn wsX12_chanceAim wsX12_in := goodIn_r _ [9] rfl (by decide +kernel)
set_option maxRecDepth 20000 in
theorem gX12_chanceAim_X12_in : GoodIn wsX12_chanceAim (va_wsS RX12 108 yX12_in wsX12_in) := goodIn_app (goodIn_of _ (by decide +kernel)) ggX12_chanceAim_X12_in
set_option maxRecDepth 20000 in
theorem ggX12_chanceAim_X12_chanceAt : GoodIn wsX12_chanceAim wsX12_chanceAt := goodIn_r _ [22, 23, 24, 25, 26, 5, 27, 28, 29, 30, 31, 32, 33, 34, 35, 36, 37, 18, 38, 39, 40, 41, 7, 8, 9, 42, 43, 44, 45, 46, 47, 48, 49, 50, 14, 15, 16, 17, 51, 52, 53, 54, 55, 2, 56, 57, 58, 59, 60, 61, 62, 63, 64, 65, 66, 67, 68, 69, 70, 71, 72, 73, 74, 75, 76, 77, 78, 79, 80, 81, 82, 83, 84, 85, 86, 87, 88, 89, 90, 91, 92, 93, 94, 95, 96, 97, 98, 99, 100, 101, 102, 103, 104, 105, 106, 107, 108, 109, 110, 111, 112, 113, 114, 115, 116, 117] rfl (by decide +kernel)
set_option maxRecDepth 20000 in
theorem gX12_chanceAim_X12_chanceAt : GoodIn wsX12_chanceAim (wsV RX12 213 RX12 yX12_chanceAt wsX12_chanceAt) := goodIn_app (goodIn_of _ (by decide +kernel)) ggX12_chanceAim_X12_chanceAt
theorem dX12_chanceAim_0 : decode cX12_chanceAim 0 = .ok (.iload_n 1, 1) := by decide +kernel
theorem dX12_chanceAim_1 : decode cX12_chanceAim 1 = .ok (.invokestatic 140, 3) := by decide +kernel
theorem dX12_chanceAim_4 : decode cX12_chanceAim 4 = .ok (.ifCond .eq 26, 3) := by decide +kernel
theorem dX12_chanceAim_7 : decode cX12_chanceAim 7 = .ok (.aload_n 0, 1) := by decide +kernel
theorem dX12_chanceAim_8 : decode cX12_chanceAim 8 = .ok (.iload_n 2, 1) := by decide +kernel
theorem dX12_chanceAim_9 : decode cX12_chanceAim 9 = .ok (.sipush 180, 3) := by decide +kernel
theorem dX12_chanceAim_12 : decode cX12_chanceAim 12 = .ok (.invokevirtual 181, 3) := by decide +kernel
theorem dX12_chanceAim_15 : decode cX12_chanceAim 15 = .ok (.ifCond .eq 15, 3) := by decide +kernel
theorem dX12_chanceAim_18 : decode cX12_chanceAim 18 = .ok (.iload_n 3, 1) := by decide +kernel
theorem dX12_chanceAim_19 : decode cX12_chanceAim 19 = .ok (.i2l, 1) := by decide +kernel
theorem dX12_chanceAim_20 : decode cX12_chanceAim 20 = .ok (.lconst 1, 1) := by decide +kernel
theorem dX12_chanceAim_21 : decode cX12_chanceAim 21 = .ok (.ldc2_w 114, 3) := by decide +kernel
theorem dX12_chanceAim_24 : decode cX12_chanceAim 24 = .ok (.invokestatic 108, 3) := by decide +kernel
theorem dX12_chanceAim_27 : decode cX12_chanceAim 27 = .ok (.ifCond .ne 5, 3) := by decide +kernel
theorem dX12_chanceAim_30 : decode cX12_chanceAim 30 = .ok (.iconst (-1), 1) := by decide +kernel
theorem dX12_chanceAim_31 : decode cX12_chanceAim 31 = .ok (.ireturn, 1) := by decide +kernel
theorem dX12_chanceAim_32 : decode cX12_chanceAim 32 = .ok (.aload_n 0, 1) := by decide +kernel
theorem dX12_chanceAim_33 : decode cX12_chanceAim 33 = .ok (.iload_n 1, 1) := by decide +kernel
theorem dX12_chanceAim_34 : decode cX12_chanceAim 34 = .ok (.iload_n 2, 1) := by decide +kernel
theorem dX12_chanceAim_35 : decode cX12_chanceAim 35 = .ok (.iload_n 3, 1) := by decide +kernel
theorem dX12_chanceAim_36 : decode cX12_chanceAim 36 = .ok (.invokevirtual 213, 3) := by decide +kernel
theorem dX12_chanceAim_39 : decode cX12_chanceAim 39 = .ok (.pop2, 1) := by decide +kernel
theorem dX12_chanceAim_40 : decode cX12_chanceAim 40 = .ok (.aload_n 0, 1) := by decide +kernel
theorem dX12_chanceAim_41 : decode cX12_chanceAim 41 = .ok (.getfield 207, 3) := by decide +kernel
theorem dX12_chanceAim_44 : decode cX12_chanceAim 44 = .ok (.ireturn, 1) := by decide +kernel
set_option maxRecDepth 20000 in
theorem ggX12_keepBoth_X12_keepFalls : GoodIn wsX12_keepBoth wsX12_keepFalls := goodIn_r _ [11, 2, 12, 4, 13, 6, 14, 15, 16, 17, 10, 18, 19, 20, 21, 22, 23, 24, 25, 26, 27, 28, 29, 30, 31, 32, 33, 34, 35, 36, 37, 38, 39, 40, 41, 42, 43, 44, 45, 46, 47, 48, 49, 50, 51, 52, 53, 54, 55, 56, 57, 58, 59, 60, 61, 62, 63, 64, 65, 66, 67, 68, 69, 70, 71, 72, 73, 74, 75] rfl (by decide +kernel)
set_option maxRecDepth 20000 in
theorem gX12_keepBoth_X12_keepFalls : GoodIn wsX12_keepBoth (wsV RX12 163 RX12 yX12_keepFalls wsX12_keepFalls) := goodIn_app (goodIn_of _ (by decide +kernel)) ggX12_keepBoth_X12_keepFalls
theorem dX12_keepBoth_0 : decode cX12_keepBoth 0 = .ok (.iconst 0, 1) := by decide +kernel
theorem dX12_keepBoth_1 : decode cX12_keepBoth 1 = .ok (.istore_n 1, 1) := by decide +kernel
theorem dX12_keepBoth_2 : decode cX12_keepBoth 2 = .ok (.iload_n 1, 1) := by decide +kernel
theorem dX12_keepBoth_3 : decode cX12_keepBoth 3 = .ok (.iconst 2, 1) := by decide +kernel
theorem dX12_keepBoth_4 : decode cX12_keepBoth 4 = .ok (.if_icmp .ge 113, 3) := by decide +kernel
theorem dX12_keepBoth_7 : decode cX12_keepBoth 7 = .ok (.aload_n 0, 1) := by decide +kernel
theorem dX12_keepBoth_8 : decode cX12_keepBoth 8 = .ok (.iload_n 1, 1) := by decide +kernel
theorem dX12_keepBoth_9 : decode cX12_keepBoth 9 = .ok (.invokevirtual 163, 3) := by decide +kernel
theorem dX12_keepBoth_12 : decode cX12_keepBoth 12 = .ok (.iconst 1, 1) := by decide +kernel
theorem dX12_keepBoth_13 : decode cX12_keepBoth 13 = .ok (.istore_n 2, 1) := by decide +kernel
theorem dX12_keepBoth_14 : decode cX12_keepBoth 14 = .ok (.iload_n 2, 1) := by decide +kernel
theorem dX12_keepBoth_15 : decode cX12_keepBoth 15 = .ok (.bipush 62, 2) := by decide +kernel
theorem dX12_keepBoth_17 : decode cX12_keepBoth 17 = .ok (.if_icmp .gt 94, 3) := by decide +kernel
theorem dX12_keepBoth_20 : decode cX12_keepBoth 20 = .ok (.aload_n 0, 1) := by decide +kernel
theorem dX12_keepBoth_21 : decode cX12_keepBoth 21 = .ok (.getfield 66, 3) := by decide +kernel
theorem dX12_keepBoth_24 : decode cX12_keepBoth 24 = .ok (.bipush 63, 2) := by decide +kernel
theorem dX12_keepBoth_26 : decode cX12_keepBoth 26 = .ok (.iload_n 1, 1) := by decide +kernel
theorem dX12_keepBoth_27 : decode cX12_keepBoth 27 = .ok (.imul, 1) := by decide +kernel
theorem dX12_keepBoth_28 : decode cX12_keepBoth 28 = .ok (.iload_n 2, 1) := by decide +kernel
theorem dX12_keepBoth_29 : decode cX12_keepBoth 29 = .ok (.iadd, 1) := by decide +kernel
theorem dX12_keepBoth_30 : decode cX12_keepBoth 30 = .ok (.aload_n 0, 1) := by decide +kernel
theorem dX12_keepBoth_31 : decode cX12_keepBoth 31 = .ok (.getfield 41, 3) := by decide +kernel
theorem dX12_keepBoth_34 : decode cX12_keepBoth 34 = .ok (.iload_n 2, 1) := by decide +kernel
theorem dX12_keepBoth_35 : decode cX12_keepBoth 35 = .ok (.iaload, 1) := by decide +kernel
theorem dX12_keepBoth_36 : decode cX12_keepBoth 36 = .ok (.iastore, 1) := by decide +kernel
theorem dX12_keepBoth_37 : decode cX12_keepBoth 37 = .ok (.iconst 0, 1) := by decide +kernel
theorem dX12_keepBoth_38 : decode cX12_keepBoth 38 = .ok (.istore_n 3, 1) := by decide +kernel
theorem dX12_keepBoth_39 : decode cX12_keepBoth 39 = .ok (.iload_n 3, 1) := by decide +kernel
theorem dX12_keepBoth_40 : decode cX12_keepBoth 40 = .ok (.aload_n 0, 1) := by decide +kernel
theorem dX12_keepBoth_41 : decode cX12_keepBoth 41 = .ok (.getfield 41, 3) := by decide +kernel
theorem dX12_keepBoth_44 : decode cX12_keepBoth 44 = .ok (.iload_n 2, 1) := by decide +kernel
theorem dX12_keepBoth_45 : decode cX12_keepBoth 45 = .ok (.iaload, 1) := by decide +kernel
theorem dX12_keepBoth_46 : decode cX12_keepBoth 46 = .ok (.if_icmp .ge 59, 3) := by decide +kernel
theorem dX12_keepBoth_49 : decode cX12_keepBoth 49 = .ok (.aload_n 0, 1) := by decide +kernel
theorem dX12_keepBoth_50 : decode cX12_keepBoth 50 = .ok (.getfield 69, 3) := by decide +kernel
theorem dX12_keepBoth_53 : decode cX12_keepBoth 53 = .ok (.iconst 5, 1) := by decide +kernel
theorem dX12_keepBoth_54 : decode cX12_keepBoth 54 = .ok (.bipush 63, 2) := by decide +kernel
theorem dX12_keepBoth_56 : decode cX12_keepBoth 56 = .ok (.iload_n 1, 1) := by decide +kernel
theorem dX12_keepBoth_57 : decode cX12_keepBoth 57 = .ok (.imul, 1) := by decide +kernel
theorem dX12_keepBoth_58 : decode cX12_keepBoth 58 = .ok (.iload_n 2, 1) := by decide +kernel
theorem dX12_keepBoth_59 : decode cX12_keepBoth 59 = .ok (.iadd, 1) := by decide +kernel
theorem dX12_keepBoth_60 : decode cX12_keepBoth 60 = .ok (.imul, 1) := by decide +kernel
theorem dX12_keepBoth_61 : decode cX12_keepBoth 61 = .ok (.iload_n 3, 1) := by decide +kernel
theorem dX12_keepBoth_62 : decode cX12_keepBoth 62 = .ok (.iadd, 1) := by decide +kernel
theorem dX12_keepBoth_63 : decode cX12_keepBoth 63 = .ok (.aload_n 0, 1) := by decide +kernel
theorem dX12_keepBoth_64 : decode cX12_keepBoth 64 = .ok (.getfield 44, 3) := by decide +kernel
theorem dX12_keepBoth_67 : decode cX12_keepBoth 67 = .ok (.iconst 5, 1) := by decide +kernel
theorem dX12_keepBoth_68 : decode cX12_keepBoth 68 = .ok (.iload_n 2, 1) := by decide +kernel
theorem dX12_keepBoth_69 : decode cX12_keepBoth 69 = .ok (.imul, 1) := by decide +kernel
theorem dX12_keepBoth_70 : decode cX12_keepBoth 70 = .ok (.iload_n 3, 1) := by decide +kernel
theorem dX12_keepBoth_71 : decode cX12_keepBoth 71 = .ok (.iadd, 1) := by decide +kernel
theorem dX12_keepBoth_72 : decode cX12_keepBoth 72 = .ok (.iaload, 1) := by decide +kernel
theorem dX12_keepBoth_73 : decode cX12_keepBoth 73 = .ok (.iastore, 1) := by decide +kernel
theorem dX12_keepBoth_74 : decode cX12_keepBoth 74 = .ok (.aload_n 0, 1) := by decide +kernel
theorem dX12_keepBoth_75 : decode cX12_keepBoth 75 = .ok (.getfield 72, 3) := by decide +kernel
theorem dX12_keepBoth_78 : decode cX12_keepBoth 78 = .ok (.iconst 5, 1) := by decide +kernel
theorem dX12_keepBoth_79 : decode cX12_keepBoth 79 = .ok (.bipush 63, 2) := by decide +kernel
theorem dX12_keepBoth_81 : decode cX12_keepBoth 81 = .ok (.iload_n 1, 1) := by decide +kernel
theorem dX12_keepBoth_82 : decode cX12_keepBoth 82 = .ok (.imul, 1) := by decide +kernel
theorem dX12_keepBoth_83 : decode cX12_keepBoth 83 = .ok (.iload_n 2, 1) := by decide +kernel
theorem dX12_keepBoth_84 : decode cX12_keepBoth 84 = .ok (.iadd, 1) := by decide +kernel
theorem dX12_keepBoth_85 : decode cX12_keepBoth 85 = .ok (.imul, 1) := by decide +kernel
theorem dX12_keepBoth_86 : decode cX12_keepBoth 86 = .ok (.iload_n 3, 1) := by decide +kernel
theorem dX12_keepBoth_87 : decode cX12_keepBoth 87 = .ok (.iadd, 1) := by decide +kernel
theorem dX12_keepBoth_88 : decode cX12_keepBoth 88 = .ok (.aload_n 0, 1) := by decide +kernel
theorem dX12_keepBoth_89 : decode cX12_keepBoth 89 = .ok (.getfield 47, 3) := by decide +kernel
theorem dX12_keepBoth_92 : decode cX12_keepBoth 92 = .ok (.iconst 5, 1) := by decide +kernel
theorem dX12_keepBoth_93 : decode cX12_keepBoth 93 = .ok (.iload_n 2, 1) := by decide +kernel
theorem dX12_keepBoth_94 : decode cX12_keepBoth 94 = .ok (.imul, 1) := by decide +kernel
theorem dX12_keepBoth_95 : decode cX12_keepBoth 95 = .ok (.iload_n 3, 1) := by decide +kernel
theorem dX12_keepBoth_96 : decode cX12_keepBoth 96 = .ok (.iadd, 1) := by decide +kernel
theorem dX12_keepBoth_97 : decode cX12_keepBoth 97 = .ok (.iaload, 1) := by decide +kernel
theorem dX12_keepBoth_98 : decode cX12_keepBoth 98 = .ok (.iastore, 1) := by decide +kernel
theorem dX12_keepBoth_99 : decode cX12_keepBoth 99 = .ok (.iinc 3 1, 3) := by decide +kernel
theorem dX12_keepBoth_102 : decode cX12_keepBoth 102 = .ok (.goto (-63), 3) := by decide +kernel
theorem dX12_keepBoth_105 : decode cX12_keepBoth 105 = .ok (.iinc 2 1, 3) := by decide +kernel
theorem dX12_keepBoth_108 : decode cX12_keepBoth 108 = .ok (.goto (-94), 3) := by decide +kernel
theorem dX12_keepBoth_111 : decode cX12_keepBoth 111 = .ok (.iinc 1 1, 3) := by decide +kernel
theorem dX12_keepBoth_114 : decode cX12_keepBoth 114 = .ok (.goto (-112), 3) := by decide +kernel
theorem dX12_keepBoth_117 : decode cX12_keepBoth 117 = .ok (.return_, 1) := by decide +kernel
theorem dX12_lostBy_0 : decode cX12_lostBy 0 = .ok (.dconst 1, 1) := by decide +kernel
theorem dX12_lostBy_1 : decode cX12_lostBy 1 = .ok (.iload_n 1, 1) := by decide +kernel
theorem dX12_lostBy_2 : decode cX12_lostBy 2 = .ok (.ifCond .ne 17, 3) := by decide +kernel
theorem dX12_lostBy_5 : decode cX12_lostBy 5 = .ok (.aload_n 0, 1) := by decide +kernel
theorem dX12_lostBy_6 : decode cX12_lostBy 6 = .ok (.getfield 56, 3) := by decide +kernel
theorem dX12_lostBy_9 : decode cX12_lostBy 9 = .ok (.bipush 25, 2) := by decide +kernel
theorem dX12_lostBy_11 : decode cX12_lostBy 11 = .ok (.iload_n 2, 1) := by decide +kernel
theorem dX12_lostBy_12 : decode cX12_lostBy 12 = .ok (.imul, 1) := by decide +kernel
theorem dX12_lostBy_13 : decode cX12_lostBy 13 = .ok (.iload_n 3, 1) := by decide +kernel
theorem dX12_lostBy_14 : decode cX12_lostBy 14 = .ok (.iadd, 1) := by decide +kernel
theorem dX12_lostBy_15 : decode cX12_lostBy 15 = .ok (.daload, 1) := by decide +kernel
theorem dX12_lostBy_16 : decode cX12_lostBy 16 = .ok (.goto 14, 3) := by decide +kernel
theorem dX12_lostBy_19 : decode cX12_lostBy 19 = .ok (.aload_n 0, 1) := by decide +kernel
theorem dX12_lostBy_20 : decode cX12_lostBy 20 = .ok (.getfield 53, 3) := by decide +kernel
theorem dX12_lostBy_23 : decode cX12_lostBy 23 = .ok (.bipush 25, 2) := by decide +kernel
theorem dX12_lostBy_25 : decode cX12_lostBy 25 = .ok (.iload_n 2, 1) := by decide +kernel
theorem dX12_lostBy_26 : decode cX12_lostBy 26 = .ok (.imul, 1) := by decide +kernel
theorem dX12_lostBy_27 : decode cX12_lostBy 27 = .ok (.iload_n 3, 1) := by decide +kernel
theorem dX12_lostBy_28 : decode cX12_lostBy 28 = .ok (.iadd, 1) := by decide +kernel
theorem dX12_lostBy_29 : decode cX12_lostBy 29 = .ok (.daload, 1) := by decide +kernel
theorem dX12_lostBy_30 : decode cX12_lostBy 30 = .ok (.dsub, 1) := by decide +kernel
theorem dX12_lostBy_31 : decode cX12_lostBy 31 = .ok (.dreturn, 1) := by decide +kernel
set_option maxRecDepth 20000 in
theorem ggX12_raceValue_X12_nextRest : GoodIn wsX12_raceValue wsX12_nextRest := goodIn_r _ [9, 10, 11, 12, 8, 13, 14, 15, 16, 17, 18, 19, 26, 27, 28, 29, 30, 31, 32, 33, 34, 35, 36, 37, 38, 39, 40, 41, 42, 43, 44, 45, 46, 47, 48, 49, 50, 51, 52, 53, 54, 55, 56, 57, 58, 59, 60, 61, 62, 63, 64, 65] rfl (by decide +kernel)
set_option maxRecDepth 20000 in
theorem gX12_raceValue_X12_nextRest : GoodIn wsX12_raceValue (wsV RX12 153 RX12 yX12_nextRest wsX12_nextRest) := goodIn_app (goodIn_of _ (by decide +kernel)) ggX12_raceValue_X12_nextRest
set_option maxRecDepth 20000 in
theorem ggX12_raceValue_X12_lostBy : GoodIn wsX12_raceValue wsX12_lostBy := goodIn_r _ [23, 24, 25, 26, 27, 28, 29, 30, 31, 32, 33, 34, 35, 36, 37, 38, 39, 40, 41, 42, 43, 44, 45, 46, 47, 48, 49, 50, 51, 52, 53, 54, 55, 56, 57, 58, 59, 60, 61, 62, 63, 64, 65] rfl (by decide +kernel)
set_option maxRecDepth 20000 in
theorem gX12_raceValue_X12_lostBy : GoodIn wsX12_raceValue (wsV RX12 217 RX12 yX12_lostBy wsX12_lostBy) := goodIn_app (goodIn_of _ (by decide +kernel)) ggX12_raceValue_X12_lostBy
theorem dX12_raceValue_0 : decode cX12_raceValue 0 = .ok (.dconst 0, 1) := by decide +kernel
theorem dX12_raceValue_1 : decode cX12_raceValue 1 = .ok (.dstore 5, 2) := by decide +kernel
theorem dX12_raceValue_3 : decode cX12_raceValue 3 = .ok (.iconst 0, 1) := by decide +kernel
theorem dX12_raceValue_4 : decode cX12_raceValue 4 = .ok (.istore 7, 2) := by decide +kernel
theorem dX12_raceValue_6 : decode cX12_raceValue 6 = .ok (.bipush 63, 2) := by decide +kernel
theorem dX12_raceValue_8 : decode cX12_raceValue 8 = .ok (.iload_n 1, 1) := by decide +kernel
theorem dX12_raceValue_9 : decode cX12_raceValue 9 = .ok (.imul, 1) := by decide +kernel
theorem dX12_raceValue_10 : decode cX12_raceValue 10 = .ok (.iload_n 2, 1) := by decide +kernel
theorem dX12_raceValue_11 : decode cX12_raceValue 11 = .ok (.iadd, 1) := by decide +kernel
theorem dX12_raceValue_12 : decode cX12_raceValue 12 = .ok (.istore 8, 2) := by decide +kernel
theorem dX12_raceValue_14 : decode cX12_raceValue 14 = .ok (.iconst 0, 1) := by decide +kernel
theorem dX12_raceValue_15 : decode cX12_raceValue 15 = .ok (.istore 9, 2) := by decide +kernel
theorem dX12_raceValue_17 : decode cX12_raceValue 17 = .ok (.iload 9, 2) := by decide +kernel
theorem dX12_raceValue_19 : decode cX12_raceValue 19 = .ok (.aload_n 0, 1) := by decide +kernel
theorem dX12_raceValue_20 : decode cX12_raceValue 20 = .ok (.getfield 66, 3) := by decide +kernel
theorem dX12_raceValue_23 : decode cX12_raceValue 23 = .ok (.iload 8, 2) := by decide +kernel
theorem dX12_raceValue_25 : decode cX12_raceValue 25 = .ok (.iaload, 1) := by decide +kernel
theorem dX12_raceValue_26 : decode cX12_raceValue 26 = .ok (.if_icmp .ge 133, 3) := by decide +kernel
theorem dX12_raceValue_29 : decode cX12_raceValue 29 = .ok (.aload_n 0, 1) := by decide +kernel
theorem dX12_raceValue_30 : decode cX12_raceValue 30 = .ok (.getfield 69, 3) := by decide +kernel
theorem dX12_raceValue_33 : decode cX12_raceValue 33 = .ok (.iconst 5, 1) := by decide +kernel
theorem dX12_raceValue_34 : decode cX12_raceValue 34 = .ok (.iload 8, 2) := by decide +kernel
theorem dX12_raceValue_36 : decode cX12_raceValue 36 = .ok (.imul, 1) := by decide +kernel
theorem dX12_raceValue_37 : decode cX12_raceValue 37 = .ok (.iload 9, 2) := by decide +kernel
theorem dX12_raceValue_39 : decode cX12_raceValue 39 = .ok (.iadd, 1) := by decide +kernel
theorem dX12_raceValue_40 : decode cX12_raceValue 40 = .ok (.iaload, 1) := by decide +kernel
theorem dX12_raceValue_41 : decode cX12_raceValue 41 = .ok (.istore 10, 2) := by decide +kernel
theorem dX12_raceValue_43 : decode cX12_raceValue 43 = .ok (.aload_n 0, 1) := by decide +kernel
theorem dX12_raceValue_44 : decode cX12_raceValue 44 = .ok (.getfield 72, 3) := by decide +kernel
theorem dX12_raceValue_47 : decode cX12_raceValue 47 = .ok (.iconst 5, 1) := by decide +kernel
theorem dX12_raceValue_48 : decode cX12_raceValue 48 = .ok (.iload 8, 2) := by decide +kernel
theorem dX12_raceValue_50 : decode cX12_raceValue 50 = .ok (.imul, 1) := by decide +kernel
theorem dX12_raceValue_51 : decode cX12_raceValue 51 = .ok (.iload 9, 2) := by decide +kernel
theorem dX12_raceValue_53 : decode cX12_raceValue 53 = .ok (.iadd, 1) := by decide +kernel
theorem dX12_raceValue_54 : decode cX12_raceValue 54 = .ok (.iaload, 1) := by decide +kernel
theorem dX12_raceValue_55 : decode cX12_raceValue 55 = .ok (.istore 11, 2) := by decide +kernel
theorem dX12_raceValue_57 : decode cX12_raceValue 57 = .ok (.aload_n 0, 1) := by decide +kernel
theorem dX12_raceValue_58 : decode cX12_raceValue 58 = .ok (.iload_n 1, 1) := by decide +kernel
theorem dX12_raceValue_59 : decode cX12_raceValue 59 = .ok (.ifCond .ne 7, 3) := by decide +kernel
theorem dX12_raceValue_62 : decode cX12_raceValue 62 = .ok (.iload_n 3, 1) := by decide +kernel
theorem dX12_raceValue_63 : decode cX12_raceValue 63 = .ok (.goto 5, 3) := by decide +kernel
theorem dX12_raceValue_66 : decode cX12_raceValue 66 = .ok (.iload 4, 2) := by decide +kernel
theorem dX12_raceValue_68 : decode cX12_raceValue 68 = .ok (.iload 10, 2) := by decide +kernel
theorem dX12_raceValue_70 : decode cX12_raceValue 70 = .ok (.invokevirtual 153, 3) := by decide +kernel
theorem dX12_raceValue_73 : decode cX12_raceValue 73 = .ok (.istore 12, 2) := by decide +kernel
theorem dX12_raceValue_75 : decode cX12_raceValue 75 = .ok (.iload 11, 2) := by decide +kernel
theorem dX12_raceValue_77 : decode cX12_raceValue 77 = .ok (.i2d, 1) := by decide +kernel
theorem dX12_raceValue_78 : decode cX12_raceValue 78 = .ok (.ldc2_w 156, 3) := by decide +kernel
theorem dX12_raceValue_81 : decode cX12_raceValue 81 = .ok (.ddiv, 1) := by decide +kernel
theorem dX12_raceValue_82 : decode cX12_raceValue 82 = .ok (.dstore 13, 2) := by decide +kernel
theorem dX12_raceValue_84 : decode cX12_raceValue 84 = .ok (.iload 12, 2) := by decide +kernel
theorem dX12_raceValue_86 : decode cX12_raceValue 86 = .ok (.ifCond .lt 8, 3) := by decide +kernel
theorem dX12_raceValue_89 : decode cX12_raceValue 89 = .ok (.iload 10, 2) := by decide +kernel
theorem dX12_raceValue_91 : decode cX12_raceValue 91 = .ok (.ifCond .ne 13, 3) := by decide +kernel
theorem dX12_raceValue_94 : decode cX12_raceValue 94 = .ok (.iload 7, 2) := by decide +kernel
theorem dX12_raceValue_96 : decode cX12_raceValue 96 = .ok (.iload 11, 2) := by decide +kernel
theorem dX12_raceValue_98 : decode cX12_raceValue 98 = .ok (.iadd, 1) := by decide +kernel
theorem dX12_raceValue_99 : decode cX12_raceValue 99 = .ok (.istore 7, 2) := by decide +kernel
theorem dX12_raceValue_101 : decode cX12_raceValue 101 = .ok (.goto 52, 3) := by decide +kernel
theorem dX12_raceValue_104 : decode cX12_raceValue 104 = .ok (.iload 12, 2) := by decide +kernel
theorem dX12_raceValue_106 : decode cX12_raceValue 106 = .ok (.ifCond .ne 13, 3) := by decide +kernel
theorem dX12_raceValue_109 : decode cX12_raceValue 109 = .ok (.dload 5, 2) := by decide +kernel
theorem dX12_raceValue_111 : decode cX12_raceValue 111 = .ok (.dload 13, 2) := by decide +kernel
theorem dX12_raceValue_113 : decode cX12_raceValue 113 = .ok (.dadd, 1) := by decide +kernel
theorem dX12_raceValue_114 : decode cX12_raceValue 114 = .ok (.dstore 5, 2) := by decide +kernel
theorem dX12_raceValue_116 : decode cX12_raceValue 116 = .ok (.goto 37, 3) := by decide +kernel
theorem dX12_raceValue_119 : decode cX12_raceValue 119 = .ok (.dload 5, 2) := by decide +kernel
theorem dX12_raceValue_121 : decode cX12_raceValue 121 = .ok (.dload 13, 2) := by decide +kernel
theorem dX12_raceValue_123 : decode cX12_raceValue 123 = .ok (.aload_n 0, 1) := by decide +kernel
theorem dX12_raceValue_124 : decode cX12_raceValue 124 = .ok (.iload_n 1, 1) := by decide +kernel
theorem dX12_raceValue_125 : decode cX12_raceValue 125 = .ok (.iload_n 1, 1) := by decide +kernel
theorem dX12_raceValue_126 : decode cX12_raceValue 126 = .ok (.ifCond .ne 8, 3) := by decide +kernel
theorem dX12_raceValue_129 : decode cX12_raceValue 129 = .ok (.iload 12, 2) := by decide +kernel
theorem dX12_raceValue_131 : decode cX12_raceValue 131 = .ok (.goto 4, 3) := by decide +kernel
theorem dX12_raceValue_134 : decode cX12_raceValue 134 = .ok (.iload_n 3, 1) := by decide +kernel
theorem dX12_raceValue_135 : decode cX12_raceValue 135 = .ok (.iload_n 1, 1) := by decide +kernel
theorem dX12_raceValue_136 : decode cX12_raceValue 136 = .ok (.ifCond .ne 8, 3) := by decide +kernel
theorem dX12_raceValue_139 : decode cX12_raceValue 139 = .ok (.iload 4, 2) := by decide +kernel
theorem dX12_raceValue_141 : decode cX12_raceValue 141 = .ok (.goto 5, 3) := by decide +kernel
theorem dX12_raceValue_144 : decode cX12_raceValue 144 = .ok (.iload 12, 2) := by decide +kernel
theorem dX12_raceValue_146 : decode cX12_raceValue 146 = .ok (.invokevirtual 217, 3) := by decide +kernel
theorem dX12_raceValue_149 : decode cX12_raceValue 149 = .ok (.dmul, 1) := by decide +kernel
theorem dX12_raceValue_150 : decode cX12_raceValue 150 = .ok (.dadd, 1) := by decide +kernel
theorem dX12_raceValue_151 : decode cX12_raceValue 151 = .ok (.dstore 5, 2) := by decide +kernel
theorem dX12_raceValue_153 : decode cX12_raceValue 153 = .ok (.iinc 9 1, 3) := by decide +kernel
theorem dX12_raceValue_156 : decode cX12_raceValue 156 = .ok (.goto (-139), 3) := by decide +kernel
theorem dX12_raceValue_159 : decode cX12_raceValue 159 = .ok (.dload 5, 2) := by decide +kernel
theorem dX12_raceValue_161 : decode cX12_raceValue 161 = .ok (.iload 7, 2) := by decide +kernel
theorem dX12_raceValue_163 : decode cX12_raceValue 163 = .ok (.i2d, 1) := by decide +kernel
theorem dX12_raceValue_164 : decode cX12_raceValue 164 = .ok (.ldc2_w 156, 3) := by decide +kernel
theorem dX12_raceValue_167 : decode cX12_raceValue 167 = .ok (.ddiv, 1) := by decide +kernel
theorem dX12_raceValue_168 : decode cX12_raceValue 168 = .ok (.aload_n 0, 1) := by decide +kernel
theorem dX12_raceValue_169 : decode cX12_raceValue 169 = .ok (.iload_n 1, 1) := by decide +kernel
theorem dX12_raceValue_170 : decode cX12_raceValue 170 = .ok (.iload_n 3, 1) := by decide +kernel
theorem dX12_raceValue_171 : decode cX12_raceValue 171 = .ok (.iload 4, 2) := by decide +kernel
theorem dX12_raceValue_173 : decode cX12_raceValue 173 = .ok (.invokevirtual 217, 3) := by decide +kernel
theorem dX12_raceValue_176 : decode cX12_raceValue 176 = .ok (.dmul, 1) := by decide +kernel
theorem dX12_raceValue_177 : decode cX12_raceValue 177 = .ok (.dadd, 1) := by decide +kernel
theorem dX12_raceValue_178 : decode cX12_raceValue 178 = .ok (.dreturn, 1) := by decide +kernel
set_option maxRecDepth 20000 in
theorem ggX12_bestRace_X12_raceValue : GoodIn wsX12_bestRace wsX12_raceValue := goodIn_r _ [7, 8, 9, 10, 11, 12, 13, 14, 6, 15, 16, 17, 18, 19, 20, 21, 22, 23, 24, 25, 26, 27, 28, 29, 30, 31, 32, 33, 34, 35, 36, 37, 38, 39, 40, 41, 42, 43, 44, 45, 46, 47, 48, 49, 50, 51, 52, 53, 54, 55, 56, 57, 58, 59, 60, 61, 62, 63, 64, 65, 66, 67, 68, 69, 70, 71] rfl (by decide +kernel)
set_option maxRecDepth 20000 in
theorem gX12_bestRace_X12_raceValue : GoodIn wsX12_bestRace (wsV RX12 220 RX12 yX12_raceValue wsX12_raceValue) := goodIn_app (goodIn_of _ (by decide +kernel)) ggX12_bestRace_X12_raceValue
theorem dX12_bestRace_0 : decode cX12_bestRace 0 = .ok (.ldc2_w 158, 3) := by decide +kernel
theorem dX12_bestRace_3 : decode cX12_bestRace 3 = .ok (.dstore 4, 2) := by decide +kernel
theorem dX12_bestRace_5 : decode cX12_bestRace 5 = .ok (.iconst 1, 1) := by decide +kernel
theorem dX12_bestRace_6 : decode cX12_bestRace 6 = .ok (.istore 6, 2) := by decide +kernel
theorem dX12_bestRace_8 : decode cX12_bestRace 8 = .ok (.iload 6, 2) := by decide +kernel
theorem dX12_bestRace_10 : decode cX12_bestRace 10 = .ok (.bipush 62, 2) := by decide +kernel
theorem dX12_bestRace_12 : decode cX12_bestRace 12 = .ok (.if_icmp .gt 58, 3) := by decide +kernel
theorem dX12_bestRace_15 : decode cX12_bestRace 15 = .ok (.aload_n 0, 1) := by decide +kernel
theorem dX12_bestRace_16 : decode cX12_bestRace 16 = .ok (.iload_n 1, 1) := by decide +kernel
theorem dX12_bestRace_17 : decode cX12_bestRace 17 = .ok (.iload 6, 2) := by decide +kernel
theorem dX12_bestRace_19 : decode cX12_bestRace 19 = .ok (.iload_n 2, 1) := by decide +kernel
theorem dX12_bestRace_20 : decode cX12_bestRace 20 = .ok (.iload_n 3, 1) := by decide +kernel
theorem dX12_bestRace_21 : decode cX12_bestRace 21 = .ok (.invokevirtual 220, 3) := by decide +kernel
theorem dX12_bestRace_24 : decode cX12_bestRace 24 = .ok (.dstore 7, 2) := by decide +kernel
theorem dX12_bestRace_26 : decode cX12_bestRace 26 = .ok (.aload_n 0, 1) := by decide +kernel
theorem dX12_bestRace_27 : decode cX12_bestRace 27 = .ok (.dload 7, 2) := by decide +kernel
theorem dX12_bestRace_29 : decode cX12_bestRace 29 = .ok (.dload 4, 2) := by decide +kernel
theorem dX12_bestRace_31 : decode cX12_bestRace 31 = .ok (.dcmp .l, 1) := by decide +kernel
theorem dX12_bestRace_32 : decode cX12_bestRace 32 = .ok (.ifCond .le 8, 3) := by decide +kernel
theorem dX12_bestRace_35 : decode cX12_bestRace 35 = .ok (.iload 6, 2) := by decide +kernel
theorem dX12_bestRace_37 : decode cX12_bestRace 37 = .ok (.goto 7, 3) := by decide +kernel
theorem dX12_bestRace_40 : decode cX12_bestRace 40 = .ok (.aload_n 0, 1) := by decide +kernel
theorem dX12_bestRace_41 : decode cX12_bestRace 41 = .ok (.getfield 224, 3) := by decide +kernel
theorem dX12_bestRace_44 : decode cX12_bestRace 44 = .ok (.putfield 224, 3) := by decide +kernel
theorem dX12_bestRace_47 : decode cX12_bestRace 47 = .ok (.dload 7, 2) := by decide +kernel
theorem dX12_bestRace_49 : decode cX12_bestRace 49 = .ok (.dload 4, 2) := by decide +kernel
theorem dX12_bestRace_51 : decode cX12_bestRace 51 = .ok (.dcmp .l, 1) := by decide +kernel
theorem dX12_bestRace_52 : decode cX12_bestRace 52 = .ok (.ifCond .le 8, 3) := by decide +kernel
theorem dX12_bestRace_55 : decode cX12_bestRace 55 = .ok (.dload 7, 2) := by decide +kernel
theorem dX12_bestRace_57 : decode cX12_bestRace 57 = .ok (.goto 5, 3) := by decide +kernel
theorem dX12_bestRace_60 : decode cX12_bestRace 60 = .ok (.dload 4, 2) := by decide +kernel
theorem dX12_bestRace_62 : decode cX12_bestRace 62 = .ok (.dstore 4, 2) := by decide +kernel
theorem dX12_bestRace_64 : decode cX12_bestRace 64 = .ok (.iinc 6 1, 3) := by decide +kernel
theorem dX12_bestRace_67 : decode cX12_bestRace 67 = .ok (.goto (-59), 3) := by decide +kernel
theorem dX12_bestRace_70 : decode cX12_bestRace 70 = .ok (.dload 4, 2) := by decide +kernel
theorem dX12_bestRace_72 : decode cX12_bestRace 72 = .ok (.dreturn, 1) := by decide +kernel
set_option maxRecDepth 20000 in
theorem ggX12_layPair_X12_bestRace : GoodIn wsX12_layPair wsX12_bestRace := goodIn_r _ [9, 10, 11, 12, 13, 14, 8, 15, 16, 17, 18, 19, 20, 21, 22, 23, 24, 25, 26, 27, 28, 29, 30, 31, 32, 33, 34, 35, 36, 37, 3, 1, 38, 39, 40, 41, 42, 43, 44, 45, 46, 47, 48, 49, 50, 51, 52, 53, 54, 55, 56, 57, 58, 59, 60, 61, 62, 63, 64, 65, 66, 67, 68, 69, 70, 71, 72, 73, 74, 75, 76, 77] rfl (by decide +kernel)
set_option maxRecDepth 20000 in
theorem gX12_layPair_X12_bestRace : GoodIn wsX12_layPair (wsV RX12 229 RX12 yX12_bestRace wsX12_bestRace) := goodIn_app (goodIn_of _ (by decide +kernel)) ggX12_layPair_X12_bestRace
theorem dX12_layPair_0 : decode cX12_layPair 0 = .ok (.bipush 25, 2) := by decide +kernel
theorem dX12_layPair_2 : decode cX12_layPair 2 = .ok (.iload_n 1, 1) := by decide +kernel
theorem dX12_layPair_3 : decode cX12_layPair 3 = .ok (.imul, 1) := by decide +kernel
theorem dX12_layPair_4 : decode cX12_layPair 4 = .ok (.iload_n 2, 1) := by decide +kernel
theorem dX12_layPair_5 : decode cX12_layPair 5 = .ok (.iadd, 1) := by decide +kernel
theorem dX12_layPair_6 : decode cX12_layPair 6 = .ok (.istore_n 3, 1) := by decide +kernel
theorem dX12_layPair_7 : decode cX12_layPair 7 = .ok (.aload_n 0, 1) := by decide +kernel
theorem dX12_layPair_8 : decode cX12_layPair 8 = .ok (.getfield 53, 3) := by decide +kernel
theorem dX12_layPair_11 : decode cX12_layPair 11 = .ok (.iload_n 3, 1) := by decide +kernel
theorem dX12_layPair_12 : decode cX12_layPair 12 = .ok (.ldc2_w 227, 3) := by decide +kernel
theorem dX12_layPair_15 : decode cX12_layPair 15 = .ok (.dastore, 1) := by decide +kernel
theorem dX12_layPair_16 : decode cX12_layPair 16 = .ok (.aload_n 0, 1) := by decide +kernel
theorem dX12_layPair_17 : decode cX12_layPair 17 = .ok (.getfield 56, 3) := by decide +kernel
theorem dX12_layPair_20 : decode cX12_layPair 20 = .ok (.iload_n 3, 1) := by decide +kernel
theorem dX12_layPair_21 : decode cX12_layPair 21 = .ok (.ldc2_w 227, 3) := by decide +kernel
theorem dX12_layPair_24 : decode cX12_layPair 24 = .ok (.dastore, 1) := by decide +kernel
theorem dX12_layPair_25 : decode cX12_layPair 25 = .ok (.iconst 1, 1) := by decide +kernel
theorem dX12_layPair_26 : decode cX12_layPair 26 = .ok (.istore 4, 2) := by decide +kernel
theorem dX12_layPair_28 : decode cX12_layPair 28 = .ok (.iload 4, 2) := by decide +kernel
theorem dX12_layPair_30 : decode cX12_layPair 30 = .ok (.bipush 12, 2) := by decide +kernel
theorem dX12_layPair_32 : decode cX12_layPair 32 = .ok (.if_icmp .gt 86, 3) := by decide +kernel
theorem dX12_layPair_35 : decode cX12_layPair 35 = .ok (.aload_n 0, 1) := by decide +kernel
theorem dX12_layPair_36 : decode cX12_layPair 36 = .ok (.getfield 53, 3) := by decide +kernel
theorem dX12_layPair_39 : decode cX12_layPair 39 = .ok (.iload_n 3, 1) := by decide +kernel
theorem dX12_layPair_40 : decode cX12_layPair 40 = .ok (.daload, 1) := by decide +kernel
theorem dX12_layPair_41 : decode cX12_layPair 41 = .ok (.dstore 5, 2) := by decide +kernel
theorem dX12_layPair_43 : decode cX12_layPair 43 = .ok (.aload_n 0, 1) := by decide +kernel
theorem dX12_layPair_44 : decode cX12_layPair 44 = .ok (.getfield 56, 3) := by decide +kernel
theorem dX12_layPair_47 : decode cX12_layPair 47 = .ok (.iload_n 3, 1) := by decide +kernel
theorem dX12_layPair_48 : decode cX12_layPair 48 = .ok (.daload, 1) := by decide +kernel
theorem dX12_layPair_49 : decode cX12_layPair 49 = .ok (.dstore 7, 2) := by decide +kernel
theorem dX12_layPair_51 : decode cX12_layPair 51 = .ok (.aload_n 0, 1) := by decide +kernel
theorem dX12_layPair_52 : decode cX12_layPair 52 = .ok (.getfield 53, 3) := by decide +kernel
theorem dX12_layPair_55 : decode cX12_layPair 55 = .ok (.iload_n 3, 1) := by decide +kernel
theorem dX12_layPair_56 : decode cX12_layPair 56 = .ok (.aload_n 0, 1) := by decide +kernel
theorem dX12_layPair_57 : decode cX12_layPair 57 = .ok (.iconst 0, 1) := by decide +kernel
theorem dX12_layPair_58 : decode cX12_layPair 58 = .ok (.iload_n 1, 1) := by decide +kernel
theorem dX12_layPair_59 : decode cX12_layPair 59 = .ok (.iload_n 2, 1) := by decide +kernel
theorem dX12_layPair_60 : decode cX12_layPair 60 = .ok (.invokevirtual 229, 3) := by decide +kernel
theorem dX12_layPair_63 : decode cX12_layPair 63 = .ok (.dastore, 1) := by decide +kernel
theorem dX12_layPair_64 : decode cX12_layPair 64 = .ok (.aload_n 0, 1) := by decide +kernel
theorem dX12_layPair_65 : decode cX12_layPair 65 = .ok (.getfield 56, 3) := by decide +kernel
theorem dX12_layPair_68 : decode cX12_layPair 68 = .ok (.iload_n 3, 1) := by decide +kernel
theorem dX12_layPair_69 : decode cX12_layPair 69 = .ok (.aload_n 0, 1) := by decide +kernel
theorem dX12_layPair_70 : decode cX12_layPair 70 = .ok (.iconst 1, 1) := by decide +kernel
theorem dX12_layPair_71 : decode cX12_layPair 71 = .ok (.iload_n 1, 1) := by decide +kernel
theorem dX12_layPair_72 : decode cX12_layPair 72 = .ok (.iload_n 2, 1) := by decide +kernel
theorem dX12_layPair_73 : decode cX12_layPair 73 = .ok (.invokevirtual 229, 3) := by decide +kernel
theorem dX12_layPair_76 : decode cX12_layPair 76 = .ok (.dastore, 1) := by decide +kernel
theorem dX12_layPair_77 : decode cX12_layPair 77 = .ok (.aload_n 0, 1) := by decide +kernel
theorem dX12_layPair_78 : decode cX12_layPair 78 = .ok (.getfield 59, 3) := by decide +kernel
theorem dX12_layPair_81 : decode cX12_layPair 81 = .ok (.iload_n 3, 1) := by decide +kernel
theorem dX12_layPair_82 : decode cX12_layPair 82 = .ok (.dload 5, 2) := by decide +kernel
theorem dX12_layPair_84 : decode cX12_layPair 84 = .ok (.aload_n 0, 1) := by decide +kernel
theorem dX12_layPair_85 : decode cX12_layPair 85 = .ok (.getfield 53, 3) := by decide +kernel
theorem dX12_layPair_88 : decode cX12_layPair 88 = .ok (.iload_n 3, 1) := by decide +kernel
theorem dX12_layPair_89 : decode cX12_layPair 89 = .ok (.daload, 1) := by decide +kernel
theorem dX12_layPair_90 : decode cX12_layPair 90 = .ok (.dcmp .l, 1) := by decide +kernel
theorem dX12_layPair_91 : decode cX12_layPair 91 = .ok (.ifCond .ne 19, 3) := by decide +kernel
theorem dX12_layPair_94 : decode cX12_layPair 94 = .ok (.dload 7, 2) := by decide +kernel
theorem dX12_layPair_96 : decode cX12_layPair 96 = .ok (.aload_n 0, 1) := by decide +kernel
theorem dX12_layPair_97 : decode cX12_layPair 97 = .ok (.getfield 56, 3) := by decide +kernel
theorem dX12_layPair_100 : decode cX12_layPair 100 = .ok (.iload_n 3, 1) := by decide +kernel
theorem dX12_layPair_101 : decode cX12_layPair 101 = .ok (.daload, 1) := by decide +kernel
theorem dX12_layPair_102 : decode cX12_layPair 102 = .ok (.dcmp .l, 1) := by decide +kernel
theorem dX12_layPair_103 : decode cX12_layPair 103 = .ok (.ifCond .ne 7, 3) := by decide +kernel
theorem dX12_layPair_106 : decode cX12_layPair 106 = .ok (.iconst 1, 1) := by decide +kernel
theorem dX12_layPair_107 : decode cX12_layPair 107 = .ok (.goto 4, 3) := by decide +kernel
theorem dX12_layPair_110 : decode cX12_layPair 110 = .ok (.iconst 0, 1) := by decide +kernel
theorem dX12_layPair_111 : decode cX12_layPair 111 = .ok (.bastore, 1) := by decide +kernel
theorem dX12_layPair_112 : decode cX12_layPair 112 = .ok (.iinc 4 1, 3) := by decide +kernel
theorem dX12_layPair_115 : decode cX12_layPair 115 = .ok (.goto (-87), 3) := by decide +kernel
theorem dX12_layPair_118 : decode cX12_layPair 118 = .ok (.return_, 1) := by decide +kernel
set_option maxRecDepth 20000 in
theorem ggX12_layRace_X12_keepBoth : GoodIn wsX12_layRace wsX12_keepBoth := goodIn_r _ [7, 8, 9, 10, 11, 12, 13, 14, 15, 16, 6, 17, 18, 19, 20, 21, 22, 23, 24, 1, 25, 26, 27, 28, 29, 30, 31, 32, 33, 34, 35, 36, 37, 38, 39, 40, 81, 82, 83, 84, 85, 86, 87, 88, 89, 90, 91, 92, 93, 94, 95, 96, 97, 98, 99, 100, 101, 102, 103, 104, 105, 106, 107, 108, 109, 110, 111, 112, 113, 114, 115, 116, 117, 118, 119, 120] rfl (by decide +kernel)
set_option maxRecDepth 20000 in
theorem gX12_layRace_X12_keepBoth : GoodIn wsX12_layRace (wsV RX12 232 RX12 yX12_keepBoth wsX12_keepBoth) := goodIn_app (goodIn_of _ (by decide +kernel)) ggX12_layRace_X12_keepBoth
set_option maxRecDepth 20000 in
theorem ggX12_layRace_X12_leastRest : GoodIn wsX12_layRace wsX12_leastRest := goodIn_r _ [44, 1, 81, 82, 83, 84, 85, 86, 87, 88, 89, 90, 91, 92, 93, 94, 95, 96, 97, 98, 99, 100, 101, 102, 103, 104, 105, 106, 107, 108, 109, 110, 111, 112, 113, 114, 115, 116, 117, 118, 119, 120] rfl (by decide +kernel)
set_option maxRecDepth 20000 in
theorem gX12_layRace_X12_leastRest : GoodIn wsX12_layRace (wsV RX12 167 RX12 yX12_leastRest wsX12_leastRest) := goodIn_app (goodIn_of _ (by decide +kernel)) ggX12_layRace_X12_leastRest
set_option maxRecDepth 20000 in
theorem ggX12_layRace_X12_layPair : GoodIn wsX12_layRace wsX12_layPair := goodIn_r _ [48, 49, 50, 51, 52, 53, 54, 55, 6, 56, 57, 58, 59, 60, 61, 62, 8, 10, 12, 63, 64, 65, 66, 67, 1, 68, 69, 70, 71, 72, 73, 74, 75, 76, 77, 78, 79, 80, 81, 82, 83, 84, 85, 86, 87, 88, 89, 90, 91, 92, 93, 94, 95, 96, 97, 98, 99, 100, 101, 102, 103, 104, 105, 106, 107, 108, 109, 110, 111, 112, 113, 114, 115, 116, 117, 118, 119, 120] rfl (by decide +kernel)
set_option maxRecDepth 20000 in
theorem gX12_layRace_X12_layPair : GoodIn wsX12_layRace (wsV RX12 235 RX12 yX12_layPair wsX12_layPair) := goodIn_app (goodIn_of _ (by decide +kernel)) ggX12_layRace_X12_layPair
theorem dX12_layRace_0 : decode cX12_layRace 0 = .ok (.iconst 1, 1) := by decide +kernel
theorem dX12_layRace_1 : decode cX12_layRace 1 = .ok (.istore_n 1, 1) := by decide +kernel
theorem dX12_layRace_2 : decode cX12_layRace 2 = .ok (.iconst 0, 1) := by decide +kernel
theorem dX12_layRace_3 : decode cX12_layRace 3 = .ok (.istore_n 2, 1) := by decide +kernel
theorem dX12_layRace_4 : decode cX12_layRace 4 = .ok (.iload_n 2, 1) := by decide +kernel
theorem dX12_layRace_5 : decode cX12_layRace 5 = .ok (.iconst 5, 1) := by decide +kernel
theorem dX12_layRace_6 : decode cX12_layRace 6 = .ok (.if_icmp .ge 53, 3) := by decide +kernel
theorem dX12_layRace_9 : decode cX12_layRace 9 = .ok (.aload_n 0, 1) := by decide +kernel
theorem dX12_layRace_10 : decode cX12_layRace 10 = .ok (.getfield 13, 3) := by decide +kernel
theorem dX12_layRace_13 : decode cX12_layRace 13 = .ok (.iload_n 2, 1) := by decide +kernel
theorem dX12_layRace_14 : decode cX12_layRace 14 = .ok (.iconst 4, 1) := by decide +kernel
theorem dX12_layRace_15 : decode cX12_layRace 15 = .ok (.if_icmp .ge 7, 3) := by decide +kernel
theorem dX12_layRace_18 : decode cX12_layRace 18 = .ok (.iload_n 2, 1) := by decide +kernel
theorem dX12_layRace_19 : decode cX12_layRace 19 = .ok (.goto 5, 3) := by decide +kernel
theorem dX12_layRace_22 : decode cX12_layRace 22 = .ok (.bipush 12, 2) := by decide +kernel
theorem dX12_layRace_24 : decode cX12_layRace 24 = .ok (.iaload, 1) := by decide +kernel
theorem dX12_layRace_25 : decode cX12_layRace 25 = .ok (.istore_n 3, 1) := by decide +kernel
theorem dX12_layRace_26 : decode cX12_layRace 26 = .ok (.iload_n 1, 1) := by decide +kernel
theorem dX12_layRace_27 : decode cX12_layRace 27 = .ok (.ifCond .eq 17, 3) := by decide +kernel
theorem dX12_layRace_30 : decode cX12_layRace 30 = .ok (.aload_n 0, 1) := by decide +kernel
theorem dX12_layRace_31 : decode cX12_layRace 31 = .ok (.getfield 63, 3) := by decide +kernel
theorem dX12_layRace_34 : decode cX12_layRace 34 = .ok (.iload_n 2, 1) := by decide +kernel
theorem dX12_layRace_35 : decode cX12_layRace 35 = .ok (.iaload, 1) := by decide +kernel
theorem dX12_layRace_36 : decode cX12_layRace 36 = .ok (.iload_n 3, 1) := by decide +kernel
theorem dX12_layRace_37 : decode cX12_layRace 37 = .ok (.if_icmp .ne 7, 3) := by decide +kernel
theorem dX12_layRace_40 : decode cX12_layRace 40 = .ok (.iconst 1, 1) := by decide +kernel
theorem dX12_layRace_41 : decode cX12_layRace 41 = .ok (.goto 4, 3) := by decide +kernel
theorem dX12_layRace_44 : decode cX12_layRace 44 = .ok (.iconst 0, 1) := by decide +kernel
theorem dX12_layRace_45 : decode cX12_layRace 45 = .ok (.istore_n 1, 1) := by decide +kernel
theorem dX12_layRace_46 : decode cX12_layRace 46 = .ok (.aload_n 0, 1) := by decide +kernel
theorem dX12_layRace_47 : decode cX12_layRace 47 = .ok (.getfield 63, 3) := by decide +kernel
theorem dX12_layRace_50 : decode cX12_layRace 50 = .ok (.iload_n 2, 1) := by decide +kernel
theorem dX12_layRace_51 : decode cX12_layRace 51 = .ok (.iload_n 3, 1) := by decide +kernel
theorem dX12_layRace_52 : decode cX12_layRace 52 = .ok (.iastore, 1) := by decide +kernel
theorem dX12_layRace_53 : decode cX12_layRace 53 = .ok (.iinc 2 1, 3) := by decide +kernel
theorem dX12_layRace_56 : decode cX12_layRace 56 = .ok (.goto (-52), 3) := by decide +kernel
theorem dX12_layRace_59 : decode cX12_layRace 59 = .ok (.iload_n 1, 1) := by decide +kernel
theorem dX12_layRace_60 : decode cX12_layRace 60 = .ok (.ifCond .eq 4, 3) := by decide +kernel
theorem dX12_layRace_63 : decode cX12_layRace 63 = .ok (.return_, 1) := by decide +kernel
theorem dX12_layRace_64 : decode cX12_layRace 64 = .ok (.aload_n 0, 1) := by decide +kernel
theorem dX12_layRace_65 : decode cX12_layRace 65 = .ok (.invokevirtual 232, 3) := by decide +kernel
theorem dX12_layRace_68 : decode cX12_layRace 68 = .ok (.aload_n 0, 1) := by decide +kernel
theorem dX12_layRace_69 : decode cX12_layRace 69 = .ok (.invokevirtual 167, 3) := by decide +kernel
theorem dX12_layRace_72 : decode cX12_layRace 72 = .ok (.istore_n 2, 1) := by decide +kernel
theorem dX12_layRace_73 : decode cX12_layRace 73 = .ok (.iload_n 2, 1) := by decide +kernel
theorem dX12_layRace_74 : decode cX12_layRace 74 = .ok (.bipush 24, 2) := by decide +kernel
theorem dX12_layRace_76 : decode cX12_layRace 76 = .ok (.if_icmp .gt 32, 3) := by decide +kernel
theorem dX12_layRace_79 : decode cX12_layRace 79 = .ok (.aload_n 0, 1) := by decide +kernel
theorem dX12_layRace_80 : decode cX12_layRace 80 = .ok (.invokevirtual 167, 3) := by decide +kernel
theorem dX12_layRace_83 : decode cX12_layRace 83 = .ok (.istore_n 3, 1) := by decide +kernel
theorem dX12_layRace_84 : decode cX12_layRace 84 = .ok (.iload_n 3, 1) := by decide +kernel
theorem dX12_layRace_85 : decode cX12_layRace 85 = .ok (.bipush 24, 2) := by decide +kernel
theorem dX12_layRace_87 : decode cX12_layRace 87 = .ok (.if_icmp .gt 15, 3) := by decide +kernel
theorem dX12_layRace_90 : decode cX12_layRace 90 = .ok (.aload_n 0, 1) := by decide +kernel
theorem dX12_layRace_91 : decode cX12_layRace 91 = .ok (.iload_n 2, 1) := by decide +kernel
theorem dX12_layRace_92 : decode cX12_layRace 92 = .ok (.iload_n 3, 1) := by decide +kernel
theorem dX12_layRace_93 : decode cX12_layRace 93 = .ok (.invokevirtual 235, 3) := by decide +kernel
theorem dX12_layRace_96 : decode cX12_layRace 96 = .ok (.iinc 3 1, 3) := by decide +kernel
theorem dX12_layRace_99 : decode cX12_layRace 99 = .ok (.goto (-15), 3) := by decide +kernel
theorem dX12_layRace_102 : decode cX12_layRace 102 = .ok (.iinc 2 1, 3) := by decide +kernel
theorem dX12_layRace_105 : decode cX12_layRace 105 = .ok (.goto (-32), 3) := by decide +kernel
theorem dX12_layRace_108 : decode cX12_layRace 108 = .ok (.return_, 1) := by decide +kernel
set_option maxRecDepth 20000 in
theorem ggX12_isRace_X12_isRest : GoodIn wsX12_isRace wsX12_isRest := goodIn_r _ [5, 6, 7, 8, 4, 9, 10, 11, 12, 13, 17, 18, 19, 20, 21, 22, 23, 24, 25, 26, 27, 28, 29, 30, 31, 32, 33, 34, 35, 36, 37, 38, 39, 40, 41, 42, 43, 44, 45, 46, 47, 48, 49, 50, 51, 52, 53, 54, 55, 56] rfl (by decide +kernel)
set_option maxRecDepth 20000 in
theorem gX12_isRace_X12_isRest : GoodIn wsX12_isRace (wsV RX12 181 RX12 yX12_isRest wsX12_isRest) := goodIn_app (goodIn_of _ (by decide +kernel)) ggX12_isRace_X12_isRest
set_option maxRecDepth 20000 in
theorem ggX12_isRace_X12_isPlayer : GoodIn wsX12_isRace wsX12_isPlayer := goodIn_r _ [16, 11, 12, 4, 13] rfl (by decide +kernel)
set_option maxRecDepth 20000 in
theorem gX12_isRace_X12_isPlayer : GoodIn wsX12_isRace (va_wsS RX12 140 yX12_isPlayer wsX12_isPlayer) := goodIn_app (goodIn_of _ (by decide +kernel)) ggX12_isRace_X12_isPlayer
theorem dX12_isRace_0 : decode cX12_isRace 0 = .ok (.aload_n 0, 1) := by decide +kernel
theorem dX12_isRace_1 : decode cX12_isRace 1 = .ok (.iload_n 1, 1) := by decide +kernel
theorem dX12_isRace_2 : decode cX12_isRace 2 = .ok (.bipush 24, 2) := by decide +kernel
theorem dX12_isRace_4 : decode cX12_isRace 4 = .ok (.invokevirtual 181, 3) := by decide +kernel
theorem dX12_isRace_7 : decode cX12_isRace 7 = .ok (.ifCond .eq 24, 3) := by decide +kernel
theorem dX12_isRace_10 : decode cX12_isRace 10 = .ok (.aload_n 0, 1) := by decide +kernel
theorem dX12_isRace_11 : decode cX12_isRace 11 = .ok (.iload_n 2, 1) := by decide +kernel
theorem dX12_isRace_12 : decode cX12_isRace 12 = .ok (.bipush 24, 2) := by decide +kernel
theorem dX12_isRace_14 : decode cX12_isRace 14 = .ok (.invokevirtual 181, 3) := by decide +kernel
theorem dX12_isRace_17 : decode cX12_isRace 17 = .ok (.ifCond .eq 14, 3) := by decide +kernel
theorem dX12_isRace_20 : decode cX12_isRace 20 = .ok (.iload_n 3, 1) := by decide +kernel
theorem dX12_isRace_21 : decode cX12_isRace 21 = .ok (.invokestatic 140, 3) := by decide +kernel
theorem dX12_isRace_24 : decode cX12_isRace 24 = .ok (.ifCond .eq 7, 3) := by decide +kernel
theorem dX12_isRace_27 : decode cX12_isRace 27 = .ok (.iconst 1, 1) := by decide +kernel
theorem dX12_isRace_28 : decode cX12_isRace 28 = .ok (.goto 4, 3) := by decide +kernel
theorem dX12_isRace_31 : decode cX12_isRace 31 = .ok (.iconst 0, 1) := by decide +kernel
theorem dX12_isRace_32 : decode cX12_isRace 32 = .ok (.ireturn, 1) := by decide +kernel
set_option maxRecDepth 20000 in
theorem ggX12_race_X12_isRace : GoodIn wsX12_race wsX12_isRace := goodIn_r _ [8, 9, 10, 11, 7, 12, 13, 14, 15, 16, 17, 18, 19, 20, 21, 22, 23, 109, 110, 111, 112, 113, 114, 115, 116, 117, 118, 119, 120, 121, 122, 123, 124, 125, 126, 127, 128, 129, 130, 131, 132, 133, 134, 135, 136, 137, 138, 139, 140, 141, 142, 143, 144, 145, 146, 147, 148] rfl (by decide +kernel)
set_option maxRecDepth 20000 in
theorem gX12_race_X12_isRace : GoodIn wsX12_race (wsV RX12 238 RX12 yX12_isRace wsX12_isRace) := goodIn_app (goodIn_of _ (by decide +kernel)) ggX12_race_X12_isRace
set_option maxRecDepth 20000 in
theorem ggX12_race_X12_layRace : GoodIn wsX12_race wsX12_layRace := goodIn_r _ [27, 17, 28, 29, 30, 31, 7, 32, 33, 34, 35, 36, 37, 38, 39, 40, 41, 42, 43, 44, 45, 46, 47, 48, 49, 50, 51, 52, 53, 18, 19, 20, 54, 55, 56, 57, 58, 59, 60, 61, 62, 13, 14, 15, 16, 63, 64, 65, 66, 2, 67, 3, 68, 69, 70, 71, 72, 73, 74, 75, 76, 77, 78, 79, 80, 81, 82, 83, 84, 85, 86, 87, 88, 89, 90, 91, 92, 93, 94, 95, 96, 109, 110, 111, 112, 113, 114, 115, 116, 117, 118, 119, 120, 121, 122, 123, 124, 125, 126, 127, 128, 129, 130, 131, 132, 133, 134, 135, 136, 137, 138, 139, 140, 141, 142, 143, 144, 145, 146, 147, 148] rfl (by decide +kernel)
set_option maxRecDepth 20000 in
theorem gX12_race_X12_layRace : GoodIn wsX12_race (wsV RX12 242 RX12 yX12_layRace wsX12_layRace) := goodIn_app (goodIn_of _ (by decide +kernel)) ggX12_race_X12_layRace
set_option maxRecDepth 20000 in
theorem ggX12_race_Jxe99ae_doubleToLongBits_ccdee : GoodIn wsX12_race wsJxe99ae_doubleToLongBits_ccdee := goodIn_r _ [100, 101, 102, 103, 104, 105, 106, 107, 99, 108] rfl (by decide +kernel)
set_option maxRecDepth 20000 in
theorem gX12_race_Jxe99ae_doubleToLongBits_ccdee : GoodIn wsX12_race (va_wsS RX12 190 yJxe99ae_doubleToLongBits_ccdee wsJxe99ae_doubleToLongBits_ccdee) := goodIn_app (goodIn_of _ (by decide +kernel)) ggX12_race_Jxe99ae_doubleToLongBits_ccdee
theorem dX12_race_0 : decode cX12_race 0 = .ok (.aload_n 0, 1) := by decide +kernel
theorem dX12_race_1 : decode cX12_race 1 = .ok (.iload_n 1, 1) := by decide +kernel
theorem dX12_race_2 : decode cX12_race 2 = .ok (.iload_n 2, 1) := by decide +kernel
theorem dX12_race_3 : decode cX12_race 3 = .ok (.iload_n 3, 1) := by decide +kernel
theorem dX12_race_4 : decode cX12_race 4 = .ok (.invokevirtual 238, 3) := by decide +kernel
theorem dX12_race_7 : decode cX12_race 7 = .ok (.ifCond .ne 7, 3) := by decide +kernel
theorem dX12_race_10 : decode cX12_race 10 = .ok (.ldc2_w 196, 3) := by decide +kernel
theorem dX12_race_13 : decode cX12_race 13 = .ok (.lreturn, 1) := by decide +kernel
theorem dX12_race_14 : decode cX12_race 14 = .ok (.aload_n 0, 1) := by decide +kernel
theorem dX12_race_15 : decode cX12_race 15 = .ok (.invokevirtual 242, 3) := by decide +kernel
theorem dX12_race_18 : decode cX12_race 18 = .ok (.iload_n 3, 1) := by decide +kernel
theorem dX12_race_19 : decode cX12_race 19 = .ok (.ifCond .ne 17, 3) := by decide +kernel
theorem dX12_race_22 : decode cX12_race 22 = .ok (.aload_n 0, 1) := by decide +kernel
theorem dX12_race_23 : decode cX12_race 23 = .ok (.getfield 53, 3) := by decide +kernel
theorem dX12_race_26 : decode cX12_race 26 = .ok (.bipush 25, 2) := by decide +kernel
theorem dX12_race_28 : decode cX12_race 28 = .ok (.iload_n 1, 1) := by decide +kernel
theorem dX12_race_29 : decode cX12_race 29 = .ok (.imul, 1) := by decide +kernel
theorem dX12_race_30 : decode cX12_race 30 = .ok (.iload_n 2, 1) := by decide +kernel
theorem dX12_race_31 : decode cX12_race 31 = .ok (.iadd, 1) := by decide +kernel
theorem dX12_race_32 : decode cX12_race 32 = .ok (.daload, 1) := by decide +kernel
theorem dX12_race_33 : decode cX12_race 33 = .ok (.goto 14, 3) := by decide +kernel
theorem dX12_race_36 : decode cX12_race 36 = .ok (.aload_n 0, 1) := by decide +kernel
theorem dX12_race_37 : decode cX12_race 37 = .ok (.getfield 56, 3) := by decide +kernel
theorem dX12_race_40 : decode cX12_race 40 = .ok (.bipush 25, 2) := by decide +kernel
theorem dX12_race_42 : decode cX12_race 42 = .ok (.iload_n 1, 1) := by decide +kernel
theorem dX12_race_43 : decode cX12_race 43 = .ok (.imul, 1) := by decide +kernel
theorem dX12_race_44 : decode cX12_race 44 = .ok (.iload_n 2, 1) := by decide +kernel
theorem dX12_race_45 : decode cX12_race 45 = .ok (.iadd, 1) := by decide +kernel
theorem dX12_race_46 : decode cX12_race 46 = .ok (.daload, 1) := by decide +kernel
theorem dX12_race_47 : decode cX12_race 47 = .ok (.invokestatic 190, 3) := by decide +kernel
theorem dX12_race_50 : decode cX12_race 50 = .ok (.lreturn, 1) := by decide +kernel
set_option maxRecDepth 20000 in
theorem ggX12_raceAim_X12_isRace : GoodIn wsX12_raceAim wsX12_isRace := goodIn_r _ [6, 7, 8, 9, 5, 10, 11, 12, 13, 14, 15, 16, 17, 18, 19, 20, 21, 96, 97, 98, 99, 100, 101, 102, 103, 104, 105, 106, 107, 108, 109, 110, 111, 112, 113, 114, 115, 116, 117, 118, 119, 120, 121, 122, 123, 124, 125, 126, 127, 128, 129, 130, 131, 132, 133, 134, 135] rfl (by decide +kernel)
set_option maxRecDepth 20000 in
theorem gX12_raceAim_X12_isRace : GoodIn wsX12_raceAim (wsV RX12 238 RX12 yX12_isRace wsX12_isRace) := goodIn_app (goodIn_of _ (by decide +kernel)) ggX12_raceAim_X12_isRace
set_option maxRecDepth 20000 in
theorem ggX12_raceAim_X12_layRace : GoodIn wsX12_raceAim wsX12_layRace := goodIn_r _ [25, 15, 26, 27, 28, 29, 5, 30, 31, 32, 33, 34, 35, 36, 37, 38, 39, 40, 41, 42, 43, 44, 45, 46, 47, 48, 49, 50, 51, 16, 17, 18, 52, 53, 54, 55, 56, 57, 58, 59, 60, 11, 12, 13, 14, 61, 62, 63, 64, 65, 66, 67, 68, 69, 70, 71, 72, 73, 1, 74, 75, 76, 77, 78, 79, 80, 81, 82, 83, 84, 85, 86, 87, 88, 89, 90, 91, 92, 93, 94, 95, 96, 97, 98, 99, 100, 101, 102, 103, 104, 105, 106, 107, 108, 109, 110, 111, 112, 113, 114, 115, 116, 117, 118, 119, 120, 121, 122, 123, 124, 125, 126, 127, 128, 129, 130, 131, 132, 133, 134, 135] rfl (by decide +kernel)
set_option maxRecDepth 20000 in
theorem gX12_raceAim_X12_layRace : GoodIn wsX12_raceAim (wsV RX12 242 RX12 yX12_layRace wsX12_layRace) := goodIn_app (goodIn_of _ (by decide +kernel)) ggX12_raceAim_X12_layRace
set_option maxRecDepth 20000 in
theorem ggX12_raceAim_X12_keepBoth : GoodIn wsX12_raceAim wsX12_keepBoth := goodIn_r _ [30, 31, 32, 33, 34, 35, 36, 37, 38, 39, 5, 40, 41, 42, 43, 44, 45, 46, 47, 15, 48, 49, 50, 51, 16, 17, 18, 52, 53, 54, 55, 56, 57, 58, 59, 60, 96, 97, 98, 99, 100, 101, 102, 103, 104, 105, 106, 107, 108, 109, 110, 111, 112, 113, 114, 115, 116, 117, 118, 119, 120, 121, 122, 123, 124, 125, 126, 127, 128, 129, 130, 131, 132, 133, 134, 135] rfl (by decide +kernel)
set_option maxRecDepth 20000 in
theorem gX12_raceAim_X12_keepBoth : GoodIn wsX12_raceAim (wsV RX12 232 RX12 yX12_keepBoth wsX12_keepBoth) := goodIn_app (goodIn_of _ (by decide +kernel)) ggX12_raceAim_X12_keepBoth
set_option maxRecDepth 20000 in
theorem ggX12_raceAim_X12_bestRace : GoodIn wsX12_raceAim wsX12_bestRace := goodIn_r _ [72, 73, 1, 74, 75, 76, 5, 77, 31, 33, 35, 78, 79, 80, 81, 82, 15, 83, 84, 85, 86, 87, 88, 89, 90, 91, 92, 93, 94, 95, 67, 65, 96, 97, 98, 99, 100, 101, 102, 103, 104, 105, 106, 107, 108, 109, 110, 111, 112, 113, 114, 115, 116, 117, 118, 119, 120, 121, 122, 123, 124, 125, 126, 127, 128, 129, 130, 131, 132, 133, 134, 135] rfl (by decide +kernel)
set_option maxRecDepth 20000 in
theorem gX12_raceAim_X12_bestRace : GoodIn wsX12_raceAim (wsV RX12 229 RX12 yX12_bestRace wsX12_bestRace) := goodIn_app (goodIn_of _ (by decide +kernel)) ggX12_raceAim_X12_bestRace
theorem dX12_raceAim_0 : decode cX12_raceAim 0 = .ok (.aload_n 0, 1) := by decide +kernel
theorem dX12_raceAim_1 : decode cX12_raceAim 1 = .ok (.iload_n 1, 1) := by decide +kernel
theorem dX12_raceAim_2 : decode cX12_raceAim 2 = .ok (.iload_n 2, 1) := by decide +kernel
theorem dX12_raceAim_3 : decode cX12_raceAim 3 = .ok (.iload_n 3, 1) := by decide +kernel
theorem dX12_raceAim_4 : decode cX12_raceAim 4 = .ok (.invokevirtual 238, 3) := by decide +kernel
theorem dX12_raceAim_7 : decode cX12_raceAim 7 = .ok (.ifCond .ne 5, 3) := by decide +kernel
theorem dX12_raceAim_10 : decode cX12_raceAim 10 = .ok (.iconst (-1), 1) := by decide +kernel
theorem dX12_raceAim_11 : decode cX12_raceAim 11 = .ok (.ireturn, 1) := by decide +kernel
theorem dX12_raceAim_12 : decode cX12_raceAim 12 = .ok (.aload_n 0, 1) := by decide +kernel
theorem dX12_raceAim_13 : decode cX12_raceAim 13 = .ok (.invokevirtual 242, 3) := by decide +kernel
theorem dX12_raceAim_16 : decode cX12_raceAim 16 = .ok (.aload_n 0, 1) := by decide +kernel
theorem dX12_raceAim_17 : decode cX12_raceAim 17 = .ok (.invokevirtual 232, 3) := by decide +kernel
theorem dX12_raceAim_20 : decode cX12_raceAim 20 = .ok (.aload_n 0, 1) := by decide +kernel
theorem dX12_raceAim_21 : decode cX12_raceAim 21 = .ok (.iload_n 3, 1) := by decide +kernel
theorem dX12_raceAim_22 : decode cX12_raceAim 22 = .ok (.iload_n 1, 1) := by decide +kernel
theorem dX12_raceAim_23 : decode cX12_raceAim 23 = .ok (.iload_n 2, 1) := by decide +kernel
theorem dX12_raceAim_24 : decode cX12_raceAim 24 = .ok (.invokevirtual 229, 3) := by decide +kernel
theorem dX12_raceAim_27 : decode cX12_raceAim 27 = .ok (.pop2, 1) := by decide +kernel
theorem dX12_raceAim_28 : decode cX12_raceAim 28 = .ok (.aload_n 0, 1) := by decide +kernel
theorem dX12_raceAim_29 : decode cX12_raceAim 29 = .ok (.getfield 224, 3) := by decide +kernel
theorem dX12_raceAim_32 : decode cX12_raceAim 32 = .ok (.ireturn, 1) := by decide +kernel
set_option maxRecDepth 20000 in
theorem ggX12_settled_X12_isRace : GoodIn wsX12_settled wsX12_isRace := goodIn_r _ [6, 7, 8, 9, 5, 10, 11, 12, 13, 14, 15, 16, 17, 18, 19, 20, 21, 96, 97, 98, 99, 100, 101, 102, 103, 104, 105, 106, 107, 108, 109, 110, 111, 112, 113, 114, 115, 116, 117, 118, 119, 120, 121, 122, 123, 124, 125, 126, 127, 128, 129, 130, 131, 132, 133, 134, 135] rfl (by decide +kernel)
set_option maxRecDepth 20000 in
theorem gX12_settled_X12_isRace : GoodIn wsX12_settled (wsV RX12 238 RX12 yX12_isRace wsX12_isRace) := goodIn_app (goodIn_of _ (by decide +kernel)) ggX12_settled_X12_isRace
set_option maxRecDepth 20000 in
theorem ggX12_settled_X12_layRace : GoodIn wsX12_settled wsX12_layRace := goodIn_r _ [25, 15, 26, 27, 28, 29, 5, 30, 31, 32, 33, 34, 35, 36, 37, 38, 39, 40, 41, 42, 43, 44, 45, 46, 47, 48, 49, 50, 51, 16, 17, 18, 52, 53, 54, 55, 56, 57, 58, 59, 60, 11, 12, 13, 14, 61, 62, 63, 64, 65, 66, 67, 1, 68, 69, 70, 71, 72, 73, 74, 75, 76, 77, 78, 79, 80, 81, 82, 83, 84, 85, 86, 87, 88, 89, 90, 91, 92, 93, 94, 95, 96, 97, 98, 99, 100, 101, 102, 103, 104, 105, 106, 107, 108, 109, 110, 111, 112, 113, 114, 115, 116, 117, 118, 119, 120, 121, 122, 123, 124, 125, 126, 127, 128, 129, 130, 131, 132, 133, 134, 135] rfl (by decide +kernel)
set_option maxRecDepth 20000 in
theorem gX12_settled_X12_layRace : GoodIn wsX12_settled (wsV RX12 242 RX12 yX12_layRace wsX12_layRace) := goodIn_app (goodIn_of _ (by decide +kernel)) ggX12_settled_X12_layRace
theorem dX12_settled_0 : decode cX12_settled 0 = .ok (.aload_n 0, 1) := by decide +kernel
theorem dX12_settled_1 : decode cX12_settled 1 = .ok (.iload_n 1, 1) := by decide +kernel
theorem dX12_settled_2 : decode cX12_settled 2 = .ok (.iload_n 2, 1) := by decide +kernel
theorem dX12_settled_3 : decode cX12_settled 3 = .ok (.iconst 0, 1) := by decide +kernel
theorem dX12_settled_4 : decode cX12_settled 4 = .ok (.invokevirtual 238, 3) := by decide +kernel
theorem dX12_settled_7 : decode cX12_settled 7 = .ok (.ifCond .ne 5, 3) := by decide +kernel
theorem dX12_settled_10 : decode cX12_settled 10 = .ok (.iconst (-1), 1) := by decide +kernel
theorem dX12_settled_11 : decode cX12_settled 11 = .ok (.ireturn, 1) := by decide +kernel
theorem dX12_settled_12 : decode cX12_settled 12 = .ok (.aload_n 0, 1) := by decide +kernel
theorem dX12_settled_13 : decode cX12_settled 13 = .ok (.invokevirtual 242, 3) := by decide +kernel
theorem dX12_settled_16 : decode cX12_settled 16 = .ok (.aload_n 0, 1) := by decide +kernel
theorem dX12_settled_17 : decode cX12_settled 17 = .ok (.getfield 59, 3) := by decide +kernel
theorem dX12_settled_20 : decode cX12_settled 20 = .ok (.bipush 25, 2) := by decide +kernel
theorem dX12_settled_22 : decode cX12_settled 22 = .ok (.iload_n 1, 1) := by decide +kernel
theorem dX12_settled_23 : decode cX12_settled 23 = .ok (.imul, 1) := by decide +kernel
theorem dX12_settled_24 : decode cX12_settled 24 = .ok (.iload_n 2, 1) := by decide +kernel
theorem dX12_settled_25 : decode cX12_settled 25 = .ok (.iadd, 1) := by decide +kernel
theorem dX12_settled_26 : decode cX12_settled 26 = .ok (.baload, 1) := by decide +kernel
theorem dX12_settled_27 : decode cX12_settled 27 = .ok (.ifCond .eq 7, 3) := by decide +kernel
theorem dX12_settled_30 : decode cX12_settled 30 = .ok (.iconst 1, 1) := by decide +kernel
theorem dX12_settled_31 : decode cX12_settled 31 = .ok (.goto 4, 3) := by decide +kernel
theorem dX12_settled_34 : decode cX12_settled 34 = .ok (.iconst 0, 1) := by decide +kernel
theorem dX12_settled_35 : decode cX12_settled 35 = .ok (.ireturn, 1) := by decide +kernel
set_option maxRecDepth 20000 in
theorem ggX12_percent_X12_isRace : GoodIn wsX12_percent wsX12_isRace := goodIn_r _ [7, 8, 9, 10, 6, 11, 12, 13, 14, 15, 16, 17, 18, 19, 20, 21, 22, 97, 98, 99, 100, 101, 102, 103, 104, 105, 106, 107, 108, 109, 110, 111, 112, 113, 114, 115, 116, 117, 118, 119, 120, 121, 122, 123, 124, 125, 126, 127, 128, 129, 130, 131, 132, 133, 134, 135, 136] rfl (by decide +kernel)
set_option maxRecDepth 20000 in
theorem gX12_percent_X12_isRace : GoodIn wsX12_percent (wsV RX12 238 RX12 yX12_isRace wsX12_isRace) := goodIn_app (goodIn_of _ (by decide +kernel)) ggX12_percent_X12_isRace
set_option maxRecDepth 20000 in
theorem ggX12_percent_X12_layRace : GoodIn wsX12_percent wsX12_layRace := goodIn_r _ [26, 16, 27, 28, 29, 30, 6, 31, 32, 33, 34, 35, 36, 37, 38, 39, 40, 41, 42, 43, 44, 45, 46, 47, 48, 49, 50, 51, 52, 17, 18, 19, 53, 54, 55, 56, 57, 58, 59, 60, 61, 12, 13, 14, 15, 62, 63, 64, 65, 1, 66, 67, 68, 69, 70, 71, 72, 73, 74, 75, 76, 77, 78, 79, 80, 81, 82, 83, 84, 85, 86, 87, 88, 89, 90, 91, 92, 93, 94, 95, 96, 97, 98, 99, 100, 101, 102, 103, 104, 105, 106, 107, 108, 109, 110, 111, 112, 113, 114, 115, 116, 117, 118, 119, 120, 121, 122, 123, 124, 125, 126, 127, 128, 129, 130, 131, 132, 133, 134, 135, 136] rfl (by decide +kernel)
set_option maxRecDepth 20000 in
theorem gX12_percent_X12_layRace : GoodIn wsX12_percent (wsV RX12 242 RX12 yX12_layRace wsX12_layRace) := goodIn_app (goodIn_of _ (by decide +kernel)) ggX12_percent_X12_layRace
theorem dX12_percent_0 : decode cX12_percent 0 = .ok (.aload_n 0, 1) := by decide +kernel
theorem dX12_percent_1 : decode cX12_percent 1 = .ok (.iload_n 1, 1) := by decide +kernel
theorem dX12_percent_2 : decode cX12_percent 2 = .ok (.iload_n 2, 1) := by decide +kernel
theorem dX12_percent_3 : decode cX12_percent 3 = .ok (.iconst 0, 1) := by decide +kernel
theorem dX12_percent_4 : decode cX12_percent 4 = .ok (.invokevirtual 238, 3) := by decide +kernel
theorem dX12_percent_7 : decode cX12_percent 7 = .ok (.ifCond .ne 5, 3) := by decide +kernel
theorem dX12_percent_10 : decode cX12_percent 10 = .ok (.iconst (-1), 1) := by decide +kernel
theorem dX12_percent_11 : decode cX12_percent 11 = .ok (.ireturn, 1) := by decide +kernel
theorem dX12_percent_12 : decode cX12_percent 12 = .ok (.aload_n 0, 1) := by decide +kernel
theorem dX12_percent_13 : decode cX12_percent 13 = .ok (.invokevirtual 242, 3) := by decide +kernel
theorem dX12_percent_16 : decode cX12_percent 16 = .ok (.aload_n 0, 1) := by decide +kernel
theorem dX12_percent_17 : decode cX12_percent 17 = .ok (.getfield 53, 3) := by decide +kernel
theorem dX12_percent_20 : decode cX12_percent 20 = .ok (.bipush 25, 2) := by decide +kernel
theorem dX12_percent_22 : decode cX12_percent 22 = .ok (.iload_n 1, 1) := by decide +kernel
theorem dX12_percent_23 : decode cX12_percent 23 = .ok (.imul, 1) := by decide +kernel
theorem dX12_percent_24 : decode cX12_percent 24 = .ok (.iload_n 2, 1) := by decide +kernel
theorem dX12_percent_25 : decode cX12_percent 25 = .ok (.iadd, 1) := by decide +kernel
theorem dX12_percent_26 : decode cX12_percent 26 = .ok (.daload, 1) := by decide +kernel
theorem dX12_percent_27 : decode cX12_percent 27 = .ok (.ldc2_w 245, 3) := by decide +kernel
theorem dX12_percent_30 : decode cX12_percent 30 = .ok (.dmul, 1) := by decide +kernel
theorem dX12_percent_31 : decode cX12_percent 31 = .ok (.d2f, 1) := by decide +kernel
theorem dX12_percent_32 : decode cX12_percent 32 = .ok (.f2i, 1) := by decide +kernel
theorem dX12_percent_33 : decode cX12_percent 33 = .ok (.ireturn, 1) := by decide +kernel
set_option maxRecDepth 20000 in
theorem ggX12_endsOf_X12_nextRest : GoodIn wsX12_endsOf wsX12_nextRest := goodIn_r _ [5, 6, 7, 8, 4, 9, 10, 11, 12, 13, 14, 15, 16, 17, 18, 19, 20, 21, 22, 23, 24, 25, 26, 27, 28, 29, 30, 31, 32, 33, 34, 35, 36, 37, 38, 39, 40, 41, 42, 43, 44, 45, 46, 47, 48, 49, 50, 51, 52, 53, 54, 55] rfl (by decide +kernel)
set_option maxRecDepth 20000 in
theorem gX12_endsOf_X12_nextRest : GoodIn wsX12_endsOf (wsV RX12 153 RX12 yX12_nextRest wsX12_nextRest) := goodIn_app (goodIn_of _ (by decide +kernel)) ggX12_endsOf_X12_nextRest
theorem dX12_endsOf_0 : decode cX12_endsOf 0 = .ok (.iconst 0, 1) := by decide +kernel
theorem dX12_endsOf_1 : decode cX12_endsOf 1 = .ok (.istore_n 2, 1) := by decide +kernel
theorem dX12_endsOf_2 : decode cX12_endsOf 2 = .ok (.iconst 1, 1) := by decide +kernel
theorem dX12_endsOf_3 : decode cX12_endsOf 3 = .ok (.istore_n 3, 1) := by decide +kernel
theorem dX12_endsOf_4 : decode cX12_endsOf 4 = .ok (.iload_n 3, 1) := by decide +kernel
theorem dX12_endsOf_5 : decode cX12_endsOf 5 = .ok (.bipush 62, 2) := by decide +kernel
theorem dX12_endsOf_7 : decode cX12_endsOf 7 = .ok (.if_icmp .gt 26, 3) := by decide +kernel
theorem dX12_endsOf_10 : decode cX12_endsOf 10 = .ok (.iload_n 2, 1) := by decide +kernel
theorem dX12_endsOf_11 : decode cX12_endsOf 11 = .ok (.aload_n 0, 1) := by decide +kernel
theorem dX12_endsOf_12 : decode cX12_endsOf 12 = .ok (.iload_n 1, 1) := by decide +kernel
theorem dX12_endsOf_13 : decode cX12_endsOf 13 = .ok (.iload_n 3, 1) := by decide +kernel
theorem dX12_endsOf_14 : decode cX12_endsOf 14 = .ok (.invokevirtual 153, 3) := by decide +kernel
theorem dX12_endsOf_17 : decode cX12_endsOf 17 = .ok (.ifCond .ne 7, 3) := by decide +kernel
theorem dX12_endsOf_20 : decode cX12_endsOf 20 = .ok (.iconst 1, 1) := by decide +kernel
theorem dX12_endsOf_21 : decode cX12_endsOf 21 = .ok (.goto 4, 3) := by decide +kernel
theorem dX12_endsOf_24 : decode cX12_endsOf 24 = .ok (.iconst 0, 1) := by decide +kernel
theorem dX12_endsOf_25 : decode cX12_endsOf 25 = .ok (.iadd, 1) := by decide +kernel
theorem dX12_endsOf_26 : decode cX12_endsOf 26 = .ok (.istore_n 2, 1) := by decide +kernel
theorem dX12_endsOf_27 : decode cX12_endsOf 27 = .ok (.iinc 3 1, 3) := by decide +kernel
theorem dX12_endsOf_30 : decode cX12_endsOf 30 = .ok (.goto (-26), 3) := by decide +kernel
theorem dX12_endsOf_33 : decode cX12_endsOf 33 = .ok (.iload_n 2, 1) := by decide +kernel
theorem dX12_endsOf_34 : decode cX12_endsOf 34 = .ok (.ireturn, 1) := by decide +kernel
set_option maxRecDepth 20000 in
theorem ggX12_layEnds_X12_endsOf : GoodIn wsX12_layEnds wsX12_endsOf := goodIn_r _ [6, 7, 8, 9, 5, 10, 11, 12, 13, 14, 15, 16, 17, 18, 19, 20, 21, 22, 23, 24, 25, 26, 27, 28, 29, 30, 31, 32, 33, 34, 35, 36, 37, 38, 39, 40, 41, 42, 43, 44, 45, 46, 47, 48, 49, 50, 51, 52, 53, 54, 55, 56, 57, 58, 59, 60] rfl (by decide +kernel)
set_option maxRecDepth 20000 in
theorem gX12_layEnds_X12_endsOf : GoodIn wsX12_layEnds (wsV RX12 247 RX12 yX12_endsOf wsX12_endsOf) := goodIn_app (goodIn_of _ (by decide +kernel)) ggX12_layEnds_X12_endsOf
theorem dX12_layEnds_0 : decode cX12_layEnds 0 = .ok (.iconst 1, 1) := by decide +kernel
theorem dX12_layEnds_1 : decode cX12_layEnds 1 = .ok (.istore_n 1, 1) := by decide +kernel
theorem dX12_layEnds_2 : decode cX12_layEnds 2 = .ok (.iload_n 1, 1) := by decide +kernel
theorem dX12_layEnds_3 : decode cX12_layEnds 3 = .ok (.sipush 180, 3) := by decide +kernel
theorem dX12_layEnds_6 : decode cX12_layEnds 6 = .ok (.if_icmp .gt 30, 3) := by decide +kernel
theorem dX12_layEnds_9 : decode cX12_layEnds 9 = .ok (.aload_n 0, 1) := by decide +kernel
theorem dX12_layEnds_10 : decode cX12_layEnds 10 = .ok (.getfield 78, 3) := by decide +kernel
theorem dX12_layEnds_13 : decode cX12_layEnds 13 = .ok (.iload_n 1, 1) := by decide +kernel
theorem dX12_layEnds_14 : decode cX12_layEnds 14 = .ok (.iload_n 1, 1) := by decide +kernel
theorem dX12_layEnds_15 : decode cX12_layEnds 15 = .ok (.bipush 60, 2) := by decide +kernel
theorem dX12_layEnds_17 : decode cX12_layEnds 17 = .ok (.if_icmp .gt 11, 3) := by decide +kernel
theorem dX12_layEnds_20 : decode cX12_layEnds 20 = .ok (.aload_n 0, 1) := by decide +kernel
theorem dX12_layEnds_21 : decode cX12_layEnds 21 = .ok (.iload_n 1, 1) := by decide +kernel
theorem dX12_layEnds_22 : decode cX12_layEnds 22 = .ok (.invokevirtual 247, 3) := by decide +kernel
theorem dX12_layEnds_25 : decode cX12_layEnds 25 = .ok (.goto 4, 3) := by decide +kernel
theorem dX12_layEnds_28 : decode cX12_layEnds 28 = .ok (.iconst 0, 1) := by decide +kernel
theorem dX12_layEnds_29 : decode cX12_layEnds 29 = .ok (.iastore, 1) := by decide +kernel
theorem dX12_layEnds_30 : decode cX12_layEnds 30 = .ok (.iinc 1 1, 3) := by decide +kernel
theorem dX12_layEnds_33 : decode cX12_layEnds 33 = .ok (.goto (-31), 3) := by decide +kernel
theorem dX12_layEnds_36 : decode cX12_layEnds 36 = .ok (.return_, 1) := by decide +kernel
theorem dX12_endsAt_0 : decode cX12_endsAt 0 = .ok (.iload_n 1, 1) := by decide +kernel
theorem dX12_endsAt_1 : decode cX12_endsAt 1 = .ok (.iconst 1, 1) := by decide +kernel
theorem dX12_endsAt_2 : decode cX12_endsAt 2 = .ok (.if_icmp .ge 7, 3) := by decide +kernel
theorem dX12_endsAt_5 : decode cX12_endsAt 5 = .ok (.iconst 0, 1) := by decide +kernel
theorem dX12_endsAt_6 : decode cX12_endsAt 6 = .ok (.goto 9, 3) := by decide +kernel
theorem dX12_endsAt_9 : decode cX12_endsAt 9 = .ok (.aload_n 0, 1) := by decide +kernel
theorem dX12_endsAt_10 : decode cX12_endsAt 10 = .ok (.getfield 78, 3) := by decide +kernel
theorem dX12_endsAt_13 : decode cX12_endsAt 13 = .ok (.iload_n 1, 1) := by decide +kernel
theorem dX12_endsAt_14 : decode cX12_endsAt 14 = .ok (.iaload, 1) := by decide +kernel
theorem dX12_endsAt_15 : decode cX12_endsAt 15 = .ok (.ireturn, 1) := by decide +kernel
set_option maxRecDepth 20000 in
theorem ggX12_waysByTwo_X12_nextRest : GoodIn wsX12_waysByTwo wsX12_nextRest := goodIn_r _ [5, 6, 7, 8, 4, 9, 10, 11, 12, 13, 14, 15, 21, 22, 23, 24, 25, 26, 27, 28, 29, 30, 31, 32, 33, 34, 35, 36, 37, 38, 39, 40, 41, 42, 43, 44, 45, 46, 47, 48, 49, 50, 51, 52, 53, 54, 55, 56, 57, 58, 59, 60] rfl (by decide +kernel)
set_option maxRecDepth 20000 in
theorem gX12_waysByTwo_X12_nextRest : GoodIn wsX12_waysByTwo (wsV RX12 153 RX12 yX12_nextRest wsX12_nextRest) := goodIn_app (goodIn_of _ (by decide +kernel)) ggX12_waysByTwo_X12_nextRest
set_option maxRecDepth 20000 in
theorem ggX12_waysByTwo_X12_endsAt : GoodIn wsX12_waysByTwo wsX12_endsAt := goodIn_r _ [19, 20, 21, 22, 23, 24, 25, 26, 27, 28, 29, 30, 31, 32, 33, 34, 35, 36, 37, 38, 39, 40, 41, 42, 43, 44, 45, 46, 47, 48, 49, 50, 51, 52, 53, 54, 55, 56, 57, 58, 59, 60] rfl (by decide +kernel)
set_option maxRecDepth 20000 in
theorem gX12_waysByTwo_X12_endsAt : GoodIn wsX12_waysByTwo (wsV RX12 250 RX12 yX12_endsAt wsX12_endsAt) := goodIn_app (goodIn_of _ (by decide +kernel)) ggX12_waysByTwo_X12_endsAt
theorem dX12_waysByTwo_0 : decode cX12_waysByTwo 0 = .ok (.iconst 0, 1) := by decide +kernel
theorem dX12_waysByTwo_1 : decode cX12_waysByTwo 1 = .ok (.istore_n 2, 1) := by decide +kernel
theorem dX12_waysByTwo_2 : decode cX12_waysByTwo 2 = .ok (.iconst 1, 1) := by decide +kernel
theorem dX12_waysByTwo_3 : decode cX12_waysByTwo 3 = .ok (.istore_n 3, 1) := by decide +kernel
theorem dX12_waysByTwo_4 : decode cX12_waysByTwo 4 = .ok (.iload_n 3, 1) := by decide +kernel
theorem dX12_waysByTwo_5 : decode cX12_waysByTwo 5 = .ok (.bipush 62, 2) := by decide +kernel
theorem dX12_waysByTwo_7 : decode cX12_waysByTwo 7 = .ok (.if_icmp .gt 27, 3) := by decide +kernel
theorem dX12_waysByTwo_10 : decode cX12_waysByTwo 10 = .ok (.iload_n 1, 1) := by decide +kernel
theorem dX12_waysByTwo_11 : decode cX12_waysByTwo 11 = .ok (.iconst 1, 1) := by decide +kernel
theorem dX12_waysByTwo_12 : decode cX12_waysByTwo 12 = .ok (.if_icmp .lt 22, 3) := by decide +kernel
theorem dX12_waysByTwo_15 : decode cX12_waysByTwo 15 = .ok (.iload_n 2, 1) := by decide +kernel
theorem dX12_waysByTwo_16 : decode cX12_waysByTwo 16 = .ok (.aload_n 0, 1) := by decide +kernel
theorem dX12_waysByTwo_17 : decode cX12_waysByTwo 17 = .ok (.aload_n 0, 1) := by decide +kernel
theorem dX12_waysByTwo_18 : decode cX12_waysByTwo 18 = .ok (.iload_n 1, 1) := by decide +kernel
theorem dX12_waysByTwo_19 : decode cX12_waysByTwo 19 = .ok (.iload_n 3, 1) := by decide +kernel
theorem dX12_waysByTwo_20 : decode cX12_waysByTwo 20 = .ok (.invokevirtual 153, 3) := by decide +kernel
theorem dX12_waysByTwo_23 : decode cX12_waysByTwo 23 = .ok (.invokevirtual 250, 3) := by decide +kernel
theorem dX12_waysByTwo_26 : decode cX12_waysByTwo 26 = .ok (.iadd, 1) := by decide +kernel
theorem dX12_waysByTwo_27 : decode cX12_waysByTwo 27 = .ok (.istore_n 2, 1) := by decide +kernel
theorem dX12_waysByTwo_28 : decode cX12_waysByTwo 28 = .ok (.iinc 3 1, 3) := by decide +kernel
theorem dX12_waysByTwo_31 : decode cX12_waysByTwo 31 = .ok (.goto (-27), 3) := by decide +kernel
theorem dX12_waysByTwo_34 : decode cX12_waysByTwo 34 = .ok (.iload_n 2, 1) := by decide +kernel
theorem dX12_waysByTwo_35 : decode cX12_waysByTwo 35 = .ok (.ireturn, 1) := by decide +kernel
set_option maxRecDepth 20000 in
theorem ggX12_waysByThree_X12_nextRest : GoodIn wsX12_waysByThree wsX12_nextRest := goodIn_r _ [5, 6, 7, 8, 4, 9, 10, 11, 12, 13, 14, 15, 25, 26, 27, 28, 29, 30, 31, 32, 33, 34, 35, 36, 37, 38, 39, 40, 41, 42, 43, 44, 45, 46, 47, 48, 49, 50, 51, 52, 53, 54, 55, 56, 57, 58, 59, 60, 61, 62, 63, 64] rfl (by decide +kernel)
set_option maxRecDepth 20000 in
theorem gX12_waysByThree_X12_nextRest : GoodIn wsX12_waysByThree (wsV RX12 153 RX12 yX12_nextRest wsX12_nextRest) := goodIn_app (goodIn_of _ (by decide +kernel)) ggX12_waysByThree_X12_nextRest
set_option maxRecDepth 20000 in
theorem ggX12_waysByThree_X12_waysByTwo : GoodIn wsX12_waysByThree wsX12_waysByTwo := goodIn_r _ [19, 1, 2, 3, 4, 5, 6, 7, 8, 9, 10, 11, 12, 13, 14, 15, 20, 21, 22, 23, 24, 25, 26, 27, 28, 29, 30, 31, 32, 33, 34, 35, 36, 37, 38, 39, 40, 41, 42, 43, 44, 45, 46, 47, 48, 49, 50, 51, 52, 53, 54, 55, 56, 57, 58, 59, 60, 61, 62, 63, 64] rfl (by decide +kernel)
set_option maxRecDepth 20000 in
theorem gX12_waysByThree_X12_waysByTwo : GoodIn wsX12_waysByThree (wsV RX12 253 RX12 yX12_waysByTwo wsX12_waysByTwo) := goodIn_app (goodIn_of _ (by decide +kernel)) ggX12_waysByThree_X12_waysByTwo
theorem dX12_waysByThree_0 : decode cX12_waysByThree 0 = .ok (.iconst 0, 1) := by decide +kernel
theorem dX12_waysByThree_1 : decode cX12_waysByThree 1 = .ok (.istore_n 2, 1) := by decide +kernel
theorem dX12_waysByThree_2 : decode cX12_waysByThree 2 = .ok (.iconst 1, 1) := by decide +kernel
theorem dX12_waysByThree_3 : decode cX12_waysByThree 3 = .ok (.istore_n 3, 1) := by decide +kernel
theorem dX12_waysByThree_4 : decode cX12_waysByThree 4 = .ok (.iload_n 3, 1) := by decide +kernel
theorem dX12_waysByThree_5 : decode cX12_waysByThree 5 = .ok (.bipush 62, 2) := by decide +kernel
theorem dX12_waysByThree_7 : decode cX12_waysByThree 7 = .ok (.if_icmp .gt 22, 3) := by decide +kernel
theorem dX12_waysByThree_10 : decode cX12_waysByThree 10 = .ok (.iload_n 2, 1) := by decide +kernel
theorem dX12_waysByThree_11 : decode cX12_waysByThree 11 = .ok (.aload_n 0, 1) := by decide +kernel
theorem dX12_waysByThree_12 : decode cX12_waysByThree 12 = .ok (.aload_n 0, 1) := by decide +kernel
theorem dX12_waysByThree_13 : decode cX12_waysByThree 13 = .ok (.iload_n 1, 1) := by decide +kernel
theorem dX12_waysByThree_14 : decode cX12_waysByThree 14 = .ok (.iload_n 3, 1) := by decide +kernel
theorem dX12_waysByThree_15 : decode cX12_waysByThree 15 = .ok (.invokevirtual 153, 3) := by decide +kernel
theorem dX12_waysByThree_18 : decode cX12_waysByThree 18 = .ok (.invokevirtual 253, 3) := by decide +kernel
theorem dX12_waysByThree_21 : decode cX12_waysByThree 21 = .ok (.iadd, 1) := by decide +kernel
theorem dX12_waysByThree_22 : decode cX12_waysByThree 22 = .ok (.istore_n 2, 1) := by decide +kernel
theorem dX12_waysByThree_23 : decode cX12_waysByThree 23 = .ok (.iinc 3 1, 3) := by decide +kernel
theorem dX12_waysByThree_26 : decode cX12_waysByThree 26 = .ok (.goto (-22), 3) := by decide +kernel
theorem dX12_waysByThree_29 : decode cX12_waysByThree 29 = .ok (.iload_n 2, 1) := by decide +kernel
theorem dX12_waysByThree_30 : decode cX12_waysByThree 30 = .ok (.ireturn, 1) := by decide +kernel
set_option maxRecDepth 20000 in
theorem ggX12_waysBy_X12_endsAt : GoodIn wsX12_waysBy wsX12_endsAt := goodIn_r _ [5, 6, 29, 30, 31, 32, 33, 34, 35, 36, 37, 38, 39, 40, 41, 42, 43, 44, 45, 46, 47, 48, 49, 50, 51, 52, 53, 54, 55, 56, 57, 58, 59, 60, 61, 62, 63, 64, 65, 66, 67, 68] rfl (by decide +kernel)
set_option maxRecDepth 20000 in
theorem gX12_waysBy_X12_endsAt : GoodIn wsX12_waysBy (wsV RX12 250 RX12 yX12_endsAt wsX12_endsAt) := goodIn_app (goodIn_of _ (by decide +kernel)) ggX12_waysBy_X12_endsAt
set_option maxRecDepth 20000 in
theorem ggX12_waysBy_X12_waysByTwo : GoodIn wsX12_waysBy wsX12_waysByTwo := goodIn_r _ [10, 11, 12, 13, 4, 14, 15, 16, 17, 18, 19, 20, 21, 22, 23, 24, 1, 2, 3, 5, 6, 29, 30, 31, 32, 33, 34, 35, 36, 37, 38, 39, 40, 41, 42, 43, 44, 45, 46, 47, 48, 49, 50, 51, 52, 53, 54, 55, 56, 57, 58, 59, 60, 61, 62, 63, 64, 65, 66, 67, 68] rfl (by decide +kernel)
set_option maxRecDepth 20000 in
theorem gX12_waysBy_X12_waysByTwo : GoodIn wsX12_waysBy (wsV RX12 253 RX12 yX12_waysByTwo wsX12_waysByTwo) := goodIn_app (goodIn_of _ (by decide +kernel)) ggX12_waysBy_X12_waysByTwo
set_option maxRecDepth 20000 in
theorem ggX12_waysBy_X12_waysByThree : GoodIn wsX12_waysBy wsX12_waysByThree := goodIn_r _ [28, 11, 12, 13, 4, 14, 15, 16, 17, 18, 19, 20, 21, 22, 23, 24, 7, 8, 9, 10, 1, 2, 3, 5, 6, 29, 30, 31, 32, 33, 34, 35, 36, 37, 38, 39, 40, 41, 42, 43, 44, 45, 46, 47, 48, 49, 50, 51, 52, 53, 54, 55, 56, 57, 58, 59, 60, 61, 62, 63, 64, 65, 66, 67, 68] rfl (by decide +kernel)
set_option maxRecDepth 20000 in
theorem gX12_waysBy_X12_waysByThree : GoodIn wsX12_waysBy (wsV RX12 256 RX12 yX12_waysByThree wsX12_waysByThree) := goodIn_app (goodIn_of _ (by decide +kernel)) ggX12_waysBy_X12_waysByThree
theorem dX12_waysBy_0 : decode cX12_waysBy 0 = .ok (.iload_n 2, 1) := by decide +kernel
theorem dX12_waysBy_1 : decode cX12_waysBy 1 = .ok (.iconst 1, 1) := by decide +kernel
theorem dX12_waysBy_2 : decode cX12_waysBy 2 = .ok (.if_icmp .ne 11, 3) := by decide +kernel
theorem dX12_waysBy_5 : decode cX12_waysBy 5 = .ok (.aload_n 0, 1) := by decide +kernel
theorem dX12_waysBy_6 : decode cX12_waysBy 6 = .ok (.iload_n 1, 1) := by decide +kernel
theorem dX12_waysBy_7 : decode cX12_waysBy 7 = .ok (.invokevirtual 250, 3) := by decide +kernel
theorem dX12_waysBy_10 : decode cX12_waysBy 10 = .ok (.goto 21, 3) := by decide +kernel
theorem dX12_waysBy_13 : decode cX12_waysBy 13 = .ok (.iload_n 2, 1) := by decide +kernel
theorem dX12_waysBy_14 : decode cX12_waysBy 14 = .ok (.iconst 2, 1) := by decide +kernel
theorem dX12_waysBy_15 : decode cX12_waysBy 15 = .ok (.if_icmp .ne 11, 3) := by decide +kernel
theorem dX12_waysBy_18 : decode cX12_waysBy 18 = .ok (.aload_n 0, 1) := by decide +kernel
theorem dX12_waysBy_19 : decode cX12_waysBy 19 = .ok (.iload_n 1, 1) := by decide +kernel
theorem dX12_waysBy_20 : decode cX12_waysBy 20 = .ok (.invokevirtual 253, 3) := by decide +kernel
theorem dX12_waysBy_23 : decode cX12_waysBy 23 = .ok (.goto 8, 3) := by decide +kernel
theorem dX12_waysBy_26 : decode cX12_waysBy 26 = .ok (.aload_n 0, 1) := by decide +kernel
theorem dX12_waysBy_27 : decode cX12_waysBy 27 = .ok (.iload_n 1, 1) := by decide +kernel
theorem dX12_waysBy_28 : decode cX12_waysBy 28 = .ok (.invokevirtual 256, 3) := by decide +kernel
theorem dX12_waysBy_31 : decode cX12_waysBy 31 = .ok (.ireturn, 1) := by decide +kernel
set_option maxRecDepth 20000 in
theorem ggX12_ways_X12_isRest : GoodIn wsX12_ways wsX12_isRest := goodIn_r _ [6, 7, 8, 9, 5, 10, 11, 12, 13, 14, 53, 54, 55, 56, 57, 58, 59, 60, 61, 62, 63, 64, 65, 66, 67, 68, 69, 70, 71, 72, 73, 74, 75, 76, 77, 78, 79, 80, 81, 82, 83, 84, 85, 86, 87, 88, 89, 90, 91, 92] rfl (by decide +kernel)
set_option maxRecDepth 20000 in
theorem gX12_ways_X12_isRest : GoodIn wsX12_ways (wsV RX12 181 RX12 yX12_isRest wsX12_isRest) := goodIn_app (goodIn_of _ (by decide +kernel)) ggX12_ways_X12_isRest
set_option maxRecDepth 20000 in
theorem ggX12_ways_X12_in : GoodIn wsX12_ways wsX12_in := goodIn_r _ [14] rfl (by decide +kernel)
set_option maxRecDepth 20000 in
theorem gX12_ways_X12_in : GoodIn wsX12_ways (va_wsS RX12 108 yX12_in wsX12_in) := goodIn_app (goodIn_of _ (by decide +kernel)) ggX12_ways_X12_in
set_option maxRecDepth 20000 in
theorem ggX12_ways_X12_layEnds : GoodIn wsX12_ways wsX12_layEnds := goodIn_r _ [18, 19, 20, 21, 22, 5, 23, 24, 25, 26, 27, 11, 28, 29, 30, 31, 32, 33, 34, 35, 36, 53, 54, 55, 56, 57, 58, 59, 60, 61, 62, 63, 64, 65, 66, 67, 68, 69, 70, 71, 72, 73, 74, 75, 76, 77, 78, 79, 80, 81, 82, 83, 84, 85, 86, 87, 88, 89, 90, 91, 92] rfl (by decide +kernel)
set_option maxRecDepth 20000 in
theorem gX12_ways_X12_layEnds : GoodIn wsX12_ways (wsV RX12 259 RX12 yX12_layEnds wsX12_layEnds) := goodIn_app (goodIn_of _ (by decide +kernel)) ggX12_ways_X12_layEnds
set_option maxRecDepth 20000 in
theorem ggX12_ways_X12_waysBy : GoodIn wsX12_ways wsX12_waysBy := goodIn_r _ [40, 41, 42, 43, 5, 44, 19, 45, 46, 47, 48, 24, 25, 26, 27, 11, 28, 29, 30, 31, 32, 33, 34, 35, 36, 49, 50, 51, 52, 53, 54, 55, 56, 57, 58, 59, 60, 61, 62, 63, 64, 65, 66, 67, 68, 69, 70, 71, 72, 73, 74, 75, 76, 77, 78, 79, 80, 81, 82, 83, 84, 85, 86, 87, 88, 89, 90, 91, 92] rfl (by decide +kernel)
set_option maxRecDepth 20000 in
theorem gX12_ways_X12_waysBy : GoodIn wsX12_ways (wsV RX12 262 RX12 yX12_waysBy wsX12_waysBy) := goodIn_app (goodIn_of _ (by decide +kernel)) ggX12_ways_X12_waysBy
theorem dX12_ways_0 : decode cX12_ways 0 = .ok (.aload_n 0, 1) := by decide +kernel
theorem dX12_ways_1 : decode cX12_ways 1 = .ok (.iload_n 1, 1) := by decide +kernel
theorem dX12_ways_2 : decode cX12_ways 2 = .ok (.sipush 180, 3) := by decide +kernel
theorem dX12_ways_5 : decode cX12_ways 5 = .ok (.invokevirtual 181, 3) := by decide +kernel
theorem dX12_ways_8 : decode cX12_ways 8 = .ok (.ifCond .eq 15, 3) := by decide +kernel
theorem dX12_ways_11 : decode cX12_ways 11 = .ok (.iload_n 2, 1) := by decide +kernel
theorem dX12_ways_12 : decode cX12_ways 12 = .ok (.i2l, 1) := by decide +kernel
theorem dX12_ways_13 : decode cX12_ways 13 = .ok (.lconst 0, 1) := by decide +kernel
theorem dX12_ways_14 : decode cX12_ways 14 = .ok (.ldc2_w 114, 3) := by decide +kernel
theorem dX12_ways_17 : decode cX12_ways 17 = .ok (.invokestatic 108, 3) := by decide +kernel
theorem dX12_ways_20 : decode cX12_ways 20 = .ok (.ifCond .ne 5, 3) := by decide +kernel
theorem dX12_ways_23 : decode cX12_ways 23 = .ok (.iconst (-1), 1) := by decide +kernel
theorem dX12_ways_24 : decode cX12_ways 24 = .ok (.ireturn, 1) := by decide +kernel
theorem dX12_ways_25 : decode cX12_ways 25 = .ok (.aload_n 0, 1) := by decide +kernel
theorem dX12_ways_26 : decode cX12_ways 26 = .ok (.invokevirtual 259, 3) := by decide +kernel
theorem dX12_ways_29 : decode cX12_ways 29 = .ok (.iload_n 2, 1) := by decide +kernel
theorem dX12_ways_30 : decode cX12_ways 30 = .ok (.ifCond .le 12, 3) := by decide +kernel
theorem dX12_ways_33 : decode cX12_ways 33 = .ok (.aload_n 0, 1) := by decide +kernel
theorem dX12_ways_34 : decode cX12_ways 34 = .ok (.iload_n 1, 1) := by decide +kernel
theorem dX12_ways_35 : decode cX12_ways 35 = .ok (.iload_n 2, 1) := by decide +kernel
theorem dX12_ways_36 : decode cX12_ways 36 = .ok (.invokevirtual 262, 3) := by decide +kernel
theorem dX12_ways_39 : decode cX12_ways 39 = .ok (.goto 23, 3) := by decide +kernel
theorem dX12_ways_42 : decode cX12_ways 42 = .ok (.aload_n 0, 1) := by decide +kernel
theorem dX12_ways_43 : decode cX12_ways 43 = .ok (.iload_n 1, 1) := by decide +kernel
theorem dX12_ways_44 : decode cX12_ways 44 = .ok (.iconst 1, 1) := by decide +kernel
theorem dX12_ways_45 : decode cX12_ways 45 = .ok (.invokevirtual 262, 3) := by decide +kernel
theorem dX12_ways_48 : decode cX12_ways 48 = .ok (.aload_n 0, 1) := by decide +kernel
theorem dX12_ways_49 : decode cX12_ways 49 = .ok (.iload_n 1, 1) := by decide +kernel
theorem dX12_ways_50 : decode cX12_ways 50 = .ok (.iconst 2, 1) := by decide +kernel
theorem dX12_ways_51 : decode cX12_ways 51 = .ok (.invokevirtual 262, 3) := by decide +kernel
theorem dX12_ways_54 : decode cX12_ways 54 = .ok (.iadd, 1) := by decide +kernel
theorem dX12_ways_55 : decode cX12_ways 55 = .ok (.aload_n 0, 1) := by decide +kernel
theorem dX12_ways_56 : decode cX12_ways 56 = .ok (.iload_n 1, 1) := by decide +kernel
theorem dX12_ways_57 : decode cX12_ways 57 = .ok (.iconst 3, 1) := by decide +kernel
theorem dX12_ways_58 : decode cX12_ways 58 = .ok (.invokevirtual 262, 3) := by decide +kernel
theorem dX12_ways_61 : decode cX12_ways 61 = .ok (.iadd, 1) := by decide +kernel
theorem dX12_ways_62 : decode cX12_ways 62 = .ok (.ireturn, 1) := by decide +kernel
set_option maxRecDepth 20000 in
theorem ggX12_waysBehind_X12_waysBy : GoodIn wsX12_waysBehind wsX12_waysBy := goodIn_r _ [5, 6, 7, 8, 4, 9, 10, 11, 12, 13, 14, 15, 16, 17, 18, 19, 20, 21, 22, 23, 24, 25, 26, 27, 28, 29, 30, 31, 32, 33, 34, 35, 36, 37, 38, 39, 40, 41, 42, 43, 44, 45, 46, 47, 48, 49, 50, 51, 52, 53, 54, 55, 56, 57, 58, 59, 60, 61, 62, 63, 64, 65, 66, 67, 68, 69, 70, 71, 72] rfl (by decide +kernel)
set_option maxRecDepth 20000 in
theorem gX12_waysBehind_X12_waysBy : GoodIn wsX12_waysBehind (wsV RX12 262 RX12 yX12_waysBy wsX12_waysBy) := goodIn_app (goodIn_of _ (by decide +kernel)) ggX12_waysBehind_X12_waysBy
theorem dX12_waysBehind_0 : decode cX12_waysBehind 0 = .ok (.iload_n 2, 1) := by decide +kernel
theorem dX12_waysBehind_1 : decode cX12_waysBehind 1 = .ok (.ifCond .ne 15, 3) := by decide +kernel
theorem dX12_waysBehind_4 : decode cX12_waysBehind 4 = .ok (.iload_n 1, 1) := by decide +kernel
theorem dX12_waysBehind_5 : decode cX12_waysBehind 5 = .ok (.ifCond .ne 7, 3) := by decide +kernel
theorem dX12_waysBehind_8 : decode cX12_waysBehind 8 = .ok (.iconst 1, 1) := by decide +kernel
theorem dX12_waysBehind_9 : decode cX12_waysBehind 9 = .ok (.goto 22, 3) := by decide +kernel
theorem dX12_waysBehind_12 : decode cX12_waysBehind 12 = .ok (.iconst 0, 1) := by decide +kernel
theorem dX12_waysBehind_13 : decode cX12_waysBehind 13 = .ok (.goto 18, 3) := by decide +kernel
theorem dX12_waysBehind_16 : decode cX12_waysBehind 16 = .ok (.iload_n 1, 1) := by decide +kernel
theorem dX12_waysBehind_17 : decode cX12_waysBehind 17 = .ok (.iconst 1, 1) := by decide +kernel
theorem dX12_waysBehind_18 : decode cX12_waysBehind 18 = .ok (.if_icmp .ge 7, 3) := by decide +kernel
theorem dX12_waysBehind_21 : decode cX12_waysBehind 21 = .ok (.iconst 0, 1) := by decide +kernel
theorem dX12_waysBehind_22 : decode cX12_waysBehind 22 = .ok (.goto 9, 3) := by decide +kernel
theorem dX12_waysBehind_25 : decode cX12_waysBehind 25 = .ok (.aload_n 0, 1) := by decide +kernel
theorem dX12_waysBehind_26 : decode cX12_waysBehind 26 = .ok (.iload_n 1, 1) := by decide +kernel
theorem dX12_waysBehind_27 : decode cX12_waysBehind 27 = .ok (.iload_n 2, 1) := by decide +kernel
theorem dX12_waysBehind_28 : decode cX12_waysBehind 28 = .ok (.invokevirtual 262, 3) := by decide +kernel
theorem dX12_waysBehind_31 : decode cX12_waysBehind 31 = .ok (.ireturn, 1) := by decide +kernel
set_option maxRecDepth 20000 in
theorem ggX12_layWay_X12_layEnds : GoodIn wsX12_layWay wsX12_layEnds := goodIn_r _ [7, 8, 9, 10, 11, 6, 12, 13, 14, 15, 16, 17, 18, 19, 20, 21, 22, 23, 24, 25, 26, 47, 48, 49, 50, 51, 52, 53, 54, 55, 56, 57, 58, 59, 60, 61, 62, 63, 64, 65, 66, 67, 68, 69, 70, 71, 72, 73, 74, 75, 76, 77, 78, 79, 80, 81, 82, 83, 84, 85, 86] rfl (by decide +kernel)
set_option maxRecDepth 20000 in
theorem gX12_layWay_X12_layEnds : GoodIn wsX12_layWay (wsV RX12 259 RX12 yX12_layEnds wsX12_layEnds) := goodIn_app (goodIn_of _ (by decide +kernel)) ggX12_layWay_X12_layEnds
set_option maxRecDepth 20000 in
theorem ggX12_layWay_X12_waysBy : GoodIn wsX12_layWay wsX12_waysBy := goodIn_r _ [30, 31, 32, 33, 6, 34, 8, 35, 36, 37, 38, 13, 14, 15, 16, 17, 18, 19, 20, 21, 22, 23, 24, 25, 26, 39, 40, 41, 42, 47, 48, 49, 50, 51, 52, 53, 54, 55, 56, 57, 58, 59, 60, 61, 62, 63, 64, 65, 66, 67, 68, 69, 70, 71, 72, 73, 74, 75, 76, 77, 78, 79, 80, 81, 82, 83, 84, 85, 86] rfl (by decide +kernel)
set_option maxRecDepth 20000 in
theorem gX12_layWay_X12_waysBy : GoodIn wsX12_layWay (wsV RX12 262 RX12 yX12_waysBy wsX12_waysBy) := goodIn_app (goodIn_of _ (by decide +kernel)) ggX12_layWay_X12_waysBy
set_option maxRecDepth 20000 in
theorem ggX12_layWay_X12_nextRest : GoodIn wsX12_layWay wsX12_nextRest := goodIn_r _ [16, 17, 18, 19, 6, 20, 21, 22, 23, 24, 25, 26, 47, 48, 49, 50, 51, 52, 53, 54, 55, 56, 57, 58, 59, 60, 61, 62, 63, 64, 65, 66, 67, 68, 69, 70, 71, 72, 73, 74, 75, 76, 77, 78, 79, 80, 81, 82, 83, 84, 85, 86] rfl (by decide +kernel)
set_option maxRecDepth 20000 in
theorem gX12_layWay_X12_nextRest : GoodIn wsX12_layWay (wsV RX12 153 RX12 yX12_nextRest wsX12_nextRest) := goodIn_app (goodIn_of _ (by decide +kernel)) ggX12_layWay_X12_nextRest
set_option maxRecDepth 20000 in
theorem ggX12_layWay_X12_waysBehind : GoodIn wsX12_layWay wsX12_waysBehind := goodIn_r _ [46, 27, 28, 29, 6, 30, 31, 32, 33, 34, 8, 35, 36, 37, 38, 13, 14, 15, 16, 17, 18, 19, 20, 21, 22, 23, 24, 25, 26, 39, 40, 41, 42, 47, 48, 49, 50, 51, 52, 53, 54, 55, 56, 57, 58, 59, 60, 61, 62, 63, 64, 65, 66, 67, 68, 69, 70, 71, 72, 73, 74, 75, 76, 77, 78, 79, 80, 81, 82, 83, 84, 85, 86] rfl (by decide +kernel)
set_option maxRecDepth 20000 in
theorem gX12_layWay_X12_waysBehind : GoodIn wsX12_layWay (wsV RX12 268 RX12 yX12_waysBehind wsX12_waysBehind) := goodIn_app (goodIn_of _ (by decide +kernel)) ggX12_layWay_X12_waysBehind
theorem dX12_layWay_0 : decode cX12_layWay 0 = .ok (.aload_n 0, 1) := by decide +kernel
theorem dX12_layWay_1 : decode cX12_layWay 1 = .ok (.invokevirtual 259, 3) := by decide +kernel
theorem dX12_layWay_4 : decode cX12_layWay 4 = .ok (.iload_n 2, 1) := by decide +kernel
theorem dX12_layWay_5 : decode cX12_layWay 5 = .ok (.istore_n 3, 1) := by decide +kernel
theorem dX12_layWay_6 : decode cX12_layWay 6 = .ok (.aload_n 0, 1) := by decide +kernel
theorem dX12_layWay_7 : decode cX12_layWay 7 = .ok (.iconst 1, 1) := by decide +kernel
theorem dX12_layWay_8 : decode cX12_layWay 8 = .ok (.putfield 265, 3) := by decide +kernel
theorem dX12_layWay_11 : decode cX12_layWay 11 = .ok (.aload_n 0, 1) := by decide +kernel
theorem dX12_layWay_12 : decode cX12_layWay 12 = .ok (.getfield 265, 3) := by decide +kernel
theorem dX12_layWay_15 : decode cX12_layWay 15 = .ok (.iconst 3, 1) := by decide +kernel
theorem dX12_layWay_16 : decode cX12_layWay 16 = .ok (.if_icmp .gt 41, 3) := by decide +kernel
theorem dX12_layWay_19 : decode cX12_layWay 19 = .ok (.iload_n 3, 1) := by decide +kernel
theorem dX12_layWay_20 : decode cX12_layWay 20 = .ok (.aload_n 0, 1) := by decide +kernel
theorem dX12_layWay_21 : decode cX12_layWay 21 = .ok (.iload_n 1, 1) := by decide +kernel
theorem dX12_layWay_22 : decode cX12_layWay 22 = .ok (.aload_n 0, 1) := by decide +kernel
theorem dX12_layWay_23 : decode cX12_layWay 23 = .ok (.getfield 265, 3) := by decide +kernel
theorem dX12_layWay_26 : decode cX12_layWay 26 = .ok (.invokevirtual 262, 3) := by decide +kernel
theorem dX12_layWay_29 : decode cX12_layWay 29 = .ok (.if_icmp .lt 28, 3) := by decide +kernel
theorem dX12_layWay_32 : decode cX12_layWay 32 = .ok (.iload_n 3, 1) := by decide +kernel
theorem dX12_layWay_33 : decode cX12_layWay 33 = .ok (.aload_n 0, 1) := by decide +kernel
theorem dX12_layWay_34 : decode cX12_layWay 34 = .ok (.iload_n 1, 1) := by decide +kernel
theorem dX12_layWay_35 : decode cX12_layWay 35 = .ok (.aload_n 0, 1) := by decide +kernel
theorem dX12_layWay_36 : decode cX12_layWay 36 = .ok (.getfield 265, 3) := by decide +kernel
theorem dX12_layWay_39 : decode cX12_layWay 39 = .ok (.invokevirtual 262, 3) := by decide +kernel
theorem dX12_layWay_42 : decode cX12_layWay 42 = .ok (.isub, 1) := by decide +kernel
theorem dX12_layWay_43 : decode cX12_layWay 43 = .ok (.istore_n 3, 1) := by decide +kernel
theorem dX12_layWay_44 : decode cX12_layWay 44 = .ok (.aload_n 0, 1) := by decide +kernel
theorem dX12_layWay_45 : decode cX12_layWay 45 = .ok (.dup, 1) := by decide +kernel
theorem dX12_layWay_46 : decode cX12_layWay 46 = .ok (.getfield 265, 3) := by decide +kernel
theorem dX12_layWay_49 : decode cX12_layWay 49 = .ok (.iconst 1, 1) := by decide +kernel
theorem dX12_layWay_50 : decode cX12_layWay 50 = .ok (.iadd, 1) := by decide +kernel
theorem dX12_layWay_51 : decode cX12_layWay 51 = .ok (.putfield 265, 3) := by decide +kernel
theorem dX12_layWay_54 : decode cX12_layWay 54 = .ok (.goto (-43), 3) := by decide +kernel
theorem dX12_layWay_57 : decode cX12_layWay 57 = .ok (.iload_n 2, 1) := by decide +kernel
theorem dX12_layWay_58 : decode cX12_layWay 58 = .ok (.ifCond .lt 11, 3) := by decide +kernel
theorem dX12_layWay_61 : decode cX12_layWay 61 = .ok (.aload_n 0, 1) := by decide +kernel
theorem dX12_layWay_62 : decode cX12_layWay 62 = .ok (.getfield 265, 3) := by decide +kernel
theorem dX12_layWay_65 : decode cX12_layWay 65 = .ok (.iconst 3, 1) := by decide +kernel
theorem dX12_layWay_66 : decode cX12_layWay 66 = .ok (.if_icmp .le 5, 3) := by decide +kernel
theorem dX12_layWay_69 : decode cX12_layWay 69 = .ok (.iconst 0, 1) := by decide +kernel
theorem dX12_layWay_70 : decode cX12_layWay 70 = .ok (.ireturn, 1) := by decide +kernel
theorem dX12_layWay_71 : decode cX12_layWay 71 = .ok (.iload_n 1, 1) := by decide +kernel
theorem dX12_layWay_72 : decode cX12_layWay 72 = .ok (.istore 4, 2) := by decide +kernel
theorem dX12_layWay_74 : decode cX12_layWay 74 = .ok (.iconst 0, 1) := by decide +kernel
theorem dX12_layWay_75 : decode cX12_layWay 75 = .ok (.istore 5, 2) := by decide +kernel
theorem dX12_layWay_77 : decode cX12_layWay 77 = .ok (.iload 5, 2) := by decide +kernel
theorem dX12_layWay_79 : decode cX12_layWay 79 = .ok (.aload_n 0, 1) := by decide +kernel
theorem dX12_layWay_80 : decode cX12_layWay 80 = .ok (.getfield 265, 3) := by decide +kernel
theorem dX12_layWay_83 : decode cX12_layWay 83 = .ok (.if_icmp .ge 94, 3) := by decide +kernel
theorem dX12_layWay_86 : decode cX12_layWay 86 = .ok (.iconst 1, 1) := by decide +kernel
theorem dX12_layWay_87 : decode cX12_layWay 87 = .ok (.istore 6, 2) := by decide +kernel
theorem dX12_layWay_89 : decode cX12_layWay 89 = .ok (.aload_n 0, 1) := by decide +kernel
theorem dX12_layWay_90 : decode cX12_layWay 90 = .ok (.aload_n 0, 1) := by decide +kernel
theorem dX12_layWay_91 : decode cX12_layWay 91 = .ok (.iload 4, 2) := by decide +kernel
theorem dX12_layWay_93 : decode cX12_layWay 93 = .ok (.iload 6, 2) := by decide +kernel
theorem dX12_layWay_95 : decode cX12_layWay 95 = .ok (.invokevirtual 153, 3) := by decide +kernel
theorem dX12_layWay_98 : decode cX12_layWay 98 = .ok (.aload_n 0, 1) := by decide +kernel
theorem dX12_layWay_99 : decode cX12_layWay 99 = .ok (.getfield 265, 3) := by decide +kernel
theorem dX12_layWay_102 : decode cX12_layWay 102 = .ok (.iconst 1, 1) := by decide +kernel
theorem dX12_layWay_103 : decode cX12_layWay 103 = .ok (.isub, 1) := by decide +kernel
theorem dX12_layWay_104 : decode cX12_layWay 104 = .ok (.iload 5, 2) := by decide +kernel
theorem dX12_layWay_106 : decode cX12_layWay 106 = .ok (.isub, 1) := by decide +kernel
theorem dX12_layWay_107 : decode cX12_layWay 107 = .ok (.invokevirtual 268, 3) := by decide +kernel
theorem dX12_layWay_110 : decode cX12_layWay 110 = .ok (.istore 7, 2) := by decide +kernel
theorem dX12_layWay_112 : decode cX12_layWay 112 = .ok (.iload_n 3, 1) := by decide +kernel
theorem dX12_layWay_113 : decode cX12_layWay 113 = .ok (.iload 7, 2) := by decide +kernel
theorem dX12_layWay_115 : decode cX12_layWay 115 = .ok (.if_icmp .lt 37, 3) := by decide +kernel
theorem dX12_layWay_118 : decode cX12_layWay 118 = .ok (.iload_n 3, 1) := by decide +kernel
theorem dX12_layWay_119 : decode cX12_layWay 119 = .ok (.iload 7, 2) := by decide +kernel
theorem dX12_layWay_121 : decode cX12_layWay 121 = .ok (.isub, 1) := by decide +kernel
theorem dX12_layWay_122 : decode cX12_layWay 122 = .ok (.istore_n 3, 1) := by decide +kernel
theorem dX12_layWay_123 : decode cX12_layWay 123 = .ok (.iinc 6 1, 3) := by decide +kernel
theorem dX12_layWay_126 : decode cX12_layWay 126 = .ok (.aload_n 0, 1) := by decide +kernel
theorem dX12_layWay_127 : decode cX12_layWay 127 = .ok (.aload_n 0, 1) := by decide +kernel
theorem dX12_layWay_128 : decode cX12_layWay 128 = .ok (.iload 4, 2) := by decide +kernel
theorem dX12_layWay_130 : decode cX12_layWay 130 = .ok (.iload 6, 2) := by decide +kernel
theorem dX12_layWay_132 : decode cX12_layWay 132 = .ok (.invokevirtual 153, 3) := by decide +kernel
theorem dX12_layWay_135 : decode cX12_layWay 135 = .ok (.aload_n 0, 1) := by decide +kernel
theorem dX12_layWay_136 : decode cX12_layWay 136 = .ok (.getfield 265, 3) := by decide +kernel
theorem dX12_layWay_139 : decode cX12_layWay 139 = .ok (.iconst 1, 1) := by decide +kernel
theorem dX12_layWay_140 : decode cX12_layWay 140 = .ok (.isub, 1) := by decide +kernel
theorem dX12_layWay_141 : decode cX12_layWay 141 = .ok (.iload 5, 2) := by decide +kernel
theorem dX12_layWay_143 : decode cX12_layWay 143 = .ok (.isub, 1) := by decide +kernel
theorem dX12_layWay_144 : decode cX12_layWay 144 = .ok (.invokevirtual 268, 3) := by decide +kernel
theorem dX12_layWay_147 : decode cX12_layWay 147 = .ok (.istore 7, 2) := by decide +kernel
theorem dX12_layWay_149 : decode cX12_layWay 149 = .ok (.goto (-37), 3) := by decide +kernel
theorem dX12_layWay_152 : decode cX12_layWay 152 = .ok (.aload_n 0, 1) := by decide +kernel
theorem dX12_layWay_153 : decode cX12_layWay 153 = .ok (.getfield 75, 3) := by decide +kernel
theorem dX12_layWay_156 : decode cX12_layWay 156 = .ok (.iload 5, 2) := by decide +kernel
theorem dX12_layWay_158 : decode cX12_layWay 158 = .ok (.iload 6, 2) := by decide +kernel
theorem dX12_layWay_160 : decode cX12_layWay 160 = .ok (.iastore, 1) := by decide +kernel
theorem dX12_layWay_161 : decode cX12_layWay 161 = .ok (.aload_n 0, 1) := by decide +kernel
theorem dX12_layWay_162 : decode cX12_layWay 162 = .ok (.iload 4, 2) := by decide +kernel
theorem dX12_layWay_164 : decode cX12_layWay 164 = .ok (.iload 6, 2) := by decide +kernel
theorem dX12_layWay_166 : decode cX12_layWay 166 = .ok (.invokevirtual 153, 3) := by decide +kernel
theorem dX12_layWay_169 : decode cX12_layWay 169 = .ok (.istore 4, 2) := by decide +kernel
theorem dX12_layWay_171 : decode cX12_layWay 171 = .ok (.iinc 5 1, 3) := by decide +kernel
theorem dX12_layWay_174 : decode cX12_layWay 174 = .ok (.goto (-97), 3) := by decide +kernel
theorem dX12_layWay_177 : decode cX12_layWay 177 = .ok (.iconst 1, 1) := by decide +kernel
theorem dX12_layWay_178 : decode cX12_layWay 178 = .ok (.ireturn, 1) := by decide +kernel
set_option maxRecDepth 20000 in
theorem ggX12_way_X12_isRest : GoodIn wsX12_way wsX12_isRest := goodIn_r _ [8, 9, 10, 11, 7, 12, 13, 14, 15, 16, 63, 64, 65, 66, 67, 68, 69, 70, 71, 72, 73, 74, 75, 76, 77, 78, 79, 80, 81, 82, 83, 84, 85, 86, 87, 88, 89, 90, 91, 92, 93, 94, 95, 96, 97, 98, 99, 100, 101, 102] rfl (by decide +kernel)
set_option maxRecDepth 20000 in
theorem gX12_way_X12_isRest : GoodIn wsX12_way (wsV RX12 181 RX12 yX12_isRest wsX12_isRest) := goodIn_app (goodIn_of _ (by decide +kernel)) ggX12_way_X12_isRest
set_option maxRecDepth 20000 in
theorem ggX12_way_X12_layWay : GoodIn wsX12_way wsX12_layWay := goodIn_r _ [20, 2, 3, 21, 22, 23, 7, 24, 25, 26, 27, 28, 29, 30, 31, 32, 33, 13, 34, 35, 36, 37, 38, 39, 40, 41, 42, 43, 44, 45, 46, 47, 48, 49, 50, 51, 52, 53, 54, 55, 56, 57, 58, 59, 60, 61, 62, 63, 64, 65, 66, 67, 68, 69, 70, 71, 72, 73, 74, 75, 76, 77, 78, 79, 80, 81, 82, 83, 84, 85, 86, 87, 88, 89, 90, 91, 92, 93, 94, 95, 96, 97, 98, 99, 100, 101, 102] rfl (by decide +kernel)
set_option maxRecDepth 20000 in
theorem gX12_way_X12_layWay : GoodIn wsX12_way (wsV RX12 271 RX12 yX12_layWay wsX12_layWay) := goodIn_app (goodIn_of _ (by decide +kernel)) ggX12_way_X12_layWay
set_option maxRecDepth 20000 in
theorem ggX12_way_X12_in : GoodIn wsX12_way wsX12_in := goodIn_r _ [16] rfl (by decide +kernel)
set_option maxRecDepth 20000 in
theorem gX12_way_X12_in : GoodIn wsX12_way (va_wsS RX12 108 yX12_in wsX12_in) := goodIn_app (goodIn_of _ (by decide +kernel)) ggX12_way_X12_in
theorem dX12_way_0 : decode cX12_way 0 = .ok (.aload_n 0, 1) := by decide +kernel
theorem dX12_way_1 : decode cX12_way 1 = .ok (.iload_n 1, 1) := by decide +kernel
theorem dX12_way_2 : decode cX12_way 2 = .ok (.sipush 180, 3) := by decide +kernel
theorem dX12_way_5 : decode cX12_way 5 = .ok (.invokevirtual 181, 3) := by decide +kernel
theorem dX12_way_8 : decode cX12_way 8 = .ok (.ifCond .eq 30, 3) := by decide +kernel
theorem dX12_way_11 : decode cX12_way 11 = .ok (.aload_n 0, 1) := by decide +kernel
theorem dX12_way_12 : decode cX12_way 12 = .ok (.iload_n 1, 1) := by decide +kernel
theorem dX12_way_13 : decode cX12_way 13 = .ok (.iload_n 2, 1) := by decide +kernel
theorem dX12_way_14 : decode cX12_way 14 = .ok (.invokevirtual 271, 3) := by decide +kernel
theorem dX12_way_17 : decode cX12_way 17 = .ok (.ifCond .eq 21, 3) := by decide +kernel
theorem dX12_way_20 : decode cX12_way 20 = .ok (.iload_n 3, 1) := by decide +kernel
theorem dX12_way_21 : decode cX12_way 21 = .ok (.i2l, 1) := by decide +kernel
theorem dX12_way_22 : decode cX12_way 22 = .ok (.ldc2_w 274, 3) := by decide +kernel
theorem dX12_way_25 : decode cX12_way 25 = .ok (.aload_n 0, 1) := by decide +kernel
theorem dX12_way_26 : decode cX12_way 26 = .ok (.getfield 265, 3) := by decide +kernel
theorem dX12_way_29 : decode cX12_way 29 = .ok (.iconst 1, 1) := by decide +kernel
theorem dX12_way_30 : decode cX12_way 30 = .ok (.isub, 1) := by decide +kernel
theorem dX12_way_31 : decode cX12_way 31 = .ok (.i2l, 1) := by decide +kernel
theorem dX12_way_32 : decode cX12_way 32 = .ok (.invokestatic 108, 3) := by decide +kernel
theorem dX12_way_35 : decode cX12_way 35 = .ok (.ifCond .ne 5, 3) := by decide +kernel
theorem dX12_way_38 : decode cX12_way 38 = .ok (.iconst (-1), 1) := by decide +kernel
theorem dX12_way_39 : decode cX12_way 39 = .ok (.ireturn, 1) := by decide +kernel
theorem dX12_way_40 : decode cX12_way 40 = .ok (.iload_n 3, 1) := by decide +kernel
theorem dX12_way_41 : decode cX12_way 41 = .ok (.iconst (-1), 1) := by decide +kernel
theorem dX12_way_42 : decode cX12_way 42 = .ok (.if_icmp .ne 10, 3) := by decide +kernel
theorem dX12_way_45 : decode cX12_way 45 = .ok (.aload_n 0, 1) := by decide +kernel
theorem dX12_way_46 : decode cX12_way 46 = .ok (.getfield 265, 3) := by decide +kernel
theorem dX12_way_49 : decode cX12_way 49 = .ok (.goto 9, 3) := by decide +kernel
theorem dX12_way_52 : decode cX12_way 52 = .ok (.aload_n 0, 1) := by decide +kernel
theorem dX12_way_53 : decode cX12_way 53 = .ok (.getfield 75, 3) := by decide +kernel
theorem dX12_way_56 : decode cX12_way 56 = .ok (.iload_n 3, 1) := by decide +kernel
theorem dX12_way_57 : decode cX12_way 57 = .ok (.iaload, 1) := by decide +kernel
theorem dX12_way_58 : decode cX12_way 58 = .ok (.ireturn, 1) := by decide +kernel
theorem dX12_writes_0 : decode cX12_writes 0 = .ok (.aload_n 0, 1) := by decide +kernel
theorem dX12_writes_1 : decode cX12_writes 1 = .ok (.getfield 81, 3) := by decide +kernel
theorem dX12_writes_4 : decode cX12_writes 4 = .ok (.aload_n 0, 1) := by decide +kernel
theorem dX12_writes_5 : decode cX12_writes 5 = .ok (.getfield 276, 3) := by decide +kernel
theorem dX12_writes_8 : decode cX12_writes 8 = .ok (.iload_n 1, 1) := by decide +kernel
theorem dX12_writes_9 : decode cX12_writes 9 = .ok (.iastore, 1) := by decide +kernel
theorem dX12_writes_10 : decode cX12_writes 10 = .ok (.aload_n 0, 1) := by decide +kernel
theorem dX12_writes_11 : decode cX12_writes 11 = .ok (.dup, 1) := by decide +kernel
theorem dX12_writes_12 : decode cX12_writes 12 = .ok (.getfield 276, 3) := by decide +kernel
theorem dX12_writes_15 : decode cX12_writes 15 = .ok (.iconst 1, 1) := by decide +kernel
theorem dX12_writes_16 : decode cX12_writes 16 = .ok (.iadd, 1) := by decide +kernel
theorem dX12_writes_17 : decode cX12_writes 17 = .ok (.putfield 276, 3) := by decide +kernel
theorem dX12_writes_20 : decode cX12_writes 20 = .ok (.return_, 1) := by decide +kernel
set_option maxRecDepth 20000 in
theorem ggX12_writesSpot_X12_numberOf : GoodIn wsX12_writesSpot wsX12_numberOf := goodIn_r _ [4, 5, 6, 7, 3, 8] rfl (by decide +kernel)
set_option maxRecDepth 20000 in
theorem gX12_writesSpot_X12_numberOf : GoodIn wsX12_writesSpot (va_wsS RX12 119 yX12_numberOf wsX12_numberOf) := goodIn_app (goodIn_of _ (by decide +kernel)) ggX12_writesSpot_X12_numberOf
set_option maxRecDepth 20000 in
theorem ggX12_writesSpot_X12_writes : GoodIn wsX12_writesSpot wsX12_writes := goodIn_r _ [12, 13, 14, 15, 16, 17, 18, 19, 20, 21, 22, 23, 24, 25, 26, 27, 28, 29, 30, 31, 32, 33, 34, 35, 36, 37, 38, 39, 40, 41, 42, 43, 44, 45, 46, 47, 48, 49, 50, 51, 52, 53, 54] rfl (by decide +kernel)
set_option maxRecDepth 20000 in
theorem gX12_writesSpot_X12_writes : GoodIn wsX12_writesSpot (wsV RX12 279 RX12 yX12_writes wsX12_writes) := goodIn_app (goodIn_of _ (by decide +kernel)) ggX12_writesSpot_X12_writes
theorem dX12_writesSpot_0 : decode cX12_writesSpot 0 = .ok (.iload_n 1, 1) := by decide +kernel
theorem dX12_writesSpot_1 : decode cX12_writesSpot 1 = .ok (.invokestatic 119, 3) := by decide +kernel
theorem dX12_writesSpot_4 : decode cX12_writesSpot 4 = .ok (.istore_n 2, 1) := by decide +kernel
theorem dX12_writesSpot_5 : decode cX12_writesSpot 5 = .ok (.iload_n 2, 1) := by decide +kernel
theorem dX12_writesSpot_6 : decode cX12_writesSpot 6 = .ok (.ifCond .ne 38, 3) := by decide +kernel
theorem dX12_writesSpot_9 : decode cX12_writesSpot 9 = .ok (.aload_n 0, 1) := by decide +kernel
theorem dX12_writesSpot_10 : decode cX12_writesSpot 10 = .ok (.iload_n 1, 1) := by decide +kernel
theorem dX12_writesSpot_11 : decode cX12_writesSpot 11 = .ok (.bipush 61, 2) := by decide +kernel
theorem dX12_writesSpot_13 : decode cX12_writesSpot 13 = .ok (.if_icmp .ne 8, 3) := by decide +kernel
theorem dX12_writesSpot_16 : decode cX12_writesSpot 16 = .ok (.bipush 79, 2) := by decide +kernel
theorem dX12_writesSpot_18 : decode cX12_writesSpot 18 = .ok (.goto 5, 3) := by decide +kernel
theorem dX12_writesSpot_21 : decode cX12_writesSpot 21 = .ok (.bipush 66, 2) := by decide +kernel
theorem dX12_writesSpot_23 : decode cX12_writesSpot 23 = .ok (.invokevirtual 279, 3) := by decide +kernel
theorem dX12_writesSpot_26 : decode cX12_writesSpot 26 = .ok (.aload_n 0, 1) := by decide +kernel
theorem dX12_writesSpot_27 : decode cX12_writesSpot 27 = .ok (.iload_n 1, 1) := by decide +kernel
theorem dX12_writesSpot_28 : decode cX12_writesSpot 28 = .ok (.bipush 61, 2) := by decide +kernel
theorem dX12_writesSpot_30 : decode cX12_writesSpot 30 = .ok (.if_icmp .ne 8, 3) := by decide +kernel
theorem dX12_writesSpot_33 : decode cX12_writesSpot 33 = .ok (.bipush 66, 2) := by decide +kernel
theorem dX12_writesSpot_35 : decode cX12_writesSpot 35 = .ok (.goto 5, 3) := by decide +kernel
theorem dX12_writesSpot_38 : decode cX12_writesSpot 38 = .ok (.bipush 85, 2) := by decide +kernel
theorem dX12_writesSpot_40 : decode cX12_writesSpot 40 = .ok (.invokevirtual 279, 3) := by decide +kernel
theorem dX12_writesSpot_43 : decode cX12_writesSpot 43 = .ok (.return_, 1) := by decide +kernel
theorem dX12_writesSpot_44 : decode cX12_writesSpot 44 = .ok (.aload_n 0, 1) := by decide +kernel
theorem dX12_writesSpot_45 : decode cX12_writesSpot 45 = .ok (.iload_n 1, 1) := by decide +kernel
theorem dX12_writesSpot_46 : decode cX12_writesSpot 46 = .ok (.bipush 20, 2) := by decide +kernel
theorem dX12_writesSpot_48 : decode cX12_writesSpot 48 = .ok (.if_icmp .gt 8, 3) := by decide +kernel
theorem dX12_writesSpot_51 : decode cX12_writesSpot 51 = .ok (.bipush 83, 2) := by decide +kernel
theorem dX12_writesSpot_53 : decode cX12_writesSpot 53 = .ok (.goto 16, 3) := by decide +kernel
theorem dX12_writesSpot_56 : decode cX12_writesSpot 56 = .ok (.iload_n 1, 1) := by decide +kernel
theorem dX12_writesSpot_57 : decode cX12_writesSpot 57 = .ok (.bipush 40, 2) := by decide +kernel
theorem dX12_writesSpot_59 : decode cX12_writesSpot 59 = .ok (.if_icmp .gt 8, 3) := by decide +kernel
theorem dX12_writesSpot_62 : decode cX12_writesSpot 62 = .ok (.bipush 68, 2) := by decide +kernel
theorem dX12_writesSpot_64 : decode cX12_writesSpot 64 = .ok (.goto 5, 3) := by decide +kernel
theorem dX12_writesSpot_67 : decode cX12_writesSpot 67 = .ok (.bipush 84, 2) := by decide +kernel
theorem dX12_writesSpot_69 : decode cX12_writesSpot 69 = .ok (.invokevirtual 279, 3) := by decide +kernel
theorem dX12_writesSpot_72 : decode cX12_writesSpot 72 = .ok (.iload_n 2, 1) := by decide +kernel
theorem dX12_writesSpot_73 : decode cX12_writesSpot 73 = .ok (.bipush 9, 2) := by decide +kernel
theorem dX12_writesSpot_75 : decode cX12_writesSpot 75 = .ok (.if_icmp .le 14, 3) := by decide +kernel
theorem dX12_writesSpot_78 : decode cX12_writesSpot 78 = .ok (.aload_n 0, 1) := by decide +kernel
theorem dX12_writesSpot_79 : decode cX12_writesSpot 79 = .ok (.bipush 48, 2) := by decide +kernel
theorem dX12_writesSpot_81 : decode cX12_writesSpot 81 = .ok (.iload_n 2, 1) := by decide +kernel
theorem dX12_writesSpot_82 : decode cX12_writesSpot 82 = .ok (.bipush 10, 2) := by decide +kernel
theorem dX12_writesSpot_84 : decode cX12_writesSpot 84 = .ok (.idiv, 1) := by decide +kernel
theorem dX12_writesSpot_85 : decode cX12_writesSpot 85 = .ok (.iadd, 1) := by decide +kernel
theorem dX12_writesSpot_86 : decode cX12_writesSpot 86 = .ok (.invokevirtual 279, 3) := by decide +kernel
theorem dX12_writesSpot_89 : decode cX12_writesSpot 89 = .ok (.aload_n 0, 1) := by decide +kernel
theorem dX12_writesSpot_90 : decode cX12_writesSpot 90 = .ok (.bipush 48, 2) := by decide +kernel
theorem dX12_writesSpot_92 : decode cX12_writesSpot 92 = .ok (.iload_n 2, 1) := by decide +kernel
theorem dX12_writesSpot_93 : decode cX12_writesSpot 93 = .ok (.bipush 10, 2) := by decide +kernel
theorem dX12_writesSpot_95 : decode cX12_writesSpot 95 = .ok (.irem, 1) := by decide +kernel
theorem dX12_writesSpot_96 : decode cX12_writesSpot 96 = .ok (.iadd, 1) := by decide +kernel
theorem dX12_writesSpot_97 : decode cX12_writesSpot 97 = .ok (.invokevirtual 279, 3) := by decide +kernel
theorem dX12_writesSpot_100 : decode cX12_writesSpot 100 = .ok (.return_, 1) := by decide +kernel
set_option maxRecDepth 20000 in
theorem ggX12_spell_X12_isRest : GoodIn wsX12_spell wsX12_isRest := goodIn_r _ [8, 9, 10, 11, 7, 12, 13, 14, 15, 16, 76, 77, 78, 79, 80, 81, 82, 83, 84, 85, 86, 87, 88, 89, 90, 91, 92, 93, 94, 95, 96, 97, 98, 99, 100, 101, 102, 103, 104, 105, 106, 107, 108, 109, 110, 111, 112, 113, 114, 115] rfl (by decide +kernel)
set_option maxRecDepth 20000 in
theorem gX12_spell_X12_isRest : GoodIn wsX12_spell (wsV RX12 181 RX12 yX12_isRest wsX12_isRest) := goodIn_app (goodIn_of _ (by decide +kernel)) ggX12_spell_X12_isRest
set_option maxRecDepth 20000 in
theorem ggX12_spell_X12_layWay : GoodIn wsX12_spell wsX12_layWay := goodIn_r _ [20, 2, 3, 21, 22, 23, 7, 24, 25, 26, 27, 28, 29, 30, 31, 32, 33, 13, 34, 35, 36, 37, 38, 39, 40, 41, 42, 43, 44, 45, 46, 47, 48, 49, 50, 51, 52, 53, 54, 55, 56, 57, 58, 59, 60, 61, 62, 76, 77, 78, 79, 80, 81, 82, 83, 84, 85, 86, 87, 88, 89, 90, 91, 92, 93, 94, 95, 96, 97, 98, 99, 100, 101, 102, 103, 104, 105, 106, 107, 108, 109, 110, 111, 112, 113, 114, 115] rfl (by decide +kernel)
set_option maxRecDepth 20000 in
theorem gX12_spell_X12_layWay : GoodIn wsX12_spell (wsV RX12 271 RX12 yX12_layWay wsX12_layWay) := goodIn_app (goodIn_of _ (by decide +kernel)) ggX12_spell_X12_layWay
set_option maxRecDepth 20000 in
theorem ggX12_spell_X12_writes : GoodIn wsX12_spell wsX12_writes := goodIn_r _ [66, 67, 1, 76, 77, 78, 79, 80, 81, 82, 83, 84, 85, 86, 87, 88, 89, 90, 91, 92, 93, 94, 95, 96, 97, 98, 99, 100, 101, 102, 103, 104, 105, 106, 107, 108, 109, 110, 111, 112, 113, 114, 115] rfl (by decide +kernel)
set_option maxRecDepth 20000 in
theorem gX12_spell_X12_writes : GoodIn wsX12_spell (wsV RX12 279 RX12 yX12_writes wsX12_writes) := goodIn_app (goodIn_of _ (by decide +kernel)) ggX12_spell_X12_writes
set_option maxRecDepth 20000 in
theorem ggX12_spell_X12_writesSpot : GoodIn wsX12_spell wsX12_writesSpot := goodIn_r _ [71, 72, 73, 7, 74, 75, 14, 15, 16, 63, 64, 65, 66, 67, 1, 76, 77, 78, 79, 80, 81, 82, 83, 84, 85, 86, 87, 88, 89, 90, 91, 92, 93, 94, 95, 96, 97, 98, 99, 100, 101, 102, 103, 104, 105, 106, 107, 108, 109, 110, 111, 112, 113, 114, 115] rfl (by decide +kernel)
set_option maxRecDepth 20000 in
theorem gX12_spell_X12_writesSpot : GoodIn wsX12_spell (wsV RX12 282 RX12 yX12_writesSpot wsX12_writesSpot) := goodIn_app (goodIn_of _ (by decide +kernel)) ggX12_spell_X12_writesSpot
theorem dX12_spell_0 : decode cX12_spell 0 = .ok (.aload_n 0, 1) := by decide +kernel
theorem dX12_spell_1 : decode cX12_spell 1 = .ok (.iload_n 1, 1) := by decide +kernel
theorem dX12_spell_2 : decode cX12_spell 2 = .ok (.sipush 180, 3) := by decide +kernel
theorem dX12_spell_5 : decode cX12_spell 5 = .ok (.invokevirtual 181, 3) := by decide +kernel
theorem dX12_spell_8 : decode cX12_spell 8 = .ok (.ifCond .eq 12, 3) := by decide +kernel
theorem dX12_spell_11 : decode cX12_spell 11 = .ok (.aload_n 0, 1) := by decide +kernel
theorem dX12_spell_12 : decode cX12_spell 12 = .ok (.iload_n 1, 1) := by decide +kernel
theorem dX12_spell_13 : decode cX12_spell 13 = .ok (.iload_n 2, 1) := by decide +kernel
theorem dX12_spell_14 : decode cX12_spell 14 = .ok (.invokevirtual 271, 3) := by decide +kernel
theorem dX12_spell_17 : decode cX12_spell 17 = .ok (.ifCond .ne 5, 3) := by decide +kernel
theorem dX12_spell_20 : decode cX12_spell 20 = .ok (.iconst (-1), 1) := by decide +kernel
theorem dX12_spell_21 : decode cX12_spell 21 = .ok (.ireturn, 1) := by decide +kernel
theorem dX12_spell_22 : decode cX12_spell 22 = .ok (.aload_n 0, 1) := by decide +kernel
theorem dX12_spell_23 : decode cX12_spell 23 = .ok (.iconst 0, 1) := by decide +kernel
theorem dX12_spell_24 : decode cX12_spell 24 = .ok (.putfield 276, 3) := by decide +kernel
theorem dX12_spell_27 : decode cX12_spell 27 = .ok (.iconst 0, 1) := by decide +kernel
theorem dX12_spell_28 : decode cX12_spell 28 = .ok (.istore_n 3, 1) := by decide +kernel
theorem dX12_spell_29 : decode cX12_spell 29 = .ok (.iload_n 3, 1) := by decide +kernel
theorem dX12_spell_30 : decode cX12_spell 30 = .ok (.aload_n 0, 1) := by decide +kernel
theorem dX12_spell_31 : decode cX12_spell 31 = .ok (.getfield 265, 3) := by decide +kernel
theorem dX12_spell_34 : decode cX12_spell 34 = .ok (.if_icmp .ge 29, 3) := by decide +kernel
theorem dX12_spell_37 : decode cX12_spell 37 = .ok (.iload_n 3, 1) := by decide +kernel
theorem dX12_spell_38 : decode cX12_spell 38 = .ok (.ifCond .le 9, 3) := by decide +kernel
theorem dX12_spell_41 : decode cX12_spell 41 = .ok (.aload_n 0, 1) := by decide +kernel
theorem dX12_spell_42 : decode cX12_spell 42 = .ok (.bipush 32, 2) := by decide +kernel
theorem dX12_spell_44 : decode cX12_spell 44 = .ok (.invokevirtual 279, 3) := by decide +kernel
theorem dX12_spell_47 : decode cX12_spell 47 = .ok (.aload_n 0, 1) := by decide +kernel
theorem dX12_spell_48 : decode cX12_spell 48 = .ok (.aload_n 0, 1) := by decide +kernel
theorem dX12_spell_49 : decode cX12_spell 49 = .ok (.getfield 75, 3) := by decide +kernel
theorem dX12_spell_52 : decode cX12_spell 52 = .ok (.iload_n 3, 1) := by decide +kernel
theorem dX12_spell_53 : decode cX12_spell 53 = .ok (.iaload, 1) := by decide +kernel
theorem dX12_spell_54 : decode cX12_spell 54 = .ok (.invokevirtual 282, 3) := by decide +kernel
theorem dX12_spell_57 : decode cX12_spell 57 = .ok (.iinc 3 1, 3) := by decide +kernel
theorem dX12_spell_60 : decode cX12_spell 60 = .ok (.goto (-31), 3) := by decide +kernel
theorem dX12_spell_63 : decode cX12_spell 63 = .ok (.aload_n 0, 1) := by decide +kernel
theorem dX12_spell_64 : decode cX12_spell 64 = .ok (.getfield 276, 3) := by decide +kernel
theorem dX12_spell_67 : decode cX12_spell 67 = .ok (.ireturn, 1) := by decide +kernel
set_option maxRecDepth 20000 in
theorem ggX12_paper_X12_in : GoodIn wsX12_paper wsX12_in := goodIn_r _ [6] rfl (by decide +kernel)
set_option maxRecDepth 20000 in
theorem gX12_paper_X12_in : GoodIn wsX12_paper (va_wsS RX12 108 yX12_in wsX12_in) := goodIn_app (goodIn_of _ (by decide +kernel)) ggX12_paper_X12_in
theorem dX12_paper_0 : decode cX12_paper 0 = .ok (.iload_n 1, 1) := by decide +kernel
theorem dX12_paper_1 : decode cX12_paper 1 = .ok (.i2l, 1) := by decide +kernel
theorem dX12_paper_2 : decode cX12_paper 2 = .ok (.lconst 0, 1) := by decide +kernel
theorem dX12_paper_3 : decode cX12_paper 3 = .ok (.aload_n 0, 1) := by decide +kernel
theorem dX12_paper_4 : decode cX12_paper 4 = .ok (.getfield 276, 3) := by decide +kernel
theorem dX12_paper_7 : decode cX12_paper 7 = .ok (.iconst 1, 1) := by decide +kernel
theorem dX12_paper_8 : decode cX12_paper 8 = .ok (.isub, 1) := by decide +kernel
theorem dX12_paper_9 : decode cX12_paper 9 = .ok (.i2l, 1) := by decide +kernel
theorem dX12_paper_10 : decode cX12_paper 10 = .ok (.invokestatic 108, 3) := by decide +kernel
theorem dX12_paper_13 : decode cX12_paper 13 = .ok (.ifCond .eq 12, 3) := by decide +kernel
theorem dX12_paper_16 : decode cX12_paper 16 = .ok (.aload_n 0, 1) := by decide +kernel
theorem dX12_paper_17 : decode cX12_paper 17 = .ok (.getfield 81, 3) := by decide +kernel
theorem dX12_paper_20 : decode cX12_paper 20 = .ok (.iload_n 1, 1) := by decide +kernel
theorem dX12_paper_21 : decode cX12_paper 21 = .ok (.iaload, 1) := by decide +kernel
theorem dX12_paper_22 : decode cX12_paper 22 = .ok (.goto 4, 3) := by decide +kernel
theorem dX12_paper_25 : decode cX12_paper 25 = .ok (.iconst (-1), 1) := by decide +kernel
theorem dX12_paper_26 : decode cX12_paper 26 = .ok (.ireturn, 1) := by decide +kernel
set_option maxRecDepth 20000 in
theorem ggX12_beginsLeg_X12_beginsVisit : GoodIn wsX12_beginsLeg wsX12_beginsVisit := goodIn_r _ [6, 1, 7, 8, 9, 10, 11, 12, 13, 14, 15, 16, 17, 18, 19, 20, 21, 22, 23, 24, 25, 26, 27, 28, 29, 30, 31, 32, 33, 34, 35, 36, 37, 38, 39, 40, 41, 42, 43, 44, 45, 46] rfl (by decide +kernel)
set_option maxRecDepth 20000 in
theorem gX12_beginsLeg_X12_beginsVisit : GoodIn wsX12_beginsLeg (wsV RX12 285 RX12 yX12_beginsVisit wsX12_beginsVisit) := goodIn_app (goodIn_of _ (by decide +kernel)) ggX12_beginsLeg_X12_beginsVisit
theorem dX12_beginsLeg_0 : decode cX12_beginsLeg 0 = .ok (.aload_n 0, 1) := by decide +kernel
theorem dX12_beginsLeg_1 : decode cX12_beginsLeg 1 = .ok (.getfield 13, 3) := by decide +kernel
theorem dX12_beginsLeg_4 : decode cX12_beginsLeg 4 = .ok (.iconst 4, 1) := by decide +kernel
theorem dX12_beginsLeg_5 : decode cX12_beginsLeg 5 = .ok (.aload_n 0, 1) := by decide +kernel
theorem dX12_beginsLeg_6 : decode cX12_beginsLeg 6 = .ok (.getfield 13, 3) := by decide +kernel
theorem dX12_beginsLeg_9 : decode cX12_beginsLeg 9 = .ok (.bipush 13, 2) := by decide +kernel
theorem dX12_beginsLeg_11 : decode cX12_beginsLeg 11 = .ok (.iaload, 1) := by decide +kernel
theorem dX12_beginsLeg_12 : decode cX12_beginsLeg 12 = .ok (.iastore, 1) := by decide +kernel
theorem dX12_beginsLeg_13 : decode cX12_beginsLeg 13 = .ok (.aload_n 0, 1) := by decide +kernel
theorem dX12_beginsLeg_14 : decode cX12_beginsLeg 14 = .ok (.getfield 13, 3) := by decide +kernel
theorem dX12_beginsLeg_17 : decode cX12_beginsLeg 17 = .ok (.iconst 5, 1) := by decide +kernel
theorem dX12_beginsLeg_18 : decode cX12_beginsLeg 18 = .ok (.aload_n 0, 1) := by decide +kernel
theorem dX12_beginsLeg_19 : decode cX12_beginsLeg 19 = .ok (.getfield 13, 3) := by decide +kernel
theorem dX12_beginsLeg_22 : decode cX12_beginsLeg 22 = .ok (.bipush 13, 2) := by decide +kernel
theorem dX12_beginsLeg_24 : decode cX12_beginsLeg 24 = .ok (.iaload, 1) := by decide +kernel
theorem dX12_beginsLeg_25 : decode cX12_beginsLeg 25 = .ok (.iastore, 1) := by decide +kernel
theorem dX12_beginsLeg_26 : decode cX12_beginsLeg 26 = .ok (.aload_n 0, 1) := by decide +kernel
theorem dX12_beginsLeg_27 : decode cX12_beginsLeg 27 = .ok (.getfield 13, 3) := by decide +kernel
theorem dX12_beginsLeg_30 : decode cX12_beginsLeg 30 = .ok (.bipush 14, 2) := by decide +kernel
theorem dX12_beginsLeg_32 : decode cX12_beginsLeg 32 = .ok (.iload_n 1, 1) := by decide +kernel
theorem dX12_beginsLeg_33 : decode cX12_beginsLeg 33 = .ok (.iastore, 1) := by decide +kernel
theorem dX12_beginsLeg_34 : decode cX12_beginsLeg 34 = .ok (.aload_n 0, 1) := by decide +kernel
theorem dX12_beginsLeg_35 : decode cX12_beginsLeg 35 = .ok (.iload_n 1, 1) := by decide +kernel
theorem dX12_beginsLeg_36 : decode cX12_beginsLeg 36 = .ok (.invokevirtual 285, 3) := by decide +kernel
theorem dX12_beginsLeg_39 : decode cX12_beginsLeg 39 = .ok (.return_, 1) := by decide +kernel
theorem dX12_beginsVisit_0 : decode cX12_beginsVisit 0 = .ok (.aload_n 0, 1) := by decide +kernel
theorem dX12_beginsVisit_1 : decode cX12_beginsVisit 1 = .ok (.getfield 13, 3) := by decide +kernel
theorem dX12_beginsVisit_4 : decode cX12_beginsVisit 4 = .ok (.bipush 15, 2) := by decide +kernel
theorem dX12_beginsVisit_6 : decode cX12_beginsVisit 6 = .ok (.iload_n 1, 1) := by decide +kernel
theorem dX12_beginsVisit_7 : decode cX12_beginsVisit 7 = .ok (.iastore, 1) := by decide +kernel
theorem dX12_beginsVisit_8 : decode cX12_beginsVisit 8 = .ok (.aload_n 0, 1) := by decide +kernel
theorem dX12_beginsVisit_9 : decode cX12_beginsVisit 9 = .ok (.getfield 13, 3) := by decide +kernel
theorem dX12_beginsVisit_12 : decode cX12_beginsVisit 12 = .ok (.bipush 16, 2) := by decide +kernel
theorem dX12_beginsVisit_14 : decode cX12_beginsVisit 14 = .ok (.iconst 3, 1) := by decide +kernel
theorem dX12_beginsVisit_15 : decode cX12_beginsVisit 15 = .ok (.iastore, 1) := by decide +kernel
theorem dX12_beginsVisit_16 : decode cX12_beginsVisit 16 = .ok (.aload_n 0, 1) := by decide +kernel
theorem dX12_beginsVisit_17 : decode cX12_beginsVisit 17 = .ok (.getfield 13, 3) := by decide +kernel
theorem dX12_beginsVisit_20 : decode cX12_beginsVisit 20 = .ok (.bipush 17, 2) := by decide +kernel
theorem dX12_beginsVisit_22 : decode cX12_beginsVisit 22 = .ok (.aload_n 0, 1) := by decide +kernel
theorem dX12_beginsVisit_23 : decode cX12_beginsVisit 23 = .ok (.getfield 13, 3) := by decide +kernel
theorem dX12_beginsVisit_26 : decode cX12_beginsVisit 26 = .ok (.iconst 4, 1) := by decide +kernel
theorem dX12_beginsVisit_27 : decode cX12_beginsVisit 27 = .ok (.iload_n 1, 1) := by decide +kernel
theorem dX12_beginsVisit_28 : decode cX12_beginsVisit 28 = .ok (.iadd, 1) := by decide +kernel
theorem dX12_beginsVisit_29 : decode cX12_beginsVisit 29 = .ok (.iaload, 1) := by decide +kernel
theorem dX12_beginsVisit_30 : decode cX12_beginsVisit 30 = .ok (.iastore, 1) := by decide +kernel
theorem dX12_beginsVisit_31 : decode cX12_beginsVisit 31 = .ok (.return_, 1) := by decide +kernel
set_option maxRecDepth 20000 in
theorem ggX12_start_X12_in : GoodIn wsX12_start wsX12_in := goodIn_r _ [7] rfl (by decide +kernel)
set_option maxRecDepth 20000 in
theorem gX12_start_X12_in : GoodIn wsX12_start (va_wsS RX12 108 yX12_in wsX12_in) := goodIn_app (goodIn_of _ (by decide +kernel)) ggX12_start_X12_in
set_option maxRecDepth 20000 in
theorem ggX12_start_X12_beginsLeg : GoodIn wsX12_start wsX12_beginsLeg := goodIn_r _ [11, 3, 12, 13, 14, 6, 15, 16, 17, 18, 19, 20, 21, 22, 23, 24, 25, 26, 27, 28, 29, 30, 31, 32, 33, 34, 35, 36, 37, 38, 39, 40, 41, 42, 43, 44, 45, 46, 47, 48, 49, 50, 51, 52, 53, 54, 55] rfl (by decide +kernel)
set_option maxRecDepth 20000 in
theorem gX12_start_X12_beginsLeg : GoodIn wsX12_start (wsV RX12 288 RX12 yX12_beginsLeg wsX12_beginsLeg) := goodIn_app (goodIn_of _ (by decide +kernel)) ggX12_start_X12_beginsLeg
theorem dX12_start_0 : decode cX12_start 0 = .ok (.iload_n 1, 1) := by decide +kernel
theorem dX12_start_1 : decode cX12_start 1 = .ok (.i2l, 1) := by decide +kernel
theorem dX12_start_2 : decode cX12_start 2 = .ok (.ldc2_w 149, 3) := by decide +kernel
theorem dX12_start_5 : decode cX12_start 5 = .ok (.ldc2_w 151, 3) := by decide +kernel
theorem dX12_start_8 : decode cX12_start 8 = .ok (.invokestatic 108, 3) := by decide +kernel
theorem dX12_start_11 : decode cX12_start 11 = .ok (.ifCond .ne 6, 3) := by decide +kernel
theorem dX12_start_14 : decode cX12_start 14 = .ok (.bipush (-2), 2) := by decide +kernel
theorem dX12_start_16 : decode cX12_start 16 = .ok (.ireturn, 1) := by decide +kernel
theorem dX12_start_17 : decode cX12_start 17 = .ok (.aload_n 0, 1) := by decide +kernel
theorem dX12_start_18 : decode cX12_start 18 = .ok (.getfield 13, 3) := by decide +kernel
theorem dX12_start_21 : decode cX12_start 21 = .ok (.bipush 13, 2) := by decide +kernel
theorem dX12_start_23 : decode cX12_start 23 = .ok (.iaload, 1) := by decide +kernel
theorem dX12_start_24 : decode cX12_start 24 = .ok (.istore_n 2, 1) := by decide +kernel
theorem dX12_start_25 : decode cX12_start 25 = .ok (.aload_n 0, 1) := by decide +kernel
theorem dX12_start_26 : decode cX12_start 26 = .ok (.getfield 13, 3) := by decide +kernel
theorem dX12_start_29 : decode cX12_start 29 = .ok (.bipush 13, 2) := by decide +kernel
theorem dX12_start_31 : decode cX12_start 31 = .ok (.iload_n 1, 1) := by decide +kernel
theorem dX12_start_32 : decode cX12_start 32 = .ok (.iastore, 1) := by decide +kernel
theorem dX12_start_33 : decode cX12_start 33 = .ok (.aload_n 0, 1) := by decide +kernel
theorem dX12_start_34 : decode cX12_start 34 = .ok (.aload_n 0, 1) := by decide +kernel
theorem dX12_start_35 : decode cX12_start 35 = .ok (.getfield 13, 3) := by decide +kernel
theorem dX12_start_38 : decode cX12_start 38 = .ok (.bipush 14, 2) := by decide +kernel
theorem dX12_start_40 : decode cX12_start 40 = .ok (.iaload, 1) := by decide +kernel
theorem dX12_start_41 : decode cX12_start 41 = .ok (.invokevirtual 288, 3) := by decide +kernel
theorem dX12_start_44 : decode cX12_start 44 = .ok (.iload_n 2, 1) := by decide +kernel
theorem dX12_start_45 : decode cX12_start 45 = .ok (.ireturn, 1) := by decide +kernel
set_option maxRecDepth 20000 in
theorem ggX12_fallsUpon_X12_nextRest : GoodIn wsX12_fallsUpon wsX12_nextRest := goodIn_r _ [6, 1, 7, 8, 5, 9, 10, 11, 12, 13, 14, 15, 24, 25, 26, 27, 28, 29, 30, 31, 32, 33, 34, 35, 36, 37, 38, 39, 40, 41, 42, 43, 44, 45, 46, 47, 48, 49, 50, 51, 52, 53, 54, 55, 56, 57, 58, 59, 60, 61, 62, 63] rfl (by decide +kernel)
set_option maxRecDepth 20000 in
theorem gX12_fallsUpon_X12_nextRest : GoodIn wsX12_fallsUpon (wsV RX12 153 RX12 yX12_nextRest wsX12_nextRest) := goodIn_app (goodIn_of _ (by decide +kernel)) ggX12_fallsUpon_X12_nextRest
set_option maxRecDepth 20000 in
theorem ggX12_fallsUpon_X12_beginsVisit : GoodIn wsX12_fallsUpon wsX12_beginsVisit := goodIn_r _ [19, 1, 24, 25, 26, 27, 28, 29, 30, 31, 32, 33, 34, 35, 36, 37, 38, 39, 40, 41, 42, 43, 44, 45, 46, 47, 48, 49, 50, 51, 52, 53, 54, 55, 56, 57, 58, 59, 60, 61, 62, 63] rfl (by decide +kernel)
set_option maxRecDepth 20000 in
theorem gX12_fallsUpon_X12_beginsVisit : GoodIn wsX12_fallsUpon (wsV RX12 285 RX12 yX12_beginsVisit wsX12_beginsVisit) := goodIn_app (goodIn_of _ (by decide +kernel)) ggX12_fallsUpon_X12_beginsVisit
set_option maxRecDepth 20000 in
theorem ggX12_fallsUpon_X12_beginsLeg : GoodIn wsX12_fallsUpon wsX12_beginsLeg := goodIn_r _ [23, 1, 16, 17, 18, 5, 19, 24, 25, 26, 27, 28, 29, 30, 31, 32, 33, 34, 35, 36, 37, 38, 39, 40, 41, 42, 43, 44, 45, 46, 47, 48, 49, 50, 51, 52, 53, 54, 55, 56, 57, 58, 59, 60, 61, 62, 63] rfl (by decide +kernel)
set_option maxRecDepth 20000 in
theorem gX12_fallsUpon_X12_beginsLeg : GoodIn wsX12_fallsUpon (wsV RX12 288 RX12 yX12_beginsLeg wsX12_beginsLeg) := goodIn_app (goodIn_of _ (by decide +kernel)) ggX12_fallsUpon_X12_beginsLeg
