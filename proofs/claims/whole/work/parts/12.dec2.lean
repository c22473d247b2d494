theorem dX10_faultOfPath_0 : decode cX10_faultOfPath 0 = .ok (.aload_n 0, 1) := by decide +kernel
theorem dX10_faultOfPath_1 : decode cX10_faultOfPath 1 = .ok (.iconst 0, 1) := by decide +kernel
theorem dX10_faultOfPath_2 : decode cX10_faultOfPath 2 = .ok (.putfield 26, 3) := by decide +kernel
theorem dX10_faultOfPath_5 : decode cX10_faultOfPath 5 = .ok (.aload_n 0, 1) := by decide +kernel
theorem dX10_faultOfPath_6 : decode cX10_faultOfPath 6 = .ok (.iconst 0, 1) := by decide +kernel
theorem dX10_faultOfPath_7 : decode cX10_faultOfPath 7 = .ok (.putfield 29, 3) := by decide +kernel
theorem dX10_faultOfPath_10 : decode cX10_faultOfPath 10 = .ok (.iconst 0, 1) := by decide +kernel
theorem dX10_faultOfPath_11 : decode cX10_faultOfPath 11 = .ok (.istore_n 1, 1) := by decide +kernel
theorem dX10_faultOfPath_12 : decode cX10_faultOfPath 12 = .ok (.iload_n 1, 1) := by decide +kernel
theorem dX10_faultOfPath_13 : decode cX10_faultOfPath 13 = .ok (.bipush 12, 2) := by decide +kernel
theorem dX10_faultOfPath_15 : decode cX10_faultOfPath 15 = .ok (.if_icmp .ge 63, 3) := by decide +kernel
theorem dX10_faultOfPath_18 : decode cX10_faultOfPath 18 = .ok (.aload_n 0, 1) := by decide +kernel
theorem dX10_faultOfPath_19 : decode cX10_faultOfPath 19 = .ok (.invokevirtual 32, 3) := by decide +kernel
theorem dX10_faultOfPath_22 : decode cX10_faultOfPath 22 = .ok (.istore_n 2, 1) := by decide +kernel
theorem dX10_faultOfPath_23 : decode cX10_faultOfPath 23 = .ok (.iload_n 2, 1) := by decide +kernel
theorem dX10_faultOfPath_24 : decode cX10_faultOfPath 24 = .ok (.iconst (-1), 1) := by decide +kernel
theorem dX10_faultOfPath_25 : decode cX10_faultOfPath 25 = .ok (.if_icmp .eq 5, 3) := by decide +kernel
theorem dX10_faultOfPath_28 : decode cX10_faultOfPath 28 = .ok (.iload_n 2, 1) := by decide +kernel
theorem dX10_faultOfPath_29 : decode cX10_faultOfPath 29 = .ok (.ireturn, 1) := by decide +kernel
theorem dX10_faultOfPath_30 : decode cX10_faultOfPath 30 = .ok (.aload_n 0, 1) := by decide +kernel
theorem dX10_faultOfPath_31 : decode cX10_faultOfPath 31 = .ok (.getfield 26, 3) := by decide +kernel
theorem dX10_faultOfPath_34 : decode cX10_faultOfPath 34 = .ok (.aload_n 0, 1) := by decide +kernel
theorem dX10_faultOfPath_35 : decode cX10_faultOfPath 35 = .ok (.getfield 18, 3) := by decide +kernel
theorem dX10_faultOfPath_38 : decode cX10_faultOfPath 38 = .ok (.if_icmp .lt 5, 3) := by decide +kernel
theorem dX10_faultOfPath_41 : decode cX10_faultOfPath 41 = .ok (.iconst (-1), 1) := by decide +kernel
theorem dX10_faultOfPath_42 : decode cX10_faultOfPath 42 = .ok (.ireturn, 1) := by decide +kernel
theorem dX10_faultOfPath_43 : decode cX10_faultOfPath 43 = .ok (.aload_n 0, 1) := by decide +kernel
theorem dX10_faultOfPath_44 : decode cX10_faultOfPath 44 = .ok (.getfield 11, 3) := by decide +kernel
theorem dX10_faultOfPath_47 : decode cX10_faultOfPath 47 = .ok (.aload_n 0, 1) := by decide +kernel
theorem dX10_faultOfPath_48 : decode cX10_faultOfPath 48 = .ok (.getfield 26, 3) := by decide +kernel
theorem dX10_faultOfPath_51 : decode cX10_faultOfPath 51 = .ok (.iaload, 1) := by decide +kernel
theorem dX10_faultOfPath_52 : decode cX10_faultOfPath 52 = .ok (.bipush 32, 2) := by decide +kernel
theorem dX10_faultOfPath_54 : decode cX10_faultOfPath 54 = .ok (.if_icmp .eq 8, 3) := by decide +kernel
theorem dX10_faultOfPath_57 : decode cX10_faultOfPath 57 = .ok (.aload_n 0, 1) := by decide +kernel
theorem dX10_faultOfPath_58 : decode cX10_faultOfPath 58 = .ok (.getfield 26, 3) := by decide +kernel
theorem dX10_faultOfPath_61 : decode cX10_faultOfPath 61 = .ok (.ireturn, 1) := by decide +kernel
theorem dX10_faultOfPath_62 : decode cX10_faultOfPath 62 = .ok (.aload_n 0, 1) := by decide +kernel
theorem dX10_faultOfPath_63 : decode cX10_faultOfPath 63 = .ok (.dup, 1) := by decide +kernel
theorem dX10_faultOfPath_64 : decode cX10_faultOfPath 64 = .ok (.getfield 26, 3) := by decide +kernel
theorem dX10_faultOfPath_67 : decode cX10_faultOfPath 67 = .ok (.iconst 1, 1) := by decide +kernel
theorem dX10_faultOfPath_68 : decode cX10_faultOfPath 68 = .ok (.iadd, 1) := by decide +kernel
theorem dX10_faultOfPath_69 : decode cX10_faultOfPath 69 = .ok (.putfield 26, 3) := by decide +kernel
theorem dX10_faultOfPath_72 : decode cX10_faultOfPath 72 = .ok (.iinc 1 1, 3) := by decide +kernel
theorem dX10_faultOfPath_75 : decode cX10_faultOfPath 75 = .ok (.goto (-63), 3) := by decide +kernel
theorem dX10_faultOfPath_78 : decode cX10_faultOfPath 78 = .ok (.aload_n 0, 1) := by decide +kernel
theorem dX10_faultOfPath_79 : decode cX10_faultOfPath 79 = .ok (.getfield 26, 3) := by decide +kernel
theorem dX10_faultOfPath_82 : decode cX10_faultOfPath 82 = .ok (.iconst 1, 1) := by decide +kernel
theorem dX10_faultOfPath_83 : decode cX10_faultOfPath 83 = .ok (.isub, 1) := by decide +kernel
theorem dX10_faultOfPath_84 : decode cX10_faultOfPath 84 = .ok (.ireturn, 1) := by decide +kernel
set_option maxRecDepth 20000 in
theorem ggX10_faultOfSpot_X10_take : GoodIn wsX10_faultOfSpot wsX10_take := goodIn_r _ [8, 1, 9, 10, 22, 23, 24, 25, 26] rfl (by decide +kernel)
set_option maxRecDepth 20000 in
theorem gX10_faultOfSpot_X10_take : GoodIn wsX10_faultOfSpot (wsV RX10 35 RX10 yX10_take wsX10_take) := goodIn_app (goodIn_of _ (by decide +kernel)) ggX10_faultOfSpot_X10_take
set_option maxRecDepth 20000 in
theorem ggX10_faultOfSpot_X10_faultOfPair : GoodIn wsX10_faultOfSpot wsX10_faultOfPair := goodIn_r _ [14, 1, 2, 3, 4, 5, 6, 7, 8, 9, 10, 22, 23, 24, 25, 26] rfl (by decide +kernel)
set_option maxRecDepth 20000 in
theorem gX10_faultOfSpot_X10_faultOfPair : GoodIn wsX10_faultOfSpot (wsV RX10 39 RX10 yX10_faultOfPair wsX10_faultOfPair) := goodIn_app (goodIn_of _ (by decide +kernel)) ggX10_faultOfSpot_X10_faultOfPair
set_option maxRecDepth 20000 in
theorem ggX10_faultOfSpot_X10_faultOfNumber : GoodIn wsX10_faultOfSpot wsX10_faultOfNumber := goodIn_r _ [18, 1, 2, 3, 19, 20, 7, 21, 4, 5, 6, 8, 9, 10, 22, 23, 24, 25, 26] rfl (by decide +kernel)
set_option maxRecDepth 20000 in
theorem gX10_faultOfSpot_X10_faultOfNumber : GoodIn wsX10_faultOfSpot (wsV RX10 42 RX10 yX10_faultOfNumber wsX10_faultOfNumber) := goodIn_app (goodIn_of _ (by decide +kernel)) ggX10_faultOfSpot_X10_faultOfNumber
theorem dX10_faultOfSpot_0 : decode cX10_faultOfSpot 0 = .ok (.aload_n 0, 1) := by decide +kernel
theorem dX10_faultOfSpot_1 : decode cX10_faultOfSpot 1 = .ok (.getfield 26, 3) := by decide +kernel
theorem dX10_faultOfSpot_4 : decode cX10_faultOfSpot 4 = .ok (.aload_n 0, 1) := by decide +kernel
theorem dX10_faultOfSpot_5 : decode cX10_faultOfSpot 5 = .ok (.getfield 18, 3) := by decide +kernel
theorem dX10_faultOfSpot_8 : decode cX10_faultOfSpot 8 = .ok (.if_icmp .lt 8, 3) := by decide +kernel
theorem dX10_faultOfSpot_11 : decode cX10_faultOfSpot 11 = .ok (.aload_n 0, 1) := by decide +kernel
theorem dX10_faultOfSpot_12 : decode cX10_faultOfSpot 12 = .ok (.getfield 18, 3) := by decide +kernel
theorem dX10_faultOfSpot_15 : decode cX10_faultOfSpot 15 = .ok (.ireturn, 1) := by decide +kernel
theorem dX10_faultOfSpot_16 : decode cX10_faultOfSpot 16 = .ok (.aload_n 0, 1) := by decide +kernel
theorem dX10_faultOfSpot_17 : decode cX10_faultOfSpot 17 = .ok (.getfield 11, 3) := by decide +kernel
theorem dX10_faultOfSpot_20 : decode cX10_faultOfSpot 20 = .ok (.aload_n 0, 1) := by decide +kernel
theorem dX10_faultOfSpot_21 : decode cX10_faultOfSpot 21 = .ok (.getfield 26, 3) := by decide +kernel
theorem dX10_faultOfSpot_24 : decode cX10_faultOfSpot 24 = .ok (.iaload, 1) := by decide +kernel
theorem dX10_faultOfSpot_25 : decode cX10_faultOfSpot 25 = .ok (.lookupswitch 104 #[(45, 59), (66, 75), (68, 90), (79, 66), (83, 84), (84, 97)], 59) := by decide +kernel
theorem dX10_faultOfSpot_84 : decode cX10_faultOfSpot 84 = .ok (.aload_n 0, 1) := by decide +kernel
theorem dX10_faultOfSpot_85 : decode cX10_faultOfSpot 85 = .ok (.iconst 1, 1) := by decide +kernel
theorem dX10_faultOfSpot_86 : decode cX10_faultOfSpot 86 = .ok (.iconst 0, 1) := by decide +kernel
theorem dX10_faultOfSpot_87 : decode cX10_faultOfSpot 87 = .ok (.invokevirtual 35, 3) := by decide +kernel
theorem dX10_faultOfSpot_90 : decode cX10_faultOfSpot 90 = .ok (.ireturn, 1) := by decide +kernel
theorem dX10_faultOfSpot_91 : decode cX10_faultOfSpot 91 = .ok (.aload_n 0, 1) := by decide +kernel
theorem dX10_faultOfSpot_92 : decode cX10_faultOfSpot 92 = .ok (.bipush 66, 2) := by decide +kernel
theorem dX10_faultOfSpot_94 : decode cX10_faultOfSpot 94 = .ok (.bipush 61, 2) := by decide +kernel
theorem dX10_faultOfSpot_96 : decode cX10_faultOfSpot 96 = .ok (.invokevirtual 39, 3) := by decide +kernel
theorem dX10_faultOfSpot_99 : decode cX10_faultOfSpot 99 = .ok (.ireturn, 1) := by decide +kernel
theorem dX10_faultOfSpot_100 : decode cX10_faultOfSpot 100 = .ok (.aload_n 0, 1) := by decide +kernel
theorem dX10_faultOfSpot_101 : decode cX10_faultOfSpot 101 = .ok (.bipush 85, 2) := by decide +kernel
theorem dX10_faultOfSpot_103 : decode cX10_faultOfSpot 103 = .ok (.bipush 62, 2) := by decide +kernel
theorem dX10_faultOfSpot_105 : decode cX10_faultOfSpot 105 = .ok (.invokevirtual 39, 3) := by decide +kernel
theorem dX10_faultOfSpot_108 : decode cX10_faultOfSpot 108 = .ok (.ireturn, 1) := by decide +kernel
theorem dX10_faultOfSpot_109 : decode cX10_faultOfSpot 109 = .ok (.aload_n 0, 1) := by decide +kernel
theorem dX10_faultOfSpot_110 : decode cX10_faultOfSpot 110 = .ok (.iconst 0, 1) := by decide +kernel
theorem dX10_faultOfSpot_111 : decode cX10_faultOfSpot 111 = .ok (.invokevirtual 42, 3) := by decide +kernel
theorem dX10_faultOfSpot_114 : decode cX10_faultOfSpot 114 = .ok (.ireturn, 1) := by decide +kernel
theorem dX10_faultOfSpot_115 : decode cX10_faultOfSpot 115 = .ok (.aload_n 0, 1) := by decide +kernel
theorem dX10_faultOfSpot_116 : decode cX10_faultOfSpot 116 = .ok (.bipush 20, 2) := by decide +kernel
theorem dX10_faultOfSpot_118 : decode cX10_faultOfSpot 118 = .ok (.invokevirtual 42, 3) := by decide +kernel
theorem dX10_faultOfSpot_121 : decode cX10_faultOfSpot 121 = .ok (.ireturn, 1) := by decide +kernel
theorem dX10_faultOfSpot_122 : decode cX10_faultOfSpot 122 = .ok (.aload_n 0, 1) := by decide +kernel
theorem dX10_faultOfSpot_123 : decode cX10_faultOfSpot 123 = .ok (.bipush 40, 2) := by decide +kernel
theorem dX10_faultOfSpot_125 : decode cX10_faultOfSpot 125 = .ok (.invokevirtual 42, 3) := by decide +kernel
theorem dX10_faultOfSpot_128 : decode cX10_faultOfSpot 128 = .ok (.ireturn, 1) := by decide +kernel
theorem dX10_faultOfSpot_129 : decode cX10_faultOfSpot 129 = .ok (.aload_n 0, 1) := by decide +kernel
theorem dX10_faultOfSpot_130 : decode cX10_faultOfSpot 130 = .ok (.getfield 26, 3) := by decide +kernel
theorem dX10_faultOfSpot_133 : decode cX10_faultOfSpot 133 = .ok (.ireturn, 1) := by decide +kernel
set_option maxRecDepth 20000 in
theorem ggX10_faultOfPair_X10_take : GoodIn wsX10_faultOfPair wsX10_take := goodIn_r _ [8, 1, 9, 10, 11, 12, 13, 14, 15] rfl (by decide +kernel)
set_option maxRecDepth 20000 in
theorem gX10_faultOfPair_X10_take : GoodIn wsX10_faultOfPair (wsV RX10 35 RX10 yX10_take wsX10_take) := goodIn_app (goodIn_of _ (by decide +kernel)) ggX10_faultOfPair_X10_take
theorem dX10_faultOfPair_0 : decode cX10_faultOfPair 0 = .ok (.aload_n 0, 1) := by decide +kernel
theorem dX10_faultOfPair_1 : decode cX10_faultOfPair 1 = .ok (.getfield 26, 3) := by decide +kernel
theorem dX10_faultOfPair_4 : decode cX10_faultOfPair 4 = .ok (.iconst 1, 1) := by decide +kernel
theorem dX10_faultOfPair_5 : decode cX10_faultOfPair 5 = .ok (.iadd, 1) := by decide +kernel
theorem dX10_faultOfPair_6 : decode cX10_faultOfPair 6 = .ok (.aload_n 0, 1) := by decide +kernel
theorem dX10_faultOfPair_7 : decode cX10_faultOfPair 7 = .ok (.getfield 18, 3) := by decide +kernel
theorem dX10_faultOfPair_10 : decode cX10_faultOfPair 10 = .ok (.if_icmp .ge 18, 3) := by decide +kernel
theorem dX10_faultOfPair_13 : decode cX10_faultOfPair 13 = .ok (.aload_n 0, 1) := by decide +kernel
theorem dX10_faultOfPair_14 : decode cX10_faultOfPair 14 = .ok (.getfield 11, 3) := by decide +kernel
theorem dX10_faultOfPair_17 : decode cX10_faultOfPair 17 = .ok (.aload_n 0, 1) := by decide +kernel
theorem dX10_faultOfPair_18 : decode cX10_faultOfPair 18 = .ok (.getfield 26, 3) := by decide +kernel
theorem dX10_faultOfPair_21 : decode cX10_faultOfPair 21 = .ok (.iconst 1, 1) := by decide +kernel
theorem dX10_faultOfPair_22 : decode cX10_faultOfPair 22 = .ok (.iadd, 1) := by decide +kernel
theorem dX10_faultOfPair_23 : decode cX10_faultOfPair 23 = .ok (.iaload, 1) := by decide +kernel
theorem dX10_faultOfPair_24 : decode cX10_faultOfPair 24 = .ok (.iload_n 1, 1) := by decide +kernel
theorem dX10_faultOfPair_25 : decode cX10_faultOfPair 25 = .ok (.if_icmp .eq 10, 3) := by decide +kernel
theorem dX10_faultOfPair_28 : decode cX10_faultOfPair 28 = .ok (.aload_n 0, 1) := by decide +kernel
theorem dX10_faultOfPair_29 : decode cX10_faultOfPair 29 = .ok (.getfield 26, 3) := by decide +kernel
theorem dX10_faultOfPair_32 : decode cX10_faultOfPair 32 = .ok (.iconst 1, 1) := by decide +kernel
theorem dX10_faultOfPair_33 : decode cX10_faultOfPair 33 = .ok (.iadd, 1) := by decide +kernel
theorem dX10_faultOfPair_34 : decode cX10_faultOfPair 34 = .ok (.ireturn, 1) := by decide +kernel
theorem dX10_faultOfPair_35 : decode cX10_faultOfPair 35 = .ok (.aload_n 0, 1) := by decide +kernel
theorem dX10_faultOfPair_36 : decode cX10_faultOfPair 36 = .ok (.iconst 2, 1) := by decide +kernel
theorem dX10_faultOfPair_37 : decode cX10_faultOfPair 37 = .ok (.iload_n 2, 1) := by decide +kernel
theorem dX10_faultOfPair_38 : decode cX10_faultOfPair 38 = .ok (.invokevirtual 35, 3) := by decide +kernel
theorem dX10_faultOfPair_41 : decode cX10_faultOfPair 41 = .ok (.ireturn, 1) := by decide +kernel
set_option maxRecDepth 20000 in
theorem ggX10_faultOfNumber_X10_isFigure : GoodIn wsX10_faultOfNumber wsX10_isFigure := goodIn_r _ [7] rfl (by decide +kernel)
set_option maxRecDepth 20000 in
theorem gX10_faultOfNumber_X10_isFigure : GoodIn wsX10_faultOfNumber (va_wsS RX10 46 yX10_isFigure wsX10_isFigure) := goodIn_app (goodIn_of _ (by decide +kernel)) ggX10_faultOfNumber_X10_isFigure
set_option maxRecDepth 20000 in
theorem ggX10_faultOfNumber_X10_take : GoodIn wsX10_faultOfNumber wsX10_take := goodIn_r _ [11, 1, 12, 13, 14, 15, 16, 17, 18] rfl (by decide +kernel)
set_option maxRecDepth 20000 in
theorem gX10_faultOfNumber_X10_take : GoodIn wsX10_faultOfNumber (wsV RX10 35 RX10 yX10_take wsX10_take) := goodIn_app (goodIn_of _ (by decide +kernel)) ggX10_faultOfNumber_X10_take
theorem dX10_faultOfNumber_0 : decode cX10_faultOfNumber 0 = .ok (.aload_n 0, 1) := by decide +kernel
theorem dX10_faultOfNumber_1 : decode cX10_faultOfNumber 1 = .ok (.getfield 26, 3) := by decide +kernel
theorem dX10_faultOfNumber_4 : decode cX10_faultOfNumber 4 = .ok (.iconst 1, 1) := by decide +kernel
theorem dX10_faultOfNumber_5 : decode cX10_faultOfNumber 5 = .ok (.iadd, 1) := by decide +kernel
theorem dX10_faultOfNumber_6 : decode cX10_faultOfNumber 6 = .ok (.istore_n 2, 1) := by decide +kernel
theorem dX10_faultOfNumber_7 : decode cX10_faultOfNumber 7 = .ok (.iconst 0, 1) := by decide +kernel
theorem dX10_faultOfNumber_8 : decode cX10_faultOfNumber 8 = .ok (.istore_n 3, 1) := by decide +kernel
theorem dX10_faultOfNumber_9 : decode cX10_faultOfNumber 9 = .ok (.iconst 0, 1) := by decide +kernel
theorem dX10_faultOfNumber_10 : decode cX10_faultOfNumber 10 = .ok (.istore 4, 2) := by decide +kernel
theorem dX10_faultOfNumber_12 : decode cX10_faultOfNumber 12 = .ok (.iload_n 3, 1) := by decide +kernel
theorem dX10_faultOfNumber_13 : decode cX10_faultOfNumber 13 = .ok (.iconst 2, 1) := by decide +kernel
theorem dX10_faultOfNumber_14 : decode cX10_faultOfNumber 14 = .ok (.if_icmp .ge 52, 3) := by decide +kernel
theorem dX10_faultOfNumber_17 : decode cX10_faultOfNumber 17 = .ok (.iload_n 2, 1) := by decide +kernel
theorem dX10_faultOfNumber_18 : decode cX10_faultOfNumber 18 = .ok (.iload_n 3, 1) := by decide +kernel
theorem dX10_faultOfNumber_19 : decode cX10_faultOfNumber 19 = .ok (.iadd, 1) := by decide +kernel
theorem dX10_faultOfNumber_20 : decode cX10_faultOfNumber 20 = .ok (.aload_n 0, 1) := by decide +kernel
theorem dX10_faultOfNumber_21 : decode cX10_faultOfNumber 21 = .ok (.getfield 18, 3) := by decide +kernel
theorem dX10_faultOfNumber_24 : decode cX10_faultOfNumber 24 = .ok (.if_icmp .ge 42, 3) := by decide +kernel
theorem dX10_faultOfNumber_27 : decode cX10_faultOfNumber 27 = .ok (.aload_n 0, 1) := by decide +kernel
theorem dX10_faultOfNumber_28 : decode cX10_faultOfNumber 28 = .ok (.getfield 11, 3) := by decide +kernel
theorem dX10_faultOfNumber_31 : decode cX10_faultOfNumber 31 = .ok (.iload_n 2, 1) := by decide +kernel
theorem dX10_faultOfNumber_32 : decode cX10_faultOfNumber 32 = .ok (.iload_n 3, 1) := by decide +kernel
theorem dX10_faultOfNumber_33 : decode cX10_faultOfNumber 33 = .ok (.iadd, 1) := by decide +kernel
theorem dX10_faultOfNumber_34 : decode cX10_faultOfNumber 34 = .ok (.iaload, 1) := by decide +kernel
theorem dX10_faultOfNumber_35 : decode cX10_faultOfNumber 35 = .ok (.invokestatic 46, 3) := by decide +kernel
theorem dX10_faultOfNumber_38 : decode cX10_faultOfNumber 38 = .ok (.ifCond .eq 28, 3) := by decide +kernel
theorem dX10_faultOfNumber_41 : decode cX10_faultOfNumber 41 = .ok (.iload 4, 2) := by decide +kernel
theorem dX10_faultOfNumber_43 : decode cX10_faultOfNumber 43 = .ok (.bipush 10, 2) := by decide +kernel
theorem dX10_faultOfNumber_45 : decode cX10_faultOfNumber 45 = .ok (.imul, 1) := by decide +kernel
theorem dX10_faultOfNumber_46 : decode cX10_faultOfNumber 46 = .ok (.aload_n 0, 1) := by decide +kernel
theorem dX10_faultOfNumber_47 : decode cX10_faultOfNumber 47 = .ok (.getfield 11, 3) := by decide +kernel
theorem dX10_faultOfNumber_50 : decode cX10_faultOfNumber 50 = .ok (.iload_n 2, 1) := by decide +kernel
theorem dX10_faultOfNumber_51 : decode cX10_faultOfNumber 51 = .ok (.iload_n 3, 1) := by decide +kernel
theorem dX10_faultOfNumber_52 : decode cX10_faultOfNumber 52 = .ok (.iadd, 1) := by decide +kernel
theorem dX10_faultOfNumber_53 : decode cX10_faultOfNumber 53 = .ok (.iaload, 1) := by decide +kernel
theorem dX10_faultOfNumber_54 : decode cX10_faultOfNumber 54 = .ok (.iadd, 1) := by decide +kernel
theorem dX10_faultOfNumber_55 : decode cX10_faultOfNumber 55 = .ok (.bipush 48, 2) := by decide +kernel
theorem dX10_faultOfNumber_57 : decode cX10_faultOfNumber 57 = .ok (.isub, 1) := by decide +kernel
theorem dX10_faultOfNumber_58 : decode cX10_faultOfNumber 58 = .ok (.istore 4, 2) := by decide +kernel
theorem dX10_faultOfNumber_60 : decode cX10_faultOfNumber 60 = .ok (.iinc 3 1, 3) := by decide +kernel
theorem dX10_faultOfNumber_63 : decode cX10_faultOfNumber 63 = .ok (.goto (-51), 3) := by decide +kernel
theorem dX10_faultOfNumber_66 : decode cX10_faultOfNumber 66 = .ok (.iload 4, 2) := by decide +kernel
theorem dX10_faultOfNumber_68 : decode cX10_faultOfNumber 68 = .ok (.iconst 1, 1) := by decide +kernel
theorem dX10_faultOfNumber_69 : decode cX10_faultOfNumber 69 = .ok (.if_icmp .lt 10, 3) := by decide +kernel
theorem dX10_faultOfNumber_72 : decode cX10_faultOfNumber 72 = .ok (.iload 4, 2) := by decide +kernel
theorem dX10_faultOfNumber_74 : decode cX10_faultOfNumber 74 = .ok (.bipush 20, 2) := by decide +kernel
theorem dX10_faultOfNumber_76 : decode cX10_faultOfNumber 76 = .ok (.if_icmp .le 5, 3) := by decide +kernel
theorem dX10_faultOfNumber_79 : decode cX10_faultOfNumber 79 = .ok (.iload_n 2, 1) := by decide +kernel
theorem dX10_faultOfNumber_80 : decode cX10_faultOfNumber 80 = .ok (.ireturn, 1) := by decide +kernel
theorem dX10_faultOfNumber_81 : decode cX10_faultOfNumber 81 = .ok (.aload_n 0, 1) := by decide +kernel
theorem dX10_faultOfNumber_82 : decode cX10_faultOfNumber 82 = .ok (.iconst 1, 1) := by decide +kernel
theorem dX10_faultOfNumber_83 : decode cX10_faultOfNumber 83 = .ok (.iload_n 3, 1) := by decide +kernel
theorem dX10_faultOfNumber_84 : decode cX10_faultOfNumber 84 = .ok (.iadd, 1) := by decide +kernel
theorem dX10_faultOfNumber_85 : decode cX10_faultOfNumber 85 = .ok (.iload_n 1, 1) := by decide +kernel
theorem dX10_faultOfNumber_86 : decode cX10_faultOfNumber 86 = .ok (.iload 4, 2) := by decide +kernel
theorem dX10_faultOfNumber_88 : decode cX10_faultOfNumber 88 = .ok (.iadd, 1) := by decide +kernel
theorem dX10_faultOfNumber_89 : decode cX10_faultOfNumber 89 = .ok (.invokevirtual 35, 3) := by decide +kernel
theorem dX10_faultOfNumber_92 : decode cX10_faultOfNumber 92 = .ok (.ireturn, 1) := by decide +kernel
theorem dX10_isFigure_0 : decode cX10_isFigure 0 = .ok (.iload_n 0, 1) := by decide +kernel
theorem dX10_isFigure_1 : decode cX10_isFigure 1 = .ok (.bipush 48, 2) := by decide +kernel
theorem dX10_isFigure_3 : decode cX10_isFigure 3 = .ok (.if_icmp .lt 13, 3) := by decide +kernel
theorem dX10_isFigure_6 : decode cX10_isFigure 6 = .ok (.iload_n 0, 1) := by decide +kernel
theorem dX10_isFigure_7 : decode cX10_isFigure 7 = .ok (.bipush 57, 2) := by decide +kernel
theorem dX10_isFigure_9 : decode cX10_isFigure 9 = .ok (.if_icmp .gt 7, 3) := by decide +kernel
theorem dX10_isFigure_12 : decode cX10_isFigure 12 = .ok (.iconst 1, 1) := by decide +kernel
theorem dX10_isFigure_13 : decode cX10_isFigure 13 = .ok (.goto 4, 3) := by decide +kernel
theorem dX10_isFigure_16 : decode cX10_isFigure 16 = .ok (.iconst 0, 1) := by decide +kernel
theorem dX10_isFigure_17 : decode cX10_isFigure 17 = .ok (.ireturn, 1) := by decide +kernel
theorem dX10_take_0 : decode cX10_take 0 = .ok (.aload_n 0, 1) := by decide +kernel
theorem dX10_take_1 : decode cX10_take 1 = .ok (.dup, 1) := by decide +kernel
theorem dX10_take_2 : decode cX10_take 2 = .ok (.getfield 26, 3) := by decide +kernel
theorem dX10_take_5 : decode cX10_take 5 = .ok (.iload_n 1, 1) := by decide +kernel
theorem dX10_take_6 : decode cX10_take 6 = .ok (.iadd, 1) := by decide +kernel
theorem dX10_take_7 : decode cX10_take 7 = .ok (.putfield 26, 3) := by decide +kernel
theorem dX10_take_10 : decode cX10_take 10 = .ok (.aload_n 0, 1) := by decide +kernel
theorem dX10_take_11 : decode cX10_take 11 = .ok (.getfield 29, 3) := by decide +kernel
theorem dX10_take_14 : decode cX10_take 14 = .ok (.bipush 12, 2) := by decide +kernel
theorem dX10_take_16 : decode cX10_take 16 = .ok (.if_icmp .ge 23, 3) := by decide +kernel
theorem dX10_take_19 : decode cX10_take 19 = .ok (.aload_n 0, 1) := by decide +kernel
theorem dX10_take_20 : decode cX10_take 20 = .ok (.getfield 15, 3) := by decide +kernel
theorem dX10_take_23 : decode cX10_take 23 = .ok (.aload_n 0, 1) := by decide +kernel
theorem dX10_take_24 : decode cX10_take 24 = .ok (.getfield 29, 3) := by decide +kernel
theorem dX10_take_27 : decode cX10_take 27 = .ok (.iload_n 2, 1) := by decide +kernel
theorem dX10_take_28 : decode cX10_take 28 = .ok (.iastore, 1) := by decide +kernel
theorem dX10_take_29 : decode cX10_take 29 = .ok (.aload_n 0, 1) := by decide +kernel
theorem dX10_take_30 : decode cX10_take 30 = .ok (.dup, 1) := by decide +kernel
theorem dX10_take_31 : decode cX10_take 31 = .ok (.getfield 29, 3) := by decide +kernel
theorem dX10_take_34 : decode cX10_take 34 = .ok (.iconst 1, 1) := by decide +kernel
theorem dX10_take_35 : decode cX10_take 35 = .ok (.iadd, 1) := by decide +kernel
theorem dX10_take_36 : decode cX10_take 36 = .ok (.putfield 29, 3) := by decide +kernel
theorem dX10_take_39 : decode cX10_take 39 = .ok (.iconst (-1), 1) := by decide +kernel
theorem dX10_take_40 : decode cX10_take 40 = .ok (.ireturn, 1) := by decide +kernel
set_option maxRecDepth 20000 in
theorem ggX11_init_X9_init : GoodIn wsX11_init wsX9_init := goodIn_r _ [45, 46, 2, 3, 41, 47, 48, 49, 50, 51, 52, 53, 54, 55, 56, 57, 58, 59, 60, 61, 62, 63, 6, 64, 65, 66, 67, 68, 69, 70, 198, 199, 200] rfl (by decide +kernel)
set_option maxRecDepth 20000 in
theorem gX11_init_X9_init : GoodIn wsX11_init (wsX9_init) := ggX11_init_X9_init
set_option maxRecDepth 20000 in
theorem ggX11_init_X1_init : GoodIn wsX11_init wsX1_init := goodIn_r _ [73, 74, 2, 3, 41, 75, 76, 77, 78, 79, 80, 81, 9, 82, 83, 84, 85, 86, 87, 88, 53, 89, 90, 91, 92, 93, 94, 201, 202, 203, 204] rfl (by decide +kernel)
set_option maxRecDepth 20000 in
theorem gX11_init_X1_init : GoodIn wsX11_init (wsX1_init) := ggX11_init_X1_init
set_option maxRecDepth 20000 in
theorem ggX11_init_X4_init : GoodIn wsX11_init wsX4_init := goodIn_r _ [97, 98, 2, 3, 99, 100, 41, 101, 102, 103, 104, 105, 106, 107, 108, 109, 110, 111, 112, 113, 114, 115, 12, 116, 117, 118, 119, 120, 9, 121, 75, 77, 78, 122, 123, 124, 125, 126, 127, 128, 129, 130, 6, 131, 50, 205, 206, 207, 208, 209, 210, 211, 212, 213, 214, 215, 216, 217, 201, 202, 203, 204, 198, 199, 200] rfl (by decide +kernel)
set_option maxRecDepth 20000 in
theorem gX11_init_X4_init : GoodIn wsX11_init (wsX4_init) := ggX11_init_X4_init
set_option maxRecDepth 20000 in
theorem ggX11_init_X7_init : GoodIn wsX11_init wsX7_init := goodIn_r _ [134, 135, 2, 3, 136, 102, 137, 138, 41, 139, 140, 141, 142, 143, 144, 145, 146, 230, 231, 232, 233, 234, 235, 236, 237, 238] rfl (by decide +kernel)
set_option maxRecDepth 20000 in
theorem gX11_init_X7_init : GoodIn wsX11_init (wsX7_init) := ggX11_init_X7_init
set_option maxRecDepth 20000 in
theorem ggX11_init_X2_init : GoodIn wsX11_init wsX2_init := goodIn_r _ [149, 150, 2, 3, 151, 41, 152, 153, 154, 239, 240, 241, 242, 243] rfl (by decide +kernel)
set_option maxRecDepth 20000 in
theorem gX11_init_X2_init : GoodIn wsX11_init (wsX2_init) := ggX11_init_X2_init
set_option maxRecDepth 20000 in
theorem ggX11_init_X3_init : GoodIn wsX11_init wsX3_init := goodIn_r _ [157, 158, 2, 3, 159, 160, 161, 162, 163, 164, 165, 166, 167, 168, 169, 170, 171, 172, 173, 26, 174, 175, 176, 177, 178, 179, 180, 181, 182, 183, 262, 263, 264, 265, 266, 267, 244, 245, 246, 247, 248, 249, 250, 251] rfl (by decide +kernel)
set_option maxRecDepth 20000 in
theorem gX11_init_X3_init : GoodIn wsX11_init (wsX3_init) := ggX11_init_X3_init
set_option maxRecDepth 20000 in
theorem ggX11_init_X10_init : GoodIn wsX11_init wsX10_init := goodIn_r _ [185, 186, 2, 3, 41, 187, 188, 252, 253, 254, 255, 256] rfl (by decide +kernel)
set_option maxRecDepth 20000 in
theorem gX11_init_X10_init_n62 : GoodIn wsX11_init (wsX10_init) := ggX11_init_X10_init
set_option maxRecDepth 20000 in
theorem ggX11_init_X5_init : GoodIn wsX11_init wsX5_init := goodIn_r _ [190, 191, 2, 3, 41, 192, 257, 258] rfl (by decide +kernel)
set_option maxRecDepth 20000 in
theorem gX11_init_X5_init_n69 : GoodIn wsX11_init (wsX5_init) := ggX11_init_X5_init
set_option maxRecDepth 20000 in
theorem ggX11_init_X8_init : GoodIn wsX11_init wsX8_init := goodIn_r _ [194, 195, 2, 3, 41, 196, 197, 259, 260, 261] rfl (by decide +kernel)
set_option maxRecDepth 20000 in
theorem gX11_init_X8_init_n76 : GoodIn wsX11_init (wsX8_init) := ggX11_init_X8_init
theorem dX11_init_0 : decode cX11_init 0 = .ok (.aload_n 0, 1) := by decide +kernel
theorem dX11_init_1 : decode cX11_init 1 = .ok (.invokespecial 1, 3) := by decide +kernel
theorem dX11_init_4 : decode cX11_init 4 = .ok (.new 7, 3) := by decide +kernel
theorem dX11_init_7 : decode cX11_init 7 = .ok (.dup, 1) := by decide +kernel
theorem dX11_init_8 : decode cX11_init 8 = .ok (.invokespecial 9, 3) := by decide +kernel
theorem dX11_init_11 : decode cX11_init 11 = .ok (.astore_n 1, 1) := by decide +kernel
theorem dX11_init_12 : decode cX11_init 12 = .ok (.new 10, 3) := by decide +kernel
theorem dX11_init_15 : decode cX11_init 15 = .ok (.dup, 1) := by decide +kernel
theorem dX11_init_16 : decode cX11_init 16 = .ok (.invokespecial 12, 3) := by decide +kernel
theorem dX11_init_19 : decode cX11_init 19 = .ok (.astore_n 2, 1) := by decide +kernel
theorem dX11_init_20 : decode cX11_init 20 = .ok (.iconst 2, 1) := by decide +kernel
theorem dX11_init_21 : decode cX11_init 21 = .ok (.anewarray 13, 3) := by decide +kernel
theorem dX11_init_24 : decode cX11_init 24 = .ok (.dup, 1) := by decide +kernel
theorem dX11_init_25 : decode cX11_init 25 = .ok (.iconst 0, 1) := by decide +kernel
theorem dX11_init_26 : decode cX11_init 26 = .ok (.new 13, 3) := by decide +kernel
theorem dX11_init_29 : decode cX11_init 29 = .ok (.dup, 1) := by decide +kernel
theorem dX11_init_30 : decode cX11_init 30 = .ok (.aload_n 1, 1) := by decide +kernel
theorem dX11_init_31 : decode cX11_init 31 = .ok (.aload_n 2, 1) := by decide +kernel
theorem dX11_init_32 : decode cX11_init 32 = .ok (.invokespecial 15, 3) := by decide +kernel
theorem dX11_init_35 : decode cX11_init 35 = .ok (.aastore, 1) := by decide +kernel
theorem dX11_init_36 : decode cX11_init 36 = .ok (.dup, 1) := by decide +kernel
theorem dX11_init_37 : decode cX11_init 37 = .ok (.iconst 1, 1) := by decide +kernel
theorem dX11_init_38 : decode cX11_init 38 = .ok (.new 13, 3) := by decide +kernel
theorem dX11_init_41 : decode cX11_init 41 = .ok (.dup, 1) := by decide +kernel
theorem dX11_init_42 : decode cX11_init 42 = .ok (.aload_n 1, 1) := by decide +kernel
theorem dX11_init_43 : decode cX11_init 43 = .ok (.aload_n 2, 1) := by decide +kernel
theorem dX11_init_44 : decode cX11_init 44 = .ok (.invokespecial 15, 3) := by decide +kernel
theorem dX11_init_47 : decode cX11_init 47 = .ok (.aastore, 1) := by decide +kernel
theorem dX11_init_48 : decode cX11_init 48 = .ok (.astore_n 3, 1) := by decide +kernel
theorem dX11_init_49 : decode cX11_init 49 = .ok (.aload_n 0, 1) := by decide +kernel
theorem dX11_init_50 : decode cX11_init 50 = .ok (.aload_n 1, 1) := by decide +kernel
theorem dX11_init_51 : decode cX11_init 51 = .ok (.putfield 18, 3) := by decide +kernel
theorem dX11_init_54 : decode cX11_init 54 = .ok (.aload_n 0, 1) := by decide +kernel
theorem dX11_init_55 : decode cX11_init 55 = .ok (.aload_n 2, 1) := by decide +kernel
theorem dX11_init_56 : decode cX11_init 56 = .ok (.putfield 24, 3) := by decide +kernel
theorem dX11_init_59 : decode cX11_init 59 = .ok (.aload_n 0, 1) := by decide +kernel
theorem dX11_init_60 : decode cX11_init 60 = .ok (.aload_n 3, 1) := by decide +kernel
theorem dX11_init_61 : decode cX11_init 61 = .ok (.putfield 28, 3) := by decide +kernel
theorem dX11_init_64 : decode cX11_init 64 = .ok (.aload_n 0, 1) := by decide +kernel
theorem dX11_init_65 : decode cX11_init 65 = .ok (.new 32, 3) := by decide +kernel
theorem dX11_init_68 : decode cX11_init 68 = .ok (.dup, 1) := by decide +kernel
theorem dX11_init_69 : decode cX11_init 69 = .ok (.aload_n 1, 1) := by decide +kernel
theorem dX11_init_70 : decode cX11_init 70 = .ok (.aload_n 2, 1) := by decide +kernel
theorem dX11_init_71 : decode cX11_init 71 = .ok (.aload_n 3, 1) := by decide +kernel
theorem dX11_init_72 : decode cX11_init 72 = .ok (.invokespecial 34, 3) := by decide +kernel
theorem dX11_init_75 : decode cX11_init 75 = .ok (.putfield 37, 3) := by decide +kernel
theorem dX11_init_78 : decode cX11_init 78 = .ok (.aload_n 0, 1) := by decide +kernel
theorem dX11_init_79 : decode cX11_init 79 = .ok (.new 41, 3) := by decide +kernel
theorem dX11_init_82 : decode cX11_init 82 = .ok (.dup, 1) := by decide +kernel
theorem dX11_init_83 : decode cX11_init 83 = .ok (.aload_n 1, 1) := by decide +kernel
theorem dX11_init_84 : decode cX11_init 84 = .ok (.invokespecial 43, 3) := by decide +kernel
theorem dX11_init_87 : decode cX11_init 87 = .ok (.putfield 46, 3) := by decide +kernel
theorem dX11_init_90 : decode cX11_init 90 = .ok (.aload_n 0, 1) := by decide +kernel
theorem dX11_init_91 : decode cX11_init 91 = .ok (.new 50, 3) := by decide +kernel
theorem dX11_init_94 : decode cX11_init 94 = .ok (.dup, 1) := by decide +kernel
theorem dX11_init_95 : decode cX11_init 95 = .ok (.invokespecial 52, 3) := by decide +kernel
theorem dX11_init_98 : decode cX11_init 98 = .ok (.putfield 53, 3) := by decide +kernel
theorem dX11_init_101 : decode cX11_init 101 = .ok (.aload_n 0, 1) := by decide +kernel
theorem dX11_init_102 : decode cX11_init 102 = .ok (.new 50, 3) := by decide +kernel
theorem dX11_init_105 : decode cX11_init 105 = .ok (.dup, 1) := by decide +kernel
theorem dX11_init_106 : decode cX11_init 106 = .ok (.invokespecial 52, 3) := by decide +kernel
theorem dX11_init_109 : decode cX11_init 109 = .ok (.putfield 57, 3) := by decide +kernel
theorem dX11_init_112 : decode cX11_init 112 = .ok (.aload_n 0, 1) := by decide +kernel
theorem dX11_init_113 : decode cX11_init 113 = .ok (.new 60, 3) := by decide +kernel
theorem dX11_init_116 : decode cX11_init 116 = .ok (.dup, 1) := by decide +kernel
theorem dX11_init_117 : decode cX11_init 117 = .ok (.invokespecial 62, 3) := by decide +kernel
theorem dX11_init_120 : decode cX11_init 120 = .ok (.putfield 63, 3) := by decide +kernel
theorem dX11_init_123 : decode cX11_init 123 = .ok (.aload_n 0, 1) := by decide +kernel
theorem dX11_init_124 : decode cX11_init 124 = .ok (.new 67, 3) := by decide +kernel
theorem dX11_init_127 : decode cX11_init 127 = .ok (.dup, 1) := by decide +kernel
theorem dX11_init_128 : decode cX11_init 128 = .ok (.invokespecial 69, 3) := by decide +kernel
theorem dX11_init_131 : decode cX11_init 131 = .ok (.putfield 70, 3) := by decide +kernel
theorem dX11_init_134 : decode cX11_init 134 = .ok (.aload_n 0, 1) := by decide +kernel
theorem dX11_init_135 : decode cX11_init 135 = .ok (.iconst 4, 1) := by decide +kernel
theorem dX11_init_136 : decode cX11_init 136 = .ok (.anewarray 74, 3) := by decide +kernel
theorem dX11_init_139 : decode cX11_init 139 = .ok (.dup, 1) := by decide +kernel
theorem dX11_init_140 : decode cX11_init 140 = .ok (.iconst 0, 1) := by decide +kernel
theorem dX11_init_141 : decode cX11_init 141 = .ok (.new 74, 3) := by decide +kernel
theorem dX11_init_144 : decode cX11_init 144 = .ok (.dup, 1) := by decide +kernel
theorem dX11_init_145 : decode cX11_init 145 = .ok (.invokespecial 76, 3) := by decide +kernel
theorem dX11_init_148 : decode cX11_init 148 = .ok (.aastore, 1) := by decide +kernel
theorem dX11_init_149 : decode cX11_init 149 = .ok (.dup, 1) := by decide +kernel
theorem dX11_init_150 : decode cX11_init 150 = .ok (.iconst 1, 1) := by decide +kernel
theorem dX11_init_151 : decode cX11_init 151 = .ok (.new 74, 3) := by decide +kernel
theorem dX11_init_154 : decode cX11_init 154 = .ok (.dup, 1) := by decide +kernel
theorem dX11_init_155 : decode cX11_init 155 = .ok (.invokespecial 76, 3) := by decide +kernel
theorem dX11_init_158 : decode cX11_init 158 = .ok (.aastore, 1) := by decide +kernel
theorem dX11_init_159 : decode cX11_init 159 = .ok (.dup, 1) := by decide +kernel
theorem dX11_init_160 : decode cX11_init 160 = .ok (.iconst 2, 1) := by decide +kernel
theorem dX11_init_161 : decode cX11_init 161 = .ok (.new 74, 3) := by decide +kernel
theorem dX11_init_164 : decode cX11_init 164 = .ok (.dup, 1) := by decide +kernel
theorem dX11_init_165 : decode cX11_init 165 = .ok (.invokespecial 76, 3) := by decide +kernel
theorem dX11_init_168 : decode cX11_init 168 = .ok (.aastore, 1) := by decide +kernel
theorem dX11_init_169 : decode cX11_init 169 = .ok (.dup, 1) := by decide +kernel
theorem dX11_init_170 : decode cX11_init 170 = .ok (.iconst 3, 1) := by decide +kernel
theorem dX11_init_171 : decode cX11_init 171 = .ok (.new 74, 3) := by decide +kernel
theorem dX11_init_174 : decode cX11_init 174 = .ok (.dup, 1) := by decide +kernel
theorem dX11_init_175 : decode cX11_init 175 = .ok (.invokespecial 76, 3) := by decide +kernel
theorem dX11_init_178 : decode cX11_init 178 = .ok (.aastore, 1) := by decide +kernel
theorem dX11_init_179 : decode cX11_init 179 = .ok (.putfield 77, 3) := by decide +kernel
theorem dX11_init_182 : decode cX11_init 182 = .ok (.aload_n 0, 1) := by decide +kernel
theorem dX11_init_183 : decode cX11_init 183 = .ok (.bipush 20, 2) := by decide +kernel
theorem dX11_init_185 : decode cX11_init 185 = .ok (.newarray .int, 2) := by decide +kernel
theorem dX11_init_187 : decode cX11_init 187 = .ok (.putfield 81, 3) := by decide +kernel
theorem dX11_init_190 : decode cX11_init 190 = .ok (.return_, 1) := by decide +kernel
set_option maxRecDepth 20000 in
theorem ggX11_spot_X11_isSpot : GoodIn wsX11_spot wsX11_isSpot := goodIn_r _ [4] rfl (by decide +kernel)
set_option maxRecDepth 20000 in
theorem gX11_spot_X11_isSpot : GoodIn wsX11_spot (va_wsS RX11 85 yX11_isSpot wsX11_isSpot) := goodIn_app (goodIn_of _ (by decide +kernel)) ggX11_spot_X11_isSpot
set_option maxRecDepth 20000 in
theorem ggX11_spot_X0_scoreOf : GoodIn wsX11_spot wsX0_scoreOf := goodIn_r _ [8, 9, 10, 7, 11, 12, 13, 14] rfl (by decide +kernel)
set_option maxRecDepth 20000 in
theorem gX11_spot_X0_scoreOf : GoodIn wsX11_spot (va_wsS RX11 89 yX0_scoreOf wsX0_scoreOf) := goodIn_app (goodIn_of _ (by decide +kernel)) ggX11_spot_X0_scoreOf
set_option maxRecDepth 20000 in
theorem ggX11_spot_X0_kindOf : GoodIn wsX11_spot wsX0_kindOf := goodIn_r _ [14] rfl (by decide +kernel)
set_option maxRecDepth 20000 in
theorem gX11_spot_X0_kindOf : GoodIn wsX11_spot (va_wsS RX11 95 yX0_kindOf wsX0_kindOf) := goodIn_app (goodIn_of _ (by decide +kernel)) ggX11_spot_X0_kindOf
set_option maxRecDepth 20000 in
theorem ggX11_spot_X0_numberOf : GoodIn wsX11_spot wsX0_numberOf := goodIn_r _ [11] rfl (by decide +kernel)
set_option maxRecDepth 20000 in
theorem gX11_spot_X0_numberOf : GoodIn wsX11_spot (va_wsS RX11 98 yX0_numberOf wsX0_numberOf) := goodIn_app (goodIn_of _ (by decide +kernel)) ggX11_spot_X0_numberOf
set_option maxRecDepth 20000 in
theorem ggX11_spot_X0_numberBeside : GoodIn wsX11_spot wsX0_numberBeside := goodIn_r _ [19, 20, 21, 22, 23, 24] rfl (by decide +kernel)
set_option maxRecDepth 20000 in
theorem gX11_spot_X0_numberBeside : GoodIn wsX11_spot (va_wsS RX11 101 yX0_numberBeside wsX0_numberBeside) := goodIn_app (goodIn_of _ (by decide +kernel)) ggX11_spot_X0_numberBeside
theorem dX11_spot_0 : decode cX11_spot 0 = .ok (.iload_n 1, 1) := by decide +kernel
theorem dX11_spot_1 : decode cX11_spot 1 = .ok (.invokestatic 85, 3) := by decide +kernel
theorem dX11_spot_4 : decode cX11_spot 4 = .ok (.ifCond .ne 5, 3) := by decide +kernel
theorem dX11_spot_7 : decode cX11_spot 7 = .ok (.iconst (-1), 1) := by decide +kernel
theorem dX11_spot_8 : decode cX11_spot 8 = .ok (.ireturn, 1) := by decide +kernel
theorem dX11_spot_9 : decode cX11_spot 9 = .ok (.iload_n 2, 1) := by decide +kernel
theorem dX11_spot_10 : decode cX11_spot 10 = .ok (.tableswitch 58 0 3 #[30, 35, 40, 49], 30) := by decide +kernel
theorem dX11_spot_40 : decode cX11_spot 40 = .ok (.iload_n 1, 1) := by decide +kernel
theorem dX11_spot_41 : decode cX11_spot 41 = .ok (.invokestatic 89, 3) := by decide +kernel
theorem dX11_spot_44 : decode cX11_spot 44 = .ok (.ireturn, 1) := by decide +kernel
theorem dX11_spot_45 : decode cX11_spot 45 = .ok (.iload_n 1, 1) := by decide +kernel
theorem dX11_spot_46 : decode cX11_spot 46 = .ok (.invokestatic 95, 3) := by decide +kernel
theorem dX11_spot_49 : decode cX11_spot 49 = .ok (.ireturn, 1) := by decide +kernel
theorem dX11_spot_50 : decode cX11_spot 50 = .ok (.iload_n 1, 1) := by decide +kernel
theorem dX11_spot_51 : decode cX11_spot 51 = .ok (.invokestatic 98, 3) := by decide +kernel
theorem dX11_spot_54 : decode cX11_spot 54 = .ok (.iconst 1, 1) := by decide +kernel
theorem dX11_spot_55 : decode cX11_spot 55 = .ok (.invokestatic 101, 3) := by decide +kernel
theorem dX11_spot_58 : decode cX11_spot 58 = .ok (.ireturn, 1) := by decide +kernel
theorem dX11_spot_59 : decode cX11_spot 59 = .ok (.iload_n 1, 1) := by decide +kernel
theorem dX11_spot_60 : decode cX11_spot 60 = .ok (.invokestatic 98, 3) := by decide +kernel
theorem dX11_spot_63 : decode cX11_spot 63 = .ok (.iconst (-1), 1) := by decide +kernel
theorem dX11_spot_64 : decode cX11_spot 64 = .ok (.invokestatic 101, 3) := by decide +kernel
theorem dX11_spot_67 : decode cX11_spot 67 = .ok (.ireturn, 1) := by decide +kernel
theorem dX11_spot_68 : decode cX11_spot 68 = .ok (.iconst (-1), 1) := by decide +kernel
theorem dX11_spot_69 : decode cX11_spot 69 = .ok (.ireturn, 1) := by decide +kernel
set_option maxRecDepth 20000 in
theorem ggX11_under_X11_isSpot : GoodIn wsX11_under wsX11_isSpot := goodIn_r _ [4] rfl (by decide +kernel)
set_option maxRecDepth 20000 in
theorem gX11_under_X11_isSpot : GoodIn wsX11_under (va_wsS RX11 85 yX11_isSpot wsX11_isSpot) := goodIn_app (goodIn_of _ (by decide +kernel)) ggX11_under_X11_isSpot
set_option maxRecDepth 20000 in
theorem ggX11_under_X11_isKind : GoodIn wsX11_under wsX11_isKind := goodIn_r _ [7] rfl (by decide +kernel)
set_option maxRecDepth 20000 in
theorem gX11_under_X11_isKind : GoodIn wsX11_under (va_wsS RX11 105 yX11_isKind wsX11_isKind) := goodIn_app (goodIn_of _ (by decide +kernel)) ggX11_under_X11_isKind
set_option maxRecDepth 20000 in
theorem ggX11_under_X0_isOfKind : GoodIn wsX11_under wsX0_isOfKind := goodIn_r _ [11, 12, 13, 10, 14, 15, 16, 17] rfl (by decide +kernel)
set_option maxRecDepth 20000 in
theorem gX11_under_X0_isOfKind : GoodIn wsX11_under (va_wsS RX11 108 yX0_isOfKind wsX0_isOfKind) := goodIn_app (goodIn_of _ (by decide +kernel)) ggX11_under_X0_isOfKind
theorem dX11_under_0 : decode cX11_under 0 = .ok (.iload_n 1, 1) := by decide +kernel
theorem dX11_under_1 : decode cX11_under 1 = .ok (.invokestatic 85, 3) := by decide +kernel
theorem dX11_under_4 : decode cX11_under 4 = .ok (.ifCond .eq 10, 3) := by decide +kernel
theorem dX11_under_7 : decode cX11_under 7 = .ok (.iload_n 2, 1) := by decide +kernel
theorem dX11_under_8 : decode cX11_under 8 = .ok (.invokestatic 105, 3) := by decide +kernel
theorem dX11_under_11 : decode cX11_under 11 = .ok (.ifCond .ne 5, 3) := by decide +kernel
theorem dX11_under_14 : decode cX11_under 14 = .ok (.iconst (-1), 1) := by decide +kernel
theorem dX11_under_15 : decode cX11_under 15 = .ok (.ireturn, 1) := by decide +kernel
theorem dX11_under_16 : decode cX11_under 16 = .ok (.iload_n 1, 1) := by decide +kernel
theorem dX11_under_17 : decode cX11_under 17 = .ok (.iload_n 2, 1) := by decide +kernel
theorem dX11_under_18 : decode cX11_under 18 = .ok (.invokestatic 108, 3) := by decide +kernel
theorem dX11_under_21 : decode cX11_under 21 = .ok (.ifCond .eq 7, 3) := by decide +kernel
theorem dX11_under_24 : decode cX11_under 24 = .ok (.iconst 1, 1) := by decide +kernel
theorem dX11_under_25 : decode cX11_under 25 = .ok (.goto 4, 3) := by decide +kernel
theorem dX11_under_28 : decode cX11_under 28 = .ok (.iconst 0, 1) := by decide +kernel
theorem dX11_under_29 : decode cX11_under 29 = .ok (.ireturn, 1) := by decide +kernel
set_option maxRecDepth 20000 in
theorem ggX11_hand_X11_isPlayer : GoodIn wsX11_hand wsX11_isPlayer := goodIn_r _ [8] rfl (by decide +kernel)
set_option maxRecDepth 20000 in
theorem gX11_hand_X11_isPlayer : GoodIn wsX11_hand (va_wsS RX11 112 yX11_isPlayer wsX11_isPlayer) := goodIn_app (goodIn_of _ (by decide +kernel)) ggX11_hand_X11_isPlayer
set_option maxRecDepth 20000 in
theorem ggX11_hand_X11_renewMinds : GoodIn wsX11_hand wsX11_renewMinds := goodIn_r _ [12, 13, 1, 14, 15, 2, 3, 4, 16, 17, 18, 19, 20, 21, 22, 23, 24, 25, 26, 27, 28, 29, 30, 31, 32, 33, 34, 35, 36, 37, 38, 39, 40, 41, 42, 43, 44, 45, 46, 47, 48, 49, 50, 51, 52, 53, 54, 55, 56, 57, 58, 59, 60, 61, 62, 63, 64, 65, 66, 67, 68, 69, 70, 71, 72, 73, 74, 75, 76, 77, 78, 79, 80, 81, 82, 83, 84, 85, 86, 87, 88, 89, 90, 91, 92, 93, 94, 95, 96, 97, 98, 99, 100, 101, 102, 103, 104, 105, 106, 107, 108, 109, 110, 111, 112, 113, 114, 115, 116, 117, 118, 119, 120, 121, 122, 123, 124, 125, 126, 127, 128, 129, 130, 131, 132, 133, 134, 135, 136, 137, 138, 139, 140, 141, 142, 143, 144, 145, 146, 147, 148] rfl (by decide +kernel)
set_option maxRecDepth 20000 in
theorem gX11_hand_X11_renewMinds : GoodIn wsX11_hand (wsV RX11 128 RX11 yX11_renewMinds wsX11_renewMinds) := goodIn_app (goodIn_of _ (by decide +kernel)) ggX11_hand_X11_renewMinds
theorem dX11_hand_0 : decode cX11_hand 0 = .ok (.iload_n 1, 1) := by decide +kernel
theorem dX11_hand_1 : decode cX11_hand 1 = .ok (.invokestatic 112, 3) := by decide +kernel
theorem dX11_hand_4 : decode cX11_hand 4 = .ok (.ifCond .eq 12, 3) := by decide +kernel
theorem dX11_hand_7 : decode cX11_hand 7 = .ok (.iload_n 2, 1) := by decide +kernel
theorem dX11_hand_8 : decode cX11_hand 8 = .ok (.ifCond .lt 8, 3) := by decide +kernel
theorem dX11_hand_11 : decode cX11_hand 11 = .ok (.iload_n 2, 1) := by decide +kernel
theorem dX11_hand_12 : decode cX11_hand 12 = .ok (.iconst 1, 1) := by decide +kernel
theorem dX11_hand_13 : decode cX11_hand 13 = .ok (.if_icmp .le 5, 3) := by decide +kernel
theorem dX11_hand_16 : decode cX11_hand 16 = .ok (.iconst (-1), 1) := by decide +kernel
theorem dX11_hand_17 : decode cX11_hand 17 = .ok (.ireturn, 1) := by decide +kernel
theorem dX11_hand_18 : decode cX11_hand 18 = .ok (.iload_n 3, 1) := by decide +kernel
theorem dX11_hand_19 : decode cX11_hand 19 = .ok (.ifCond .lt 10, 3) := by decide +kernel
theorem dX11_hand_22 : decode cX11_hand 22 = .ok (.iload_n 3, 1) := by decide +kernel
theorem dX11_hand_23 : decode cX11_hand 23 = .ok (.sipush 200, 3) := by decide +kernel
theorem dX11_hand_26 : decode cX11_hand 26 = .ok (.if_icmp .le 6, 3) := by decide +kernel
theorem dX11_hand_29 : decode cX11_hand 29 = .ok (.bipush (-2), 2) := by decide +kernel
theorem dX11_hand_31 : decode cX11_hand 31 = .ok (.ireturn, 1) := by decide +kernel
theorem dX11_hand_32 : decode cX11_hand 32 = .ok (.aload_n 0, 1) := by decide +kernel
theorem dX11_hand_33 : decode cX11_hand 33 = .ok (.getfield 53, 3) := by decide +kernel
theorem dX11_hand_36 : decode cX11_hand 36 = .ok (.getfield 115, 3) := by decide +kernel
theorem dX11_hand_39 : decode cX11_hand 39 = .ok (.iload_n 1, 1) := by decide +kernel
theorem dX11_hand_40 : decode cX11_hand 40 = .ok (.aaload, 1) := by decide +kernel
theorem dX11_hand_41 : decode cX11_hand 41 = .ok (.astore 4, 2) := by decide +kernel
theorem dX11_hand_43 : decode cX11_hand 43 = .ok (.iload_n 2, 1) := by decide +kernel
theorem dX11_hand_44 : decode cX11_hand 44 = .ok (.ifCond .ne 11, 3) := by decide +kernel
theorem dX11_hand_47 : decode cX11_hand 47 = .ok (.aload 4, 2) := by decide +kernel
theorem dX11_hand_49 : decode cX11_hand 49 = .ok (.getfield 119, 3) := by decide +kernel
theorem dX11_hand_52 : decode cX11_hand 52 = .ok (.goto 8, 3) := by decide +kernel
theorem dX11_hand_55 : decode cX11_hand 55 = .ok (.aload 4, 2) := by decide +kernel
theorem dX11_hand_57 : decode cX11_hand 57 = .ok (.getfield 125, 3) := by decide +kernel
theorem dX11_hand_60 : decode cX11_hand 60 = .ok (.istore 5, 2) := by decide +kernel
theorem dX11_hand_62 : decode cX11_hand 62 = .ok (.iload_n 2, 1) := by decide +kernel
theorem dX11_hand_63 : decode cX11_hand 63 = .ok (.ifCond .ne 12, 3) := by decide +kernel
theorem dX11_hand_66 : decode cX11_hand 66 = .ok (.aload 4, 2) := by decide +kernel
theorem dX11_hand_68 : decode cX11_hand 68 = .ok (.iload_n 3, 1) := by decide +kernel
theorem dX11_hand_69 : decode cX11_hand 69 = .ok (.putfield 119, 3) := by decide +kernel
theorem dX11_hand_72 : decode cX11_hand 72 = .ok (.goto 9, 3) := by decide +kernel
theorem dX11_hand_75 : decode cX11_hand 75 = .ok (.aload 4, 2) := by decide +kernel
theorem dX11_hand_77 : decode cX11_hand 77 = .ok (.iload_n 3, 1) := by decide +kernel
theorem dX11_hand_78 : decode cX11_hand 78 = .ok (.putfield 125, 3) := by decide +kernel
theorem dX11_hand_81 : decode cX11_hand 81 = .ok (.aload_n 0, 1) := by decide +kernel
theorem dX11_hand_82 : decode cX11_hand 82 = .ok (.invokevirtual 128, 3) := by decide +kernel
theorem dX11_hand_85 : decode cX11_hand 85 = .ok (.iload 5, 2) := by decide +kernel
theorem dX11_hand_87 : decode cX11_hand 87 = .ok (.ireturn, 1) := by decide +kernel
set_option maxRecDepth 20000 in
theorem ggX11_fall_X11_isPlayer : GoodIn wsX11_fall wsX11_isPlayer := goodIn_r _ [9] rfl (by decide +kernel)
set_option maxRecDepth 20000 in
theorem gX11_fall_X11_isPlayer : GoodIn wsX11_fall (va_wsS RX11 112 yX11_isPlayer wsX11_isPlayer) := goodIn_app (goodIn_of _ (by decide +kernel)) ggX11_fall_X11_isPlayer
set_option maxRecDepth 20000 in
theorem ggX11_fall_X11_isAim : GoodIn wsX11_fall wsX11_isAim := goodIn_r _ [12] rfl (by decide +kernel)
set_option maxRecDepth 20000 in
theorem gX11_fall_X11_isAim : GoodIn wsX11_fall (va_wsS RX11 131 yX11_isAim wsX11_isAim) := goodIn_app (goodIn_of _ (by decide +kernel)) ggX11_fall_X11_isAim
theorem dX11_fall_0 : decode cX11_fall 0 = .ok (.iload_n 1, 1) := by decide +kernel
theorem dX11_fall_1 : decode cX11_fall 1 = .ok (.invokestatic 112, 3) := by decide +kernel
theorem dX11_fall_4 : decode cX11_fall 4 = .ok (.ifCond .eq 28, 3) := by decide +kernel
theorem dX11_fall_7 : decode cX11_fall 7 = .ok (.iload_n 2, 1) := by decide +kernel
theorem dX11_fall_8 : decode cX11_fall 8 = .ok (.invokestatic 131, 3) := by decide +kernel
theorem dX11_fall_11 : decode cX11_fall 11 = .ok (.ifCond .eq 21, 3) := by decide +kernel
theorem dX11_fall_14 : decode cX11_fall 14 = .ok (.iload_n 3, 1) := by decide +kernel
theorem dX11_fall_15 : decode cX11_fall 15 = .ok (.iconst (-1), 1) := by decide +kernel
theorem dX11_fall_16 : decode cX11_fall 16 = .ok (.if_icmp .lt 16, 3) := by decide +kernel
theorem dX11_fall_19 : decode cX11_fall 19 = .ok (.iload_n 3, 1) := by decide +kernel
theorem dX11_fall_20 : decode cX11_fall 20 = .ok (.aload_n 0, 1) := by decide +kernel
theorem dX11_fall_21 : decode cX11_fall 21 = .ok (.getfield 24, 3) := by decide +kernel
theorem dX11_fall_24 : decode cX11_fall 24 = .ok (.getfield 134, 3) := by decide +kernel
theorem dX11_fall_27 : decode cX11_fall 27 = .ok (.iload_n 2, 1) := by decide +kernel
theorem dX11_fall_28 : decode cX11_fall 28 = .ok (.iaload, 1) := by decide +kernel
theorem dX11_fall_29 : decode cX11_fall 29 = .ok (.if_icmp .lt 5, 3) := by decide +kernel
theorem dX11_fall_32 : decode cX11_fall 32 = .ok (.iconst (-1), 1) := by decide +kernel
theorem dX11_fall_33 : decode cX11_fall 33 = .ok (.ireturn, 1) := by decide +kernel
theorem dX11_fall_34 : decode cX11_fall 34 = .ok (.iload_n 3, 1) := by decide +kernel
theorem dX11_fall_35 : decode cX11_fall 35 = .ok (.iconst (-1), 1) := by decide +kernel
theorem dX11_fall_36 : decode cX11_fall 36 = .ok (.if_icmp .ne 13, 3) := by decide +kernel
theorem dX11_fall_39 : decode cX11_fall 39 = .ok (.aload_n 0, 1) := by decide +kernel
theorem dX11_fall_40 : decode cX11_fall 40 = .ok (.getfield 24, 3) := by decide +kernel
theorem dX11_fall_43 : decode cX11_fall 43 = .ok (.getfield 134, 3) := by decide +kernel
theorem dX11_fall_46 : decode cX11_fall 46 = .ok (.iload_n 2, 1) := by decide +kernel
theorem dX11_fall_47 : decode cX11_fall 47 = .ok (.iaload, 1) := by decide +kernel
theorem dX11_fall_48 : decode cX11_fall 48 = .ok (.ireturn, 1) := by decide +kernel
theorem dX11_fall_49 : decode cX11_fall 49 = .ok (.iload 4, 2) := by decide +kernel
theorem dX11_fall_51 : decode cX11_fall 51 = .ok (.ifCond .lt 9, 3) := by decide +kernel
theorem dX11_fall_54 : decode cX11_fall 54 = .ok (.iload 4, 2) := by decide +kernel
theorem dX11_fall_56 : decode cX11_fall 56 = .ok (.iconst 1, 1) := by decide +kernel
theorem dX11_fall_57 : decode cX11_fall 57 = .ok (.if_icmp .le 5, 3) := by decide +kernel
theorem dX11_fall_60 : decode cX11_fall 60 = .ok (.iconst (-1), 1) := by decide +kernel
theorem dX11_fall_61 : decode cX11_fall 61 = .ok (.ireturn, 1) := by decide +kernel
theorem dX11_fall_62 : decode cX11_fall 62 = .ok (.iload_n 2, 1) := by decide +kernel
theorem dX11_fall_63 : decode cX11_fall 63 = .ok (.iconst 5, 1) := by decide +kernel
theorem dX11_fall_64 : decode cX11_fall 64 = .ok (.imul, 1) := by decide +kernel
theorem dX11_fall_65 : decode cX11_fall 65 = .ok (.iload_n 3, 1) := by decide +kernel
theorem dX11_fall_66 : decode cX11_fall 66 = .ok (.iadd, 1) := by decide +kernel
theorem dX11_fall_67 : decode cX11_fall 67 = .ok (.istore 5, 2) := by decide +kernel
theorem dX11_fall_69 : decode cX11_fall 69 = .ok (.iload 4, 2) := by decide +kernel
theorem dX11_fall_71 : decode cX11_fall 71 = .ok (.ifCond .ne 16, 3) := by decide +kernel
theorem dX11_fall_74 : decode cX11_fall 74 = .ok (.aload_n 0, 1) := by decide +kernel
theorem dX11_fall_75 : decode cX11_fall 75 = .ok (.getfield 24, 3) := by decide +kernel
theorem dX11_fall_78 : decode cX11_fall 78 = .ok (.getfield 137, 3) := by decide +kernel
theorem dX11_fall_81 : decode cX11_fall 81 = .ok (.iload 5, 2) := by decide +kernel
theorem dX11_fall_83 : decode cX11_fall 83 = .ok (.iaload, 1) := by decide +kernel
theorem dX11_fall_84 : decode cX11_fall 84 = .ok (.goto 15, 3) := by decide +kernel
theorem dX11_fall_87 : decode cX11_fall 87 = .ok (.aload_n 0, 1) := by decide +kernel
theorem dX11_fall_88 : decode cX11_fall 88 = .ok (.getfield 28, 3) := by decide +kernel
theorem dX11_fall_91 : decode cX11_fall 91 = .ok (.iload_n 1, 1) := by decide +kernel
theorem dX11_fall_92 : decode cX11_fall 92 = .ok (.aaload, 1) := by decide +kernel
theorem dX11_fall_93 : decode cX11_fall 93 = .ok (.getfield 140, 3) := by decide +kernel
theorem dX11_fall_96 : decode cX11_fall 96 = .ok (.iload 5, 2) := by decide +kernel
theorem dX11_fall_98 : decode cX11_fall 98 = .ok (.iaload, 1) := by decide +kernel
theorem dX11_fall_99 : decode cX11_fall 99 = .ok (.ireturn, 1) := by decide +kernel
set_option maxRecDepth 20000 in
theorem ggX11_out_X3_hasRestOfOne : GoodIn wsX11_out wsX3_hasRestOfOne := goodIn_r _ [7, 8, 9, 10, 106, 107, 108, 109, 110, 111, 112, 113, 114, 115, 116, 117, 118, 119] rfl (by decide +kernel)
set_option maxRecDepth 20000 in
theorem gX11_out_X3_hasRestOfOne : GoodIn wsX11_out (wsV RX11 143 RX3 yX3_hasRestOfOne wsX3_hasRestOfOne) := goodIn_app (goodIn_of _ (by decide +kernel)) ggX11_out_X3_hasRestOfOne
set_option maxRecDepth 20000 in
theorem ggX11_out_X11_renewMinds : GoodIn wsX11_out wsX11_renewMinds := goodIn_r _ [15, 16, 1, 2, 17, 18, 19, 20, 21, 22, 23, 24, 25, 26, 27, 28, 29, 30, 31, 32, 33, 34, 35, 36, 37, 38, 39, 40, 41, 42, 43, 44, 45, 46, 47, 48, 49, 50, 51, 52, 53, 54, 55, 56, 57, 58, 59, 60, 61, 62, 63, 64, 65, 66, 67, 68, 69, 70, 71, 72, 73, 74, 75, 76, 77, 78, 79, 80, 81, 82, 83, 84, 85, 86, 87, 88, 89, 90, 91, 92, 93, 94, 95, 96, 97, 98, 99, 100, 101, 102, 103, 104, 105, 106, 107, 108, 109, 110, 111, 112, 113, 114, 115, 116, 117, 118, 119, 120, 121, 122, 123, 124, 125, 126, 127, 128, 129, 130, 131, 132, 133, 134, 135, 136, 137, 138, 139, 140, 141, 142, 143, 144, 145, 146, 147, 148, 149, 150, 151, 152, 153] rfl (by decide +kernel)
set_option maxRecDepth 20000 in
theorem gX11_out_X11_renewMinds : GoodIn wsX11_out (wsV RX11 128 RX11 yX11_renewMinds wsX11_renewMinds) := goodIn_app (goodIn_of _ (by decide +kernel)) ggX11_out_X11_renewMinds
theorem dX11_out_0 : decode cX11_out 0 = .ok (.iload_n 1, 1) := by decide +kernel
theorem dX11_out_1 : decode cX11_out 1 = .ok (.ifCond .lt 8, 3) := by decide +kernel
theorem dX11_out_4 : decode cX11_out 4 = .ok (.iload_n 1, 1) := by decide +kernel
theorem dX11_out_5 : decode cX11_out 5 = .ok (.iconst 2, 1) := by decide +kernel
theorem dX11_out_6 : decode cX11_out 6 = .ok (.if_icmp .le 5, 3) := by decide +kernel
theorem dX11_out_9 : decode cX11_out 9 = .ok (.iconst (-1), 1) := by decide +kernel
theorem dX11_out_10 : decode cX11_out 10 = .ok (.ireturn, 1) := by decide +kernel
theorem dX11_out_11 : decode cX11_out 11 = .ok (.iload_n 1, 1) := by decide +kernel
theorem dX11_out_12 : decode cX11_out 12 = .ok (.ifCond .eq 16, 3) := by decide +kernel
theorem dX11_out_15 : decode cX11_out 15 = .ok (.aload_n 0, 1) := by decide +kernel
theorem dX11_out_16 : decode cX11_out 16 = .ok (.getfield 53, 3) := by decide +kernel
theorem dX11_out_19 : decode cX11_out 19 = .ok (.invokevirtual 143, 3) := by decide +kernel
theorem dX11_out_22 : decode cX11_out 22 = .ok (.ifCond .eq 6, 3) := by decide +kernel
theorem dX11_out_25 : decode cX11_out 25 = .ok (.bipush (-3), 2) := by decide +kernel
theorem dX11_out_27 : decode cX11_out 27 = .ok (.ireturn, 1) := by decide +kernel
theorem dX11_out_28 : decode cX11_out 28 = .ok (.aload_n 0, 1) := by decide +kernel
theorem dX11_out_29 : decode cX11_out 29 = .ok (.getfield 53, 3) := by decide +kernel
theorem dX11_out_32 : decode cX11_out 32 = .ok (.getfield 147, 3) := by decide +kernel
theorem dX11_out_35 : decode cX11_out 35 = .ok (.istore_n 2, 1) := by decide +kernel
theorem dX11_out_36 : decode cX11_out 36 = .ok (.aload_n 0, 1) := by decide +kernel
theorem dX11_out_37 : decode cX11_out 37 = .ok (.getfield 53, 3) := by decide +kernel
theorem dX11_out_40 : decode cX11_out 40 = .ok (.iload_n 1, 1) := by decide +kernel
theorem dX11_out_41 : decode cX11_out 41 = .ok (.putfield 147, 3) := by decide +kernel
theorem dX11_out_44 : decode cX11_out 44 = .ok (.aload_n 0, 1) := by decide +kernel
theorem dX11_out_45 : decode cX11_out 45 = .ok (.invokevirtual 128, 3) := by decide +kernel
theorem dX11_out_48 : decode cX11_out 48 = .ok (.iload_n 2, 1) := by decide +kernel
theorem dX11_out_49 : decode cX11_out 49 = .ok (.ireturn, 1) := by decide +kernel
set_option maxRecDepth 20000 in
theorem ggX11_falls_X11_isSpot : GoodIn wsX11_falls wsX11_isSpot := goodIn_r _ [5] rfl (by decide +kernel)
set_option maxRecDepth 20000 in
theorem gX11_falls_X11_isSpot : GoodIn wsX11_falls (va_wsS RX11 85 yX11_isSpot wsX11_isSpot) := goodIn_app (goodIn_of _ (by decide +kernel)) ggX11_falls_X11_isSpot
set_option maxRecDepth 20000 in
theorem ggX11_falls_X9_restBehind : GoodIn wsX11_falls wsX9_restBehind := goodIn_r _ [10, 11, 12, 13, 26, 27, 28] rfl (by decide +kernel)
set_option maxRecDepth 20000 in
theorem gX11_falls_X9_restBehind : GoodIn wsX11_falls (wsV RX11 150 RX9 yX9_restBehind wsX9_restBehind) := goodIn_app (goodIn_of _ (by decide +kernel)) ggX11_falls_X9_restBehind
theorem dX11_falls_0 : decode cX11_falls 0 = .ok (.iload_n 2, 1) := by decide +kernel
theorem dX11_falls_1 : decode cX11_falls 1 = .ok (.invokestatic 85, 3) := by decide +kernel
theorem dX11_falls_4 : decode cX11_falls 4 = .ok (.ifCond .ne 5, 3) := by decide +kernel
theorem dX11_falls_7 : decode cX11_falls 7 = .ok (.iconst (-1), 1) := by decide +kernel
theorem dX11_falls_8 : decode cX11_falls 8 = .ok (.ireturn, 1) := by decide +kernel
theorem dX11_falls_9 : decode cX11_falls 9 = .ok (.iload_n 1, 1) := by decide +kernel
theorem dX11_falls_10 : decode cX11_falls 10 = .ok (.iconst 1, 1) := by decide +kernel
theorem dX11_falls_11 : decode cX11_falls 11 = .ok (.if_icmp .lt 10, 3) := by decide +kernel
theorem dX11_falls_14 : decode cX11_falls 14 = .ok (.iload_n 1, 1) := by decide +kernel
theorem dX11_falls_15 : decode cX11_falls 15 = .ok (.sipush 501, 3) := by decide +kernel
theorem dX11_falls_18 : decode cX11_falls 18 = .ok (.if_icmp .le 6, 3) := by decide +kernel
theorem dX11_falls_21 : decode cX11_falls 21 = .ok (.bipush (-2), 2) := by decide +kernel
theorem dX11_falls_23 : decode cX11_falls 23 = .ok (.ireturn, 1) := by decide +kernel
theorem dX11_falls_24 : decode cX11_falls 24 = .ok (.aload_n 0, 1) := by decide +kernel
theorem dX11_falls_25 : decode cX11_falls 25 = .ok (.getfield 18, 3) := by decide +kernel
theorem dX11_falls_28 : decode cX11_falls 28 = .ok (.iload_n 1, 1) := by decide +kernel
theorem dX11_falls_29 : decode cX11_falls 29 = .ok (.iload_n 2, 1) := by decide +kernel
theorem dX11_falls_30 : decode cX11_falls 30 = .ok (.invokevirtual 150, 3) := by decide +kernel
theorem dX11_falls_33 : decode cX11_falls 33 = .ok (.ireturn, 1) := by decide +kernel
set_option maxRecDepth 20000 in
theorem ggX11_darts_X11_isPlayer : GoodIn wsX11_darts wsX11_isPlayer := goodIn_r _ [6] rfl (by decide +kernel)
set_option maxRecDepth 20000 in
theorem gX11_darts_X11_isPlayer : GoodIn wsX11_darts (va_wsS RX11 112 yX11_isPlayer wsX11_isPlayer) := goodIn_app (goodIn_of _ (by decide +kernel)) ggX11_darts_X11_isPlayer
set_option maxRecDepth 20000 in
theorem ggX11_darts_X11_isDartsRest : GoodIn wsX11_darts wsX11_isDartsRest := goodIn_r _ [10, 11, 12, 13, 5, 14, 15, 16, 17, 18, 19, 20, 21, 68, 69, 70, 71, 72, 73, 74, 75, 76, 77, 78, 79, 80, 81, 82] rfl (by decide +kernel)
set_option maxRecDepth 20000 in
theorem gX11_darts_X11_isDartsRest : GoodIn wsX11_darts (wsV RX11 153 RX11 yX11_isDartsRest wsX11_isDartsRest) := goodIn_app (goodIn_of _ (by decide +kernel)) ggX11_darts_X11_isDartsRest
set_option maxRecDepth 20000 in
theorem ggX11_darts_X4_dartsAt : GoodIn wsX11_darts wsX4_dartsAt := goodIn_r _ [26, 27, 28, 29, 30, 25, 31, 32, 33, 34, 35, 36, 37, 19, 38, 39, 40, 41, 42, 43, 44, 21, 45, 46, 47, 48, 49, 50, 51, 52, 53, 54, 55, 56, 57, 58, 59, 83, 84, 85, 86, 87, 88, 89, 90, 91, 92, 93, 94, 95, 80, 81, 82, 96, 97, 98, 99] rfl (by decide +kernel)
set_option maxRecDepth 20000 in
theorem gX11_darts_X4_dartsAt : GoodIn wsX11_darts (wsV RX11 158 RX4 yX4_dartsAt wsX4_dartsAt) := goodIn_app (goodIn_of _ (by decide +kernel)) ggX11_darts_X4_dartsAt
set_option maxRecDepth 20000 in
theorem ggX11_darts_X11_bitsOfDouble : GoodIn wsX11_darts wsX11_bitsOfDouble := goodIn_r _ [62, 63, 64, 65, 5, 66, 67] rfl (by decide +kernel)
set_option maxRecDepth 20000 in
theorem gX11_darts_X11_bitsOfDouble : GoodIn wsX11_darts (va_wsS RX11 162 yX11_bitsOfDouble wsX11_bitsOfDouble) := goodIn_app (goodIn_of _ (by decide +kernel)) ggX11_darts_X11_bitsOfDouble
theorem dX11_darts_0 : decode cX11_darts 0 = .ok (.iload_n 1, 1) := by decide +kernel
theorem dX11_darts_1 : decode cX11_darts 1 = .ok (.invokestatic 112, 3) := by decide +kernel
theorem dX11_darts_4 : decode cX11_darts 4 = .ok (.ifCond .eq 11, 3) := by decide +kernel
theorem dX11_darts_7 : decode cX11_darts 7 = .ok (.aload_n 0, 1) := by decide +kernel
theorem dX11_darts_8 : decode cX11_darts 8 = .ok (.iload_n 2, 1) := by decide +kernel
theorem dX11_darts_9 : decode cX11_darts 9 = .ok (.invokevirtual 153, 3) := by decide +kernel
theorem dX11_darts_12 : decode cX11_darts 12 = .ok (.ifCond .ne 7, 3) := by decide +kernel
theorem dX11_darts_15 : decode cX11_darts 15 = .ok (.ldc2_w 156, 3) := by decide +kernel
theorem dX11_darts_18 : decode cX11_darts 18 = .ok (.lreturn, 1) := by decide +kernel
theorem dX11_darts_19 : decode cX11_darts 19 = .ok (.aload_n 0, 1) := by decide +kernel
theorem dX11_darts_20 : decode cX11_darts 20 = .ok (.getfield 28, 3) := by decide +kernel
theorem dX11_darts_23 : decode cX11_darts 23 = .ok (.iload_n 1, 1) := by decide +kernel
theorem dX11_darts_24 : decode cX11_darts 24 = .ok (.aaload, 1) := by decide +kernel
theorem dX11_darts_25 : decode cX11_darts 25 = .ok (.iload_n 2, 1) := by decide +kernel
theorem dX11_darts_26 : decode cX11_darts 26 = .ok (.invokevirtual 158, 3) := by decide +kernel
theorem dX11_darts_29 : decode cX11_darts 29 = .ok (.invokestatic 162, 3) := by decide +kernel
theorem dX11_darts_32 : decode cX11_darts 32 = .ok (.lreturn, 1) := by decide +kernel
set_option maxRecDepth 20000 in
theorem ggX11_dartsCut_X11_isPlayer : GoodIn wsX11_dartsCut wsX11_isPlayer := goodIn_r _ [5] rfl (by decide +kernel)
set_option maxRecDepth 20000 in
theorem gX11_dartsCut_X11_isPlayer : GoodIn wsX11_dartsCut (va_wsS RX11 112 yX11_isPlayer wsX11_isPlayer) := goodIn_app (goodIn_of _ (by decide +kernel)) ggX11_dartsCut_X11_isPlayer
set_option maxRecDepth 20000 in
theorem ggX11_dartsCut_X11_isDartsRest : GoodIn wsX11_dartsCut wsX11_isDartsRest := goodIn_r _ [9, 10, 11, 12, 4, 13, 14, 15, 16, 17, 18, 19, 20, 67, 68, 69, 70, 71, 72, 73, 74, 75, 76, 77, 78, 79, 80, 81] rfl (by decide +kernel)
set_option maxRecDepth 20000 in
theorem gX11_dartsCut_X11_isDartsRest : GoodIn wsX11_dartsCut (wsV RX11 153 RX11 yX11_isDartsRest wsX11_isDartsRest) := goodIn_app (goodIn_of _ (by decide +kernel)) ggX11_dartsCut_X11_isDartsRest
set_option maxRecDepth 20000 in
theorem ggX11_dartsCut_X4_dartsAt : GoodIn wsX11_dartsCut wsX4_dartsAt := goodIn_r _ [25, 26, 27, 28, 29, 24, 30, 31, 32, 33, 34, 35, 36, 18, 37, 38, 39, 40, 41, 42, 43, 20, 44, 45, 46, 47, 48, 49, 50, 51, 52, 53, 54, 55, 56, 57, 58, 82, 83, 84, 85, 86, 87, 88, 89, 90, 91, 92, 93, 94, 79, 80, 81, 95, 96, 97, 98] rfl (by decide +kernel)
set_option maxRecDepth 20000 in
theorem gX11_dartsCut_X4_dartsAt : GoodIn wsX11_dartsCut (wsV RX11 158 RX4 yX4_dartsAt wsX4_dartsAt) := goodIn_app (goodIn_of _ (by decide +kernel)) ggX11_dartsCut_X4_dartsAt
set_option maxRecDepth 20000 in
theorem ggX11_dartsCut_X11_bitsOfFloat : GoodIn wsX11_dartsCut wsX11_bitsOfFloat := goodIn_r _ [61, 62, 63, 64, 4, 65, 66] rfl (by decide +kernel)
set_option maxRecDepth 20000 in
theorem gX11_dartsCut_X11_bitsOfFloat : GoodIn wsX11_dartsCut (va_wsS RX11 166 yX11_bitsOfFloat wsX11_bitsOfFloat) := goodIn_app (goodIn_of _ (by decide +kernel)) ggX11_dartsCut_X11_bitsOfFloat
theorem dX11_dartsCut_0 : decode cX11_dartsCut 0 = .ok (.iload_n 1, 1) := by decide +kernel
theorem dX11_dartsCut_1 : decode cX11_dartsCut 1 = .ok (.invokestatic 112, 3) := by decide +kernel
theorem dX11_dartsCut_4 : decode cX11_dartsCut 4 = .ok (.ifCond .eq 11, 3) := by decide +kernel
theorem dX11_dartsCut_7 : decode cX11_dartsCut 7 = .ok (.aload_n 0, 1) := by decide +kernel
theorem dX11_dartsCut_8 : decode cX11_dartsCut 8 = .ok (.iload_n 2, 1) := by decide +kernel
theorem dX11_dartsCut_9 : decode cX11_dartsCut 9 = .ok (.invokevirtual 153, 3) := by decide +kernel
theorem dX11_dartsCut_12 : decode cX11_dartsCut 12 = .ok (.ifCond .ne 5, 3) := by decide +kernel
theorem dX11_dartsCut_15 : decode cX11_dartsCut 15 = .ok (.iconst (-1), 1) := by decide +kernel
theorem dX11_dartsCut_16 : decode cX11_dartsCut 16 = .ok (.ireturn, 1) := by decide +kernel
theorem dX11_dartsCut_17 : decode cX11_dartsCut 17 = .ok (.aload_n 0, 1) := by decide +kernel
theorem dX11_dartsCut_18 : decode cX11_dartsCut 18 = .ok (.getfield 28, 3) := by decide +kernel
theorem dX11_dartsCut_21 : decode cX11_dartsCut 21 = .ok (.iload_n 1, 1) := by decide +kernel
theorem dX11_dartsCut_22 : decode cX11_dartsCut 22 = .ok (.aaload, 1) := by decide +kernel
theorem dX11_dartsCut_23 : decode cX11_dartsCut 23 = .ok (.iload_n 2, 1) := by decide +kernel
theorem dX11_dartsCut_24 : decode cX11_dartsCut 24 = .ok (.invokevirtual 158, 3) := by decide +kernel
theorem dX11_dartsCut_27 : decode cX11_dartsCut 27 = .ok (.d2f, 1) := by decide +kernel
theorem dX11_dartsCut_28 : decode cX11_dartsCut 28 = .ok (.invokestatic 166, 3) := by decide +kernel
theorem dX11_dartsCut_31 : decode cX11_dartsCut 31 = .ok (.ireturn, 1) := by decide +kernel
set_option maxRecDepth 20000 in
theorem ggX11_thousandths_X11_isPlayer : GoodIn wsX11_thousandths wsX11_isPlayer := goodIn_r _ [6] rfl (by decide +kernel)
set_option maxRecDepth 20000 in
theorem gX11_thousandths_X11_isPlayer : GoodIn wsX11_thousandths (va_wsS RX11 112 yX11_isPlayer wsX11_isPlayer) := goodIn_app (goodIn_of _ (by decide +kernel)) ggX11_thousandths_X11_isPlayer
set_option maxRecDepth 20000 in
theorem ggX11_thousandths_X11_isDartsRest : GoodIn wsX11_thousandths wsX11_isDartsRest := goodIn_r _ [10, 11, 12, 13, 5, 14, 15, 16, 17, 18, 19, 20, 21, 60, 61, 62, 63, 64, 65, 66, 67, 68, 69, 70, 71, 72, 73, 74] rfl (by decide +kernel)
set_option maxRecDepth 20000 in
theorem gX11_thousandths_X11_isDartsRest : GoodIn wsX11_thousandths (wsV RX11 153 RX11 yX11_isDartsRest wsX11_isDartsRest) := goodIn_app (goodIn_of _ (by decide +kernel)) ggX11_thousandths_X11_isDartsRest
set_option maxRecDepth 20000 in
theorem ggX11_thousandths_X4_dartsAt : GoodIn wsX11_thousandths wsX4_dartsAt := goodIn_r _ [26, 27, 28, 29, 30, 25, 31, 32, 33, 34, 35, 36, 37, 19, 38, 39, 40, 41, 42, 43, 44, 21, 45, 46, 47, 48, 49, 50, 51, 52, 53, 54, 55, 56, 57, 58, 59, 75, 76, 77, 78, 79, 80, 81, 82, 83, 84, 85, 86, 87, 72, 73, 74, 88, 89, 90, 91] rfl (by decide +kernel)
set_option maxRecDepth 20000 in
theorem gX11_thousandths_X4_dartsAt : GoodIn wsX11_thousandths (wsV RX11 158 RX4 yX4_dartsAt wsX4_dartsAt) := goodIn_app (goodIn_of _ (by decide +kernel)) ggX11_thousandths_X4_dartsAt
theorem dX11_thousandths_0 : decode cX11_thousandths 0 = .ok (.iload_n 1, 1) := by decide +kernel
theorem dX11_thousandths_1 : decode cX11_thousandths 1 = .ok (.invokestatic 112, 3) := by decide +kernel
theorem dX11_thousandths_4 : decode cX11_thousandths 4 = .ok (.ifCond .eq 11, 3) := by decide +kernel
theorem dX11_thousandths_7 : decode cX11_thousandths 7 = .ok (.aload_n 0, 1) := by decide +kernel
theorem dX11_thousandths_8 : decode cX11_thousandths 8 = .ok (.iload_n 2, 1) := by decide +kernel
theorem dX11_thousandths_9 : decode cX11_thousandths 9 = .ok (.invokevirtual 153, 3) := by decide +kernel
theorem dX11_thousandths_12 : decode cX11_thousandths 12 = .ok (.ifCond .ne 5, 3) := by decide +kernel
theorem dX11_thousandths_15 : decode cX11_thousandths 15 = .ok (.iconst (-1), 1) := by decide +kernel
theorem dX11_thousandths_16 : decode cX11_thousandths 16 = .ok (.ireturn, 1) := by decide +kernel
theorem dX11_thousandths_17 : decode cX11_thousandths 17 = .ok (.aload_n 0, 1) := by decide +kernel
theorem dX11_thousandths_18 : decode cX11_thousandths 18 = .ok (.getfield 28, 3) := by decide +kernel
theorem dX11_thousandths_21 : decode cX11_thousandths 21 = .ok (.iload_n 1, 1) := by decide +kernel
theorem dX11_thousandths_22 : decode cX11_thousandths 22 = .ok (.aaload, 1) := by decide +kernel
theorem dX11_thousandths_23 : decode cX11_thousandths 23 = .ok (.iload_n 2, 1) := by decide +kernel
theorem dX11_thousandths_24 : decode cX11_thousandths 24 = .ok (.invokevirtual 158, 3) := by decide +kernel
theorem dX11_thousandths_27 : decode cX11_thousandths 27 = .ok (.ldc2_w 170, 3) := by decide +kernel
theorem dX11_thousandths_30 : decode cX11_thousandths 30 = .ok (.dmul, 1) := by decide +kernel
theorem dX11_thousandths_31 : decode cX11_thousandths 31 = .ok (.d2i, 1) := by decide +kernel
theorem dX11_thousandths_32 : decode cX11_thousandths 32 = .ok (.ireturn, 1) := by decide +kernel
set_option maxRecDepth 20000 in
theorem ggX11_aim_X11_isPlayer : GoodIn wsX11_aim wsX11_isPlayer := goodIn_r _ [5] rfl (by decide +kernel)
set_option maxRecDepth 20000 in
theorem gX11_aim_X11_isPlayer : GoodIn wsX11_aim (va_wsS RX11 112 yX11_isPlayer wsX11_isPlayer) := goodIn_app (goodIn_of _ (by decide +kernel)) ggX11_aim_X11_isPlayer
set_option maxRecDepth 20000 in
theorem ggX11_aim_X11_isRestUpTo : GoodIn wsX11_aim wsX11_isRestUpTo := goodIn_r _ [9, 10, 11, 12, 13, 14, 15, 16, 55, 56, 57, 58, 59, 60, 61, 62, 63, 64, 65, 66, 67, 68, 69] rfl (by decide +kernel)
set_option maxRecDepth 20000 in
theorem gX11_aim_X11_isRestUpTo : GoodIn wsX11_aim (wsV RX11 172 RX11 yX11_isRestUpTo wsX11_isRestUpTo) := goodIn_app (goodIn_of _ (by decide +kernel)) ggX11_aim_X11_isRestUpTo
set_option maxRecDepth 20000 in
theorem ggX11_aim_X4_aimAt : GoodIn wsX11_aim wsX4_aimAt := goodIn_r _ [21, 22, 23, 24, 25, 20, 26, 27, 28, 29, 30, 31, 32, 14, 33, 34, 35, 36, 37, 38, 39, 16, 40, 41, 42, 43, 44, 45, 46, 47, 48, 49, 50, 51, 52, 53, 54, 70, 71, 72, 73, 74, 75, 76, 77, 78, 79, 80, 81, 82, 67, 68, 69, 83, 84, 85, 86] rfl (by decide +kernel)
set_option maxRecDepth 20000 in
theorem gX11_aim_X4_aimAt : GoodIn wsX11_aim (wsV RX11 175 RX4 yX4_aimAt wsX4_aimAt) := goodIn_app (goodIn_of _ (by decide +kernel)) ggX11_aim_X4_aimAt
theorem dX11_aim_0 : decode cX11_aim 0 = .ok (.iload_n 1, 1) := by decide +kernel
theorem dX11_aim_1 : decode cX11_aim 1 = .ok (.invokestatic 112, 3) := by decide +kernel
theorem dX11_aim_4 : decode cX11_aim 4 = .ok (.ifCond .eq 14, 3) := by decide +kernel
theorem dX11_aim_7 : decode cX11_aim 7 = .ok (.aload_n 0, 1) := by decide +kernel
theorem dX11_aim_8 : decode cX11_aim 8 = .ok (.iload_n 2, 1) := by decide +kernel
theorem dX11_aim_9 : decode cX11_aim 9 = .ok (.sipush 501, 3) := by decide +kernel
theorem dX11_aim_12 : decode cX11_aim 12 = .ok (.invokevirtual 172, 3) := by decide +kernel
theorem dX11_aim_15 : decode cX11_aim 15 = .ok (.ifCond .ne 5, 3) := by decide +kernel
theorem dX11_aim_18 : decode cX11_aim 18 = .ok (.iconst (-1), 1) := by decide +kernel
theorem dX11_aim_19 : decode cX11_aim 19 = .ok (.ireturn, 1) := by decide +kernel
theorem dX11_aim_20 : decode cX11_aim 20 = .ok (.aload_n 0, 1) := by decide +kernel
theorem dX11_aim_21 : decode cX11_aim 21 = .ok (.getfield 28, 3) := by decide +kernel
theorem dX11_aim_24 : decode cX11_aim 24 = .ok (.iload_n 1, 1) := by decide +kernel
theorem dX11_aim_25 : decode cX11_aim 25 = .ok (.aaload, 1) := by decide +kernel
theorem dX11_aim_26 : decode cX11_aim 26 = .ok (.iload_n 2, 1) := by decide +kernel
theorem dX11_aim_27 : decode cX11_aim 27 = .ok (.invokevirtual 175, 3) := by decide +kernel
theorem dX11_aim_30 : decode cX11_aim 30 = .ok (.ireturn, 1) := by decide +kernel
set_option maxRecDepth 20000 in
theorem ggX11_chance_X11_isPlayer : GoodIn wsX11_chance wsX11_isPlayer := goodIn_r _ [6] rfl (by decide +kernel)
set_option maxRecDepth 20000 in
theorem gX11_chance_X11_isPlayer : GoodIn wsX11_chance (va_wsS RX11 112 yX11_isPlayer wsX11_isPlayer) := goodIn_app (goodIn_of _ (by decide +kernel)) ggX11_chance_X11_isPlayer
set_option maxRecDepth 20000 in
theorem ggX11_chance_X11_isRestUpTo : GoodIn wsX11_chance wsX11_isRestUpTo := goodIn_r _ [10, 11, 12, 13, 14, 15, 16, 17, 62, 63, 64, 65, 66, 67, 68, 69, 70, 71, 72, 73, 74, 75, 76] rfl (by decide +kernel)
set_option maxRecDepth 20000 in
theorem gX11_chance_X11_isRestUpTo : GoodIn wsX11_chance (wsV RX11 172 RX11 yX11_isRestUpTo wsX11_isRestUpTo) := goodIn_app (goodIn_of _ (by decide +kernel)) ggX11_chance_X11_isRestUpTo
set_option maxRecDepth 20000 in
theorem ggX11_chance_X4_chanceAt : GoodIn wsX11_chance wsX4_chanceAt := goodIn_r _ [22, 23, 24, 25, 26, 21, 27, 28, 29, 30, 31, 32, 33, 15, 34, 35, 36, 37, 38, 39, 40, 17, 41, 42, 43, 44, 45, 46, 47, 48, 49, 50, 51, 52, 53, 77, 78, 79, 80, 81, 82, 83, 84, 85, 86, 87, 88, 89, 74, 75, 76, 90, 91, 92, 93] rfl (by decide +kernel)
set_option maxRecDepth 20000 in
theorem gX11_chance_X4_chanceAt : GoodIn wsX11_chance (wsV RX11 178 RX4 yX4_chanceAt wsX4_chanceAt) := goodIn_app (goodIn_of _ (by decide +kernel)) ggX11_chance_X4_chanceAt
set_option maxRecDepth 20000 in
theorem ggX11_chance_X11_bitsOfDouble : GoodIn wsX11_chance wsX11_bitsOfDouble := goodIn_r _ [56, 57, 58, 59, 5, 60, 61] rfl (by decide +kernel)
set_option maxRecDepth 20000 in
theorem gX11_chance_X11_bitsOfDouble : GoodIn wsX11_chance (va_wsS RX11 162 yX11_bitsOfDouble wsX11_bitsOfDouble) := goodIn_app (goodIn_of _ (by decide +kernel)) ggX11_chance_X11_bitsOfDouble
theorem dX11_chance_0 : decode cX11_chance 0 = .ok (.iload_n 1, 1) := by decide +kernel
theorem dX11_chance_1 : decode cX11_chance 1 = .ok (.invokestatic 112, 3) := by decide +kernel
theorem dX11_chance_4 : decode cX11_chance 4 = .ok (.ifCond .eq 23, 3) := by decide +kernel
theorem dX11_chance_7 : decode cX11_chance 7 = .ok (.aload_n 0, 1) := by decide +kernel
theorem dX11_chance_8 : decode cX11_chance 8 = .ok (.iload_n 2, 1) := by decide +kernel
theorem dX11_chance_9 : decode cX11_chance 9 = .ok (.sipush 180, 3) := by decide +kernel
theorem dX11_chance_12 : decode cX11_chance 12 = .ok (.invokevirtual 172, 3) := by decide +kernel
theorem dX11_chance_15 : decode cX11_chance 15 = .ok (.ifCond .eq 12, 3) := by decide +kernel
theorem dX11_chance_18 : decode cX11_chance 18 = .ok (.iload_n 3, 1) := by decide +kernel
theorem dX11_chance_19 : decode cX11_chance 19 = .ok (.ifCond .lt 8, 3) := by decide +kernel
theorem dX11_chance_22 : decode cX11_chance 22 = .ok (.iload_n 3, 1) := by decide +kernel
theorem dX11_chance_23 : decode cX11_chance 23 = .ok (.iconst 3, 1) := by decide +kernel
theorem dX11_chance_24 : decode cX11_chance 24 = .ok (.if_icmp .le 7, 3) := by decide +kernel
theorem dX11_chance_27 : decode cX11_chance 27 = .ok (.ldc2_w 156, 3) := by decide +kernel
theorem dX11_chance_30 : decode cX11_chance 30 = .ok (.lreturn, 1) := by decide +kernel
theorem dX11_chance_31 : decode cX11_chance 31 = .ok (.aload_n 0, 1) := by decide +kernel
theorem dX11_chance_32 : decode cX11_chance 32 = .ok (.getfield 28, 3) := by decide +kernel
theorem dX11_chance_35 : decode cX11_chance 35 = .ok (.iload_n 1, 1) := by decide +kernel
theorem dX11_chance_36 : decode cX11_chance 36 = .ok (.aaload, 1) := by decide +kernel
theorem dX11_chance_37 : decode cX11_chance 37 = .ok (.iload_n 2, 1) := by decide +kernel
theorem dX11_chance_38 : decode cX11_chance 38 = .ok (.iload_n 3, 1) := by decide +kernel
theorem dX11_chance_39 : decode cX11_chance 39 = .ok (.invokevirtual 178, 3) := by decide +kernel
theorem dX11_chance_42 : decode cX11_chance 42 = .ok (.invokestatic 162, 3) := by decide +kernel
theorem dX11_chance_45 : decode cX11_chance 45 = .ok (.lreturn, 1) := by decide +kernel
set_option maxRecDepth 20000 in
theorem ggX11_chanceAim_X11_isPlayer : GoodIn wsX11_chanceAim wsX11_isPlayer := goodIn_r _ [5] rfl (by decide +kernel)
set_option maxRecDepth 20000 in
theorem gX11_chanceAim_X11_isPlayer : GoodIn wsX11_chanceAim (va_wsS RX11 112 yX11_isPlayer wsX11_isPlayer) := goodIn_app (goodIn_of _ (by decide +kernel)) ggX11_chanceAim_X11_isPlayer
set_option maxRecDepth 20000 in
theorem ggX11_chanceAim_X11_isRestUpTo : GoodIn wsX11_chanceAim wsX11_isRestUpTo := goodIn_r _ [9, 10, 11, 12, 13, 14, 15, 16, 53, 54, 55, 56, 57, 58, 59, 60, 61, 62, 63, 64, 65, 66, 67] rfl (by decide +kernel)
set_option maxRecDepth 20000 in
theorem gX11_chanceAim_X11_isRestUpTo : GoodIn wsX11_chanceAim (wsV RX11 172 RX11 yX11_isRestUpTo wsX11_isRestUpTo) := goodIn_app (goodIn_of _ (by decide +kernel)) ggX11_chanceAim_X11_isRestUpTo
set_option maxRecDepth 20000 in
theorem ggX11_chanceAim_X4_chanceAimAt : GoodIn wsX11_chanceAim wsX4_chanceAimAt := goodIn_r _ [21, 22, 23, 24, 25, 20, 26, 27, 28, 29, 30, 31, 32, 14, 33, 34, 35, 36, 37, 38, 39, 16, 40, 41, 42, 43, 44, 45, 46, 47, 48, 49, 50, 51, 52, 68, 69, 70, 71, 72, 73, 74, 75, 76, 77, 78, 79, 80, 65, 66, 67, 81, 82, 83, 84] rfl (by decide +kernel)
set_option maxRecDepth 20000 in
theorem gX11_chanceAim_X4_chanceAimAt : GoodIn wsX11_chanceAim (wsV RX11 182 RX4 yX4_chanceAimAt wsX4_chanceAimAt) := goodIn_app (goodIn_of _ (by decide +kernel)) ggX11_chanceAim_X4_chanceAimAt
theorem dX11_chanceAim_0 : decode cX11_chanceAim 0 = .ok (.iload_n 1, 1) := by decide +kernel
theorem dX11_chanceAim_1 : decode cX11_chanceAim 1 = .ok (.invokestatic 112, 3) := by decide +kernel
theorem dX11_chanceAim_4 : decode cX11_chanceAim 4 = .ok (.ifCond .eq 24, 3) := by decide +kernel
theorem dX11_chanceAim_7 : decode cX11_chanceAim 7 = .ok (.aload_n 0, 1) := by decide +kernel
theorem dX11_chanceAim_8 : decode cX11_chanceAim 8 = .ok (.iload_n 2, 1) := by decide +kernel
theorem dX11_chanceAim_9 : decode cX11_chanceAim 9 = .ok (.sipush 180, 3) := by decide +kernel
theorem dX11_chanceAim_12 : decode cX11_chanceAim 12 = .ok (.invokevirtual 172, 3) := by decide +kernel
theorem dX11_chanceAim_15 : decode cX11_chanceAim 15 = .ok (.ifCond .eq 13, 3) := by decide +kernel
theorem dX11_chanceAim_18 : decode cX11_chanceAim 18 = .ok (.iload_n 3, 1) := by decide +kernel
theorem dX11_chanceAim_19 : decode cX11_chanceAim 19 = .ok (.iconst 1, 1) := by decide +kernel
theorem dX11_chanceAim_20 : decode cX11_chanceAim 20 = .ok (.if_icmp .lt 8, 3) := by decide +kernel
theorem dX11_chanceAim_23 : decode cX11_chanceAim 23 = .ok (.iload_n 3, 1) := by decide +kernel
theorem dX11_chanceAim_24 : decode cX11_chanceAim 24 = .ok (.iconst 3, 1) := by decide +kernel
theorem dX11_chanceAim_25 : decode cX11_chanceAim 25 = .ok (.if_icmp .le 5, 3) := by decide +kernel
theorem dX11_chanceAim_28 : decode cX11_chanceAim 28 = .ok (.iconst (-1), 1) := by decide +kernel
theorem dX11_chanceAim_29 : decode cX11_chanceAim 29 = .ok (.ireturn, 1) := by decide +kernel
theorem dX11_chanceAim_30 : decode cX11_chanceAim 30 = .ok (.aload_n 0, 1) := by decide +kernel
theorem dX11_chanceAim_31 : decode cX11_chanceAim 31 = .ok (.getfield 28, 3) := by decide +kernel
theorem dX11_chanceAim_34 : decode cX11_chanceAim 34 = .ok (.iload_n 1, 1) := by decide +kernel
theorem dX11_chanceAim_35 : decode cX11_chanceAim 35 = .ok (.aaload, 1) := by decide +kernel
theorem dX11_chanceAim_36 : decode cX11_chanceAim 36 = .ok (.iload_n 2, 1) := by decide +kernel
theorem dX11_chanceAim_37 : decode cX11_chanceAim 37 = .ok (.iload_n 3, 1) := by decide +kernel
theorem dX11_chanceAim_38 : decode cX11_chanceAim 38 = .ok (.invokevirtual 182, 3) := by decide +kernel
theorem dX11_chanceAim_41 : decode cX11_chanceAim 41 = .ok (.ireturn, 1) := by decide +kernel
set_option maxRecDepth 20000 in
theorem ggX11_race_X11_isRace : GoodIn wsX11_race wsX11_isRace := goodIn_r _ [7, 8, 9, 10, 6, 11, 12, 13, 14, 15, 16, 17, 18, 85, 86, 87, 88, 89, 90, 91, 92, 93, 94, 95, 96, 97, 98, 99] rfl (by decide +kernel)
set_option maxRecDepth 20000 in
theorem gX11_race_X11_isRace : GoodIn wsX11_race (wsV RX11 185 RX11 yX11_isRace wsX11_isRace) := goodIn_app (goodIn_of _ (by decide +kernel)) ggX11_race_X11_isRace
set_option maxRecDepth 20000 in
theorem ggX11_race_X11_isPlayer : GoodIn wsX11_race wsX11_isPlayer := goodIn_r _ [21] rfl (by decide +kernel)
set_option maxRecDepth 20000 in
theorem gX11_race_X11_isPlayer : GoodIn wsX11_race (va_wsS RX11 112 yX11_isPlayer wsX11_isPlayer) := goodIn_app (goodIn_of _ (by decide +kernel)) ggX11_race_X11_isPlayer
set_option maxRecDepth 20000 in
theorem ggX11_race_X7_wonBy : GoodIn wsX11_race wsX7_wonBy := goodIn_r _ [26, 27, 28, 29, 30, 25, 31, 32, 33, 34, 14, 15, 16, 17, 18, 35, 36, 37, 38, 39, 40, 41, 42, 43, 44, 45, 46, 47, 48, 49, 50, 51, 52, 53, 54, 55, 56, 57, 58, 59, 60, 61, 62, 63, 64, 65, 66, 67, 68, 69, 70, 71, 72, 73, 74, 75, 76, 100, 101, 102, 103, 104, 105, 106, 107, 108, 97, 98, 99, 109, 110, 111, 112, 113, 114, 115, 116, 117, 118, 119, 120, 121, 122, 123, 124, 125] rfl (by decide +kernel)
set_option maxRecDepth 20000 in
theorem gX11_race_X7_wonBy : GoodIn wsX11_race (wsV RX11 188 RX7 yX7_wonBy wsX7_wonBy) := goodIn_app (goodIn_of _ (by decide +kernel)) ggX11_race_X7_wonBy
set_option maxRecDepth 20000 in
theorem ggX11_race_X11_bitsOfDouble : GoodIn wsX11_race wsX11_bitsOfDouble := goodIn_r _ [79, 80, 81, 82, 6, 83, 84] rfl (by decide +kernel)
set_option maxRecDepth 20000 in
theorem gX11_race_X11_bitsOfDouble : GoodIn wsX11_race (va_wsS RX11 162 yX11_bitsOfDouble wsX11_bitsOfDouble) := goodIn_app (goodIn_of _ (by decide +kernel)) ggX11_race_X11_bitsOfDouble
theorem dX11_race_0 : decode cX11_race 0 = .ok (.aload_n 0, 1) := by decide +kernel
theorem dX11_race_1 : decode cX11_race 1 = .ok (.iload_n 1, 1) := by decide +kernel
theorem dX11_race_2 : decode cX11_race 2 = .ok (.iload_n 2, 1) := by decide +kernel
theorem dX11_race_3 : decode cX11_race 3 = .ok (.invokevirtual 185, 3) := by decide +kernel
theorem dX11_race_6 : decode cX11_race 6 = .ok (.ifCond .eq 10, 3) := by decide +kernel
theorem dX11_race_9 : decode cX11_race 9 = .ok (.iload_n 3, 1) := by decide +kernel
theorem dX11_race_10 : decode cX11_race 10 = .ok (.invokestatic 112, 3) := by decide +kernel
theorem dX11_race_13 : decode cX11_race 13 = .ok (.ifCond .ne 7, 3) := by decide +kernel
theorem dX11_race_16 : decode cX11_race 16 = .ok (.ldc2_w 156, 3) := by decide +kernel
theorem dX11_race_19 : decode cX11_race 19 = .ok (.lreturn, 1) := by decide +kernel
theorem dX11_race_20 : decode cX11_race 20 = .ok (.aload_n 0, 1) := by decide +kernel
theorem dX11_race_21 : decode cX11_race 21 = .ok (.getfield 37, 3) := by decide +kernel
theorem dX11_race_24 : decode cX11_race 24 = .ok (.iload_n 3, 1) := by decide +kernel
theorem dX11_race_25 : decode cX11_race 25 = .ok (.iload_n 1, 1) := by decide +kernel
theorem dX11_race_26 : decode cX11_race 26 = .ok (.iload_n 2, 1) := by decide +kernel
theorem dX11_race_27 : decode cX11_race 27 = .ok (.invokevirtual 188, 3) := by decide +kernel
theorem dX11_race_30 : decode cX11_race 30 = .ok (.invokestatic 162, 3) := by decide +kernel
theorem dX11_race_33 : decode cX11_race 33 = .ok (.lreturn, 1) := by decide +kernel
set_option maxRecDepth 20000 in
theorem ggX11_raceAim_X11_isRace : GoodIn wsX11_raceAim wsX11_isRace := goodIn_r _ [6, 7, 8, 9, 5, 10, 11, 12, 13, 14, 15, 16, 17, 76, 77, 78, 79, 80, 81, 82, 83, 84, 85, 86, 87, 88, 89, 90] rfl (by decide +kernel)
set_option maxRecDepth 20000 in
theorem gX11_raceAim_X11_isRace : GoodIn wsX11_raceAim (wsV RX11 185 RX11 yX11_isRace wsX11_isRace) := goodIn_app (goodIn_of _ (by decide +kernel)) ggX11_raceAim_X11_isRace
set_option maxRecDepth 20000 in
theorem ggX11_raceAim_X11_isPlayer : GoodIn wsX11_raceAim wsX11_isPlayer := goodIn_r _ [20] rfl (by decide +kernel)
set_option maxRecDepth 20000 in
theorem gX11_raceAim_X11_isPlayer : GoodIn wsX11_raceAim (va_wsS RX11 112 yX11_isPlayer wsX11_isPlayer) := goodIn_app (goodIn_of _ (by decide +kernel)) ggX11_raceAim_X11_isPlayer
set_option maxRecDepth 20000 in
theorem ggX11_raceAim_X7_aimOf : GoodIn wsX11_raceAim wsX7_aimOf := goodIn_r _ [25, 26, 27, 28, 29, 24, 30, 31, 32, 33, 13, 14, 15, 16, 17, 34, 35, 36, 37, 38, 39, 40, 41, 42, 43, 44, 45, 46, 47, 48, 49, 50, 51, 52, 53, 54, 55, 56, 57, 58, 59, 60, 61, 62, 63, 64, 65, 66, 67, 68, 69, 70, 71, 72, 73, 74, 75, 91, 92, 93, 94, 95, 96, 97, 98, 99, 88, 89, 90, 100, 101, 102, 103, 104, 105, 106, 107, 108, 109, 110, 111, 112, 113, 114, 115, 116] rfl (by decide +kernel)
set_option maxRecDepth 20000 in
theorem gX11_raceAim_X7_aimOf : GoodIn wsX11_raceAim (wsV RX11 192 RX7 yX7_aimOf wsX7_aimOf) := goodIn_app (goodIn_of _ (by decide +kernel)) ggX11_raceAim_X7_aimOf
theorem dX11_raceAim_0 : decode cX11_raceAim 0 = .ok (.aload_n 0, 1) := by decide +kernel
theorem dX11_raceAim_1 : decode cX11_raceAim 1 = .ok (.iload_n 1, 1) := by decide +kernel
theorem dX11_raceAim_2 : decode cX11_raceAim 2 = .ok (.iload_n 2, 1) := by decide +kernel
theorem dX11_raceAim_3 : decode cX11_raceAim 3 = .ok (.invokevirtual 185, 3) := by decide +kernel
theorem dX11_raceAim_6 : decode cX11_raceAim 6 = .ok (.ifCond .eq 10, 3) := by decide +kernel
theorem dX11_raceAim_9 : decode cX11_raceAim 9 = .ok (.iload_n 3, 1) := by decide +kernel
theorem dX11_raceAim_10 : decode cX11_raceAim 10 = .ok (.invokestatic 112, 3) := by decide +kernel
theorem dX11_raceAim_13 : decode cX11_raceAim 13 = .ok (.ifCond .ne 5, 3) := by decide +kernel
theorem dX11_raceAim_16 : decode cX11_raceAim 16 = .ok (.iconst (-1), 1) := by decide +kernel
theorem dX11_raceAim_17 : decode cX11_raceAim 17 = .ok (.ireturn, 1) := by decide +kernel
theorem dX11_raceAim_18 : decode cX11_raceAim 18 = .ok (.aload_n 0, 1) := by decide +kernel
theorem dX11_raceAim_19 : decode cX11_raceAim 19 = .ok (.getfield 37, 3) := by decide +kernel
theorem dX11_raceAim_22 : decode cX11_raceAim 22 = .ok (.iload_n 3, 1) := by decide +kernel
theorem dX11_raceAim_23 : decode cX11_raceAim 23 = .ok (.iload_n 1, 1) := by decide +kernel
theorem dX11_raceAim_24 : decode cX11_raceAim 24 = .ok (.iload_n 2, 1) := by decide +kernel
theorem dX11_raceAim_25 : decode cX11_raceAim 25 = .ok (.invokevirtual 192, 3) := by decide +kernel
theorem dX11_raceAim_28 : decode cX11_raceAim 28 = .ok (.ireturn, 1) := by decide +kernel
set_option maxRecDepth 20000 in
theorem ggX11_settled_X11_isRace : GoodIn wsX11_settled wsX11_isRace := goodIn_r _ [6, 7, 8, 9, 5, 10, 11, 12, 13, 14, 15, 16, 17, 73, 74, 75, 76, 77, 78, 79, 80, 81, 82, 83, 84, 85, 86, 87] rfl (by decide +kernel)
set_option maxRecDepth 20000 in
theorem gX11_settled_X11_isRace : GoodIn wsX11_settled (wsV RX11 185 RX11 yX11_isRace wsX11_isRace) := goodIn_app (goodIn_of _ (by decide +kernel)) ggX11_settled_X11_isRace
set_option maxRecDepth 20000 in
theorem ggX11_settled_X7_isStill : GoodIn wsX11_settled wsX7_isStill := goodIn_r _ [22, 23, 24, 25, 26, 21, 27, 28, 29, 13, 14, 15, 16, 17, 30, 31, 32, 33, 34, 35, 36, 37, 38, 39, 40, 41, 42, 43, 44, 45, 46, 47, 48, 49, 50, 51, 52, 53, 54, 55, 56, 57, 58, 59, 60, 61, 62, 63, 64, 65, 66, 67, 68, 69, 70, 71, 72, 88, 89, 90, 91, 92, 93, 94, 95, 96, 85, 86, 87, 97, 98, 99, 100, 101, 102, 103, 104, 105, 106, 107, 108, 109, 110, 111, 112, 113] rfl (by decide +kernel)
set_option maxRecDepth 20000 in
theorem gX11_settled_X7_isStill : GoodIn wsX11_settled (wsV RX11 196 RX7 yX7_isStill wsX7_isStill) := goodIn_app (goodIn_of _ (by decide +kernel)) ggX11_settled_X7_isStill
theorem dX11_settled_0 : decode cX11_settled 0 = .ok (.aload_n 0, 1) := by decide +kernel
theorem dX11_settled_1 : decode cX11_settled 1 = .ok (.iload_n 1, 1) := by decide +kernel
theorem dX11_settled_2 : decode cX11_settled 2 = .ok (.iload_n 2, 1) := by decide +kernel
theorem dX11_settled_3 : decode cX11_settled 3 = .ok (.invokevirtual 185, 3) := by decide +kernel
theorem dX11_settled_6 : decode cX11_settled 6 = .ok (.ifCond .ne 5, 3) := by decide +kernel
theorem dX11_settled_9 : decode cX11_settled 9 = .ok (.iconst (-1), 1) := by decide +kernel
theorem dX11_settled_10 : decode cX11_settled 10 = .ok (.ireturn, 1) := by decide +kernel
theorem dX11_settled_11 : decode cX11_settled 11 = .ok (.aload_n 0, 1) := by decide +kernel
theorem dX11_settled_12 : decode cX11_settled 12 = .ok (.getfield 37, 3) := by decide +kernel
theorem dX11_settled_15 : decode cX11_settled 15 = .ok (.iload_n 1, 1) := by decide +kernel
theorem dX11_settled_16 : decode cX11_settled 16 = .ok (.iload_n 2, 1) := by decide +kernel
theorem dX11_settled_17 : decode cX11_settled 17 = .ok (.invokevirtual 196, 3) := by decide +kernel
theorem dX11_settled_20 : decode cX11_settled 20 = .ok (.ifCond .eq 7, 3) := by decide +kernel
theorem dX11_settled_23 : decode cX11_settled 23 = .ok (.iconst 1, 1) := by decide +kernel
theorem dX11_settled_24 : decode cX11_settled 24 = .ok (.goto 4, 3) := by decide +kernel
theorem dX11_settled_27 : decode cX11_settled 27 = .ok (.iconst 0, 1) := by decide +kernel
theorem dX11_settled_28 : decode cX11_settled 28 = .ok (.ireturn, 1) := by decide +kernel
set_option maxRecDepth 20000 in
theorem ggX11_percent_X11_isRace : GoodIn wsX11_percent wsX11_isRace := goodIn_r _ [7, 8, 9, 10, 6, 11, 12, 13, 14, 15, 16, 17, 18, 74, 75, 76, 77, 78, 79, 80, 81, 82, 83, 84, 85, 86, 87, 88] rfl (by decide +kernel)
set_option maxRecDepth 20000 in
theorem gX11_percent_X11_isRace : GoodIn wsX11_percent (wsV RX11 185 RX11 yX11_isRace wsX11_isRace) := goodIn_app (goodIn_of _ (by decide +kernel)) ggX11_percent_X11_isRace
set_option maxRecDepth 20000 in
theorem ggX11_percent_X7_wonBy : GoodIn wsX11_percent wsX7_wonBy := goodIn_r _ [23, 24, 25, 26, 27, 22, 28, 29, 30, 31, 14, 15, 16, 17, 18, 32, 33, 34, 35, 36, 37, 38, 39, 40, 41, 42, 43, 44, 45, 46, 47, 48, 49, 50, 51, 52, 53, 54, 55, 56, 57, 58, 59, 60, 61, 62, 63, 64, 65, 66, 67, 68, 69, 70, 71, 72, 73, 89, 90, 91, 92, 93, 94, 95, 96, 97, 86, 87, 88, 98, 99, 100, 101, 102, 103, 104, 105, 106, 107, 108, 109, 110, 111, 112, 113, 114] rfl (by decide +kernel)
set_option maxRecDepth 20000 in
theorem gX11_percent_X7_wonBy : GoodIn wsX11_percent (wsV RX11 188 RX7 yX7_wonBy wsX7_wonBy) := goodIn_app (goodIn_of _ (by decide +kernel)) ggX11_percent_X7_wonBy
theorem dX11_percent_0 : decode cX11_percent 0 = .ok (.aload_n 0, 1) := by decide +kernel
theorem dX11_percent_1 : decode cX11_percent 1 = .ok (.iload_n 1, 1) := by decide +kernel
theorem dX11_percent_2 : decode cX11_percent 2 = .ok (.iload_n 2, 1) := by decide +kernel
theorem dX11_percent_3 : decode cX11_percent 3 = .ok (.invokevirtual 185, 3) := by decide +kernel
theorem dX11_percent_6 : decode cX11_percent 6 = .ok (.ifCond .ne 5, 3) := by decide +kernel
theorem dX11_percent_9 : decode cX11_percent 9 = .ok (.iconst (-1), 1) := by decide +kernel
theorem dX11_percent_10 : decode cX11_percent 10 = .ok (.ireturn, 1) := by decide +kernel
theorem dX11_percent_11 : decode cX11_percent 11 = .ok (.aload_n 0, 1) := by decide +kernel
theorem dX11_percent_12 : decode cX11_percent 12 = .ok (.getfield 37, 3) := by decide +kernel
theorem dX11_percent_15 : decode cX11_percent 15 = .ok (.iconst 0, 1) := by decide +kernel
theorem dX11_percent_16 : decode cX11_percent 16 = .ok (.iload_n 1, 1) := by decide +kernel
theorem dX11_percent_17 : decode cX11_percent 17 = .ok (.iload_n 2, 1) := by decide +kernel
theorem dX11_percent_18 : decode cX11_percent 18 = .ok (.invokevirtual 188, 3) := by decide +kernel
theorem dX11_percent_21 : decode cX11_percent 21 = .ok (.ldc2_w 199, 3) := by decide +kernel
theorem dX11_percent_24 : decode cX11_percent 24 = .ok (.dmul, 1) := by decide +kernel
theorem dX11_percent_25 : decode cX11_percent 25 = .ok (.d2f, 1) := by decide +kernel
theorem dX11_percent_26 : decode cX11_percent 26 = .ok (.fstore_n 3, 1) := by decide +kernel
theorem dX11_percent_27 : decode cX11_percent 27 = .ok (.fload_n 3, 1) := by decide +kernel
theorem dX11_percent_28 : decode cX11_percent 28 = .ok (.f2i, 1) := by decide +kernel
theorem dX11_percent_29 : decode cX11_percent 29 = .ok (.ireturn, 1) := by decide +kernel
set_option maxRecDepth 20000 in
theorem ggX11_ways_X11_isRestUpTo : GoodIn wsX11_ways wsX11_isRestUpTo := goodIn_r _ [6, 7, 8, 9, 10, 11, 12, 13, 44, 45, 46, 47, 48, 49, 50, 51, 52, 53, 54, 55, 56, 57, 58] rfl (by decide +kernel)
set_option maxRecDepth 20000 in
theorem gX11_ways_X11_isRestUpTo : GoodIn wsX11_ways (wsV RX11 172 RX11 yX11_isRestUpTo wsX11_isRestUpTo) := goodIn_app (goodIn_of _ (by decide +kernel)) ggX11_ways_X11_isRestUpTo
set_option maxRecDepth 20000 in
theorem ggX11_ways_X2_countOfAll : GoodIn wsX11_ways wsX2_countOfAll := goodIn_r _ [18, 19, 20, 21, 22, 17, 23, 24, 25, 26, 27, 28, 29, 30, 31, 32, 33, 34, 35, 36, 11, 37, 38, 39, 13, 59, 60, 61, 62, 63, 56, 57, 58] rfl (by decide +kernel)
set_option maxRecDepth 20000 in
theorem gX11_ways_X2_countOfAll : GoodIn wsX11_ways (wsV RX11 201 RX2 yX2_countOfAll wsX2_countOfAll) := goodIn_app (goodIn_of _ (by decide +kernel)) ggX11_ways_X2_countOfAll
set_option maxRecDepth 20000 in
theorem ggX11_ways_X2_countBy : GoodIn wsX11_ways wsX2_countBy := goodIn_r _ [43, 19, 20, 21, 22, 17, 23, 24, 25, 26, 27, 28, 29, 30, 31, 32, 33, 34, 35, 36, 11, 37, 38, 39, 13, 59, 60, 61, 62, 63, 56, 57, 58] rfl (by decide +kernel)
set_option maxRecDepth 20000 in
theorem gX11_ways_X2_countBy : GoodIn wsX11_ways (wsV RX11 204 RX2 yX2_countBy wsX2_countBy) := goodIn_app (goodIn_of _ (by decide +kernel)) ggX11_ways_X2_countBy
theorem dX11_ways_0 : decode cX11_ways 0 = .ok (.aload_n 0, 1) := by decide +kernel
theorem dX11_ways_1 : decode cX11_ways 1 = .ok (.iload_n 1, 1) := by decide +kernel
theorem dX11_ways_2 : decode cX11_ways 2 = .ok (.sipush 180, 3) := by decide +kernel
theorem dX11_ways_5 : decode cX11_ways 5 = .ok (.invokevirtual 172, 3) := by decide +kernel
theorem dX11_ways_8 : decode cX11_ways 8 = .ok (.ifCond .eq 12, 3) := by decide +kernel
theorem dX11_ways_11 : decode cX11_ways 11 = .ok (.iload_n 2, 1) := by decide +kernel
theorem dX11_ways_12 : decode cX11_ways 12 = .ok (.ifCond .lt 8, 3) := by decide +kernel
theorem dX11_ways_15 : decode cX11_ways 15 = .ok (.iload_n 2, 1) := by decide +kernel
theorem dX11_ways_16 : decode cX11_ways 16 = .ok (.iconst 3, 1) := by decide +kernel
theorem dX11_ways_17 : decode cX11_ways 17 = .ok (.if_icmp .le 5, 3) := by decide +kernel
theorem dX11_ways_20 : decode cX11_ways 20 = .ok (.iconst (-1), 1) := by decide +kernel
theorem dX11_ways_21 : decode cX11_ways 21 = .ok (.ireturn, 1) := by decide +kernel
theorem dX11_ways_22 : decode cX11_ways 22 = .ok (.iload_n 2, 1) := by decide +kernel
theorem dX11_ways_23 : decode cX11_ways 23 = .ok (.ifCond .ne 14, 3) := by decide +kernel
theorem dX11_ways_26 : decode cX11_ways 26 = .ok (.aload_n 0, 1) := by decide +kernel
theorem dX11_ways_27 : decode cX11_ways 27 = .ok (.getfield 46, 3) := by decide +kernel
theorem dX11_ways_30 : decode cX11_ways 30 = .ok (.iload_n 1, 1) := by decide +kernel
theorem dX11_ways_31 : decode cX11_ways 31 = .ok (.invokevirtual 201, 3) := by decide +kernel
theorem dX11_ways_34 : decode cX11_ways 34 = .ok (.goto 12, 3) := by decide +kernel
theorem dX11_ways_37 : decode cX11_ways 37 = .ok (.aload_n 0, 1) := by decide +kernel
theorem dX11_ways_38 : decode cX11_ways 38 = .ok (.getfield 46, 3) := by decide +kernel
theorem dX11_ways_41 : decode cX11_ways 41 = .ok (.iload_n 1, 1) := by decide +kernel
theorem dX11_ways_42 : decode cX11_ways 42 = .ok (.iload_n 2, 1) := by decide +kernel
theorem dX11_ways_43 : decode cX11_ways 43 = .ok (.invokevirtual 204, 3) := by decide +kernel
theorem dX11_ways_46 : decode cX11_ways 46 = .ok (.ireturn, 1) := by decide +kernel
set_option maxRecDepth 20000 in
theorem ggX11_way_X11_isRestUpTo : GoodIn wsX11_way wsX11_isRestUpTo := goodIn_r _ [8, 9, 10, 11, 12, 13, 14, 15, 52, 53, 54, 55, 56, 57, 58, 59, 60, 61, 62, 63, 69, 70, 71] rfl (by decide +kernel)
set_option maxRecDepth 20000 in
theorem gX11_way_X11_isRestUpTo : GoodIn wsX11_way (wsV RX11 172 RX11 yX11_isRestUpTo wsX11_isRestUpTo) := goodIn_app (goodIn_of _ (by decide +kernel)) ggX11_way_X11_isRestUpTo
set_option maxRecDepth 20000 in
theorem ggX11_way_X2_find : GoodIn wsX11_way wsX2_find := goodIn_r _ [20, 21, 22, 23, 24, 25, 19, 26, 27, 28, 29, 30, 31, 32, 33, 34, 35, 36, 37, 38, 39, 40, 41, 42, 43, 13, 44, 45, 46, 15, 47, 48, 49, 50, 51, 64, 65, 66, 67, 68, 69, 70, 71] rfl (by decide +kernel)
set_option maxRecDepth 20000 in
theorem gX11_way_X2_find : GoodIn wsX11_way (wsV RX11 207 RX2 yX2_find wsX2_find) := goodIn_app (goodIn_of _ (by decide +kernel)) ggX11_way_X2_find
theorem dX11_way_0 : decode cX11_way 0 = .ok (.aload_n 0, 1) := by decide +kernel
theorem dX11_way_1 : decode cX11_way 1 = .ok (.iload_n 1, 1) := by decide +kernel
theorem dX11_way_2 : decode cX11_way 2 = .ok (.sipush 180, 3) := by decide +kernel
theorem dX11_way_5 : decode cX11_way 5 = .ok (.invokevirtual 172, 3) := by decide +kernel
theorem dX11_way_8 : decode cX11_way 8 = .ok (.ifCond .eq 15, 3) := by decide +kernel
theorem dX11_way_11 : decode cX11_way 11 = .ok (.aload_n 0, 1) := by decide +kernel
theorem dX11_way_12 : decode cX11_way 12 = .ok (.getfield 46, 3) := by decide +kernel
theorem dX11_way_15 : decode cX11_way 15 = .ok (.iload_n 1, 1) := by decide +kernel
theorem dX11_way_16 : decode cX11_way 16 = .ok (.iload_n 2, 1) := by decide +kernel
theorem dX11_way_17 : decode cX11_way 17 = .ok (.invokevirtual 207, 3) := by decide +kernel
theorem dX11_way_20 : decode cX11_way 20 = .ok (.ifCond .ne 5, 3) := by decide +kernel
theorem dX11_way_23 : decode cX11_way 23 = .ok (.iconst (-1), 1) := by decide +kernel
theorem dX11_way_24 : decode cX11_way 24 = .ok (.ireturn, 1) := by decide +kernel
theorem dX11_way_25 : decode cX11_way 25 = .ok (.iload_n 3, 1) := by decide +kernel
theorem dX11_way_26 : decode cX11_way 26 = .ok (.iconst (-1), 1) := by decide +kernel
theorem dX11_way_27 : decode cX11_way 27 = .ok (.if_icmp .ne 11, 3) := by decide +kernel
theorem dX11_way_30 : decode cX11_way 30 = .ok (.aload_n 0, 1) := by decide +kernel
theorem dX11_way_31 : decode cX11_way 31 = .ok (.getfield 46, 3) := by decide +kernel
theorem dX11_way_34 : decode cX11_way 34 = .ok (.getfield 210, 3) := by decide +kernel
theorem dX11_way_37 : decode cX11_way 37 = .ok (.ireturn, 1) := by decide +kernel
theorem dX11_way_38 : decode cX11_way 38 = .ok (.iload_n 3, 1) := by decide +kernel
theorem dX11_way_39 : decode cX11_way 39 = .ok (.ifCond .lt 14, 3) := by decide +kernel
theorem dX11_way_42 : decode cX11_way 42 = .ok (.iload_n 3, 1) := by decide +kernel
theorem dX11_way_43 : decode cX11_way 43 = .ok (.aload_n 0, 1) := by decide +kernel
theorem dX11_way_44 : decode cX11_way 44 = .ok (.getfield 46, 3) := by decide +kernel
theorem dX11_way_47 : decode cX11_way 47 = .ok (.getfield 210, 3) := by decide +kernel
theorem dX11_way_50 : decode cX11_way 50 = .ok (.if_icmp .lt 7, 3) := by decide +kernel
theorem dX11_way_53 : decode cX11_way 53 = .ok (.iconst (-1), 1) := by decide +kernel
theorem dX11_way_54 : decode cX11_way 54 = .ok (.goto 12, 3) := by decide +kernel
theorem dX11_way_57 : decode cX11_way 57 = .ok (.aload_n 0, 1) := by decide +kernel
theorem dX11_way_58 : decode cX11_way 58 = .ok (.getfield 46, 3) := by decide +kernel
theorem dX11_way_61 : decode cX11_way 61 = .ok (.getfield 213, 3) := by decide +kernel
theorem dX11_way_64 : decode cX11_way 64 = .ok (.iload_n 3, 1) := by decide +kernel
theorem dX11_way_65 : decode cX11_way 65 = .ok (.iaload, 1) := by decide +kernel
theorem dX11_way_66 : decode cX11_way 66 = .ok (.ireturn, 1) := by decide +kernel
set_option maxRecDepth 20000 in
theorem ggX11_spell_X11_isRestUpTo : GoodIn wsX11_spell wsX11_isRestUpTo := goodIn_r _ [10, 11, 12, 13, 14, 15, 16, 17, 81, 82, 83, 84, 85, 86, 87, 88, 89, 90, 91, 92, 100, 101, 102] rfl (by decide +kernel)
set_option maxRecDepth 20000 in
theorem gX11_spell_X11_isRestUpTo : GoodIn wsX11_spell (wsV RX11 172 RX11 yX11_isRestUpTo wsX11_isRestUpTo) := goodIn_app (goodIn_of _ (by decide +kernel)) ggX11_spell_X11_isRestUpTo
set_option maxRecDepth 20000 in
theorem ggX11_spell_X2_find : GoodIn wsX11_spell wsX2_find := goodIn_r _ [22, 23, 24, 25, 26, 27, 21, 28, 29, 30, 31, 32, 33, 34, 35, 36, 37, 38, 39, 40, 41, 42, 43, 44, 45, 15, 46, 47, 48, 17, 49, 50, 51, 52, 53, 93, 94, 95, 96, 97, 100, 101, 102] rfl (by decide +kernel)
set_option maxRecDepth 20000 in
theorem gX11_spell_X2_find : GoodIn wsX11_spell (wsV RX11 207 RX2 yX2_find wsX2_find) := goodIn_app (goodIn_of _ (by decide +kernel)) ggX11_spell_X2_find
set_option maxRecDepth 20000 in
theorem ggX11_spell_X5_spellRow : GoodIn wsX11_spell wsX5_spellRow := goodIn_r _ [58, 59, 60, 61, 62, 57, 63, 64, 65, 66, 67, 68, 69, 70, 71, 72, 73, 74, 75, 76, 77, 78, 79, 80, 98, 99] rfl (by decide +kernel)
set_option maxRecDepth 20000 in
theorem gX11_spell_X5_spellRow : GoodIn wsX11_spell (wsV RX11 214 RX5 yX5_spellRow wsX5_spellRow) := goodIn_app (goodIn_of _ (by decide +kernel)) ggX11_spell_X5_spellRow
theorem dX11_spell_0 : decode cX11_spell 0 = .ok (.aload_n 0, 1) := by decide +kernel
theorem dX11_spell_1 : decode cX11_spell 1 = .ok (.iload_n 1, 1) := by decide +kernel
theorem dX11_spell_2 : decode cX11_spell 2 = .ok (.sipush 180, 3) := by decide +kernel
theorem dX11_spell_5 : decode cX11_spell 5 = .ok (.invokevirtual 172, 3) := by decide +kernel
theorem dX11_spell_8 : decode cX11_spell 8 = .ok (.ifCond .eq 15, 3) := by decide +kernel
theorem dX11_spell_11 : decode cX11_spell 11 = .ok (.aload_n 0, 1) := by decide +kernel
theorem dX11_spell_12 : decode cX11_spell 12 = .ok (.getfield 46, 3) := by decide +kernel
theorem dX11_spell_15 : decode cX11_spell 15 = .ok (.iload_n 1, 1) := by decide +kernel
theorem dX11_spell_16 : decode cX11_spell 16 = .ok (.iload_n 2, 1) := by decide +kernel
theorem dX11_spell_17 : decode cX11_spell 17 = .ok (.invokevirtual 207, 3) := by decide +kernel
theorem dX11_spell_20 : decode cX11_spell 20 = .ok (.ifCond .ne 5, 3) := by decide +kernel
theorem dX11_spell_23 : decode cX11_spell 23 = .ok (.iconst (-1), 1) := by decide +kernel
theorem dX11_spell_24 : decode cX11_spell 24 = .ok (.ireturn, 1) := by decide +kernel
theorem dX11_spell_25 : decode cX11_spell 25 = .ok (.aload_n 0, 1) := by decide +kernel
theorem dX11_spell_26 : decode cX11_spell 26 = .ok (.getfield 70, 3) := by decide +kernel
theorem dX11_spell_29 : decode cX11_spell 29 = .ok (.aload_n 0, 1) := by decide +kernel
theorem dX11_spell_30 : decode cX11_spell 30 = .ok (.getfield 46, 3) := by decide +kernel
theorem dX11_spell_33 : decode cX11_spell 33 = .ok (.getfield 213, 3) := by decide +kernel
theorem dX11_spell_36 : decode cX11_spell 36 = .ok (.aload_n 0, 1) := by decide +kernel
theorem dX11_spell_37 : decode cX11_spell 37 = .ok (.getfield 46, 3) := by decide +kernel
theorem dX11_spell_40 : decode cX11_spell 40 = .ok (.getfield 210, 3) := by decide +kernel
theorem dX11_spell_43 : decode cX11_spell 43 = .ok (.invokevirtual 214, 3) := by decide +kernel
theorem dX11_spell_46 : decode cX11_spell 46 = .ok (.aload_n 0, 1) := by decide +kernel
theorem dX11_spell_47 : decode cX11_spell 47 = .ok (.getfield 70, 3) := by decide +kernel
theorem dX11_spell_50 : decode cX11_spell 50 = .ok (.getfield 218, 3) := by decide +kernel
theorem dX11_spell_53 : decode cX11_spell 53 = .ok (.ireturn, 1) := by decide +kernel
set_option maxRecDepth 20000 in
theorem ggX11_start_X3_begin : GoodIn wsX11_start wsX3_begin := goodIn_r _ [7, 8, 9, 10, 11, 12, 13, 14, 6, 15, 16, 17, 18, 31, 32, 33, 34, 35, 36, 37, 38, 39, 40, 41, 42, 43, 44] rfl (by decide +kernel)
set_option maxRecDepth 20000 in
theorem gX11_start_X3_begin : GoodIn wsX11_start (wsV RX11 224 RX3 yX3_begin wsX3_begin) := goodIn_app (goodIn_of _ (by decide +kernel)) ggX11_start_X3_begin
theorem dX11_start_0 : decode cX11_start 0 = .ok (.iload_n 1, 1) := by decide +kernel
theorem dX11_start_1 : decode cX11_start 1 = .ok (.iconst 2, 1) := by decide +kernel
theorem dX11_start_2 : decode cX11_start 2 = .ok (.if_icmp .lt 10, 3) := by decide +kernel
theorem dX11_start_5 : decode cX11_start 5 = .ok (.iload_n 1, 1) := by decide +kernel
theorem dX11_start_6 : decode cX11_start 6 = .ok (.sipush 501, 3) := by decide +kernel
theorem dX11_start_9 : decode cX11_start 9 = .ok (.if_icmp .le 6, 3) := by decide +kernel
theorem dX11_start_12 : decode cX11_start 12 = .ok (.bipush (-2), 2) := by decide +kernel
theorem dX11_start_14 : decode cX11_start 14 = .ok (.ireturn, 1) := by decide +kernel
theorem dX11_start_15 : decode cX11_start 15 = .ok (.aload_n 0, 1) := by decide +kernel
theorem dX11_start_16 : decode cX11_start 16 = .ok (.getfield 53, 3) := by decide +kernel
theorem dX11_start_19 : decode cX11_start 19 = .ok (.getfield 221, 3) := by decide +kernel
theorem dX11_start_22 : decode cX11_start 22 = .ok (.istore_n 2, 1) := by decide +kernel
theorem dX11_start_23 : decode cX11_start 23 = .ok (.aload_n 0, 1) := by decide +kernel
theorem dX11_start_24 : decode cX11_start 24 = .ok (.getfield 53, 3) := by decide +kernel
theorem dX11_start_27 : decode cX11_start 27 = .ok (.iload_n 1, 1) := by decide +kernel
theorem dX11_start_28 : decode cX11_start 28 = .ok (.putfield 221, 3) := by decide +kernel
theorem dX11_start_31 : decode cX11_start 31 = .ok (.aload_n 0, 1) := by decide +kernel
theorem dX11_start_32 : decode cX11_start 32 = .ok (.getfield 53, 3) := by decide +kernel
theorem dX11_start_35 : decode cX11_start 35 = .ok (.invokevirtual 224, 3) := by decide +kernel
theorem dX11_start_38 : decode cX11_start 38 = .ok (.iload_n 2, 1) := by decide +kernel
theorem dX11_start_39 : decode cX11_start 39 = .ok (.ireturn, 1) := by decide +kernel
set_option maxRecDepth 20000 in
theorem ggX11_thrown_X11_isSpot : GoodIn wsX11_thrown wsX11_isSpot := goodIn_r _ [4] rfl (by decide +kernel)
set_option maxRecDepth 20000 in
theorem gX11_thrown_X11_isSpot : GoodIn wsX11_thrown (va_wsS RX11 85 yX11_isSpot wsX11_isSpot) := goodIn_app (goodIn_of _ (by decide +kernel)) ggX11_thrown_X11_isSpot
set_option maxRecDepth 20000 in
theorem ggX11_thrown_X11_throwUpon : GoodIn wsX11_thrown wsX11_throwUpon := goodIn_r _ [8, 9, 10, 11, 12, 13, 14, 15, 16, 17, 18, 19, 20, 21, 22, 23, 24, 25, 26, 27, 28, 29, 30, 31, 32, 33, 34, 35, 36, 37, 38, 39, 40, 41, 42, 43, 44, 45, 46, 47, 48, 49, 50, 51, 52, 53, 54, 55, 56, 57, 58, 59, 60, 61, 62, 63, 64, 65, 66, 67, 68, 69, 70, 71, 72, 73, 74] rfl (by decide +kernel)
set_option maxRecDepth 20000 in
theorem gX11_thrown_X11_throwUpon : GoodIn wsX11_thrown (wsV RX11 227 RX11 yX11_throwUpon wsX11_throwUpon) := goodIn_app (goodIn_of _ (by decide +kernel)) ggX11_thrown_X11_throwUpon
theorem dX11_thrown_0 : decode cX11_thrown 0 = .ok (.iload_n 1, 1) := by decide +kernel
theorem dX11_thrown_1 : decode cX11_thrown 1 = .ok (.invokestatic 85, 3) := by decide +kernel
theorem dX11_thrown_4 : decode cX11_thrown 4 = .ok (.ifCond .eq 11, 3) := by decide +kernel
theorem dX11_thrown_7 : decode cX11_thrown 7 = .ok (.aload_n 0, 1) := by decide +kernel
theorem dX11_thrown_8 : decode cX11_thrown 8 = .ok (.iload_n 1, 1) := by decide +kernel
theorem dX11_thrown_9 : decode cX11_thrown 9 = .ok (.invokevirtual 227, 3) := by decide +kernel
theorem dX11_thrown_12 : decode cX11_thrown 12 = .ok (.goto 4, 3) := by decide +kernel
theorem dX11_thrown_15 : decode cX11_thrown 15 = .ok (.iconst (-1), 1) := by decide +kernel
theorem dX11_thrown_16 : decode cX11_thrown 16 = .ok (.ireturn, 1) := by decide +kernel
set_option maxRecDepth 20000 in
theorem ggX11_throwsAt_X11_isAim : GoodIn wsX11_throwsAt wsX11_isAim := goodIn_r _ [4] rfl (by decide +kernel)
set_option maxRecDepth 20000 in
theorem gX11_throwsAt_X11_isAim : GoodIn wsX11_throwsAt (va_wsS RX11 131 yX11_isAim wsX11_isAim) := goodIn_app (goodIn_of _ (by decide +kernel)) ggX11_throwsAt_X11_isAim
set_option maxRecDepth 20000 in
theorem ggX11_throwsAt_X11_throwByDraw : GoodIn wsX11_throwsAt wsX11_throwByDraw := goodIn_r _ [8, 9, 10, 11, 12, 13, 14, 15, 16, 17, 18, 19, 20, 21, 22, 23, 24, 25, 26, 27, 28, 29, 30, 3, 31, 32, 33, 34, 35, 36, 37, 38, 39, 40, 41, 42, 43, 44, 45, 46, 47, 48, 49, 50, 51, 52, 53, 54, 55, 56, 57, 58, 59, 60, 61, 62, 63, 64, 65, 66, 67, 68, 69, 70, 71, 72, 73, 74, 75, 76, 77, 78, 79, 80, 81, 82, 83, 84, 85, 86, 87, 88, 89, 90, 91, 92, 93, 94, 95, 96, 97, 98, 99, 100, 101, 102, 103, 104, 105, 106, 107, 108, 109, 110, 111, 112] rfl (by decide +kernel)
set_option maxRecDepth 20000 in
theorem gX11_throwsAt_X11_throwByDraw : GoodIn wsX11_throwsAt (wsV RX11 230 RX11 yX11_throwByDraw wsX11_throwByDraw) := goodIn_app (goodIn_of _ (by decide +kernel)) ggX11_throwsAt_X11_throwByDraw
theorem dX11_throwsAt_0 : decode cX11_throwsAt 0 = .ok (.iload_n 1, 1) := by decide +kernel
theorem dX11_throwsAt_1 : decode cX11_throwsAt 1 = .ok (.invokestatic 131, 3) := by decide +kernel
theorem dX11_throwsAt_4 : decode cX11_throwsAt 4 = .ok (.ifCond .eq 11, 3) := by decide +kernel
theorem dX11_throwsAt_7 : decode cX11_throwsAt 7 = .ok (.aload_n 0, 1) := by decide +kernel
theorem dX11_throwsAt_8 : decode cX11_throwsAt 8 = .ok (.iload_n 1, 1) := by decide +kernel
theorem dX11_throwsAt_9 : decode cX11_throwsAt 9 = .ok (.invokevirtual 230, 3) := by decide +kernel
theorem dX11_throwsAt_12 : decode cX11_throwsAt 12 = .ok (.goto 4, 3) := by decide +kernel
theorem dX11_throwsAt_15 : decode cX11_throwsAt 15 = .ok (.iconst (-1), 1) := by decide +kernel
theorem dX11_throwsAt_16 : decode cX11_throwsAt 16 = .ok (.ireturn, 1) := by decide +kernel
set_option maxRecDepth 20000 in
theorem ggX11_minds_X3_legsOfBoth : GoodIn wsX11_minds wsX3_legsOfBoth := goodIn_r _ [8, 9, 10, 108, 109, 110, 111, 112, 113, 114, 115, 116, 117, 118, 119, 120, 121] rfl (by decide +kernel)
set_option maxRecDepth 20000 in
theorem gX11_minds_X3_legsOfBoth : GoodIn wsX11_minds (wsV RX11 233 RX3 yX3_legsOfBoth wsX3_legsOfBoth) := goodIn_app (goodIn_of _ (by decide +kernel)) ggX11_minds_X3_legsOfBoth
set_option maxRecDepth 20000 in
theorem ggX11_minds_X3_restOfThrower : GoodIn wsX11_minds wsX3_restOfThrower := goodIn_r _ [14, 9, 15, 16, 108, 109, 110, 111, 112, 113, 114, 115, 116, 117, 118, 119, 120, 121] rfl (by decide +kernel)
set_option maxRecDepth 20000 in
theorem gX11_minds_X3_restOfThrower : GoodIn wsX11_minds (wsV RX11 240 RX3 yX3_restOfThrower wsX3_restOfThrower) := goodIn_app (goodIn_of _ (by decide +kernel)) ggX11_minds_X3_restOfThrower
set_option maxRecDepth 20000 in
theorem ggX11_minds_X4_aimAt : GoodIn wsX11_minds wsX4_aimAt := goodIn_r _ [21, 22, 23, 24, 25, 20, 26, 27, 28, 29, 30, 31, 32, 33, 34, 35, 36, 37, 38, 39, 40, 41, 42, 43, 44, 45, 46, 47, 48, 49, 50, 51, 52, 53, 54, 55, 56, 122, 123, 124, 125, 126, 127, 128, 129, 130, 131, 132, 133, 134, 135, 136, 137, 138, 139, 140, 141] rfl (by decide +kernel)
set_option maxRecDepth 20000 in
theorem gX11_minds_X4_aimAt : GoodIn wsX11_minds (wsV RX11 175 RX4 yX4_aimAt wsX4_aimAt) := goodIn_app (goodIn_of _ (by decide +kernel)) ggX11_minds_X4_aimAt
set_option maxRecDepth 20000 in
theorem ggX11_minds_X11_throwByDraw : GoodIn wsX11_minds wsX11_throwByDraw := goodIn_r _ [61, 2, 1, 3, 62, 63, 64, 7, 65, 66, 67, 68, 69, 70, 20, 71, 51, 52, 54, 53, 72, 73, 74, 60, 75, 76, 11, 12, 13, 14, 9, 15, 16, 77, 36, 37, 33, 38, 39, 40, 41, 78, 79, 80, 81, 82, 83, 84, 85, 10, 86, 87, 88, 89, 90, 91, 92, 93, 94, 95, 96, 97, 98, 99, 100, 101, 102, 103, 104, 105, 106, 107, 108, 109, 110, 111, 112, 113, 114, 115, 122, 123, 124, 125, 126, 127, 128, 129, 130, 131, 132, 133, 134, 138, 139, 140, 141, 116, 117, 118, 119, 120, 121, 135, 136, 137] rfl (by decide +kernel)
set_option maxRecDepth 20000 in
theorem gX11_minds_X11_throwByDraw : GoodIn wsX11_minds (wsV RX11 230 RX11 yX11_throwByDraw wsX11_throwByDraw) := goodIn_app (goodIn_of _ (by decide +kernel)) ggX11_minds_X11_throwByDraw
theorem dX11_minds_0 : decode cX11_minds 0 = .ok (.iload_n 1, 1) := by decide +kernel
theorem dX11_minds_1 : decode cX11_minds 1 = .ok (.iconst 1, 1) := by decide +kernel
theorem dX11_minds_2 : decode cX11_minds 2 = .ok (.if_icmp .lt 9, 3) := by decide +kernel
theorem dX11_minds_5 : decode cX11_minds 5 = .ok (.iload_n 1, 1) := by decide +kernel
theorem dX11_minds_6 : decode cX11_minds 6 = .ok (.bipush 12, 2) := by decide +kernel
theorem dX11_minds_8 : decode cX11_minds 8 = .ok (.if_icmp .le 6, 3) := by decide +kernel
theorem dX11_minds_11 : decode cX11_minds 11 = .ok (.bipush (-2), 2) := by decide +kernel
theorem dX11_minds_13 : decode cX11_minds 13 = .ok (.ireturn, 1) := by decide +kernel
theorem dX11_minds_14 : decode cX11_minds 14 = .ok (.aload_n 0, 1) := by decide +kernel
theorem dX11_minds_15 : decode cX11_minds 15 = .ok (.getfield 53, 3) := by decide +kernel
theorem dX11_minds_18 : decode cX11_minds 18 = .ok (.invokevirtual 233, 3) := by decide +kernel
theorem dX11_minds_21 : decode cX11_minds 21 = .ok (.istore_n 2, 1) := by decide +kernel
theorem dX11_minds_22 : decode cX11_minds 22 = .ok (.iconst 0, 1) := by decide +kernel
theorem dX11_minds_23 : decode cX11_minds 23 = .ok (.istore_n 3, 1) := by decide +kernel
theorem dX11_minds_24 : decode cX11_minds 24 = .ok (.iload_n 3, 1) := by decide +kernel
theorem dX11_minds_25 : decode cX11_minds 25 = .ok (.iload_n 1, 1) := by decide +kernel
theorem dX11_minds_26 : decode cX11_minds 26 = .ok (.if_icmp .ge 36, 3) := by decide +kernel
theorem dX11_minds_29 : decode cX11_minds 29 = .ok (.aload_n 0, 1) := by decide +kernel
theorem dX11_minds_30 : decode cX11_minds 30 = .ok (.aload_n 0, 1) := by decide +kernel
theorem dX11_minds_31 : decode cX11_minds 31 = .ok (.getfield 28, 3) := by decide +kernel
theorem dX11_minds_34 : decode cX11_minds 34 = .ok (.aload_n 0, 1) := by decide +kernel
theorem dX11_minds_35 : decode cX11_minds 35 = .ok (.getfield 53, 3) := by decide +kernel
theorem dX11_minds_38 : decode cX11_minds 38 = .ok (.getfield 237, 3) := by decide +kernel
theorem dX11_minds_41 : decode cX11_minds 41 = .ok (.aaload, 1) := by decide +kernel
theorem dX11_minds_42 : decode cX11_minds 42 = .ok (.aload_n 0, 1) := by decide +kernel
theorem dX11_minds_43 : decode cX11_minds 43 = .ok (.getfield 53, 3) := by decide +kernel
theorem dX11_minds_46 : decode cX11_minds 46 = .ok (.invokevirtual 240, 3) := by decide +kernel
theorem dX11_minds_49 : decode cX11_minds 49 = .ok (.invokevirtual 175, 3) := by decide +kernel
theorem dX11_minds_52 : decode cX11_minds 52 = .ok (.invokevirtual 230, 3) := by decide +kernel
theorem dX11_minds_55 : decode cX11_minds 55 = .ok (.pop, 1) := by decide +kernel
theorem dX11_minds_56 : decode cX11_minds 56 = .ok (.iinc 3 1, 3) := by decide +kernel
theorem dX11_minds_59 : decode cX11_minds 59 = .ok (.goto (-35), 3) := by decide +kernel
theorem dX11_minds_62 : decode cX11_minds 62 = .ok (.aload_n 0, 1) := by decide +kernel
theorem dX11_minds_63 : decode cX11_minds 63 = .ok (.getfield 53, 3) := by decide +kernel
theorem dX11_minds_66 : decode cX11_minds 66 = .ok (.invokevirtual 233, 3) := by decide +kernel
theorem dX11_minds_69 : decode cX11_minds 69 = .ok (.iload_n 2, 1) := by decide +kernel
theorem dX11_minds_70 : decode cX11_minds 70 = .ok (.isub, 1) := by decide +kernel
theorem dX11_minds_71 : decode cX11_minds 71 = .ok (.ireturn, 1) := by decide +kernel
theorem dX11_seed_0 : decode cX11_seed 0 = .ok (.aload_n 0, 1) := by decide +kernel
theorem dX11_seed_1 : decode cX11_seed 1 = .ok (.getfield 53, 3) := by decide +kernel
theorem dX11_seed_4 : decode cX11_seed 4 = .ok (.getfield 243, 3) := by decide +kernel
theorem dX11_seed_7 : decode cX11_seed 7 = .ok (.istore_n 2, 1) := by decide +kernel
theorem dX11_seed_8 : decode cX11_seed 8 = .ok (.aload_n 0, 1) := by decide +kernel
theorem dX11_seed_9 : decode cX11_seed 9 = .ok (.getfield 53, 3) := by decide +kernel
theorem dX11_seed_12 : decode cX11_seed 12 = .ok (.iload_n 1, 1) := by decide +kernel
theorem dX11_seed_13 : decode cX11_seed 13 = .ok (.putfield 243, 3) := by decide +kernel
theorem dX11_seed_16 : decode cX11_seed 16 = .ok (.iload_n 2, 1) := by decide +kernel
theorem dX11_seed_17 : decode cX11_seed 17 = .ok (.ireturn, 1) := by decide +kernel
set_option maxRecDepth 20000 in
theorem ggX11_average_X11_isPlayer : GoodIn wsX11_average wsX11_isPlayer := goodIn_r _ [9] rfl (by decide +kernel)
set_option maxRecDepth 20000 in
theorem gX11_average_X11_isPlayer : GoodIn wsX11_average (va_wsS RX11 112 yX11_isPlayer wsX11_isPlayer) := goodIn_app (goodIn_of _ (by decide +kernel)) ggX11_average_X11_isPlayer
set_option maxRecDepth 20000 in
theorem ggX11_average_X11_bitsOfFloat : GoodIn wsX11_average wsX11_bitsOfFloat := goodIn_r _ [12, 13, 14, 15, 8, 16, 17] rfl (by decide +kernel)
set_option maxRecDepth 20000 in
theorem gX11_average_X11_bitsOfFloat : GoodIn wsX11_average (va_wsS RX11 166 yX11_bitsOfFloat wsX11_bitsOfFloat) := goodIn_app (goodIn_of _ (by decide +kernel)) ggX11_average_X11_bitsOfFloat
theorem dX11_average_0 : decode cX11_average 0 = .ok (.iload_n 1, 1) := by decide +kernel
theorem dX11_average_1 : decode cX11_average 1 = .ok (.invokestatic 112, 3) := by decide +kernel
theorem dX11_average_4 : decode cX11_average 4 = .ok (.ifCond .ne 5, 3) := by decide +kernel
theorem dX11_average_7 : decode cX11_average 7 = .ok (.iconst (-1), 1) := by decide +kernel
theorem dX11_average_8 : decode cX11_average 8 = .ok (.ireturn, 1) := by decide +kernel
theorem dX11_average_9 : decode cX11_average 9 = .ok (.aload_n 0, 1) := by decide +kernel
theorem dX11_average_10 : decode cX11_average 10 = .ok (.getfield 53, 3) := by decide +kernel
theorem dX11_average_13 : decode cX11_average 13 = .ok (.getfield 115, 3) := by decide +kernel
theorem dX11_average_16 : decode cX11_average 16 = .ok (.iload_n 1, 1) := by decide +kernel
theorem dX11_average_17 : decode cX11_average 17 = .ok (.aaload, 1) := by decide +kernel
theorem dX11_average_18 : decode cX11_average 18 = .ok (.astore_n 2, 1) := by decide +kernel
theorem dX11_average_19 : decode cX11_average 19 = .ok (.aload_n 2, 1) := by decide +kernel
theorem dX11_average_20 : decode cX11_average 20 = .ok (.getfield 246, 3) := by decide +kernel
theorem dX11_average_23 : decode cX11_average 23 = .ok (.ifCond .gt 8, 3) := by decide +kernel
theorem dX11_average_26 : decode cX11_average 26 = .ok (.fconst 0, 1) := by decide +kernel
theorem dX11_average_27 : decode cX11_average 27 = .ok (.invokestatic 166, 3) := by decide +kernel
theorem dX11_average_30 : decode cX11_average 30 = .ok (.ireturn, 1) := by decide +kernel
theorem dX11_average_31 : decode cX11_average 31 = .ok (.ldc 249, 2) := by decide +kernel
theorem dX11_average_33 : decode cX11_average 33 = .ok (.aload_n 2, 1) := by decide +kernel
theorem dX11_average_34 : decode cX11_average 34 = .ok (.getfield 250, 3) := by decide +kernel
theorem dX11_average_37 : decode cX11_average 37 = .ok (.i2f, 1) := by decide +kernel
theorem dX11_average_38 : decode cX11_average 38 = .ok (.fmul, 1) := by decide +kernel
theorem dX11_average_39 : decode cX11_average 39 = .ok (.aload_n 2, 1) := by decide +kernel
theorem dX11_average_40 : decode cX11_average 40 = .ok (.getfield 246, 3) := by decide +kernel
theorem dX11_average_43 : decode cX11_average 43 = .ok (.i2f, 1) := by decide +kernel
theorem dX11_average_44 : decode cX11_average 44 = .ok (.fdiv, 1) := by decide +kernel
theorem dX11_average_45 : decode cX11_average 45 = .ok (.invokestatic 166, 3) := by decide +kernel
theorem dX11_average_48 : decode cX11_average 48 = .ok (.ireturn, 1) := by decide +kernel
set_option maxRecDepth 20000 in
theorem ggX11_told_X6_tell : GoodIn wsX11_told wsX6_tell := goodIn_r _ [18, 19, 20, 21, 22, 23, 24, 52, 53, 54, 55, 56, 57] rfl (by decide +kernel)
set_option maxRecDepth 20000 in
theorem gX11_told_X6_tell : GoodIn wsX11_told (wsV RX11 253 RX6 yX6_tell wsX6_tell) := goodIn_app (goodIn_of _ (by decide +kernel)) ggX11_told_X6_tell
theorem dX11_told_0 : decode cX11_told 0 = .ok (.iload_n 1, 1) := by decide +kernel
theorem dX11_told_1 : decode cX11_told 1 = .ok (.bipush 10, 2) := by decide +kernel
theorem dX11_told_3 : decode cX11_told 3 = .ok (.if_icmp .lt 26, 3) := by decide +kernel
theorem dX11_told_6 : decode cX11_told 6 = .ok (.iload_n 1, 1) := by decide +kernel
theorem dX11_told_7 : decode cX11_told 7 = .ok (.bipush 15, 2) := by decide +kernel
theorem dX11_told_9 : decode cX11_told 9 = .ok (.if_icmp .gt 20, 3) := by decide +kernel
theorem dX11_told_12 : decode cX11_told 12 = .ok (.aload_n 0, 1) := by decide +kernel
theorem dX11_told_13 : decode cX11_told 13 = .ok (.getfield 53, 3) := by decide +kernel
theorem dX11_told_16 : decode cX11_told 16 = .ok (.getfield 115, 3) := by decide +kernel
theorem dX11_told_19 : decode cX11_told 19 = .ok (.iconst 0, 1) := by decide +kernel
theorem dX11_told_20 : decode cX11_told 20 = .ok (.aaload, 1) := by decide +kernel
theorem dX11_told_21 : decode cX11_told 21 = .ok (.iload_n 1, 1) := by decide +kernel
theorem dX11_told_22 : decode cX11_told 22 = .ok (.bipush 10, 2) := by decide +kernel
theorem dX11_told_24 : decode cX11_told 24 = .ok (.isub, 1) := by decide +kernel
theorem dX11_told_25 : decode cX11_told 25 = .ok (.invokevirtual 253, 3) := by decide +kernel
theorem dX11_told_28 : decode cX11_told 28 = .ok (.ireturn, 1) := by decide +kernel
theorem dX11_told_29 : decode cX11_told 29 = .ok (.iload_n 1, 1) := by decide +kernel
theorem dX11_told_30 : decode cX11_told 30 = .ok (.bipush 20, 2) := by decide +kernel
theorem dX11_told_32 : decode cX11_told 32 = .ok (.if_icmp .lt 26, 3) := by decide +kernel
theorem dX11_told_35 : decode cX11_told 35 = .ok (.iload_n 1, 1) := by decide +kernel
theorem dX11_told_36 : decode cX11_told 36 = .ok (.bipush 25, 2) := by decide +kernel
theorem dX11_told_38 : decode cX11_told 38 = .ok (.if_icmp .gt 20, 3) := by decide +kernel
theorem dX11_told_41 : decode cX11_told 41 = .ok (.aload_n 0, 1) := by decide +kernel
theorem dX11_told_42 : decode cX11_told 42 = .ok (.getfield 53, 3) := by decide +kernel
theorem dX11_told_45 : decode cX11_told 45 = .ok (.getfield 115, 3) := by decide +kernel
theorem dX11_told_48 : decode cX11_told 48 = .ok (.iconst 1, 1) := by decide +kernel
theorem dX11_told_49 : decode cX11_told 49 = .ok (.aaload, 1) := by decide +kernel
theorem dX11_told_50 : decode cX11_told 50 = .ok (.iload_n 1, 1) := by decide +kernel
theorem dX11_told_51 : decode cX11_told 51 = .ok (.bipush 20, 2) := by decide +kernel
theorem dX11_told_53 : decode cX11_told 53 = .ok (.isub, 1) := by decide +kernel
theorem dX11_told_54 : decode cX11_told 54 = .ok (.invokevirtual 253, 3) := by decide +kernel
theorem dX11_told_57 : decode cX11_told 57 = .ok (.ireturn, 1) := by decide +kernel
theorem dX11_told_58 : decode cX11_told 58 = .ok (.iload_n 1, 1) := by decide +kernel
theorem dX11_told_59 : decode cX11_told 59 = .ok (.tableswitch 121 0 8 #[49, 57, 65, 73, 81, 89, 97, 105, 113], 49) := by decide +kernel
theorem dX11_told_108 : decode cX11_told 108 = .ok (.aload_n 0, 1) := by decide +kernel
theorem dX11_told_109 : decode cX11_told 109 = .ok (.getfield 53, 3) := by decide +kernel
theorem dX11_told_112 : decode cX11_told 112 = .ok (.getfield 237, 3) := by decide +kernel
theorem dX11_told_115 : decode cX11_told 115 = .ok (.ireturn, 1) := by decide +kernel
theorem dX11_told_116 : decode cX11_told 116 = .ok (.aload_n 0, 1) := by decide +kernel
theorem dX11_told_117 : decode cX11_told 117 = .ok (.getfield 53, 3) := by decide +kernel
theorem dX11_told_120 : decode cX11_told 120 = .ok (.getfield 256, 3) := by decide +kernel
theorem dX11_told_123 : decode cX11_told 123 = .ok (.ireturn, 1) := by decide +kernel
theorem dX11_told_124 : decode cX11_told 124 = .ok (.aload_n 0, 1) := by decide +kernel
theorem dX11_told_125 : decode cX11_told 125 = .ok (.getfield 53, 3) := by decide +kernel
theorem dX11_told_128 : decode cX11_told 128 = .ok (.getfield 259, 3) := by decide +kernel
theorem dX11_told_131 : decode cX11_told 131 = .ok (.ireturn, 1) := by decide +kernel
theorem dX11_told_132 : decode cX11_told 132 = .ok (.aload_n 0, 1) := by decide +kernel
theorem dX11_told_133 : decode cX11_told 133 = .ok (.getfield 53, 3) := by decide +kernel
theorem dX11_told_136 : decode cX11_told 136 = .ok (.getfield 221, 3) := by decide +kernel
theorem dX11_told_139 : decode cX11_told 139 = .ok (.ireturn, 1) := by decide +kernel
theorem dX11_told_140 : decode cX11_told 140 = .ok (.aload_n 0, 1) := by decide +kernel
theorem dX11_told_141 : decode cX11_told 141 = .ok (.getfield 53, 3) := by decide +kernel
theorem dX11_told_144 : decode cX11_told 144 = .ok (.getfield 147, 3) := by decide +kernel
theorem dX11_told_147 : decode cX11_told 147 = .ok (.ireturn, 1) := by decide +kernel
theorem dX11_told_148 : decode cX11_told 148 = .ok (.aload_n 0, 1) := by decide +kernel
theorem dX11_told_149 : decode cX11_told 149 = .ok (.getfield 53, 3) := by decide +kernel
theorem dX11_told_152 : decode cX11_told 152 = .ok (.getfield 262, 3) := by decide +kernel
theorem dX11_told_155 : decode cX11_told 155 = .ok (.ireturn, 1) := by decide +kernel
theorem dX11_told_156 : decode cX11_told 156 = .ok (.aload_n 0, 1) := by decide +kernel
theorem dX11_told_157 : decode cX11_told 157 = .ok (.getfield 53, 3) := by decide +kernel
theorem dX11_told_160 : decode cX11_told 160 = .ok (.getfield 243, 3) := by decide +kernel
theorem dX11_told_163 : decode cX11_told 163 = .ok (.ireturn, 1) := by decide +kernel
theorem dX11_told_164 : decode cX11_told 164 = .ok (.aload_n 0, 1) := by decide +kernel
theorem dX11_told_165 : decode cX11_told 165 = .ok (.getfield 63, 3) := by decide +kernel
theorem dX11_told_168 : decode cX11_told 168 = .ok (.getfield 265, 3) := by decide +kernel
theorem dX11_told_171 : decode cX11_told 171 = .ok (.ireturn, 1) := by decide +kernel
theorem dX11_told_172 : decode cX11_told 172 = .ok (.aload_n 0, 1) := by decide +kernel
theorem dX11_told_173 : decode cX11_told 173 = .ok (.getfield 70, 3) := by decide +kernel
theorem dX11_told_176 : decode cX11_told 176 = .ok (.getfield 218, 3) := by decide +kernel
theorem dX11_told_179 : decode cX11_told 179 = .ok (.ireturn, 1) := by decide +kernel
theorem dX11_told_180 : decode cX11_told 180 = .ok (.iconst (-1), 1) := by decide +kernel
theorem dX11_told_181 : decode cX11_told 181 = .ok (.ireturn, 1) := by decide +kernel
set_option maxRecDepth 20000 in
theorem ggX11_feed_X10_append : GoodIn wsX11_feed wsX10_append := goodIn_r _ [7, 8, 9, 22, 23, 24, 25, 26] rfl (by decide +kernel)
set_option maxRecDepth 20000 in
theorem gX11_feed_X10_append : GoodIn wsX11_feed (wsV RX11 266 RX10 yX10_append wsX10_append) := goodIn_app (goodIn_of _ (by decide +kernel)) ggX11_feed_X10_append
theorem dX11_feed_0 : decode cX11_feed 0 = .ok (.iload_n 1, 1) := by decide +kernel
theorem dX11_feed_1 : decode cX11_feed 1 = .ok (.iconst 1, 1) := by decide +kernel
theorem dX11_feed_2 : decode cX11_feed 2 = .ok (.if_icmp .lt 9, 3) := by decide +kernel
theorem dX11_feed_5 : decode cX11_feed 5 = .ok (.iload_n 1, 1) := by decide +kernel
theorem dX11_feed_6 : decode cX11_feed 6 = .ok (.bipush 127, 2) := by decide +kernel
theorem dX11_feed_8 : decode cX11_feed 8 = .ok (.if_icmp .le 6, 3) := by decide +kernel
theorem dX11_feed_11 : decode cX11_feed 11 = .ok (.bipush (-2), 2) := by decide +kernel
theorem dX11_feed_13 : decode cX11_feed 13 = .ok (.ireturn, 1) := by decide +kernel
theorem dX11_feed_14 : decode cX11_feed 14 = .ok (.aload_n 0, 1) := by decide +kernel
theorem dX11_feed_15 : decode cX11_feed 15 = .ok (.getfield 63, 3) := by decide +kernel
theorem dX11_feed_18 : decode cX11_feed 18 = .ok (.iload_n 1, 1) := by decide +kernel
theorem dX11_feed_19 : decode cX11_feed 19 = .ok (.invokevirtual 266, 3) := by decide +kernel
theorem dX11_feed_22 : decode cX11_feed 22 = .ok (.ifCond .eq 13, 3) := by decide +kernel
theorem dX11_feed_25 : decode cX11_feed 25 = .ok (.aload_n 0, 1) := by decide +kernel
theorem dX11_feed_26 : decode cX11_feed 26 = .ok (.getfield 63, 3) := by decide +kernel
theorem dX11_feed_29 : decode cX11_feed 29 = .ok (.getfield 265, 3) := by decide +kernel
theorem dX11_feed_32 : decode cX11_feed 32 = .ok (.goto 5, 3) := by decide +kernel
theorem dX11_feed_35 : decode cX11_feed 35 = .ok (.bipush (-4), 2) := by decide +kernel
theorem dX11_feed_37 : decode cX11_feed 37 = .ok (.ireturn, 1) := by decide +kernel
theorem dX11_clear_0 : decode cX11_clear 0 = .ok (.aload_n 0, 1) := by decide +kernel
theorem dX11_clear_1 : decode cX11_clear 1 = .ok (.getfield 63, 3) := by decide +kernel
theorem dX11_clear_4 : decode cX11_clear 4 = .ok (.getfield 265, 3) := by decide +kernel
theorem dX11_clear_7 : decode cX11_clear 7 = .ok (.istore_n 1, 1) := by decide +kernel
theorem dX11_clear_8 : decode cX11_clear 8 = .ok (.aload_n 0, 1) := by decide +kernel
theorem dX11_clear_9 : decode cX11_clear 9 = .ok (.getfield 63, 3) := by decide +kernel
theorem dX11_clear_12 : decode cX11_clear 12 = .ok (.iconst 0, 1) := by decide +kernel
theorem dX11_clear_13 : decode cX11_clear 13 = .ok (.putfield 265, 3) := by decide +kernel
theorem dX11_clear_16 : decode cX11_clear 16 = .ok (.iload_n 1, 1) := by decide +kernel
theorem dX11_clear_17 : decode cX11_clear 17 = .ok (.ireturn, 1) := by decide +kernel
set_option maxRecDepth 20000 in
theorem ggX11_judge_X11_isRestUpTo : GoodIn wsX11_judge wsX11_isRestUpTo := goodIn_r _ [9, 2, 10, 11, 12, 13, 14, 15, 59, 60, 61, 62, 63, 64, 65, 66, 67, 68, 69, 70, 76, 77, 78] rfl (by decide +kernel)
set_option maxRecDepth 20000 in
theorem gX11_judge_X11_isRestUpTo : GoodIn wsX11_judge (wsV RX11 172 RX11 yX11_isRestUpTo wsX11_isRestUpTo) := goodIn_app (goodIn_of _ (by decide +kernel)) ggX11_judge_X11_isRestUpTo
set_option maxRecDepth 20000 in
theorem ggX11_judge_X10_read : GoodIn wsX11_judge wsX10_read := goodIn_r _ [20, 21, 22, 23, 24, 19, 25, 26, 27, 28, 29, 30, 31, 32, 33, 34, 35, 36, 37, 38, 39, 40, 41, 42, 43, 44, 45, 46, 47, 48, 71, 72, 73, 74, 75] rfl (by decide +kernel)
set_option maxRecDepth 20000 in
theorem gX11_judge_X10_read : GoodIn wsX11_judge (wsV RX11 269 RX10 yX10_read wsX10_read) := goodIn_app (goodIn_of _ (by decide +kernel)) ggX11_judge_X10_read
set_option maxRecDepth 20000 in
theorem ggX11_judge_X9_verdict : GoodIn wsX11_judge wsX9_verdict := goodIn_r _ [52, 53, 54, 55, 13, 56, 57, 58, 15, 76, 77, 78] rfl (by decide +kernel)
set_option maxRecDepth 20000 in
theorem gX11_judge_X9_verdict : GoodIn wsX11_judge (wsV RX11 276 RX9 yX9_verdict wsX9_verdict) := goodIn_app (goodIn_of _ (by decide +kernel)) ggX11_judge_X9_verdict
theorem dX11_judge_0 : decode cX11_judge 0 = .ok (.aload_n 0, 1) := by decide +kernel
theorem dX11_judge_1 : decode cX11_judge 1 = .ok (.iload_n 1, 1) := by decide +kernel
theorem dX11_judge_2 : decode cX11_judge 2 = .ok (.sipush 501, 3) := by decide +kernel
theorem dX11_judge_5 : decode cX11_judge 5 = .ok (.invokevirtual 172, 3) := by decide +kernel
theorem dX11_judge_8 : decode cX11_judge 8 = .ok (.ifCond .ne 6, 3) := by decide +kernel
theorem dX11_judge_11 : decode cX11_judge 11 = .ok (.bipush (-2), 2) := by decide +kernel
theorem dX11_judge_13 : decode cX11_judge 13 = .ok (.ireturn, 1) := by decide +kernel
theorem dX11_judge_14 : decode cX11_judge 14 = .ok (.aload_n 0, 1) := by decide +kernel
theorem dX11_judge_15 : decode cX11_judge 15 = .ok (.getfield 63, 3) := by decide +kernel
theorem dX11_judge_18 : decode cX11_judge 18 = .ok (.invokevirtual 269, 3) := by decide +kernel
theorem dX11_judge_21 : decode cX11_judge 21 = .ok (.istore_n 2, 1) := by decide +kernel
theorem dX11_judge_22 : decode cX11_judge 22 = .ok (.iload_n 2, 1) := by decide +kernel
theorem dX11_judge_23 : decode cX11_judge 23 = .ok (.iconst (-1), 1) := by decide +kernel
theorem dX11_judge_24 : decode cX11_judge 24 = .ok (.if_icmp .eq 8, 3) := by decide +kernel
theorem dX11_judge_27 : decode cX11_judge 27 = .ok (.bipush (-100), 2) := by decide +kernel
theorem dX11_judge_29 : decode cX11_judge 29 = .ok (.iload_n 2, 1) := by decide +kernel
theorem dX11_judge_30 : decode cX11_judge 30 = .ok (.isub, 1) := by decide +kernel
theorem dX11_judge_31 : decode cX11_judge 31 = .ok (.ireturn, 1) := by decide +kernel
theorem dX11_judge_32 : decode cX11_judge 32 = .ok (.aload_n 0, 1) := by decide +kernel
theorem dX11_judge_33 : decode cX11_judge 33 = .ok (.getfield 18, 3) := by decide +kernel
theorem dX11_judge_36 : decode cX11_judge 36 = .ok (.aload_n 0, 1) := by decide +kernel
theorem dX11_judge_37 : decode cX11_judge 37 = .ok (.getfield 63, 3) := by decide +kernel
theorem dX11_judge_40 : decode cX11_judge 40 = .ok (.getfield 272, 3) := by decide +kernel
theorem dX11_judge_43 : decode cX11_judge 43 = .ok (.aload_n 0, 1) := by decide +kernel
theorem dX11_judge_44 : decode cX11_judge 44 = .ok (.getfield 63, 3) := by decide +kernel
theorem dX11_judge_47 : decode cX11_judge 47 = .ok (.getfield 273, 3) := by decide +kernel
theorem dX11_judge_50 : decode cX11_judge 50 = .ok (.iload_n 1, 1) := by decide +kernel
theorem dX11_judge_51 : decode cX11_judge 51 = .ok (.invokevirtual 276, 3) := by decide +kernel
theorem dX11_judge_54 : decode cX11_judge 54 = .ok (.ireturn, 1) := by decide +kernel
set_option maxRecDepth 20000 in
theorem ggX11_play_X10_read : GoodIn wsX11_play wsX10_read := goodIn_r _ [9, 10, 11, 12, 13, 8, 14, 15, 16, 17, 18, 19, 20, 21, 22, 23, 24, 25, 26, 27, 28, 29, 30, 31, 32, 33, 34, 35, 36, 37, 95, 96, 97, 98, 99] rfl (by decide +kernel)
set_option maxRecDepth 20000 in
theorem gX11_play_X10_read : GoodIn wsX11_play (wsV RX11 269 RX10 yX10_read wsX10_read) := goodIn_app (goodIn_of _ (by decide +kernel)) ggX11_play_X10_read
set_option maxRecDepth 20000 in
theorem ggX11_play_X3_legsOfBoth : GoodIn wsX11_play wsX3_legsOfBoth := goodIn_r _ [42, 43, 44, 100, 101, 102, 103, 104, 105, 106, 107, 108, 109, 110, 111, 112, 113] rfl (by decide +kernel)
set_option maxRecDepth 20000 in
theorem gX11_play_X3_legsOfBoth : GoodIn wsX11_play (wsV RX11 233 RX3 yX3_legsOfBoth wsX3_legsOfBoth) := goodIn_app (goodIn_of _ (by decide +kernel)) ggX11_play_X3_legsOfBoth
set_option maxRecDepth 20000 in
theorem ggX11_play_X11_throwUpon : GoodIn wsX11_play wsX11_throwUpon := goodIn_r _ [49, 2, 50, 51, 52, 53, 41, 54, 43, 55, 56, 57, 58, 59, 60, 61, 62, 63, 64, 65, 66, 67, 68, 69, 70, 71, 72, 44, 73, 74, 75, 76, 77, 78, 79, 80, 81, 82, 83, 84, 85, 86, 87, 88, 89, 90, 91, 92, 93, 94, 100, 101, 102, 103, 104, 105, 106, 107, 108, 109, 110, 111, 112, 113, 114, 115, 116] rfl (by decide +kernel)
set_option maxRecDepth 20000 in
theorem gX11_play_X11_throwUpon : GoodIn wsX11_play (wsV RX11 227 RX11 yX11_throwUpon wsX11_throwUpon) := goodIn_app (goodIn_of _ (by decide +kernel)) ggX11_play_X11_throwUpon
theorem dX11_play_0 : decode cX11_play 0 = .ok (.aload_n 0, 1) := by decide +kernel
theorem dX11_play_1 : decode cX11_play 1 = .ok (.getfield 63, 3) := by decide +kernel
theorem dX11_play_4 : decode cX11_play 4 = .ok (.invokevirtual 269, 3) := by decide +kernel
theorem dX11_play_7 : decode cX11_play 7 = .ok (.istore_n 1, 1) := by decide +kernel
theorem dX11_play_8 : decode cX11_play 8 = .ok (.iload_n 1, 1) := by decide +kernel
theorem dX11_play_9 : decode cX11_play 9 = .ok (.iconst (-1), 1) := by decide +kernel
theorem dX11_play_10 : decode cX11_play 10 = .ok (.if_icmp .eq 8, 3) := by decide +kernel
theorem dX11_play_13 : decode cX11_play 13 = .ok (.bipush (-100), 2) := by decide +kernel
theorem dX11_play_15 : decode cX11_play 15 = .ok (.iload_n 1, 1) := by decide +kernel
theorem dX11_play_16 : decode cX11_play 16 = .ok (.isub, 1) := by decide +kernel
theorem dX11_play_17 : decode cX11_play 17 = .ok (.ireturn, 1) := by decide +kernel
theorem dX11_play_18 : decode cX11_play 18 = .ok (.aload_n 0, 1) := by decide +kernel
theorem dX11_play_19 : decode cX11_play 19 = .ok (.getfield 53, 3) := by decide +kernel
theorem dX11_play_22 : decode cX11_play 22 = .ok (.invokevirtual 233, 3) := by decide +kernel
theorem dX11_play_25 : decode cX11_play 25 = .ok (.istore_n 2, 1) := by decide +kernel
theorem dX11_play_26 : decode cX11_play 26 = .ok (.iconst 0, 1) := by decide +kernel
theorem dX11_play_27 : decode cX11_play 27 = .ok (.istore_n 3, 1) := by decide +kernel
theorem dX11_play_28 : decode cX11_play 28 = .ok (.iload_n 3, 1) := by decide +kernel
theorem dX11_play_29 : decode cX11_play 29 = .ok (.aload_n 0, 1) := by decide +kernel
theorem dX11_play_30 : decode cX11_play 30 = .ok (.getfield 63, 3) := by decide +kernel
theorem dX11_play_33 : decode cX11_play 33 = .ok (.getfield 273, 3) := by decide +kernel
theorem dX11_play_36 : decode cX11_play 36 = .ok (.if_icmp .ge 23, 3) := by decide +kernel
theorem dX11_play_39 : decode cX11_play 39 = .ok (.aload_n 0, 1) := by decide +kernel
theorem dX11_play_40 : decode cX11_play 40 = .ok (.aload_n 0, 1) := by decide +kernel
theorem dX11_play_41 : decode cX11_play 41 = .ok (.getfield 63, 3) := by decide +kernel
theorem dX11_play_44 : decode cX11_play 44 = .ok (.getfield 272, 3) := by decide +kernel
theorem dX11_play_47 : decode cX11_play 47 = .ok (.iload_n 3, 1) := by decide +kernel
theorem dX11_play_48 : decode cX11_play 48 = .ok (.iaload, 1) := by decide +kernel
theorem dX11_play_49 : decode cX11_play 49 = .ok (.invokevirtual 227, 3) := by decide +kernel
theorem dX11_play_52 : decode cX11_play 52 = .ok (.pop, 1) := by decide +kernel
theorem dX11_play_53 : decode cX11_play 53 = .ok (.iinc 3 1, 3) := by decide +kernel
theorem dX11_play_56 : decode cX11_play 56 = .ok (.goto (-28), 3) := by decide +kernel
theorem dX11_play_59 : decode cX11_play 59 = .ok (.aload_n 0, 1) := by decide +kernel
theorem dX11_play_60 : decode cX11_play 60 = .ok (.getfield 53, 3) := by decide +kernel
theorem dX11_play_63 : decode cX11_play 63 = .ok (.invokevirtual 233, 3) := by decide +kernel
theorem dX11_play_66 : decode cX11_play 66 = .ok (.iload_n 2, 1) := by decide +kernel
theorem dX11_play_67 : decode cX11_play 67 = .ok (.isub, 1) := by decide +kernel
theorem dX11_play_68 : decode cX11_play 68 = .ok (.ireturn, 1) := by decide +kernel
theorem dX11_paper_0 : decode cX11_paper 0 = .ok (.iload_n 1, 1) := by decide +kernel
theorem dX11_paper_1 : decode cX11_paper 1 = .ok (.ifCond .lt 14, 3) := by decide +kernel
theorem dX11_paper_4 : decode cX11_paper 4 = .ok (.iload_n 1, 1) := by decide +kernel
theorem dX11_paper_5 : decode cX11_paper 5 = .ok (.aload_n 0, 1) := by decide +kernel
theorem dX11_paper_6 : decode cX11_paper 6 = .ok (.getfield 70, 3) := by decide +kernel
theorem dX11_paper_9 : decode cX11_paper 9 = .ok (.getfield 218, 3) := by decide +kernel
theorem dX11_paper_12 : decode cX11_paper 12 = .ok (.if_icmp .lt 7, 3) := by decide +kernel
theorem dX11_paper_15 : decode cX11_paper 15 = .ok (.iconst (-1), 1) := by decide +kernel
theorem dX11_paper_16 : decode cX11_paper 16 = .ok (.goto 12, 3) := by decide +kernel
theorem dX11_paper_19 : decode cX11_paper 19 = .ok (.aload_n 0, 1) := by decide +kernel
theorem dX11_paper_20 : decode cX11_paper 20 = .ok (.getfield 70, 3) := by decide +kernel
theorem dX11_paper_23 : decode cX11_paper 23 = .ok (.getfield 280, 3) := by decide +kernel
theorem dX11_paper_26 : decode cX11_paper 26 = .ok (.iload_n 1, 1) := by decide +kernel
theorem dX11_paper_27 : decode cX11_paper 27 = .ok (.iaload, 1) := by decide +kernel
theorem dX11_paper_28 : decode cX11_paper 28 = .ok (.ireturn, 1) := by decide +kernel
set_option maxRecDepth 20000 in
theorem ggX11_rack_X11_isRack : GoodIn wsX11_rack wsX11_isRack := goodIn_r _ [5] rfl (by decide +kernel)
set_option maxRecDepth 20000 in
theorem gX11_rack_X11_isRack : GoodIn wsX11_rack (va_wsS RX11 283 yX11_isRack wsX11_isRack) := goodIn_app (goodIn_of _ (by decide +kernel)) ggX11_rack_X11_isRack
set_option maxRecDepth 20000 in
theorem ggX11_rack_X11_isKind : GoodIn wsX11_rack wsX11_isKind := goodIn_r _ [8] rfl (by decide +kernel)
set_option maxRecDepth 20000 in
theorem gX11_rack_X11_isKind : GoodIn wsX11_rack (va_wsS RX11 105 yX11_isKind wsX11_isKind) := goodIn_app (goodIn_of _ (by decide +kernel)) ggX11_rack_X11_isKind
set_option maxRecDepth 20000 in
theorem ggX11_rack_X8_make : GoodIn wsX11_rack wsX8_make := goodIn_r _ [13, 14, 15, 16, 17, 18, 19, 20, 33, 34, 35] rfl (by decide +kernel)
set_option maxRecDepth 20000 in
theorem gX11_rack_X8_make : GoodIn wsX11_rack (wsV RX11 286 RX8 yX8_make wsX8_make) := goodIn_app (goodIn_of _ (by decide +kernel)) ggX11_rack_X8_make
theorem dX11_rack_0 : decode cX11_rack 0 = .ok (.iload_n 1, 1) := by decide +kernel
theorem dX11_rack_1 : decode cX11_rack 1 = .ok (.invokestatic 283, 3) := by decide +kernel
theorem dX11_rack_4 : decode cX11_rack 4 = .ok (.ifCond .eq 10, 3) := by decide +kernel
theorem dX11_rack_7 : decode cX11_rack 7 = .ok (.iload_n 2, 1) := by decide +kernel
theorem dX11_rack_8 : decode cX11_rack 8 = .ok (.invokestatic 105, 3) := by decide +kernel
theorem dX11_rack_11 : decode cX11_rack 11 = .ok (.ifCond .ne 5, 3) := by decide +kernel
theorem dX11_rack_14 : decode cX11_rack 14 = .ok (.iconst (-1), 1) := by decide +kernel
theorem dX11_rack_15 : decode cX11_rack 15 = .ok (.ireturn, 1) := by decide +kernel
theorem dX11_rack_16 : decode cX11_rack 16 = .ok (.iload_n 3, 1) := by decide +kernel
theorem dX11_rack_17 : decode cX11_rack 17 = .ok (.bipush 20, 2) := by decide +kernel
theorem dX11_rack_19 : decode cX11_rack 19 = .ok (.if_icmp .le 6, 3) := by decide +kernel
theorem dX11_rack_22 : decode cX11_rack 22 = .ok (.bipush (-2), 2) := by decide +kernel
theorem dX11_rack_24 : decode cX11_rack 24 = .ok (.ireturn, 1) := by decide +kernel
theorem dX11_rack_25 : decode cX11_rack 25 = .ok (.iload_n 3, 1) := by decide +kernel
theorem dX11_rack_26 : decode cX11_rack 26 = .ok (.ifCond .ge 6, 3) := by decide +kernel
theorem dX11_rack_29 : decode cX11_rack 29 = .ok (.bipush (-14), 2) := by decide +kernel
theorem dX11_rack_31 : decode cX11_rack 31 = .ok (.ireturn, 1) := by decide +kernel
theorem dX11_rack_32 : decode cX11_rack 32 = .ok (.aload_n 0, 1) := by decide +kernel
theorem dX11_rack_33 : decode cX11_rack 33 = .ok (.getfield 77, 3) := by decide +kernel
theorem dX11_rack_36 : decode cX11_rack 36 = .ok (.iload_n 1, 1) := by decide +kernel
theorem dX11_rack_37 : decode cX11_rack 37 = .ok (.aaload, 1) := by decide +kernel
theorem dX11_rack_38 : decode cX11_rack 38 = .ok (.iload_n 2, 1) := by decide +kernel
theorem dX11_rack_39 : decode cX11_rack 39 = .ok (.iload_n 3, 1) := by decide +kernel
theorem dX11_rack_40 : decode cX11_rack 40 = .ok (.invokevirtual 286, 3) := by decide +kernel
theorem dX11_rack_43 : decode cX11_rack 43 = .ok (.iconst 1, 1) := by decide +kernel
theorem dX11_rack_44 : decode cX11_rack 44 = .ok (.ireturn, 1) := by decide +kernel
set_option maxRecDepth 20000 in
theorem ggX11_lays_X11_isRack : GoodIn wsX11_lays wsX11_isRack := goodIn_r _ [8] rfl (by decide +kernel)
set_option maxRecDepth 20000 in
theorem gX11_lays_X11_isRack : GoodIn wsX11_lays (va_wsS RX11 283 yX11_isRack wsX11_isRack) := goodIn_app (goodIn_of _ (by decide +kernel)) ggX11_lays_X11_isRack
set_option maxRecDepth 20000 in
theorem ggX11_lays_X11_isSpot : GoodIn wsX11_lays wsX11_isSpot := goodIn_r _ [11] rfl (by decide +kernel)
set_option maxRecDepth 20000 in
theorem gX11_lays_X11_isSpot : GoodIn wsX11_lays (va_wsS RX11 85 yX11_isSpot wsX11_isSpot) := goodIn_app (goodIn_of _ (by decide +kernel)) ggX11_lays_X11_isSpot
set_option maxRecDepth 20000 in
theorem ggX11_lays_X8_isMissing : GoodIn wsX11_lays wsX8_isMissing := goodIn_r _ [16, 17, 40, 41, 42] rfl (by decide +kernel)
set_option maxRecDepth 20000 in
theorem gX11_lays_X8_isMissing : GoodIn wsX11_lays (wsV RX11 290 RX8 yX8_isMissing wsX8_isMissing) := goodIn_app (goodIn_of _ (by decide +kernel)) ggX11_lays_X8_isMissing
set_option maxRecDepth 20000 in
theorem ggX11_lays_X0_isOfKind : GoodIn wsX11_lays wsX0_isOfKind := goodIn_r _ [21, 22, 23, 20, 24, 25, 26, 27] rfl (by decide +kernel)
set_option maxRecDepth 20000 in
theorem gX11_lays_X0_isOfKind : GoodIn wsX11_lays (va_wsS RX11 108 yX0_isOfKind wsX0_isOfKind) := goodIn_app (goodIn_of _ (by decide +kernel)) ggX11_lays_X0_isOfKind
theorem dX11_lays_0 : decode cX11_lays 0 = .ok (.iload_n 1, 1) := by decide +kernel
theorem dX11_lays_1 : decode cX11_lays 1 = .ok (.invokestatic 283, 3) := by decide +kernel
theorem dX11_lays_4 : decode cX11_lays 4 = .ok (.ifCond .eq 15, 3) := by decide +kernel
theorem dX11_lays_7 : decode cX11_lays 7 = .ok (.iload_n 3, 1) := by decide +kernel
theorem dX11_lays_8 : decode cX11_lays 8 = .ok (.iconst (-1), 1) := by decide +kernel
theorem dX11_lays_9 : decode cX11_lays 9 = .ok (.if_icmp .eq 12, 3) := by decide +kernel
theorem dX11_lays_12 : decode cX11_lays 12 = .ok (.iload_n 3, 1) := by decide +kernel
theorem dX11_lays_13 : decode cX11_lays 13 = .ok (.invokestatic 85, 3) := by decide +kernel
theorem dX11_lays_16 : decode cX11_lays 16 = .ok (.ifCond .ne 5, 3) := by decide +kernel
theorem dX11_lays_19 : decode cX11_lays 19 = .ok (.iconst (-1), 1) := by decide +kernel
theorem dX11_lays_20 : decode cX11_lays 20 = .ok (.ireturn, 1) := by decide +kernel
theorem dX11_lays_21 : decode cX11_lays 21 = .ok (.aload_n 0, 1) := by decide +kernel
theorem dX11_lays_22 : decode cX11_lays 22 = .ok (.getfield 77, 3) := by decide +kernel
theorem dX11_lays_25 : decode cX11_lays 25 = .ok (.iload_n 1, 1) := by decide +kernel
theorem dX11_lays_26 : decode cX11_lays 26 = .ok (.aaload, 1) := by decide +kernel
theorem dX11_lays_27 : decode cX11_lays 27 = .ok (.astore 4, 2) := by decide +kernel
theorem dX11_lays_29 : decode cX11_lays 29 = .ok (.aload 4, 2) := by decide +kernel
theorem dX11_lays_31 : decode cX11_lays 31 = .ok (.invokevirtual 290, 3) := by decide +kernel
theorem dX11_lays_34 : decode cX11_lays 34 = .ok (.ifCond .eq 6, 3) := by decide +kernel
theorem dX11_lays_37 : decode cX11_lays 37 = .ok (.bipush (-11), 2) := by decide +kernel
theorem dX11_lays_39 : decode cX11_lays 39 = .ok (.ireturn, 1) := by decide +kernel
theorem dX11_lays_40 : decode cX11_lays 40 = .ok (.iload_n 2, 1) := by decide +kernel
theorem dX11_lays_41 : decode cX11_lays 41 = .ok (.ifCond .lt 12, 3) := by decide +kernel
theorem dX11_lays_44 : decode cX11_lays 44 = .ok (.iload_n 2, 1) := by decide +kernel
theorem dX11_lays_45 : decode cX11_lays 45 = .ok (.aload 4, 2) := by decide +kernel
theorem dX11_lays_47 : decode cX11_lays 47 = .ok (.getfield 293, 3) := by decide +kernel
theorem dX11_lays_50 : decode cX11_lays 50 = .ok (.if_icmp .lt 6, 3) := by decide +kernel
theorem dX11_lays_53 : decode cX11_lays 53 = .ok (.bipush (-12), 2) := by decide +kernel
theorem dX11_lays_55 : decode cX11_lays 55 = .ok (.ireturn, 1) := by decide +kernel
theorem dX11_lays_56 : decode cX11_lays 56 = .ok (.iload_n 3, 1) := by decide +kernel
theorem dX11_lays_57 : decode cX11_lays 57 = .ok (.iconst (-1), 1) := by decide +kernel
theorem dX11_lays_58 : decode cX11_lays 58 = .ok (.if_icmp .eq 18, 3) := by decide +kernel
theorem dX11_lays_61 : decode cX11_lays 61 = .ok (.iload_n 3, 1) := by decide +kernel
theorem dX11_lays_62 : decode cX11_lays 62 = .ok (.aload 4, 2) := by decide +kernel
theorem dX11_lays_64 : decode cX11_lays 64 = .ok (.getfield 294, 3) := by decide +kernel
theorem dX11_lays_67 : decode cX11_lays 67 = .ok (.invokestatic 108, 3) := by decide +kernel
theorem dX11_lays_70 : decode cX11_lays 70 = .ok (.ifCond .ne 6, 3) := by decide +kernel
theorem dX11_lays_73 : decode cX11_lays 73 = .ok (.bipush (-16), 2) := by decide +kernel
theorem dX11_lays_75 : decode cX11_lays 75 = .ok (.ireturn, 1) := by decide +kernel
theorem dX11_lays_76 : decode cX11_lays 76 = .ok (.aload 4, 2) := by decide +kernel
theorem dX11_lays_78 : decode cX11_lays 78 = .ok (.getfield 297, 3) := by decide +kernel
theorem dX11_lays_81 : decode cX11_lays 81 = .ok (.iload_n 2, 1) := by decide +kernel
theorem dX11_lays_82 : decode cX11_lays 82 = .ok (.iload_n 3, 1) := by decide +kernel
theorem dX11_lays_83 : decode cX11_lays 83 = .ok (.iconst (-1), 1) := by decide +kernel
theorem dX11_lays_84 : decode cX11_lays 84 = .ok (.if_icmp .ne 8, 3) := by decide +kernel
theorem dX11_lays_87 : decode cX11_lays 87 = .ok (.bipush (-5), 2) := by decide +kernel
theorem dX11_lays_89 : decode cX11_lays 89 = .ok (.goto 4, 3) := by decide +kernel
theorem dX11_lays_92 : decode cX11_lays 92 = .ok (.iload_n 3, 1) := by decide +kernel
theorem dX11_lays_93 : decode cX11_lays 93 = .ok (.iastore, 1) := by decide +kernel
theorem dX11_lays_94 : decode cX11_lays 94 = .ok (.iconst 1, 1) := by decide +kernel
theorem dX11_lays_95 : decode cX11_lays 95 = .ok (.ireturn, 1) := by decide +kernel
set_option maxRecDepth 20000 in
theorem ggX11_laid_X11_isRack : GoodIn wsX11_laid wsX11_isRack := goodIn_r _ [7] rfl (by decide +kernel)
set_option maxRecDepth 20000 in
theorem gX11_laid_X11_isRack : GoodIn wsX11_laid (va_wsS RX11 283 yX11_isRack wsX11_isRack) := goodIn_app (goodIn_of _ (by decide +kernel)) ggX11_laid_X11_isRack
set_option maxRecDepth 20000 in
theorem ggX11_laid_X8_isMissing : GoodIn wsX11_laid wsX8_isMissing := goodIn_r _ [12, 13, 26, 27, 28] rfl (by decide +kernel)
set_option maxRecDepth 20000 in
theorem gX11_laid_X8_isMissing : GoodIn wsX11_laid (wsV RX11 290 RX8 yX8_isMissing wsX8_isMissing) := goodIn_app (goodIn_of _ (by decide +kernel)) ggX11_laid_X8_isMissing
theorem dX11_laid_0 : decode cX11_laid 0 = .ok (.iload_n 1, 1) := by decide +kernel
theorem dX11_laid_1 : decode cX11_laid 1 = .ok (.invokestatic 283, 3) := by decide +kernel
theorem dX11_laid_4 : decode cX11_laid 4 = .ok (.ifCond .ne 5, 3) := by decide +kernel
theorem dX11_laid_7 : decode cX11_laid 7 = .ok (.iconst (-1), 1) := by decide +kernel
theorem dX11_laid_8 : decode cX11_laid 8 = .ok (.ireturn, 1) := by decide +kernel
theorem dX11_laid_9 : decode cX11_laid 9 = .ok (.aload_n 0, 1) := by decide +kernel
theorem dX11_laid_10 : decode cX11_laid 10 = .ok (.getfield 77, 3) := by decide +kernel
theorem dX11_laid_13 : decode cX11_laid 13 = .ok (.iload_n 1, 1) := by decide +kernel
theorem dX11_laid_14 : decode cX11_laid 14 = .ok (.aaload, 1) := by decide +kernel
theorem dX11_laid_15 : decode cX11_laid 15 = .ok (.astore_n 3, 1) := by decide +kernel
theorem dX11_laid_16 : decode cX11_laid 16 = .ok (.aload_n 3, 1) := by decide +kernel
theorem dX11_laid_17 : decode cX11_laid 17 = .ok (.invokevirtual 290, 3) := by decide +kernel
theorem dX11_laid_20 : decode cX11_laid 20 = .ok (.ifCond .eq 6, 3) := by decide +kernel
theorem dX11_laid_23 : decode cX11_laid 23 = .ok (.bipush (-11), 2) := by decide +kernel
theorem dX11_laid_25 : decode cX11_laid 25 = .ok (.ireturn, 1) := by decide +kernel
theorem dX11_laid_26 : decode cX11_laid 26 = .ok (.iload_n 2, 1) := by decide +kernel
theorem dX11_laid_27 : decode cX11_laid 27 = .ok (.ifCond .lt 11, 3) := by decide +kernel
theorem dX11_laid_30 : decode cX11_laid 30 = .ok (.iload_n 2, 1) := by decide +kernel
theorem dX11_laid_31 : decode cX11_laid 31 = .ok (.aload_n 3, 1) := by decide +kernel
theorem dX11_laid_32 : decode cX11_laid 32 = .ok (.getfield 293, 3) := by decide +kernel
theorem dX11_laid_35 : decode cX11_laid 35 = .ok (.if_icmp .lt 8, 3) := by decide +kernel
theorem dX11_laid_38 : decode cX11_laid 38 = .ok (.bipush (-12), 2) := by decide +kernel
theorem dX11_laid_40 : decode cX11_laid 40 = .ok (.goto 9, 3) := by decide +kernel
theorem dX11_laid_43 : decode cX11_laid 43 = .ok (.aload_n 3, 1) := by decide +kernel
theorem dX11_laid_44 : decode cX11_laid 44 = .ok (.getfield 297, 3) := by decide +kernel
theorem dX11_laid_47 : decode cX11_laid 47 = .ok (.iload_n 2, 1) := by decide +kernel
theorem dX11_laid_48 : decode cX11_laid 48 = .ok (.iaload, 1) := by decide +kernel
theorem dX11_laid_49 : decode cX11_laid 49 = .ok (.ireturn, 1) := by decide +kernel
set_option maxRecDepth 20000 in
theorem ggX11_like_X11_isRack : GoodIn wsX11_like wsX11_isRack := goodIn_r _ [6] rfl (by decide +kernel)
set_option maxRecDepth 20000 in
theorem gX11_like_X11_isRack : GoodIn wsX11_like (va_wsS RX11 283 yX11_isRack wsX11_isRack) := goodIn_app (goodIn_of _ (by decide +kernel)) ggX11_like_X11_isRack
set_option maxRecDepth 20000 in
theorem ggX11_like_X8_isMissing : GoodIn wsX11_like wsX8_isMissing := goodIn_r _ [11, 12, 35, 36, 37] rfl (by decide +kernel)
set_option maxRecDepth 20000 in
theorem gX11_like_X8_isMissing : GoodIn wsX11_like (wsV RX11 290 RX8 yX8_isMissing wsX8_isMissing) := goodIn_app (goodIn_of _ (by decide +kernel)) ggX11_like_X8_isMissing
set_option maxRecDepth 20000 in
theorem ggX11_like_X8_become : GoodIn wsX11_like wsX8_become := goodIn_r _ [16, 17, 12, 18, 19, 20, 21, 22, 35, 36, 37] rfl (by decide +kernel)
set_option maxRecDepth 20000 in
theorem gX11_like_X8_become : GoodIn wsX11_like (wsV RX11 300 RX8 yX8_become wsX8_become) := goodIn_app (goodIn_of _ (by decide +kernel)) ggX11_like_X8_become
theorem dX11_like_0 : decode cX11_like 0 = .ok (.iload_n 1, 1) := by decide +kernel
theorem dX11_like_1 : decode cX11_like 1 = .ok (.invokestatic 283, 3) := by decide +kernel
theorem dX11_like_4 : decode cX11_like 4 = .ok (.ifCond .eq 10, 3) := by decide +kernel
theorem dX11_like_7 : decode cX11_like 7 = .ok (.iload_n 2, 1) := by decide +kernel
theorem dX11_like_8 : decode cX11_like 8 = .ok (.invokestatic 283, 3) := by decide +kernel
theorem dX11_like_11 : decode cX11_like 11 = .ok (.ifCond .ne 5, 3) := by decide +kernel
theorem dX11_like_14 : decode cX11_like 14 = .ok (.iconst (-1), 1) := by decide +kernel
theorem dX11_like_15 : decode cX11_like 15 = .ok (.ireturn, 1) := by decide +kernel
theorem dX11_like_16 : decode cX11_like 16 = .ok (.aload_n 0, 1) := by decide +kernel
theorem dX11_like_17 : decode cX11_like 17 = .ok (.getfield 77, 3) := by decide +kernel
theorem dX11_like_20 : decode cX11_like 20 = .ok (.iload_n 2, 1) := by decide +kernel
theorem dX11_like_21 : decode cX11_like 21 = .ok (.aaload, 1) := by decide +kernel
theorem dX11_like_22 : decode cX11_like 22 = .ok (.invokevirtual 290, 3) := by decide +kernel
theorem dX11_like_25 : decode cX11_like 25 = .ok (.ifCond .eq 6, 3) := by decide +kernel
theorem dX11_like_28 : decode cX11_like 28 = .ok (.bipush (-11), 2) := by decide +kernel
theorem dX11_like_30 : decode cX11_like 30 = .ok (.ireturn, 1) := by decide +kernel
theorem dX11_like_31 : decode cX11_like 31 = .ok (.aload_n 0, 1) := by decide +kernel
theorem dX11_like_32 : decode cX11_like 32 = .ok (.getfield 77, 3) := by decide +kernel
theorem dX11_like_35 : decode cX11_like 35 = .ok (.iload_n 1, 1) := by decide +kernel
theorem dX11_like_36 : decode cX11_like 36 = .ok (.aaload, 1) := by decide +kernel
theorem dX11_like_37 : decode cX11_like 37 = .ok (.aload_n 0, 1) := by decide +kernel
theorem dX11_like_38 : decode cX11_like 38 = .ok (.getfield 77, 3) := by decide +kernel
theorem dX11_like_41 : decode cX11_like 41 = .ok (.iload_n 2, 1) := by decide +kernel
theorem dX11_like_42 : decode cX11_like 42 = .ok (.aaload, 1) := by decide +kernel
theorem dX11_like_43 : decode cX11_like 43 = .ok (.invokevirtual 300, 3) := by decide +kernel
theorem dX11_like_46 : decode cX11_like 46 = .ok (.aload_n 0, 1) := by decide +kernel
theorem dX11_like_47 : decode cX11_like 47 = .ok (.getfield 77, 3) := by decide +kernel
theorem dX11_like_50 : decode cX11_like 50 = .ok (.iload_n 1, 1) := by decide +kernel
theorem dX11_like_51 : decode cX11_like 51 = .ok (.aaload, 1) := by decide +kernel
theorem dX11_like_52 : decode cX11_like 52 = .ok (.getfield 293, 3) := by decide +kernel
theorem dX11_like_55 : decode cX11_like 55 = .ok (.ireturn, 1) := by decide +kernel
set_option maxRecDepth 20000 in
theorem ggX11_judged_X11_isRack : GoodIn wsX11_judged wsX11_isRack := goodIn_r _ [8] rfl (by decide +kernel)
set_option maxRecDepth 20000 in
theorem gX11_judged_X11_isRack : GoodIn wsX11_judged (va_wsS RX11 283 yX11_isRack wsX11_isRack) := goodIn_app (goodIn_of _ (by decide +kernel)) ggX11_judged_X11_isRack
set_option maxRecDepth 20000 in
theorem ggX11_judged_X11_isRestUpTo : GoodIn wsX11_judged wsX11_isRestUpTo := goodIn_r _ [12, 3, 13, 14, 15, 16, 17, 18, 40, 41, 42, 43, 44, 45, 46, 47, 48, 49, 50, 51, 55, 56, 57] rfl (by decide +kernel)
set_option maxRecDepth 20000 in
theorem gX11_judged_X11_isRestUpTo : GoodIn wsX11_judged (wsV RX11 172 RX11 yX11_isRestUpTo wsX11_isRestUpTo) := goodIn_app (goodIn_of _ (by decide +kernel)) ggX11_judged_X11_isRestUpTo
set_option maxRecDepth 20000 in
theorem ggX11_judged_X8_isMissing : GoodIn wsX11_judged wsX8_isMissing := goodIn_r _ [23, 24, 52, 53, 54] rfl (by decide +kernel)
set_option maxRecDepth 20000 in
theorem gX11_judged_X8_isMissing : GoodIn wsX11_judged (wsV RX11 290 RX8 yX8_isMissing wsX8_isMissing) := goodIn_app (goodIn_of _ (by decide +kernel)) ggX11_judged_X8_isMissing
set_option maxRecDepth 20000 in
theorem ggX11_judged_X8_gather : GoodIn wsX11_judged wsX8_gather := goodIn_r _ [28, 24, 29, 52, 53, 54] rfl (by decide +kernel)
set_option maxRecDepth 20000 in
theorem gX11_judged_X8_gather : GoodIn wsX11_judged (wsV RX11 304 RX8 yX8_gather wsX8_gather) := goodIn_app (goodIn_of _ (by decide +kernel)) ggX11_judged_X8_gather
set_option maxRecDepth 20000 in
theorem ggX11_judged_X9_verdict : GoodIn wsX11_judged wsX9_verdict := goodIn_r _ [33, 34, 35, 36, 16, 37, 38, 39, 18, 55, 56, 57] rfl (by decide +kernel)
set_option maxRecDepth 20000 in
theorem gX11_judged_X9_verdict : GoodIn wsX11_judged (wsV RX11 276 RX9 yX9_verdict wsX9_verdict) := goodIn_app (goodIn_of _ (by decide +kernel)) ggX11_judged_X9_verdict
theorem dX11_judged_0 : decode cX11_judged 0 = .ok (.iload_n 1, 1) := by decide +kernel
theorem dX11_judged_1 : decode cX11_judged 1 = .ok (.invokestatic 283, 3) := by decide +kernel
theorem dX11_judged_4 : decode cX11_judged 4 = .ok (.ifCond .ne 5, 3) := by decide +kernel
theorem dX11_judged_7 : decode cX11_judged 7 = .ok (.iconst (-1), 1) := by decide +kernel
theorem dX11_judged_8 : decode cX11_judged 8 = .ok (.ireturn, 1) := by decide +kernel
theorem dX11_judged_9 : decode cX11_judged 9 = .ok (.aload_n 0, 1) := by decide +kernel
theorem dX11_judged_10 : decode cX11_judged 10 = .ok (.iload_n 3, 1) := by decide +kernel
theorem dX11_judged_11 : decode cX11_judged 11 = .ok (.sipush 501, 3) := by decide +kernel
theorem dX11_judged_14 : decode cX11_judged 14 = .ok (.invokevirtual 172, 3) := by decide +kernel
theorem dX11_judged_17 : decode cX11_judged 17 = .ok (.ifCond .ne 6, 3) := by decide +kernel
theorem dX11_judged_20 : decode cX11_judged 20 = .ok (.bipush (-2), 2) := by decide +kernel
theorem dX11_judged_22 : decode cX11_judged 22 = .ok (.ireturn, 1) := by decide +kernel
theorem dX11_judged_23 : decode cX11_judged 23 = .ok (.aload_n 0, 1) := by decide +kernel
theorem dX11_judged_24 : decode cX11_judged 24 = .ok (.getfield 77, 3) := by decide +kernel
theorem dX11_judged_27 : decode cX11_judged 27 = .ok (.iload_n 1, 1) := by decide +kernel
theorem dX11_judged_28 : decode cX11_judged 28 = .ok (.aaload, 1) := by decide +kernel
theorem dX11_judged_29 : decode cX11_judged 29 = .ok (.astore 4, 2) := by decide +kernel
theorem dX11_judged_31 : decode cX11_judged 31 = .ok (.aload 4, 2) := by decide +kernel
theorem dX11_judged_33 : decode cX11_judged 33 = .ok (.invokevirtual 290, 3) := by decide +kernel
theorem dX11_judged_36 : decode cX11_judged 36 = .ok (.ifCond .eq 6, 3) := by decide +kernel
theorem dX11_judged_39 : decode cX11_judged 39 = .ok (.bipush (-11), 2) := by decide +kernel
theorem dX11_judged_41 : decode cX11_judged 41 = .ok (.ireturn, 1) := by decide +kernel
theorem dX11_judged_42 : decode cX11_judged 42 = .ok (.iload_n 2, 1) := by decide +kernel
theorem dX11_judged_43 : decode cX11_judged 43 = .ok (.ifCond .lt 12, 3) := by decide +kernel
theorem dX11_judged_46 : decode cX11_judged 46 = .ok (.iload_n 2, 1) := by decide +kernel
theorem dX11_judged_47 : decode cX11_judged 47 = .ok (.aload 4, 2) := by decide +kernel
theorem dX11_judged_49 : decode cX11_judged 49 = .ok (.getfield 293, 3) := by decide +kernel
theorem dX11_judged_52 : decode cX11_judged 52 = .ok (.if_icmp .le 6, 3) := by decide +kernel
theorem dX11_judged_55 : decode cX11_judged 55 = .ok (.bipush (-12), 2) := by decide +kernel
theorem dX11_judged_57 : decode cX11_judged 57 = .ok (.ireturn, 1) := by decide +kernel
theorem dX11_judged_58 : decode cX11_judged 58 = .ok (.aload_n 0, 1) := by decide +kernel
theorem dX11_judged_59 : decode cX11_judged 59 = .ok (.getfield 18, 3) := by decide +kernel
theorem dX11_judged_62 : decode cX11_judged 62 = .ok (.aload_n 0, 1) := by decide +kernel
theorem dX11_judged_63 : decode cX11_judged 63 = .ok (.getfield 81, 3) := by decide +kernel
theorem dX11_judged_66 : decode cX11_judged 66 = .ok (.aload 4, 2) := by decide +kernel
theorem dX11_judged_68 : decode cX11_judged 68 = .ok (.iload_n 2, 1) := by decide +kernel
theorem dX11_judged_69 : decode cX11_judged 69 = .ok (.aload_n 0, 1) := by decide +kernel
theorem dX11_judged_70 : decode cX11_judged 70 = .ok (.getfield 81, 3) := by decide +kernel
theorem dX11_judged_73 : decode cX11_judged 73 = .ok (.invokevirtual 304, 3) := by decide +kernel
theorem dX11_judged_76 : decode cX11_judged 76 = .ok (.iload_n 3, 1) := by decide +kernel
theorem dX11_judged_77 : decode cX11_judged 77 = .ok (.invokevirtual 276, 3) := by decide +kernel
theorem dX11_judged_80 : decode cX11_judged 80 = .ok (.ireturn, 1) := by decide +kernel
set_option maxRecDepth 20000 in
theorem ggX11_image_X3_become : GoodIn wsX11_image wsX3_become := goodIn_r _ [8, 9, 10, 11, 12, 13, 14, 15, 16, 17, 18, 19, 20, 21, 22, 23, 24, 25, 26, 27, 45, 46, 47, 48, 49, 50, 51, 52, 53, 54, 55, 56, 57, 58] rfl (by decide +kernel)
set_option maxRecDepth 20000 in
theorem gX11_image_X3_become : GoodIn wsX11_image (wsV RX11 308 RX3 yX3_become wsX3_become) := goodIn_app (goodIn_of _ (by decide +kernel)) ggX11_image_X3_become
set_option maxRecDepth 20000 in
theorem ggX11_image_X3_legsOfBoth : GoodIn wsX11_image wsX3_legsOfBoth := goodIn_r _ [31, 9, 32, 45, 46, 47, 48, 49, 50, 51, 52, 53, 54, 55, 56, 57, 58] rfl (by decide +kernel)
set_option maxRecDepth 20000 in
theorem gX11_image_X3_legsOfBoth : GoodIn wsX11_image (wsV RX11 233 RX3 yX3_legsOfBoth wsX3_legsOfBoth) := goodIn_app (goodIn_of _ (by decide +kernel)) ggX11_image_X3_legsOfBoth
theorem dX11_image_0 : decode cX11_image 0 = .ok (.aload_n 0, 1) := by decide +kernel
theorem dX11_image_1 : decode cX11_image 1 = .ok (.getfield 57, 3) := by decide +kernel
theorem dX11_image_4 : decode cX11_image 4 = .ok (.aload_n 0, 1) := by decide +kernel
theorem dX11_image_5 : decode cX11_image 5 = .ok (.getfield 53, 3) := by decide +kernel
theorem dX11_image_8 : decode cX11_image 8 = .ok (.invokevirtual 308, 3) := by decide +kernel
theorem dX11_image_11 : decode cX11_image 11 = .ok (.aload_n 0, 1) := by decide +kernel
theorem dX11_image_12 : decode cX11_image 12 = .ok (.iconst 1, 1) := by decide +kernel
theorem dX11_image_13 : decode cX11_image 13 = .ok (.putfield 311, 3) := by decide +kernel
theorem dX11_image_16 : decode cX11_image 16 = .ok (.aload_n 0, 1) := by decide +kernel
theorem dX11_image_17 : decode cX11_image 17 = .ok (.getfield 53, 3) := by decide +kernel
theorem dX11_image_20 : decode cX11_image 20 = .ok (.invokevirtual 233, 3) := by decide +kernel
theorem dX11_image_23 : decode cX11_image 23 = .ok (.ireturn, 1) := by decide +kernel
set_option maxRecDepth 20000 in
theorem ggX11_undo_X3_become : GoodIn wsX11_undo wsX3_become := goodIn_r _ [8, 9, 10, 11, 12, 13, 14, 15, 16, 17, 18, 19, 20, 21, 22, 23, 24, 25, 26, 27, 129, 130, 131, 132, 133, 134, 135, 136, 137, 138, 139, 140, 141, 142] rfl (by decide +kernel)
set_option maxRecDepth 20000 in
theorem gX11_undo_X3_become : GoodIn wsX11_undo (wsV RX11 308 RX3 yX3_become wsX3_become) := goodIn_app (goodIn_of _ (by decide +kernel)) ggX11_undo_X3_become
set_option maxRecDepth 20000 in
theorem ggX11_undo_X11_renewMinds : GoodIn wsX11_undo wsX11_renewMinds := goodIn_r _ [32, 33, 2, 34, 35, 36, 37, 38, 39, 40, 41, 42, 43, 44, 45, 46, 47, 48, 49, 50, 51, 52, 53, 54, 55, 56, 57, 58, 59, 60, 61, 62, 63, 64, 65, 66, 67, 68, 69, 70, 71, 72, 73, 74, 75, 76, 77, 78, 79, 80, 81, 82, 83, 84, 85, 86, 87, 88, 89, 90, 91, 92, 93, 94, 95, 96, 97, 98, 99, 100, 101, 102, 103, 104, 105, 106, 107, 108, 109, 110, 111, 117, 118, 119, 120, 121, 122, 123, 124, 125, 126, 127, 128, 129, 130, 131, 132, 133, 134, 135, 136, 137, 138, 139, 140, 141, 142, 143, 144, 145, 146, 147, 148, 149, 150, 151, 152, 153, 154, 155, 156, 157, 158, 159, 160, 161, 162, 163, 164, 165, 166, 167, 168, 169, 170, 171, 172, 173, 174, 175, 176] rfl (by decide +kernel)
set_option maxRecDepth 20000 in
theorem gX11_undo_X11_renewMinds : GoodIn wsX11_undo (wsV RX11 128 RX11 yX11_renewMinds wsX11_renewMinds) := goodIn_app (goodIn_of _ (by decide +kernel)) ggX11_undo_X11_renewMinds
set_option maxRecDepth 20000 in
theorem ggX11_undo_X3_legsOfBoth : GoodIn wsX11_undo wsX3_legsOfBoth := goodIn_r _ [115, 9, 116, 129, 130, 131, 132, 133, 134, 135, 136, 137, 138, 139, 140, 141, 142] rfl (by decide +kernel)
set_option maxRecDepth 20000 in
theorem gX11_undo_X3_legsOfBoth : GoodIn wsX11_undo (wsV RX11 233 RX3 yX3_legsOfBoth wsX3_legsOfBoth) := goodIn_app (goodIn_of _ (by decide +kernel)) ggX11_undo_X3_legsOfBoth
theorem dX11_undo_0 : decode cX11_undo 0 = .ok (.aload_n 0, 1) := by decide +kernel
theorem dX11_undo_1 : decode cX11_undo 1 = .ok (.getfield 311, 3) := by decide +kernel
theorem dX11_undo_4 : decode cX11_undo 4 = .ok (.ifCond .ne 6, 3) := by decide +kernel
theorem dX11_undo_7 : decode cX11_undo 7 = .ok (.bipush (-3), 2) := by decide +kernel
theorem dX11_undo_9 : decode cX11_undo 9 = .ok (.ireturn, 1) := by decide +kernel
theorem dX11_undo_10 : decode cX11_undo 10 = .ok (.aload_n 0, 1) := by decide +kernel
theorem dX11_undo_11 : decode cX11_undo 11 = .ok (.getfield 53, 3) := by decide +kernel
theorem dX11_undo_14 : decode cX11_undo 14 = .ok (.aload_n 0, 1) := by decide +kernel
theorem dX11_undo_15 : decode cX11_undo 15 = .ok (.getfield 57, 3) := by decide +kernel
theorem dX11_undo_18 : decode cX11_undo 18 = .ok (.invokevirtual 308, 3) := by decide +kernel
theorem dX11_undo_21 : decode cX11_undo 21 = .ok (.aload_n 0, 1) := by decide +kernel
theorem dX11_undo_22 : decode cX11_undo 22 = .ok (.invokevirtual 128, 3) := by decide +kernel
theorem dX11_undo_25 : decode cX11_undo 25 = .ok (.aload_n 0, 1) := by decide +kernel
theorem dX11_undo_26 : decode cX11_undo 26 = .ok (.getfield 53, 3) := by decide +kernel
theorem dX11_undo_29 : decode cX11_undo 29 = .ok (.invokevirtual 233, 3) := by decide +kernel
theorem dX11_undo_32 : decode cX11_undo 32 = .ok (.ireturn, 1) := by decide +kernel
theorem dX11_isSpot_0 : decode cX11_isSpot 0 = .ok (.iload_n 0, 1) := by decide +kernel
theorem dX11_isSpot_1 : decode cX11_isSpot 1 = .ok (.ifCond .lt 13, 3) := by decide +kernel
theorem dX11_isSpot_4 : decode cX11_isSpot 4 = .ok (.iload_n 0, 1) := by decide +kernel
theorem dX11_isSpot_5 : decode cX11_isSpot 5 = .ok (.bipush 63, 2) := by decide +kernel
theorem dX11_isSpot_7 : decode cX11_isSpot 7 = .ok (.if_icmp .ge 7, 3) := by decide +kernel
theorem dX11_isSpot_10 : decode cX11_isSpot 10 = .ok (.iconst 1, 1) := by decide +kernel
theorem dX11_isSpot_11 : decode cX11_isSpot 11 = .ok (.goto 4, 3) := by decide +kernel
theorem dX11_isSpot_14 : decode cX11_isSpot 14 = .ok (.iconst 0, 1) := by decide +kernel
theorem dX11_isSpot_15 : decode cX11_isSpot 15 = .ok (.ireturn, 1) := by decide +kernel
theorem dX11_isAim_0 : decode cX11_isAim 0 = .ok (.iload_n 0, 1) := by decide +kernel
theorem dX11_isAim_1 : decode cX11_isAim 1 = .ok (.iconst 1, 1) := by decide +kernel
theorem dX11_isAim_2 : decode cX11_isAim 2 = .ok (.if_icmp .lt 13, 3) := by decide +kernel
theorem dX11_isAim_5 : decode cX11_isAim 5 = .ok (.iload_n 0, 1) := by decide +kernel
theorem dX11_isAim_6 : decode cX11_isAim 6 = .ok (.bipush 63, 2) := by decide +kernel
theorem dX11_isAim_8 : decode cX11_isAim 8 = .ok (.if_icmp .ge 7, 3) := by decide +kernel
theorem dX11_isAim_11 : decode cX11_isAim 11 = .ok (.iconst 1, 1) := by decide +kernel
theorem dX11_isAim_12 : decode cX11_isAim 12 = .ok (.goto 4, 3) := by decide +kernel
theorem dX11_isAim_15 : decode cX11_isAim 15 = .ok (.iconst 0, 1) := by decide +kernel
theorem dX11_isAim_16 : decode cX11_isAim 16 = .ok (.ireturn, 1) := by decide +kernel
theorem dX11_isKind_0 : decode cX11_isKind 0 = .ok (.iload_n 0, 1) := by decide +kernel
theorem dX11_isKind_1 : decode cX11_isKind 1 = .ok (.ifCond .lt 12, 3) := by decide +kernel
theorem dX11_isKind_4 : decode cX11_isKind 4 = .ok (.iload_n 0, 1) := by decide +kernel
theorem dX11_isKind_5 : decode cX11_isKind 5 = .ok (.iconst 5, 1) := by decide +kernel
theorem dX11_isKind_6 : decode cX11_isKind 6 = .ok (.if_icmp .gt 7, 3) := by decide +kernel
theorem dX11_isKind_9 : decode cX11_isKind 9 = .ok (.iconst 1, 1) := by decide +kernel
theorem dX11_isKind_10 : decode cX11_isKind 10 = .ok (.goto 4, 3) := by decide +kernel
theorem dX11_isKind_13 : decode cX11_isKind 13 = .ok (.iconst 0, 1) := by decide +kernel
theorem dX11_isKind_14 : decode cX11_isKind 14 = .ok (.ireturn, 1) := by decide +kernel
theorem dX11_isPlayer_0 : decode cX11_isPlayer 0 = .ok (.iload_n 0, 1) := by decide +kernel
theorem dX11_isPlayer_1 : decode cX11_isPlayer 1 = .ok (.ifCond .eq 8, 3) := by decide +kernel
theorem dX11_isPlayer_4 : decode cX11_isPlayer 4 = .ok (.iload_n 0, 1) := by decide +kernel
theorem dX11_isPlayer_5 : decode cX11_isPlayer 5 = .ok (.iconst 1, 1) := by decide +kernel
theorem dX11_isPlayer_6 : decode cX11_isPlayer 6 = .ok (.if_icmp .ne 7, 3) := by decide +kernel
theorem dX11_isPlayer_9 : decode cX11_isPlayer 9 = .ok (.iconst 1, 1) := by decide +kernel
theorem dX11_isPlayer_10 : decode cX11_isPlayer 10 = .ok (.goto 4, 3) := by decide +kernel
theorem dX11_isPlayer_13 : decode cX11_isPlayer 13 = .ok (.iconst 0, 1) := by decide +kernel
theorem dX11_isPlayer_14 : decode cX11_isPlayer 14 = .ok (.ireturn, 1) := by decide +kernel
theorem dX11_isRack_0 : decode cX11_isRack 0 = .ok (.iload_n 0, 1) := by decide +kernel
theorem dX11_isRack_1 : decode cX11_isRack 1 = .ok (.ifCond .lt 12, 3) := by decide +kernel
theorem dX11_isRack_4 : decode cX11_isRack 4 = .ok (.iload_n 0, 1) := by decide +kernel
theorem dX11_isRack_5 : decode cX11_isRack 5 = .ok (.iconst 4, 1) := by decide +kernel
theorem dX11_isRack_6 : decode cX11_isRack 6 = .ok (.if_icmp .ge 7, 3) := by decide +kernel
theorem dX11_isRack_9 : decode cX11_isRack 9 = .ok (.iconst 1, 1) := by decide +kernel
theorem dX11_isRack_10 : decode cX11_isRack 10 = .ok (.goto 4, 3) := by decide +kernel
theorem dX11_isRack_13 : decode cX11_isRack 13 = .ok (.iconst 0, 1) := by decide +kernel
theorem dX11_isRack_14 : decode cX11_isRack 14 = .ok (.ireturn, 1) := by decide +kernel
set_option maxRecDepth 20000 in
theorem ggX11_isRestUpTo_X9_leastRest : GoodIn wsX11_isRestUpTo wsX9_leastRest := goodIn_r _ [6, 7, 20, 21, 22] rfl (by decide +kernel)
set_option maxRecDepth 20000 in
theorem gX11_isRestUpTo_X9_leastRest : GoodIn wsX11_isRestUpTo (wsV RX11 315 RX9 yX9_leastRest wsX9_leastRest) := goodIn_app (goodIn_of _ (by decide +kernel)) ggX11_isRestUpTo_X9_leastRest
theorem dX11_isRestUpTo_0 : decode cX11_isRestUpTo 0 = .ok (.iload_n 1, 1) := by decide +kernel
theorem dX11_isRestUpTo_1 : decode cX11_isRestUpTo 1 = .ok (.aload_n 0, 1) := by decide +kernel
theorem dX11_isRestUpTo_2 : decode cX11_isRestUpTo 2 = .ok (.getfield 18, 3) := by decide +kernel
theorem dX11_isRestUpTo_5 : decode cX11_isRestUpTo 5 = .ok (.invokevirtual 315, 3) := by decide +kernel
theorem dX11_isRestUpTo_8 : decode cX11_isRestUpTo 8 = .ok (.if_icmp .lt 12, 3) := by decide +kernel
theorem dX11_isRestUpTo_11 : decode cX11_isRestUpTo 11 = .ok (.iload_n 1, 1) := by decide +kernel
theorem dX11_isRestUpTo_12 : decode cX11_isRestUpTo 12 = .ok (.iload_n 2, 1) := by decide +kernel
theorem dX11_isRestUpTo_13 : decode cX11_isRestUpTo 13 = .ok (.if_icmp .gt 7, 3) := by decide +kernel
theorem dX11_isRestUpTo_16 : decode cX11_isRestUpTo 16 = .ok (.iconst 1, 1) := by decide +kernel
theorem dX11_isRestUpTo_17 : decode cX11_isRestUpTo 17 = .ok (.goto 4, 3) := by decide +kernel
theorem dX11_isRestUpTo_20 : decode cX11_isRestUpTo 20 = .ok (.iconst 0, 1) := by decide +kernel
theorem dX11_isRestUpTo_21 : decode cX11_isRestUpTo 21 = .ok (.ireturn, 1) := by decide +kernel
set_option maxRecDepth 20000 in
theorem ggX11_isDartsRest_X11_isRestUpTo : GoodIn wsX11_isDartsRest wsX11_isRestUpTo := goodIn_r _ [5, 6, 7, 8, 9, 10, 11, 12, 13, 14, 15, 16, 17, 18, 19, 20, 21, 22, 23, 24, 25, 26, 27] rfl (by decide +kernel)
set_option maxRecDepth 20000 in
theorem gX11_isDartsRest_X11_isRestUpTo : GoodIn wsX11_isDartsRest (wsV RX11 172 RX11 yX11_isRestUpTo wsX11_isRestUpTo) := goodIn_app (goodIn_of _ (by decide +kernel)) ggX11_isDartsRest_X11_isRestUpTo
theorem dX11_isDartsRest_0 : decode cX11_isDartsRest 0 = .ok (.iload_n 1, 1) := by decide +kernel
theorem dX11_isDartsRest_1 : decode cX11_isDartsRest 1 = .ok (.ifCond .eq 14, 3) := by decide +kernel
theorem dX11_isDartsRest_4 : decode cX11_isDartsRest 4 = .ok (.aload_n 0, 1) := by decide +kernel
theorem dX11_isDartsRest_5 : decode cX11_isDartsRest 5 = .ok (.iload_n 1, 1) := by decide +kernel
theorem dX11_isDartsRest_6 : decode cX11_isDartsRest 6 = .ok (.sipush 501, 3) := by decide +kernel
theorem dX11_isDartsRest_9 : decode cX11_isDartsRest 9 = .ok (.invokevirtual 172, 3) := by decide +kernel
theorem dX11_isDartsRest_12 : decode cX11_isDartsRest 12 = .ok (.ifCond .eq 7, 3) := by decide +kernel
theorem dX11_isDartsRest_15 : decode cX11_isDartsRest 15 = .ok (.iconst 1, 1) := by decide +kernel
theorem dX11_isDartsRest_16 : decode cX11_isDartsRest 16 = .ok (.goto 4, 3) := by decide +kernel
theorem dX11_isDartsRest_19 : decode cX11_isDartsRest 19 = .ok (.iconst 0, 1) := by decide +kernel
theorem dX11_isDartsRest_20 : decode cX11_isDartsRest 20 = .ok (.ireturn, 1) := by decide +kernel
set_option maxRecDepth 20000 in
theorem ggX11_isRace_X11_isRestUpTo : GoodIn wsX11_isRace wsX11_isRestUpTo := goodIn_r _ [5, 6, 7, 8, 9, 10, 11, 12, 13, 14, 15, 16, 17, 18, 19, 20, 21, 22, 23, 24, 25, 26, 27] rfl (by decide +kernel)
set_option maxRecDepth 20000 in
theorem gX11_isRace_X11_isRestUpTo : GoodIn wsX11_isRace (wsV RX11 172 RX11 yX11_isRestUpTo wsX11_isRestUpTo) := goodIn_app (goodIn_of _ (by decide +kernel)) ggX11_isRace_X11_isRestUpTo
theorem dX11_isRace_0 : decode cX11_isRace 0 = .ok (.aload_n 0, 1) := by decide +kernel
theorem dX11_isRace_1 : decode cX11_isRace 1 = .ok (.iload_n 1, 1) := by decide +kernel
theorem dX11_isRace_2 : decode cX11_isRace 2 = .ok (.bipush 24, 2) := by decide +kernel
theorem dX11_isRace_4 : decode cX11_isRace 4 = .ok (.invokevirtual 172, 3) := by decide +kernel
theorem dX11_isRace_7 : decode cX11_isRace 7 = .ok (.ifCond .eq 17, 3) := by decide +kernel
theorem dX11_isRace_10 : decode cX11_isRace 10 = .ok (.aload_n 0, 1) := by decide +kernel
theorem dX11_isRace_11 : decode cX11_isRace 11 = .ok (.iload_n 2, 1) := by decide +kernel
theorem dX11_isRace_12 : decode cX11_isRace 12 = .ok (.bipush 24, 2) := by decide +kernel
theorem dX11_isRace_14 : decode cX11_isRace 14 = .ok (.invokevirtual 172, 3) := by decide +kernel
theorem dX11_isRace_17 : decode cX11_isRace 17 = .ok (.ifCond .eq 7, 3) := by decide +kernel
theorem dX11_isRace_20 : decode cX11_isRace 20 = .ok (.iconst 1, 1) := by decide +kernel
theorem dX11_isRace_21 : decode cX11_isRace 21 = .ok (.goto 4, 3) := by decide +kernel
theorem dX11_isRace_24 : decode cX11_isRace 24 = .ok (.iconst 0, 1) := by decide +kernel
theorem dX11_isRace_25 : decode cX11_isRace 25 = .ok (.ireturn, 1) := by decide +kernel
set_option maxRecDepth 20000 in
theorem ggX11_renewMinds_X9_become : GoodIn wsX11_renewMinds wsX9_become := goodIn_r _ [14, 15, 16, 17, 18, 13, 19, 20, 21, 22, 23, 24, 25, 26, 27, 28, 29, 30, 107, 108, 109] rfl (by decide +kernel)
set_option maxRecDepth 20000 in
theorem gX11_renewMinds_X9_become : GoodIn wsX11_renewMinds (wsV RX11 318 RX9 yX9_become wsX9_become) := goodIn_app (goodIn_of _ (by decide +kernel)) ggX11_renewMinds_X9_become
set_option maxRecDepth 20000 in
theorem ggX11_renewMinds_X4_become : GoodIn wsX11_renewMinds wsX4_become := goodIn_r _ [35, 36, 37, 38, 39, 40, 34, 41, 42, 43, 44, 45, 46, 47, 48, 49, 50, 51, 52, 53, 110, 111, 112, 113, 114, 115, 116, 117, 118, 119, 120, 121, 122, 123, 124, 125, 126] rfl (by decide +kernel)
set_option maxRecDepth 20000 in
theorem gX11_renewMinds_X4_become : GoodIn wsX11_renewMinds (wsV RX11 320 RX4 yX4_become wsX4_become) := goodIn_app (goodIn_of _ (by decide +kernel)) ggX11_renewMinds_X4_become
set_option maxRecDepth 20000 in
theorem ggX11_renewMinds_X2_forget : GoodIn wsX11_renewMinds wsX2_forget := goodIn_r _ [58, 59, 127, 128, 129, 130, 131] rfl (by decide +kernel)
set_option maxRecDepth 20000 in
theorem gX11_renewMinds_X2_forget : GoodIn wsX11_renewMinds (wsV RX11 322 RX2 yX2_forget wsX2_forget) := goodIn_app (goodIn_of _ (by decide +kernel)) ggX11_renewMinds_X2_forget
set_option maxRecDepth 20000 in
theorem ggX11_renewMinds_X4_forget : GoodIn wsX11_renewMinds wsX4_forget := goodIn_r _ [63, 64, 65, 66, 67, 68, 69, 13, 70, 15, 110, 111, 112, 113, 114, 115, 116, 117, 118, 119, 120, 121, 122, 107, 108, 109] rfl (by decide +kernel)
set_option maxRecDepth 20000 in
theorem gX11_renewMinds_X4_forget : GoodIn wsX11_renewMinds (wsV RX11 325 RX4 yX4_forget wsX4_forget) := goodIn_app (goodIn_of _ (by decide +kernel)) ggX11_renewMinds_X4_forget
set_option maxRecDepth 20000 in
theorem ggX11_renewMinds_X7_forget : GoodIn wsX11_renewMinds wsX7_forget := goodIn_r _ [75, 76, 77, 78, 79, 80, 132, 133, 134, 135, 136, 137, 138, 139, 140] rfl (by decide +kernel)
set_option maxRecDepth 20000 in
theorem gX11_renewMinds_X7_forget : GoodIn wsX11_renewMinds (wsV RX11 326 RX7 yX7_forget wsX7_forget) := goodIn_app (goodIn_of _ (by decide +kernel)) ggX11_renewMinds_X7_forget
theorem dX11_renewMinds_0 : decode cX11_renewMinds 0 = .ok (.aload_n 0, 1) := by decide +kernel
theorem dX11_renewMinds_1 : decode cX11_renewMinds 1 = .ok (.getfield 18, 3) := by decide +kernel
theorem dX11_renewMinds_4 : decode cX11_renewMinds 4 = .ok (.aload_n 0, 1) := by decide +kernel
theorem dX11_renewMinds_5 : decode cX11_renewMinds 5 = .ok (.getfield 53, 3) := by decide +kernel
theorem dX11_renewMinds_8 : decode cX11_renewMinds 8 = .ok (.getfield 147, 3) := by decide +kernel
theorem dX11_renewMinds_11 : decode cX11_renewMinds 11 = .ok (.invokevirtual 318, 3) := by decide +kernel
theorem dX11_renewMinds_14 : decode cX11_renewMinds 14 = .ok (.istore_n 1, 1) := by decide +kernel
theorem dX11_renewMinds_15 : decode cX11_renewMinds 15 = .ok (.aload_n 0, 1) := by decide +kernel
theorem dX11_renewMinds_16 : decode cX11_renewMinds 16 = .ok (.getfield 28, 3) := by decide +kernel
theorem dX11_renewMinds_19 : decode cX11_renewMinds 19 = .ok (.iconst 0, 1) := by decide +kernel
theorem dX11_renewMinds_20 : decode cX11_renewMinds 20 = .ok (.aaload, 1) := by decide +kernel
theorem dX11_renewMinds_21 : decode cX11_renewMinds 21 = .ok (.aload_n 0, 1) := by decide +kernel
theorem dX11_renewMinds_22 : decode cX11_renewMinds 22 = .ok (.getfield 53, 3) := by decide +kernel
theorem dX11_renewMinds_25 : decode cX11_renewMinds 25 = .ok (.getfield 115, 3) := by decide +kernel
theorem dX11_renewMinds_28 : decode cX11_renewMinds 28 = .ok (.iconst 0, 1) := by decide +kernel
theorem dX11_renewMinds_29 : decode cX11_renewMinds 29 = .ok (.aaload, 1) := by decide +kernel
theorem dX11_renewMinds_30 : decode cX11_renewMinds 30 = .ok (.getfield 119, 3) := by decide +kernel
theorem dX11_renewMinds_33 : decode cX11_renewMinds 33 = .ok (.aload_n 0, 1) := by decide +kernel
theorem dX11_renewMinds_34 : decode cX11_renewMinds 34 = .ok (.getfield 53, 3) := by decide +kernel
theorem dX11_renewMinds_37 : decode cX11_renewMinds 37 = .ok (.getfield 115, 3) := by decide +kernel
theorem dX11_renewMinds_40 : decode cX11_renewMinds 40 = .ok (.iconst 0, 1) := by decide +kernel
theorem dX11_renewMinds_41 : decode cX11_renewMinds 41 = .ok (.aaload, 1) := by decide +kernel
theorem dX11_renewMinds_42 : decode cX11_renewMinds 42 = .ok (.getfield 125, 3) := by decide +kernel
theorem dX11_renewMinds_45 : decode cX11_renewMinds 45 = .ok (.invokevirtual 320, 3) := by decide +kernel
theorem dX11_renewMinds_48 : decode cX11_renewMinds 48 = .ok (.istore_n 2, 1) := by decide +kernel
theorem dX11_renewMinds_49 : decode cX11_renewMinds 49 = .ok (.aload_n 0, 1) := by decide +kernel
theorem dX11_renewMinds_50 : decode cX11_renewMinds 50 = .ok (.getfield 28, 3) := by decide +kernel
theorem dX11_renewMinds_53 : decode cX11_renewMinds 53 = .ok (.iconst 1, 1) := by decide +kernel
theorem dX11_renewMinds_54 : decode cX11_renewMinds 54 = .ok (.aaload, 1) := by decide +kernel
theorem dX11_renewMinds_55 : decode cX11_renewMinds 55 = .ok (.aload_n 0, 1) := by decide +kernel
theorem dX11_renewMinds_56 : decode cX11_renewMinds 56 = .ok (.getfield 53, 3) := by decide +kernel
theorem dX11_renewMinds_59 : decode cX11_renewMinds 59 = .ok (.getfield 115, 3) := by decide +kernel
theorem dX11_renewMinds_62 : decode cX11_renewMinds 62 = .ok (.iconst 1, 1) := by decide +kernel
theorem dX11_renewMinds_63 : decode cX11_renewMinds 63 = .ok (.aaload, 1) := by decide +kernel
theorem dX11_renewMinds_64 : decode cX11_renewMinds 64 = .ok (.getfield 119, 3) := by decide +kernel
theorem dX11_renewMinds_67 : decode cX11_renewMinds 67 = .ok (.aload_n 0, 1) := by decide +kernel
theorem dX11_renewMinds_68 : decode cX11_renewMinds 68 = .ok (.getfield 53, 3) := by decide +kernel
theorem dX11_renewMinds_71 : decode cX11_renewMinds 71 = .ok (.getfield 115, 3) := by decide +kernel
theorem dX11_renewMinds_74 : decode cX11_renewMinds 74 = .ok (.iconst 1, 1) := by decide +kernel
theorem dX11_renewMinds_75 : decode cX11_renewMinds 75 = .ok (.aaload, 1) := by decide +kernel
theorem dX11_renewMinds_76 : decode cX11_renewMinds 76 = .ok (.getfield 125, 3) := by decide +kernel
theorem dX11_renewMinds_79 : decode cX11_renewMinds 79 = .ok (.invokevirtual 320, 3) := by decide +kernel
theorem dX11_renewMinds_82 : decode cX11_renewMinds 82 = .ok (.istore_n 3, 1) := by decide +kernel
theorem dX11_renewMinds_83 : decode cX11_renewMinds 83 = .ok (.iload_n 1, 1) := by decide +kernel
theorem dX11_renewMinds_84 : decode cX11_renewMinds 84 = .ok (.ifCond .eq 10, 3) := by decide +kernel
theorem dX11_renewMinds_87 : decode cX11_renewMinds 87 = .ok (.aload_n 0, 1) := by decide +kernel
theorem dX11_renewMinds_88 : decode cX11_renewMinds 88 = .ok (.getfield 46, 3) := by decide +kernel
theorem dX11_renewMinds_91 : decode cX11_renewMinds 91 = .ok (.invokevirtual 322, 3) := by decide +kernel
theorem dX11_renewMinds_94 : decode cX11_renewMinds 94 = .ok (.iload_n 1, 1) := by decide +kernel
theorem dX11_renewMinds_95 : decode cX11_renewMinds 95 = .ok (.ifCond .ne 7, 3) := by decide +kernel
theorem dX11_renewMinds_98 : decode cX11_renewMinds 98 = .ok (.iload_n 2, 1) := by decide +kernel
theorem dX11_renewMinds_99 : decode cX11_renewMinds 99 = .ok (.ifCond .eq 12, 3) := by decide +kernel
theorem dX11_renewMinds_102 : decode cX11_renewMinds 102 = .ok (.aload_n 0, 1) := by decide +kernel
theorem dX11_renewMinds_103 : decode cX11_renewMinds 103 = .ok (.getfield 28, 3) := by decide +kernel
theorem dX11_renewMinds_106 : decode cX11_renewMinds 106 = .ok (.iconst 0, 1) := by decide +kernel
theorem dX11_renewMinds_107 : decode cX11_renewMinds 107 = .ok (.aaload, 1) := by decide +kernel
theorem dX11_renewMinds_108 : decode cX11_renewMinds 108 = .ok (.invokevirtual 325, 3) := by decide +kernel
theorem dX11_renewMinds_111 : decode cX11_renewMinds 111 = .ok (.iload_n 1, 1) := by decide +kernel
theorem dX11_renewMinds_112 : decode cX11_renewMinds 112 = .ok (.ifCond .ne 7, 3) := by decide +kernel
theorem dX11_renewMinds_115 : decode cX11_renewMinds 115 = .ok (.iload_n 3, 1) := by decide +kernel
theorem dX11_renewMinds_116 : decode cX11_renewMinds 116 = .ok (.ifCond .eq 12, 3) := by decide +kernel
theorem dX11_renewMinds_119 : decode cX11_renewMinds 119 = .ok (.aload_n 0, 1) := by decide +kernel
theorem dX11_renewMinds_120 : decode cX11_renewMinds 120 = .ok (.getfield 28, 3) := by decide +kernel
theorem dX11_renewMinds_123 : decode cX11_renewMinds 123 = .ok (.iconst 1, 1) := by decide +kernel
theorem dX11_renewMinds_124 : decode cX11_renewMinds 124 = .ok (.aaload, 1) := by decide +kernel
theorem dX11_renewMinds_125 : decode cX11_renewMinds 125 = .ok (.invokevirtual 325, 3) := by decide +kernel
theorem dX11_renewMinds_128 : decode cX11_renewMinds 128 = .ok (.iload_n 1, 1) := by decide +kernel
theorem dX11_renewMinds_129 : decode cX11_renewMinds 129 = .ok (.ifCond .ne 11, 3) := by decide +kernel
theorem dX11_renewMinds_132 : decode cX11_renewMinds 132 = .ok (.iload_n 2, 1) := by decide +kernel
theorem dX11_renewMinds_133 : decode cX11_renewMinds 133 = .ok (.ifCond .ne 7, 3) := by decide +kernel
theorem dX11_renewMinds_136 : decode cX11_renewMinds 136 = .ok (.iload_n 3, 1) := by decide +kernel
theorem dX11_renewMinds_137 : decode cX11_renewMinds 137 = .ok (.ifCond .eq 10, 3) := by decide +kernel
theorem dX11_renewMinds_140 : decode cX11_renewMinds 140 = .ok (.aload_n 0, 1) := by decide +kernel
theorem dX11_renewMinds_141 : decode cX11_renewMinds 141 = .ok (.getfield 37, 3) := by decide +kernel
theorem dX11_renewMinds_144 : decode cX11_renewMinds 144 = .ok (.invokevirtual 326, 3) := by decide +kernel
theorem dX11_renewMinds_147 : decode cX11_renewMinds 147 = .ok (.return_, 1) := by decide +kernel
set_option maxRecDepth 20000 in
theorem ggX11_throwUpon_X3_restOfThrower : GoodIn wsX11_throwUpon wsX3_restOfThrower := goodIn_r _ [7, 8, 9, 10, 50, 51, 52, 53, 54, 55, 56, 57, 58, 59, 60, 61, 62, 63] rfl (by decide +kernel)
set_option maxRecDepth 20000 in
theorem gX11_throwUpon_X3_restOfThrower : GoodIn wsX11_throwUpon (wsV RX11 240 RX3 yX3_restOfThrower wsX3_restOfThrower) := goodIn_app (goodIn_of _ (by decide +kernel)) ggX11_throwUpon_X3_restOfThrower
set_option maxRecDepth 20000 in
theorem ggX11_throwUpon_X9_restBehind : GoodIn wsX11_throwUpon wsX9_restBehind := goodIn_r _ [15, 16, 17, 18, 64, 65, 66] rfl (by decide +kernel)
set_option maxRecDepth 20000 in
theorem gX11_throwUpon_X9_restBehind : GoodIn wsX11_throwUpon (wsV RX11 150 RX9 yX9_restBehind wsX9_restBehind) := goodIn_app (goodIn_of _ (by decide +kernel)) ggX11_throwUpon_X9_restBehind
set_option maxRecDepth 20000 in
theorem ggX11_throwUpon_X3_land : GoodIn wsX11_throwUpon wsX3_land := goodIn_r _ [22, 8, 9, 23, 24, 25, 10, 26, 27, 28, 29, 30, 31, 6, 32, 33, 34, 35, 36, 37, 50, 51, 52, 53, 54, 55, 56, 57, 58, 59, 60, 61, 62, 63] rfl (by decide +kernel)
set_option maxRecDepth 20000 in
theorem gX11_throwUpon_X3_land : GoodIn wsX11_throwUpon (wsV RX11 327 RX3 yX3_land wsX3_land) := goodIn_app (goodIn_of _ (by decide +kernel)) ggX11_throwUpon_X3_land
theorem dX11_throwUpon_0 : decode cX11_throwUpon 0 = .ok (.aload_n 0, 1) := by decide +kernel
theorem dX11_throwUpon_1 : decode cX11_throwUpon 1 = .ok (.getfield 53, 3) := by decide +kernel
theorem dX11_throwUpon_4 : decode cX11_throwUpon 4 = .ok (.aload_n 0, 1) := by decide +kernel
theorem dX11_throwUpon_5 : decode cX11_throwUpon 5 = .ok (.getfield 18, 3) := by decide +kernel
theorem dX11_throwUpon_8 : decode cX11_throwUpon 8 = .ok (.aload_n 0, 1) := by decide +kernel
theorem dX11_throwUpon_9 : decode cX11_throwUpon 9 = .ok (.getfield 53, 3) := by decide +kernel
theorem dX11_throwUpon_12 : decode cX11_throwUpon 12 = .ok (.invokevirtual 240, 3) := by decide +kernel
theorem dX11_throwUpon_15 : decode cX11_throwUpon 15 = .ok (.iload_n 1, 1) := by decide +kernel
theorem dX11_throwUpon_16 : decode cX11_throwUpon 16 = .ok (.invokevirtual 150, 3) := by decide +kernel
theorem dX11_throwUpon_19 : decode cX11_throwUpon 19 = .ok (.invokevirtual 327, 3) := by decide +kernel
theorem dX11_throwUpon_22 : decode cX11_throwUpon 22 = .ok (.ireturn, 1) := by decide +kernel
set_option maxRecDepth 20000 in
theorem ggX11_throwByDraw_X3_draw : GoodIn wsX11_throwByDraw wsX3_draw := goodIn_r _ [8, 9, 10, 72, 73, 74, 75, 76, 77, 78, 79] rfl (by decide +kernel)
set_option maxRecDepth 20000 in
theorem gX11_throwByDraw_X3_draw : GoodIn wsX11_throwByDraw (wsV RX11 330 RX3 yX3_draw wsX3_draw) := goodIn_app (goodIn_of _ (by decide +kernel)) ggX11_throwByDraw_X3_draw
set_option maxRecDepth 20000 in
theorem ggX11_throwByDraw_X4_fallenUpon : GoodIn wsX11_throwByDraw wsX4_fallenUpon := goodIn_r _ [15, 16, 17, 18, 19, 80, 81, 82, 83, 84, 85, 86, 87, 88, 89, 90, 91, 92, 93, 94, 95, 96] rfl (by decide +kernel)
set_option maxRecDepth 20000 in
theorem gX11_throwByDraw_X4_fallenUpon : GoodIn wsX11_throwByDraw (wsV RX11 333 RX4 yX4_fallenUpon wsX4_fallenUpon) := goodIn_app (goodIn_of _ (by decide +kernel)) ggX11_throwByDraw_X4_fallenUpon
set_option maxRecDepth 20000 in
theorem ggX11_throwByDraw_X11_throwUpon : GoodIn wsX11_throwByDraw wsX11_throwUpon := goodIn_r _ [24, 2, 25, 26, 27, 28, 7, 29, 30, 31, 32, 33, 34, 35, 36, 37, 38, 39, 40, 41, 42, 43, 44, 45, 46, 47, 48, 49, 50, 51, 52, 53, 54, 55, 56, 57, 58, 59, 60, 61, 62, 63, 64, 65, 66, 67, 68, 69, 70, 71, 72, 73, 74, 75, 76, 77, 78, 79, 97, 98, 99, 100, 101, 102, 103, 104, 105] rfl (by decide +kernel)
set_option maxRecDepth 20000 in
theorem gX11_throwByDraw_X11_throwUpon : GoodIn wsX11_throwByDraw (wsV RX11 227 RX11 yX11_throwUpon wsX11_throwUpon) := goodIn_app (goodIn_of _ (by decide +kernel)) ggX11_throwByDraw_X11_throwUpon
theorem dX11_throwByDraw_0 : decode cX11_throwByDraw 0 = .ok (.aload_n 0, 1) := by decide +kernel
theorem dX11_throwByDraw_1 : decode cX11_throwByDraw 1 = .ok (.getfield 28, 3) := by decide +kernel
theorem dX11_throwByDraw_4 : decode cX11_throwByDraw 4 = .ok (.aload_n 0, 1) := by decide +kernel
theorem dX11_throwByDraw_5 : decode cX11_throwByDraw 5 = .ok (.getfield 53, 3) := by decide +kernel
theorem dX11_throwByDraw_8 : decode cX11_throwByDraw 8 = .ok (.getfield 237, 3) := by decide +kernel
theorem dX11_throwByDraw_11 : decode cX11_throwByDraw 11 = .ok (.aaload, 1) := by decide +kernel
theorem dX11_throwByDraw_12 : decode cX11_throwByDraw 12 = .ok (.iload_n 1, 1) := by decide +kernel
theorem dX11_throwByDraw_13 : decode cX11_throwByDraw 13 = .ok (.aload_n 0, 1) := by decide +kernel
theorem dX11_throwByDraw_14 : decode cX11_throwByDraw 14 = .ok (.getfield 53, 3) := by decide +kernel
theorem dX11_throwByDraw_17 : decode cX11_throwByDraw 17 = .ok (.invokevirtual 330, 3) := by decide +kernel
theorem dX11_throwByDraw_20 : decode cX11_throwByDraw 20 = .ok (.invokevirtual 333, 3) := by decide +kernel
theorem dX11_throwByDraw_23 : decode cX11_throwByDraw 23 = .ok (.istore_n 2, 1) := by decide +kernel
theorem dX11_throwByDraw_24 : decode cX11_throwByDraw 24 = .ok (.aload_n 0, 1) := by decide +kernel
theorem dX11_throwByDraw_25 : decode cX11_throwByDraw 25 = .ok (.iload_n 2, 1) := by decide +kernel
theorem dX11_throwByDraw_26 : decode cX11_throwByDraw 26 = .ok (.invokevirtual 227, 3) := by decide +kernel
theorem dX11_throwByDraw_29 : decode cX11_throwByDraw 29 = .ok (.pop, 1) := by decide +kernel
theorem dX11_throwByDraw_30 : decode cX11_throwByDraw 30 = .ok (.iload_n 2, 1) := by decide +kernel
theorem dX11_throwByDraw_31 : decode cX11_throwByDraw 31 = .ok (.ireturn, 1) := by decide +kernel
set_option maxRecDepth 20000 in
theorem ggX11_bitsOfDouble_X11_bitsOfSize : GoodIn wsX11_bitsOfDouble wsX11_bitsOfSize := goodIn_r _ [5, 6] rfl (by decide +kernel)
set_option maxRecDepth 20000 in
theorem gX11_bitsOfDouble_X11_bitsOfSize : GoodIn wsX11_bitsOfDouble (va_wsS RX11 336 yX11_bitsOfSize wsX11_bitsOfSize) := goodIn_app (goodIn_of _ (by decide +kernel)) ggX11_bitsOfDouble_X11_bitsOfSize
theorem dX11_bitsOfDouble_0 : decode cX11_bitsOfDouble 0 = .ok (.dload_n 0, 1) := by decide +kernel
theorem dX11_bitsOfDouble_1 : decode cX11_bitsOfDouble 1 = .ok (.dconst 0, 1) := by decide +kernel
theorem dX11_bitsOfDouble_2 : decode cX11_bitsOfDouble 2 = .ok (.dcmp .g, 1) := by decide +kernel
theorem dX11_bitsOfDouble_3 : decode cX11_bitsOfDouble 3 = .ok (.ifCond .ge 8, 3) := by decide +kernel
theorem dX11_bitsOfDouble_6 : decode cX11_bitsOfDouble 6 = .ok (.dload_n 0, 1) := by decide +kernel
theorem dX11_bitsOfDouble_7 : decode cX11_bitsOfDouble 7 = .ok (.dneg, 1) := by decide +kernel
theorem dX11_bitsOfDouble_8 : decode cX11_bitsOfDouble 8 = .ok (.goto 4, 3) := by decide +kernel
theorem dX11_bitsOfDouble_11 : decode cX11_bitsOfDouble 11 = .ok (.dload_n 0, 1) := by decide +kernel
theorem dX11_bitsOfDouble_12 : decode cX11_bitsOfDouble 12 = .ok (.bipush 52, 2) := by decide +kernel
theorem dX11_bitsOfDouble_14 : decode cX11_bitsOfDouble 14 = .ok (.sipush 1023, 3) := by decide +kernel
theorem dX11_bitsOfDouble_17 : decode cX11_bitsOfDouble 17 = .ok (.invokestatic 336, 3) := by decide +kernel
theorem dX11_bitsOfDouble_20 : decode cX11_bitsOfDouble 20 = .ok (.lstore_n 2, 1) := by decide +kernel
theorem dX11_bitsOfDouble_21 : decode cX11_bitsOfDouble 21 = .ok (.dload_n 0, 1) := by decide +kernel
theorem dX11_bitsOfDouble_22 : decode cX11_bitsOfDouble 22 = .ok (.dconst 0, 1) := by decide +kernel
theorem dX11_bitsOfDouble_23 : decode cX11_bitsOfDouble 23 = .ok (.dcmp .g, 1) := by decide +kernel
theorem dX11_bitsOfDouble_24 : decode cX11_bitsOfDouble 24 = .ok (.ifCond .ge 11, 3) := by decide +kernel
theorem dX11_bitsOfDouble_27 : decode cX11_bitsOfDouble 27 = .ok (.lload_n 2, 1) := by decide +kernel
theorem dX11_bitsOfDouble_28 : decode cX11_bitsOfDouble 28 = .ok (.ldc2_w 340, 3) := by decide +kernel
theorem dX11_bitsOfDouble_31 : decode cX11_bitsOfDouble 31 = .ok (.lor, 1) := by decide +kernel
theorem dX11_bitsOfDouble_32 : decode cX11_bitsOfDouble 32 = .ok (.goto 4, 3) := by decide +kernel
theorem dX11_bitsOfDouble_35 : decode cX11_bitsOfDouble 35 = .ok (.lload_n 2, 1) := by decide +kernel
theorem dX11_bitsOfDouble_36 : decode cX11_bitsOfDouble 36 = .ok (.lreturn, 1) := by decide +kernel
set_option maxRecDepth 20000 in
theorem ggX11_bitsOfFloat_X11_bitsOfSize : GoodIn wsX11_bitsOfFloat wsX11_bitsOfSize := goodIn_r _ [5, 6] rfl (by decide +kernel)
set_option maxRecDepth 20000 in
theorem gX11_bitsOfFloat_X11_bitsOfSize : GoodIn wsX11_bitsOfFloat (va_wsS RX11 336 yX11_bitsOfSize wsX11_bitsOfSize) := goodIn_app (goodIn_of _ (by decide +kernel)) ggX11_bitsOfFloat_X11_bitsOfSize
theorem dX11_bitsOfFloat_0 : decode cX11_bitsOfFloat 0 = .ok (.fload_n 0, 1) := by decide +kernel
theorem dX11_bitsOfFloat_1 : decode cX11_bitsOfFloat 1 = .ok (.fconst 0, 1) := by decide +kernel
theorem dX11_bitsOfFloat_2 : decode cX11_bitsOfFloat 2 = .ok (.fcmp .g, 1) := by decide +kernel
theorem dX11_bitsOfFloat_3 : decode cX11_bitsOfFloat 3 = .ok (.ifCond .ge 9, 3) := by decide +kernel
theorem dX11_bitsOfFloat_6 : decode cX11_bitsOfFloat 6 = .ok (.fload_n 0, 1) := by decide +kernel
theorem dX11_bitsOfFloat_7 : decode cX11_bitsOfFloat 7 = .ok (.fneg, 1) := by decide +kernel
theorem dX11_bitsOfFloat_8 : decode cX11_bitsOfFloat 8 = .ok (.f2d, 1) := by decide +kernel
theorem dX11_bitsOfFloat_9 : decode cX11_bitsOfFloat 9 = .ok (.goto 5, 3) := by decide +kernel
theorem dX11_bitsOfFloat_12 : decode cX11_bitsOfFloat 12 = .ok (.fload_n 0, 1) := by decide +kernel
theorem dX11_bitsOfFloat_13 : decode cX11_bitsOfFloat 13 = .ok (.f2d, 1) := by decide +kernel
theorem dX11_bitsOfFloat_14 : decode cX11_bitsOfFloat 14 = .ok (.bipush 23, 2) := by decide +kernel
theorem dX11_bitsOfFloat_16 : decode cX11_bitsOfFloat 16 = .ok (.bipush 127, 2) := by decide +kernel
theorem dX11_bitsOfFloat_18 : decode cX11_bitsOfFloat 18 = .ok (.invokestatic 336, 3) := by decide +kernel
theorem dX11_bitsOfFloat_21 : decode cX11_bitsOfFloat 21 = .ok (.l2i, 1) := by decide +kernel
theorem dX11_bitsOfFloat_22 : decode cX11_bitsOfFloat 22 = .ok (.istore_n 1, 1) := by decide +kernel
theorem dX11_bitsOfFloat_23 : decode cX11_bitsOfFloat 23 = .ok (.fload_n 0, 1) := by decide +kernel
theorem dX11_bitsOfFloat_24 : decode cX11_bitsOfFloat 24 = .ok (.fconst 0, 1) := by decide +kernel
theorem dX11_bitsOfFloat_25 : decode cX11_bitsOfFloat 25 = .ok (.fcmp .g, 1) := by decide +kernel
theorem dX11_bitsOfFloat_26 : decode cX11_bitsOfFloat 26 = .ok (.ifCond .ge 11, 3) := by decide +kernel
theorem dX11_bitsOfFloat_29 : decode cX11_bitsOfFloat 29 = .ok (.iload_n 1, 1) := by decide +kernel
theorem dX11_bitsOfFloat_30 : decode cX11_bitsOfFloat 30 = .ok (.ldc_w 342, 3) := by decide +kernel
theorem dX11_bitsOfFloat_33 : decode cX11_bitsOfFloat 33 = .ok (.ior, 1) := by decide +kernel
theorem dX11_bitsOfFloat_34 : decode cX11_bitsOfFloat 34 = .ok (.goto 4, 3) := by decide +kernel
theorem dX11_bitsOfFloat_37 : decode cX11_bitsOfFloat 37 = .ok (.iload_n 1, 1) := by decide +kernel
theorem dX11_bitsOfFloat_38 : decode cX11_bitsOfFloat 38 = .ok (.ireturn, 1) := by decide +kernel
theorem dX11_bitsOfSize_0 : decode cX11_bitsOfSize 0 = .ok (.dload_n 0, 1) := by decide +kernel
theorem dX11_bitsOfSize_1 : decode cX11_bitsOfSize 1 = .ok (.dconst 0, 1) := by decide +kernel
theorem dX11_bitsOfSize_2 : decode cX11_bitsOfSize 2 = .ok (.dcmp .l, 1) := by decide +kernel
theorem dX11_bitsOfSize_3 : decode cX11_bitsOfSize 3 = .ok (.ifCond .ne 5, 3) := by decide +kernel
theorem dX11_bitsOfSize_6 : decode cX11_bitsOfSize 6 = .ok (.lconst 0, 1) := by decide +kernel
theorem dX11_bitsOfSize_7 : decode cX11_bitsOfSize 7 = .ok (.lreturn, 1) := by decide +kernel
theorem dX11_bitsOfSize_8 : decode cX11_bitsOfSize 8 = .ok (.dload_n 0, 1) := by decide +kernel
theorem dX11_bitsOfSize_9 : decode cX11_bitsOfSize 9 = .ok (.dstore 4, 2) := by decide +kernel
theorem dX11_bitsOfSize_11 : decode cX11_bitsOfSize 11 = .ok (.iload_n 3, 1) := by decide +kernel
theorem dX11_bitsOfSize_12 : decode cX11_bitsOfSize 12 = .ok (.istore 6, 2) := by decide +kernel
theorem dX11_bitsOfSize_14 : decode cX11_bitsOfSize 14 = .ok (.iload 6, 2) := by decide +kernel
theorem dX11_bitsOfSize_16 : decode cX11_bitsOfSize 16 = .ok (.iconst 2, 1) := by decide +kernel
theorem dX11_bitsOfSize_17 : decode cX11_bitsOfSize 17 = .ok (.iload_n 3, 1) := by decide +kernel
theorem dX11_bitsOfSize_18 : decode cX11_bitsOfSize 18 = .ok (.imul, 1) := by decide +kernel
theorem dX11_bitsOfSize_19 : decode cX11_bitsOfSize 19 = .ok (.if_icmp .ge 26, 3) := by decide +kernel
theorem dX11_bitsOfSize_22 : decode cX11_bitsOfSize 22 = .ok (.dload 4, 2) := by decide +kernel
theorem dX11_bitsOfSize_24 : decode cX11_bitsOfSize 24 = .ok (.ldc2_w 343, 3) := by decide +kernel
theorem dX11_bitsOfSize_27 : decode cX11_bitsOfSize 27 = .ok (.dcmp .l, 1) := by decide +kernel
theorem dX11_bitsOfSize_28 : decode cX11_bitsOfSize 28 = .ok (.ifCond .lt 17, 3) := by decide +kernel
theorem dX11_bitsOfSize_31 : decode cX11_bitsOfSize 31 = .ok (.dload 4, 2) := by decide +kernel
theorem dX11_bitsOfSize_33 : decode cX11_bitsOfSize 33 = .ok (.ldc2_w 343, 3) := by decide +kernel
theorem dX11_bitsOfSize_36 : decode cX11_bitsOfSize 36 = .ok (.ddiv, 1) := by decide +kernel
theorem dX11_bitsOfSize_37 : decode cX11_bitsOfSize 37 = .ok (.dstore 4, 2) := by decide +kernel
theorem dX11_bitsOfSize_39 : decode cX11_bitsOfSize 39 = .ok (.iinc 6 1, 3) := by decide +kernel
theorem dX11_bitsOfSize_42 : decode cX11_bitsOfSize 42 = .ok (.goto (-28), 3) := by decide +kernel
theorem dX11_bitsOfSize_45 : decode cX11_bitsOfSize 45 = .ok (.iload 6, 2) := by decide +kernel
theorem dX11_bitsOfSize_47 : decode cX11_bitsOfSize 47 = .ok (.iconst 1, 1) := by decide +kernel
theorem dX11_bitsOfSize_48 : decode cX11_bitsOfSize 48 = .ok (.if_icmp .le 24, 3) := by decide +kernel
theorem dX11_bitsOfSize_51 : decode cX11_bitsOfSize 51 = .ok (.dload 4, 2) := by decide +kernel
theorem dX11_bitsOfSize_53 : decode cX11_bitsOfSize 53 = .ok (.dconst 1, 1) := by decide +kernel
theorem dX11_bitsOfSize_54 : decode cX11_bitsOfSize 54 = .ok (.dcmp .g, 1) := by decide +kernel
theorem dX11_bitsOfSize_55 : decode cX11_bitsOfSize 55 = .ok (.ifCond .ge 17, 3) := by decide +kernel
theorem dX11_bitsOfSize_58 : decode cX11_bitsOfSize 58 = .ok (.dload 4, 2) := by decide +kernel
theorem dX11_bitsOfSize_60 : decode cX11_bitsOfSize 60 = .ok (.ldc2_w 343, 3) := by decide +kernel
theorem dX11_bitsOfSize_63 : decode cX11_bitsOfSize 63 = .ok (.dmul, 1) := by decide +kernel
theorem dX11_bitsOfSize_64 : decode cX11_bitsOfSize 64 = .ok (.dstore 4, 2) := by decide +kernel
theorem dX11_bitsOfSize_66 : decode cX11_bitsOfSize 66 = .ok (.iinc 6 (-1), 3) := by decide +kernel
theorem dX11_bitsOfSize_69 : decode cX11_bitsOfSize 69 = .ok (.goto (-24), 3) := by decide +kernel
theorem dX11_bitsOfSize_72 : decode cX11_bitsOfSize 72 = .ok (.lconst 1, 1) := by decide +kernel
theorem dX11_bitsOfSize_73 : decode cX11_bitsOfSize 73 = .ok (.iload_n 2, 1) := by decide +kernel
theorem dX11_bitsOfSize_74 : decode cX11_bitsOfSize 74 = .ok (.lshl, 1) := by decide +kernel
theorem dX11_bitsOfSize_75 : decode cX11_bitsOfSize 75 = .ok (.lstore 7, 2) := by decide +kernel
theorem dX11_bitsOfSize_77 : decode cX11_bitsOfSize 77 = .ok (.iload 6, 2) := by decide +kernel
theorem dX11_bitsOfSize_79 : decode cX11_bitsOfSize 79 = .ok (.i2l, 1) := by decide +kernel
theorem dX11_bitsOfSize_80 : decode cX11_bitsOfSize 80 = .ok (.iload_n 2, 1) := by decide +kernel
theorem dX11_bitsOfSize_81 : decode cX11_bitsOfSize 81 = .ok (.lshl, 1) := by decide +kernel
theorem dX11_bitsOfSize_82 : decode cX11_bitsOfSize 82 = .ok (.dload 4, 2) := by decide +kernel
theorem dX11_bitsOfSize_84 : decode cX11_bitsOfSize 84 = .ok (.lload 7, 2) := by decide +kernel
theorem dX11_bitsOfSize_86 : decode cX11_bitsOfSize 86 = .ok (.l2d, 1) := by decide +kernel
theorem dX11_bitsOfSize_87 : decode cX11_bitsOfSize 87 = .ok (.dmul, 1) := by decide +kernel
theorem dX11_bitsOfSize_88 : decode cX11_bitsOfSize 88 = .ok (.d2l, 1) := by decide +kernel
theorem dX11_bitsOfSize_89 : decode cX11_bitsOfSize 89 = .ok (.ladd, 1) := by decide +kernel
theorem dX11_bitsOfSize_90 : decode cX11_bitsOfSize 90 = .ok (.lload 7, 2) := by decide +kernel
theorem dX11_bitsOfSize_92 : decode cX11_bitsOfSize 92 = .ok (.lsub, 1) := by decide +kernel
theorem dX11_bitsOfSize_93 : decode cX11_bitsOfSize 93 = .ok (.lreturn, 1) := by decide +kernel
theorem dX12_init_0 : decode cX12_init 0 = .ok (.aload_n 0, 1) := by decide +kernel
theorem dX12_init_1 : decode cX12_init 1 = .ok (.invokespecial 1, 3) := by decide +kernel
theorem dX12_init_4 : decode cX12_init 4 = .ok (.aload_n 0, 1) := by decide +kernel
theorem dX12_init_5 : decode cX12_init 5 = .ok (.bipush 20, 2) := by decide +kernel
theorem dX12_init_7 : decode cX12_init 7 = .ok (.newarray .int, 2) := by decide +kernel
theorem dX12_init_9 : decode cX12_init 9 = .ok (.dup, 1) := by decide +kernel
theorem dX12_init_10 : decode cX12_init 10 = .ok (.iconst 0, 1) := by decide +kernel
theorem dX12_init_11 : decode cX12_init 11 = .ok (.bipush 20, 2) := by decide +kernel
theorem dX12_init_13 : decode cX12_init 13 = .ok (.iastore, 1) := by decide +kernel
theorem dX12_init_14 : decode cX12_init 14 = .ok (.dup, 1) := by decide +kernel
theorem dX12_init_15 : decode cX12_init 15 = .ok (.iconst 1, 1) := by decide +kernel
theorem dX12_init_16 : decode cX12_init 16 = .ok (.iconst 1, 1) := by decide +kernel
theorem dX12_init_17 : decode cX12_init 17 = .ok (.iastore, 1) := by decide +kernel
theorem dX12_init_18 : decode cX12_init 18 = .ok (.dup, 1) := by decide +kernel
theorem dX12_init_19 : decode cX12_init 19 = .ok (.iconst 2, 1) := by decide +kernel
theorem dX12_init_20 : decode cX12_init 20 = .ok (.bipush 18, 2) := by decide +kernel
theorem dX12_init_22 : decode cX12_init 22 = .ok (.iastore, 1) := by decide +kernel
theorem dX12_init_23 : decode cX12_init 23 = .ok (.dup, 1) := by decide +kernel
theorem dX12_init_24 : decode cX12_init 24 = .ok (.iconst 3, 1) := by decide +kernel
theorem dX12_init_25 : decode cX12_init 25 = .ok (.iconst 4, 1) := by decide +kernel
theorem dX12_init_26 : decode cX12_init 26 = .ok (.iastore, 1) := by decide +kernel
theorem dX12_init_27 : decode cX12_init 27 = .ok (.dup, 1) := by decide +kernel
theorem dX12_init_28 : decode cX12_init 28 = .ok (.iconst 4, 1) := by decide +kernel
theorem dX12_init_29 : decode cX12_init 29 = .ok (.bipush 13, 2) := by decide +kernel
theorem dX12_init_31 : decode cX12_init 31 = .ok (.iastore, 1) := by decide +kernel
theorem dX12_init_32 : decode cX12_init 32 = .ok (.dup, 1) := by decide +kernel
theorem dX12_init_33 : decode cX12_init 33 = .ok (.iconst 5, 1) := by decide +kernel
theorem dX12_init_34 : decode cX12_init 34 = .ok (.bipush 6, 2) := by decide +kernel
theorem dX12_init_36 : decode cX12_init 36 = .ok (.iastore, 1) := by decide +kernel
theorem dX12_init_37 : decode cX12_init 37 = .ok (.dup, 1) := by decide +kernel
theorem dX12_init_38 : decode cX12_init 38 = .ok (.bipush 6, 2) := by decide +kernel
theorem dX12_init_40 : decode cX12_init 40 = .ok (.bipush 10, 2) := by decide +kernel
theorem dX12_init_42 : decode cX12_init 42 = .ok (.iastore, 1) := by decide +kernel
theorem dX12_init_43 : decode cX12_init 43 = .ok (.dup, 1) := by decide +kernel
theorem dX12_init_44 : decode cX12_init 44 = .ok (.bipush 7, 2) := by decide +kernel
theorem dX12_init_46 : decode cX12_init 46 = .ok (.bipush 15, 2) := by decide +kernel
theorem dX12_init_48 : decode cX12_init 48 = .ok (.iastore, 1) := by decide +kernel
theorem dX12_init_49 : decode cX12_init 49 = .ok (.dup, 1) := by decide +kernel
theorem dX12_init_50 : decode cX12_init 50 = .ok (.bipush 8, 2) := by decide +kernel
theorem dX12_init_52 : decode cX12_init 52 = .ok (.iconst 2, 1) := by decide +kernel
theorem dX12_init_53 : decode cX12_init 53 = .ok (.iastore, 1) := by decide +kernel
theorem dX12_init_54 : decode cX12_init 54 = .ok (.dup, 1) := by decide +kernel
theorem dX12_init_55 : decode cX12_init 55 = .ok (.bipush 9, 2) := by decide +kernel
theorem dX12_init_57 : decode cX12_init 57 = .ok (.bipush 17, 2) := by decide +kernel
theorem dX12_init_59 : decode cX12_init 59 = .ok (.iastore, 1) := by decide +kernel
theorem dX12_init_60 : decode cX12_init 60 = .ok (.dup, 1) := by decide +kernel
theorem dX12_init_61 : decode cX12_init 61 = .ok (.bipush 10, 2) := by decide +kernel
theorem dX12_init_63 : decode cX12_init 63 = .ok (.iconst 3, 1) := by decide +kernel
theorem dX12_init_64 : decode cX12_init 64 = .ok (.iastore, 1) := by decide +kernel
theorem dX12_init_65 : decode cX12_init 65 = .ok (.dup, 1) := by decide +kernel
theorem dX12_init_66 : decode cX12_init 66 = .ok (.bipush 11, 2) := by decide +kernel
theorem dX12_init_68 : decode cX12_init 68 = .ok (.bipush 19, 2) := by decide +kernel
theorem dX12_init_70 : decode cX12_init 70 = .ok (.iastore, 1) := by decide +kernel
theorem dX12_init_71 : decode cX12_init 71 = .ok (.dup, 1) := by decide +kernel
theorem dX12_init_72 : decode cX12_init 72 = .ok (.bipush 12, 2) := by decide +kernel
theorem dX12_init_74 : decode cX12_init 74 = .ok (.bipush 7, 2) := by decide +kernel
theorem dX12_init_76 : decode cX12_init 76 = .ok (.iastore, 1) := by decide +kernel
theorem dX12_init_77 : decode cX12_init 77 = .ok (.dup, 1) := by decide +kernel
theorem dX12_init_78 : decode cX12_init 78 = .ok (.bipush 13, 2) := by decide +kernel
theorem dX12_init_80 : decode cX12_init 80 = .ok (.bipush 16, 2) := by decide +kernel
theorem dX12_init_82 : decode cX12_init 82 = .ok (.iastore, 1) := by decide +kernel
theorem dX12_init_83 : decode cX12_init 83 = .ok (.dup, 1) := by decide +kernel
theorem dX12_init_84 : decode cX12_init 84 = .ok (.bipush 14, 2) := by decide +kernel
theorem dX12_init_86 : decode cX12_init 86 = .ok (.bipush 8, 2) := by decide +kernel
theorem dX12_init_88 : decode cX12_init 88 = .ok (.iastore, 1) := by decide +kernel
theorem dX12_init_89 : decode cX12_init 89 = .ok (.dup, 1) := by decide +kernel
theorem dX12_init_90 : decode cX12_init 90 = .ok (.bipush 15, 2) := by decide +kernel
theorem dX12_init_92 : decode cX12_init 92 = .ok (.bipush 11, 2) := by decide +kernel
theorem dX12_init_94 : decode cX12_init 94 = .ok (.iastore, 1) := by decide +kernel
theorem dX12_init_95 : decode cX12_init 95 = .ok (.dup, 1) := by decide +kernel
theorem dX12_init_96 : decode cX12_init 96 = .ok (.bipush 16, 2) := by decide +kernel
theorem dX12_init_98 : decode cX12_init 98 = .ok (.bipush 14, 2) := by decide +kernel
theorem dX12_init_100 : decode cX12_init 100 = .ok (.iastore, 1) := by decide +kernel
theorem dX12_init_101 : decode cX12_init 101 = .ok (.dup, 1) := by decide +kernel
theorem dX12_init_102 : decode cX12_init 102 = .ok (.bipush 17, 2) := by decide +kernel
theorem dX12_init_104 : decode cX12_init 104 = .ok (.bipush 9, 2) := by decide +kernel
theorem dX12_init_106 : decode cX12_init 106 = .ok (.iastore, 1) := by decide +kernel
theorem dX12_init_107 : decode cX12_init 107 = .ok (.dup, 1) := by decide +kernel
theorem dX12_init_108 : decode cX12_init 108 = .ok (.bipush 18, 2) := by decide +kernel
theorem dX12_init_110 : decode cX12_init 110 = .ok (.bipush 12, 2) := by decide +kernel
theorem dX12_init_112 : decode cX12_init 112 = .ok (.iastore, 1) := by decide +kernel
theorem dX12_init_113 : decode cX12_init 113 = .ok (.dup, 1) := by decide +kernel
theorem dX12_init_114 : decode cX12_init 114 = .ok (.bipush 19, 2) := by decide +kernel
theorem dX12_init_116 : decode cX12_init 116 = .ok (.iconst 5, 1) := by decide +kernel
theorem dX12_init_117 : decode cX12_init 117 = .ok (.iastore, 1) := by decide +kernel
theorem dX12_init_118 : decode cX12_init 118 = .ok (.putfield 7, 3) := by decide +kernel
theorem dX12_init_121 : decode cX12_init 121 = .ok (.aload_n 0, 1) := by decide +kernel
theorem dX12_init_122 : decode cX12_init 122 = .ok (.bipush 19, 2) := by decide +kernel
theorem dX12_init_124 : decode cX12_init 124 = .ok (.newarray .int, 2) := by decide +kernel
theorem dX12_init_126 : decode cX12_init 126 = .ok (.dup, 1) := by decide +kernel
theorem dX12_init_127 : decode cX12_init 127 = .ok (.iconst 0, 1) := by decide +kernel
theorem dX12_init_128 : decode cX12_init 128 = .ok (.bipush 60, 2) := by decide +kernel
theorem dX12_init_130 : decode cX12_init 130 = .ok (.iastore, 1) := by decide +kernel
theorem dX12_init_131 : decode cX12_init 131 = .ok (.dup, 1) := by decide +kernel
theorem dX12_init_132 : decode cX12_init 132 = .ok (.iconst 1, 1) := by decide +kernel
theorem dX12_init_133 : decode cX12_init 133 = .ok (.bipush 60, 2) := by decide +kernel
theorem dX12_init_135 : decode cX12_init 135 = .ok (.iastore, 1) := by decide +kernel
theorem dX12_init_136 : decode cX12_init 136 = .ok (.dup, 1) := by decide +kernel
theorem dX12_init_137 : decode cX12_init 137 = .ok (.iconst 2, 1) := by decide +kernel
theorem dX12_init_138 : decode cX12_init 138 = .ok (.bipush 80, 2) := by decide +kernel
theorem dX12_init_140 : decode cX12_init 140 = .ok (.iastore, 1) := by decide +kernel
theorem dX12_init_141 : decode cX12_init 141 = .ok (.dup, 1) := by decide +kernel
theorem dX12_init_142 : decode cX12_init 142 = .ok (.iconst 3, 1) := by decide +kernel
theorem dX12_init_143 : decode cX12_init 143 = .ok (.bipush 80, 2) := by decide +kernel
theorem dX12_init_145 : decode cX12_init 145 = .ok (.iastore, 1) := by decide +kernel
theorem dX12_init_146 : decode cX12_init 146 = .ok (.dup, 1) := by decide +kernel
theorem dX12_init_147 : decode cX12_init 147 = .ok (.iconst 4, 1) := by decide +kernel
theorem dX12_init_148 : decode cX12_init 148 = .ok (.sipush 301, 3) := by decide +kernel
theorem dX12_init_151 : decode cX12_init 151 = .ok (.iastore, 1) := by decide +kernel
theorem dX12_init_152 : decode cX12_init 152 = .ok (.dup, 1) := by decide +kernel
theorem dX12_init_153 : decode cX12_init 153 = .ok (.iconst 5, 1) := by decide +kernel
theorem dX12_init_154 : decode cX12_init 154 = .ok (.sipush 301, 3) := by decide +kernel
theorem dX12_init_157 : decode cX12_init 157 = .ok (.iastore, 1) := by decide +kernel
theorem dX12_init_158 : decode cX12_init 158 = .ok (.dup, 1) := by decide +kernel
theorem dX12_init_159 : decode cX12_init 159 = .ok (.bipush 6, 2) := by decide +kernel
theorem dX12_init_161 : decode cX12_init 161 = .ok (.iconst 0, 1) := by decide +kernel
theorem dX12_init_162 : decode cX12_init 162 = .ok (.iastore, 1) := by decide +kernel
theorem dX12_init_163 : decode cX12_init 163 = .ok (.dup, 1) := by decide +kernel
theorem dX12_init_164 : decode cX12_init 164 = .ok (.bipush 7, 2) := by decide +kernel
theorem dX12_init_166 : decode cX12_init 166 = .ok (.iconst 0, 1) := by decide +kernel
theorem dX12_init_167 : decode cX12_init 167 = .ok (.iastore, 1) := by decide +kernel
theorem dX12_init_168 : decode cX12_init 168 = .ok (.dup, 1) := by decide +kernel
theorem dX12_init_169 : decode cX12_init 169 = .ok (.bipush 8, 2) := by decide +kernel
theorem dX12_init_171 : decode cX12_init 171 = .ok (.iconst 0, 1) := by decide +kernel
theorem dX12_init_172 : decode cX12_init 172 = .ok (.iastore, 1) := by decide +kernel
theorem dX12_init_173 : decode cX12_init 173 = .ok (.dup, 1) := by decide +kernel
theorem dX12_init_174 : decode cX12_init 174 = .ok (.bipush 9, 2) := by decide +kernel
theorem dX12_init_176 : decode cX12_init 176 = .ok (.iconst 0, 1) := by decide +kernel
theorem dX12_init_177 : decode cX12_init 177 = .ok (.iastore, 1) := by decide +kernel
theorem dX12_init_178 : decode cX12_init 178 = .ok (.dup, 1) := by decide +kernel
theorem dX12_init_179 : decode cX12_init 179 = .ok (.bipush 10, 2) := by decide +kernel
theorem dX12_init_181 : decode cX12_init 181 = .ok (.iconst 0, 1) := by decide +kernel
theorem dX12_init_182 : decode cX12_init 182 = .ok (.iastore, 1) := by decide +kernel
theorem dX12_init_183 : decode cX12_init 183 = .ok (.dup, 1) := by decide +kernel
theorem dX12_init_184 : decode cX12_init 184 = .ok (.bipush 11, 2) := by decide +kernel
theorem dX12_init_186 : decode cX12_init 186 = .ok (.iconst 0, 1) := by decide +kernel
theorem dX12_init_187 : decode cX12_init 187 = .ok (.iastore, 1) := by decide +kernel
theorem dX12_init_188 : decode cX12_init 188 = .ok (.dup, 1) := by decide +kernel
theorem dX12_init_189 : decode cX12_init 189 = .ok (.bipush 12, 2) := by decide +kernel
theorem dX12_init_191 : decode cX12_init 191 = .ok (.iconst 1, 1) := by decide +kernel
theorem dX12_init_192 : decode cX12_init 192 = .ok (.iastore, 1) := by decide +kernel
theorem dX12_init_193 : decode cX12_init 193 = .ok (.dup, 1) := by decide +kernel
theorem dX12_init_194 : decode cX12_init 194 = .ok (.bipush 13, 2) := by decide +kernel
theorem dX12_init_196 : decode cX12_init 196 = .ok (.sipush 301, 3) := by decide +kernel
theorem dX12_init_199 : decode cX12_init 199 = .ok (.iastore, 1) := by decide +kernel
theorem dX12_init_200 : decode cX12_init 200 = .ok (.dup, 1) := by decide +kernel
theorem dX12_init_201 : decode cX12_init 201 = .ok (.bipush 14, 2) := by decide +kernel
theorem dX12_init_203 : decode cX12_init 203 = .ok (.iconst 0, 1) := by decide +kernel
theorem dX12_init_204 : decode cX12_init 204 = .ok (.iastore, 1) := by decide +kernel
theorem dX12_init_205 : decode cX12_init 205 = .ok (.dup, 1) := by decide +kernel
theorem dX12_init_206 : decode cX12_init 206 = .ok (.bipush 15, 2) := by decide +kernel
theorem dX12_init_208 : decode cX12_init 208 = .ok (.iconst 0, 1) := by decide +kernel
theorem dX12_init_209 : decode cX12_init 209 = .ok (.iastore, 1) := by decide +kernel
theorem dX12_init_210 : decode cX12_init 210 = .ok (.dup, 1) := by decide +kernel
theorem dX12_init_211 : decode cX12_init 211 = .ok (.bipush 16, 2) := by decide +kernel
theorem dX12_init_213 : decode cX12_init 213 = .ok (.iconst 3, 1) := by decide +kernel
theorem dX12_init_214 : decode cX12_init 214 = .ok (.iastore, 1) := by decide +kernel
theorem dX12_init_215 : decode cX12_init 215 = .ok (.dup, 1) := by decide +kernel
theorem dX12_init_216 : decode cX12_init 216 = .ok (.bipush 17, 2) := by decide +kernel
theorem dX12_init_218 : decode cX12_init 218 = .ok (.sipush 301, 3) := by decide +kernel
theorem dX12_init_221 : decode cX12_init 221 = .ok (.iastore, 1) := by decide +kernel
theorem dX12_init_222 : decode cX12_init 222 = .ok (.dup, 1) := by decide +kernel
theorem dX12_init_223 : decode cX12_init 223 = .ok (.bipush 18, 2) := by decide +kernel
theorem dX12_init_225 : decode cX12_init 225 = .ok (.iconst 1, 1) := by decide +kernel
theorem dX12_init_226 : decode cX12_init 226 = .ok (.iastore, 1) := by decide +kernel
theorem dX12_init_227 : decode cX12_init 227 = .ok (.putfield 13, 3) := by decide +kernel
theorem dX12_init_230 : decode cX12_init 230 = .ok (.aload_n 0, 1) := by decide +kernel
theorem dX12_init_231 : decode cX12_init 231 = .ok (.bipush 19, 2) := by decide +kernel
theorem dX12_init_233 : decode cX12_init 233 = .ok (.newarray .int, 2) := by decide +kernel
theorem dX12_init_235 : decode cX12_init 235 = .ok (.putfield 16, 3) := by decide +kernel
theorem dX12_init_238 : decode cX12_init 238 = .ok (.aload_n 0, 1) := by decide +kernel
theorem dX12_init_239 : decode cX12_init 239 = .ok (.iconst 5, 1) := by decide +kernel
theorem dX12_init_240 : decode cX12_init 240 = .ok (.newarray .int, 2) := by decide +kernel
theorem dX12_init_242 : decode cX12_init 242 = .ok (.putfield 19, 3) := by decide +kernel
theorem dX12_init_245 : decode cX12_init 245 = .ok (.aload_n 0, 1) := by decide +kernel
theorem dX12_init_246 : decode cX12_init 246 = .ok (.iconst 5, 1) := by decide +kernel
theorem dX12_init_247 : decode cX12_init 247 = .ok (.newarray .int, 2) := by decide +kernel
theorem dX12_init_249 : decode cX12_init 249 = .ok (.putfield 22, 3) := by decide +kernel
theorem dX12_init_252 : decode cX12_init 252 = .ok (.aload_n 0, 1) := by decide +kernel
theorem dX12_init_253 : decode cX12_init 253 = .ok (.sipush 1004, 3) := by decide +kernel
theorem dX12_init_256 : decode cX12_init 256 = .ok (.newarray .double, 2) := by decide +kernel
theorem dX12_init_258 : decode cX12_init 258 = .ok (.putfield 25, 3) := by decide +kernel
theorem dX12_init_261 : decode cX12_init 261 = .ok (.aload_n 0, 1) := by decide +kernel
theorem dX12_init_262 : decode cX12_init 262 = .ok (.sipush 1004, 3) := by decide +kernel
theorem dX12_init_265 : decode cX12_init 265 = .ok (.newarray .int, 2) := by decide +kernel
theorem dX12_init_267 : decode cX12_init 267 = .ok (.putfield 29, 3) := by decide +kernel
theorem dX12_init_270 : decode cX12_init 270 = .ok (.aload_n 0, 1) := by decide +kernel
theorem dX12_init_271 : decode cX12_init 271 = .ok (.iconst 2, 1) := by decide +kernel
theorem dX12_init_272 : decode cX12_init 272 = .ok (.newarray .int, 2) := by decide +kernel
theorem dX12_init_274 : decode cX12_init 274 = .ok (.dup, 1) := by decide +kernel
theorem dX12_init_275 : decode cX12_init 275 = .ok (.iconst 0, 1) := by decide +kernel
theorem dX12_init_276 : decode cX12_init 276 = .ok (.iconst (-1), 1) := by decide +kernel
theorem dX12_init_277 : decode cX12_init 277 = .ok (.iastore, 1) := by decide +kernel
theorem dX12_init_278 : decode cX12_init 278 = .ok (.dup, 1) := by decide +kernel
theorem dX12_init_279 : decode cX12_init 279 = .ok (.iconst 1, 1) := by decide +kernel
theorem dX12_init_280 : decode cX12_init 280 = .ok (.iconst (-1), 1) := by decide +kernel
theorem dX12_init_281 : decode cX12_init 281 = .ok (.iastore, 1) := by decide +kernel
theorem dX12_init_282 : decode cX12_init 282 = .ok (.putfield 32, 3) := by decide +kernel
theorem dX12_init_285 : decode cX12_init 285 = .ok (.aload_n 0, 1) := by decide +kernel
theorem dX12_init_286 : decode cX12_init 286 = .ok (.iconst 2, 1) := by decide +kernel
theorem dX12_init_287 : decode cX12_init 287 = .ok (.newarray .int, 2) := by decide +kernel
theorem dX12_init_289 : decode cX12_init 289 = .ok (.dup, 1) := by decide +kernel
theorem dX12_init_290 : decode cX12_init 290 = .ok (.iconst 0, 1) := by decide +kernel
theorem dX12_init_291 : decode cX12_init 291 = .ok (.iconst (-1), 1) := by decide +kernel
theorem dX12_init_292 : decode cX12_init 292 = .ok (.iastore, 1) := by decide +kernel
theorem dX12_init_293 : decode cX12_init 293 = .ok (.dup, 1) := by decide +kernel
theorem dX12_init_294 : decode cX12_init 294 = .ok (.iconst 1, 1) := by decide +kernel
theorem dX12_init_295 : decode cX12_init 295 = .ok (.iconst (-1), 1) := by decide +kernel
theorem dX12_init_296 : decode cX12_init 296 = .ok (.iastore, 1) := by decide +kernel
theorem dX12_init_297 : decode cX12_init 297 = .ok (.putfield 35, 3) := by decide +kernel
theorem dX12_init_300 : decode cX12_init 300 = .ok (.aload_n 0, 1) := by decide +kernel
theorem dX12_init_301 : decode cX12_init 301 = .ok (.iconst 2, 1) := by decide +kernel
theorem dX12_init_302 : decode cX12_init 302 = .ok (.newarray .int, 2) := by decide +kernel
theorem dX12_init_304 : decode cX12_init 304 = .ok (.dup, 1) := by decide +kernel
theorem dX12_init_305 : decode cX12_init 305 = .ok (.iconst 0, 1) := by decide +kernel
theorem dX12_init_306 : decode cX12_init 306 = .ok (.iconst (-1), 1) := by decide +kernel
theorem dX12_init_307 : decode cX12_init 307 = .ok (.iastore, 1) := by decide +kernel
theorem dX12_init_308 : decode cX12_init 308 = .ok (.dup, 1) := by decide +kernel
theorem dX12_init_309 : decode cX12_init 309 = .ok (.iconst 1, 1) := by decide +kernel
theorem dX12_init_310 : decode cX12_init 310 = .ok (.iconst (-1), 1) := by decide +kernel
theorem dX12_init_311 : decode cX12_init 311 = .ok (.iastore, 1) := by decide +kernel
theorem dX12_init_312 : decode cX12_init 312 = .ok (.putfield 38, 3) := by decide +kernel
theorem dX12_init_315 : decode cX12_init 315 = .ok (.aload_n 0, 1) := by decide +kernel
theorem dX12_init_316 : decode cX12_init 316 = .ok (.bipush 63, 2) := by decide +kernel
theorem dX12_init_318 : decode cX12_init 318 = .ok (.newarray .int, 2) := by decide +kernel
theorem dX12_init_320 : decode cX12_init 320 = .ok (.putfield 41, 3) := by decide +kernel
theorem dX12_init_323 : decode cX12_init 323 = .ok (.aload_n 0, 1) := by decide +kernel
theorem dX12_init_324 : decode cX12_init 324 = .ok (.sipush 315, 3) := by decide +kernel
theorem dX12_init_327 : decode cX12_init 327 = .ok (.newarray .int, 2) := by decide +kernel
theorem dX12_init_329 : decode cX12_init 329 = .ok (.putfield 44, 3) := by decide +kernel
theorem dX12_init_332 : decode cX12_init 332 = .ok (.aload_n 0, 1) := by decide +kernel
theorem dX12_init_333 : decode cX12_init 333 = .ok (.sipush 315, 3) := by decide +kernel
theorem dX12_init_336 : decode cX12_init 336 = .ok (.newarray .int, 2) := by decide +kernel
theorem dX12_init_338 : decode cX12_init 338 = .ok (.putfield 47, 3) := by decide +kernel
theorem dX12_init_341 : decode cX12_init 341 = .ok (.aload_n 0, 1) := by decide +kernel
theorem dX12_init_342 : decode cX12_init 342 = .ok (.sipush 724, 3) := by decide +kernel
theorem dX12_init_345 : decode cX12_init 345 = .ok (.newarray .double, 2) := by decide +kernel
theorem dX12_init_347 : decode cX12_init 347 = .ok (.putfield 50, 3) := by decide +kernel
theorem dX12_init_350 : decode cX12_init 350 = .ok (.aload_n 0, 1) := by decide +kernel
theorem dX12_init_351 : decode cX12_init 351 = .ok (.sipush 625, 3) := by decide +kernel
theorem dX12_init_354 : decode cX12_init 354 = .ok (.newarray .double, 2) := by decide +kernel
theorem dX12_init_356 : decode cX12_init 356 = .ok (.putfield 53, 3) := by decide +kernel
theorem dX12_init_359 : decode cX12_init 359 = .ok (.aload_n 0, 1) := by decide +kernel
theorem dX12_init_360 : decode cX12_init 360 = .ok (.sipush 625, 3) := by decide +kernel
theorem dX12_init_363 : decode cX12_init 363 = .ok (.newarray .double, 2) := by decide +kernel
theorem dX12_init_365 : decode cX12_init 365 = .ok (.putfield 56, 3) := by decide +kernel
theorem dX12_init_368 : decode cX12_init 368 = .ok (.aload_n 0, 1) := by decide +kernel
theorem dX12_init_369 : decode cX12_init 369 = .ok (.sipush 625, 3) := by decide +kernel
theorem dX12_init_372 : decode cX12_init 372 = .ok (.newarray .boolean, 2) := by decide +kernel
theorem dX12_init_374 : decode cX12_init 374 = .ok (.putfield 59, 3) := by decide +kernel
theorem dX12_init_377 : decode cX12_init 377 = .ok (.aload_n 0, 1) := by decide +kernel
theorem dX12_init_378 : decode cX12_init 378 = .ok (.iconst 5, 1) := by decide +kernel
theorem dX12_init_379 : decode cX12_init 379 = .ok (.newarray .int, 2) := by decide +kernel
theorem dX12_init_381 : decode cX12_init 381 = .ok (.dup, 1) := by decide +kernel
theorem dX12_init_382 : decode cX12_init 382 = .ok (.iconst 0, 1) := by decide +kernel
theorem dX12_init_383 : decode cX12_init 383 = .ok (.iconst (-1), 1) := by decide +kernel
theorem dX12_init_384 : decode cX12_init 384 = .ok (.iastore, 1) := by decide +kernel
theorem dX12_init_385 : decode cX12_init 385 = .ok (.dup, 1) := by decide +kernel
theorem dX12_init_386 : decode cX12_init 386 = .ok (.iconst 1, 1) := by decide +kernel
theorem dX12_init_387 : decode cX12_init 387 = .ok (.iconst (-1), 1) := by decide +kernel
theorem dX12_init_388 : decode cX12_init 388 = .ok (.iastore, 1) := by decide +kernel
theorem dX12_init_389 : decode cX12_init 389 = .ok (.dup, 1) := by decide +kernel
theorem dX12_init_390 : decode cX12_init 390 = .ok (.iconst 2, 1) := by decide +kernel
theorem dX12_init_391 : decode cX12_init 391 = .ok (.iconst (-1), 1) := by decide +kernel
theorem dX12_init_392 : decode cX12_init 392 = .ok (.iastore, 1) := by decide +kernel
theorem dX12_init_393 : decode cX12_init 393 = .ok (.dup, 1) := by decide +kernel
theorem dX12_init_394 : decode cX12_init 394 = .ok (.iconst 3, 1) := by decide +kernel
theorem dX12_init_395 : decode cX12_init 395 = .ok (.iconst (-1), 1) := by decide +kernel
theorem dX12_init_396 : decode cX12_init 396 = .ok (.iastore, 1) := by decide +kernel
theorem dX12_init_397 : decode cX12_init 397 = .ok (.dup, 1) := by decide +kernel
theorem dX12_init_398 : decode cX12_init 398 = .ok (.iconst 4, 1) := by decide +kernel
theorem dX12_init_399 : decode cX12_init 399 = .ok (.iconst (-1), 1) := by decide +kernel
theorem dX12_init_400 : decode cX12_init 400 = .ok (.iastore, 1) := by decide +kernel
theorem dX12_init_401 : decode cX12_init 401 = .ok (.putfield 63, 3) := by decide +kernel
theorem dX12_init_404 : decode cX12_init 404 = .ok (.aload_n 0, 1) := by decide +kernel
theorem dX12_init_405 : decode cX12_init 405 = .ok (.bipush 126, 2) := by decide +kernel
theorem dX12_init_407 : decode cX12_init 407 = .ok (.newarray .int, 2) := by decide +kernel
theorem dX12_init_409 : decode cX12_init 409 = .ok (.putfield 66, 3) := by decide +kernel
theorem dX12_init_412 : decode cX12_init 412 = .ok (.aload_n 0, 1) := by decide +kernel
theorem dX12_init_413 : decode cX12_init 413 = .ok (.sipush 630, 3) := by decide +kernel
theorem dX12_init_416 : decode cX12_init 416 = .ok (.newarray .int, 2) := by decide +kernel
theorem dX12_init_418 : decode cX12_init 418 = .ok (.putfield 69, 3) := by decide +kernel
theorem dX12_init_421 : decode cX12_init 421 = .ok (.aload_n 0, 1) := by decide +kernel
theorem dX12_init_422 : decode cX12_init 422 = .ok (.sipush 630, 3) := by decide +kernel
theorem dX12_init_425 : decode cX12_init 425 = .ok (.newarray .int, 2) := by decide +kernel
theorem dX12_init_427 : decode cX12_init 427 = .ok (.putfield 72, 3) := by decide +kernel
theorem dX12_init_430 : decode cX12_init 430 = .ok (.aload_n 0, 1) := by decide +kernel
theorem dX12_init_431 : decode cX12_init 431 = .ok (.iconst 3, 1) := by decide +kernel
theorem dX12_init_432 : decode cX12_init 432 = .ok (.newarray .int, 2) := by decide +kernel
theorem dX12_init_434 : decode cX12_init 434 = .ok (.putfield 75, 3) := by decide +kernel
theorem dX12_init_437 : decode cX12_init 437 = .ok (.aload_n 0, 1) := by decide +kernel
theorem dX12_init_438 : decode cX12_init 438 = .ok (.sipush 181, 3) := by decide +kernel
theorem dX12_init_441 : decode cX12_init 441 = .ok (.newarray .int, 2) := by decide +kernel
theorem dX12_init_443 : decode cX12_init 443 = .ok (.putfield 78, 3) := by decide +kernel
theorem dX12_init_446 : decode cX12_init 446 = .ok (.aload_n 0, 1) := by decide +kernel
theorem dX12_init_447 : decode cX12_init 447 = .ok (.bipush 20, 2) := by decide +kernel
theorem dX12_init_449 : decode cX12_init 449 = .ok (.newarray .int, 2) := by decide +kernel
theorem dX12_init_451 : decode cX12_init 451 = .ok (.putfield 81, 3) := by decide +kernel
theorem dX12_init_454 : decode cX12_init 454 = .ok (.aload_n 0, 1) := by decide +kernel
theorem dX12_init_455 : decode cX12_init 455 = .ok (.bipush 60, 2) := by decide +kernel
theorem dX12_init_457 : decode cX12_init 457 = .ok (.newarray .int, 2) := by decide +kernel
theorem dX12_init_459 : decode cX12_init 459 = .ok (.putfield 84, 3) := by decide +kernel
theorem dX12_init_462 : decode cX12_init 462 = .ok (.aload_n 0, 1) := by decide +kernel
theorem dX12_init_463 : decode cX12_init 463 = .ok (.bipush 20, 2) := by decide +kernel
theorem dX12_init_465 : decode cX12_init 465 = .ok (.newarray .int, 2) := by decide +kernel
theorem dX12_init_467 : decode cX12_init 467 = .ok (.putfield 87, 3) := by decide +kernel
theorem dX12_init_470 : decode cX12_init 470 = .ok (.aload_n 0, 1) := by decide +kernel
theorem dX12_init_471 : decode cX12_init 471 = .ok (.iconst 4, 1) := by decide +kernel
theorem dX12_init_472 : decode cX12_init 472 = .ok (.newarray .boolean, 2) := by decide +kernel
theorem dX12_init_474 : decode cX12_init 474 = .ok (.putfield 90, 3) := by decide +kernel
theorem dX12_init_477 : decode cX12_init 477 = .ok (.aload_n 0, 1) := by decide +kernel
theorem dX12_init_478 : decode cX12_init 478 = .ok (.iconst 4, 1) := by decide +kernel
theorem dX12_init_479 : decode cX12_init 479 = .ok (.newarray .int, 2) := by decide +kernel
theorem dX12_init_481 : decode cX12_init 481 = .ok (.putfield 93, 3) := by decide +kernel
theorem dX12_init_484 : decode cX12_init 484 = .ok (.aload_n 0, 1) := by decide +kernel
theorem dX12_init_485 : decode cX12_init 485 = .ok (.iconst 4, 1) := by decide +kernel
theorem dX12_init_486 : decode cX12_init 486 = .ok (.newarray .int, 2) := by decide +kernel
theorem dX12_init_488 : decode cX12_init 488 = .ok (.putfield 96, 3) := by decide +kernel
theorem dX12_init_491 : decode cX12_init 491 = .ok (.aload_n 0, 1) := by decide +kernel
theorem dX12_init_492 : decode cX12_init 492 = .ok (.bipush 80, 2) := by decide +kernel
theorem dX12_init_494 : decode cX12_init 494 = .ok (.newarray .int, 2) := by decide +kernel
theorem dX12_init_496 : decode cX12_init 496 = .ok (.putfield 99, 3) := by decide +kernel
theorem dX12_init_499 : decode cX12_init 499 = .ok (.return_, 1) := by decide +kernel
theorem dX12_in_0 : decode cX12_in 0 = .ok (.lload_n 0, 1) := by decide +kernel
theorem dX12_in_1 : decode cX12_in 1 = .ok (.lload_n 2, 1) := by decide +kernel
theorem dX12_in_2 : decode cX12_in 2 = .ok (.lcmp, 1) := by decide +kernel
theorem dX12_in_3 : decode cX12_in 3 = .ok (.ifCond .lt 14, 3) := by decide +kernel
theorem dX12_in_6 : decode cX12_in 6 = .ok (.lload_n 0, 1) := by decide +kernel
theorem dX12_in_7 : decode cX12_in 7 = .ok (.lload 4, 2) := by decide +kernel
theorem dX12_in_9 : decode cX12_in 9 = .ok (.lcmp, 1) := by decide +kernel
theorem dX12_in_10 : decode cX12_in 10 = .ok (.ifCond .gt 7, 3) := by decide +kernel
theorem dX12_in_13 : decode cX12_in 13 = .ok (.iconst 1, 1) := by decide +kernel
theorem dX12_in_14 : decode cX12_in 14 = .ok (.goto 4, 3) := by decide +kernel
theorem dX12_in_17 : decode cX12_in 17 = .ok (.iconst 0, 1) := by decide +kernel
theorem dX12_in_18 : decode cX12_in 18 = .ok (.ireturn, 1) := by decide +kernel
theorem dX12_scoreOf_0 : decode cX12_scoreOf 0 = .ok (.iload_n 0, 1) := by decide +kernel
theorem dX12_scoreOf_1 : decode cX12_scoreOf 1 = .ok (.bipush 61, 2) := by decide +kernel
theorem dX12_scoreOf_3 : decode cX12_scoreOf 3 = .ok (.if_icmp .lt 17, 3) := by decide +kernel
theorem dX12_scoreOf_6 : decode cX12_scoreOf 6 = .ok (.iload_n 0, 1) := by decide +kernel
theorem dX12_scoreOf_7 : decode cX12_scoreOf 7 = .ok (.bipush 61, 2) := by decide +kernel
theorem dX12_scoreOf_9 : decode cX12_scoreOf 9 = .ok (.if_icmp .ne 8, 3) := by decide +kernel
theorem dX12_scoreOf_12 : decode cX12_scoreOf 12 = .ok (.bipush 25, 2) := by decide +kernel
theorem dX12_scoreOf_14 : decode cX12_scoreOf 14 = .ok (.goto 5, 3) := by decide +kernel
theorem dX12_scoreOf_17 : decode cX12_scoreOf 17 = .ok (.bipush 50, 2) := by decide +kernel
theorem dX12_scoreOf_19 : decode cX12_scoreOf 19 = .ok (.ireturn, 1) := by decide +kernel
theorem dX12_scoreOf_20 : decode cX12_scoreOf 20 = .ok (.iload_n 0, 1) := by decide +kernel
theorem dX12_scoreOf_21 : decode cX12_scoreOf 21 = .ok (.bipush 20, 2) := by decide +kernel
theorem dX12_scoreOf_23 : decode cX12_scoreOf 23 = .ok (.if_icmp .gt 7, 3) := by decide +kernel
theorem dX12_scoreOf_26 : decode cX12_scoreOf 26 = .ok (.iload_n 0, 1) := by decide +kernel
theorem dX12_scoreOf_27 : decode cX12_scoreOf 27 = .ok (.goto 24, 3) := by decide +kernel
theorem dX12_scoreOf_30 : decode cX12_scoreOf 30 = .ok (.iload_n 0, 1) := by decide +kernel
theorem dX12_scoreOf_31 : decode cX12_scoreOf 31 = .ok (.bipush 40, 2) := by decide +kernel
theorem dX12_scoreOf_33 : decode cX12_scoreOf 33 = .ok (.if_icmp .gt 12, 3) := by decide +kernel
theorem dX12_scoreOf_36 : decode cX12_scoreOf 36 = .ok (.iconst 2, 1) := by decide +kernel
theorem dX12_scoreOf_37 : decode cX12_scoreOf 37 = .ok (.iload_n 0, 1) := by decide +kernel
theorem dX12_scoreOf_38 : decode cX12_scoreOf 38 = .ok (.bipush 20, 2) := by decide +kernel
theorem dX12_scoreOf_40 : decode cX12_scoreOf 40 = .ok (.isub, 1) := by decide +kernel
theorem dX12_scoreOf_41 : decode cX12_scoreOf 41 = .ok (.imul, 1) := by decide +kernel
theorem dX12_scoreOf_42 : decode cX12_scoreOf 42 = .ok (.goto 9, 3) := by decide +kernel
theorem dX12_scoreOf_45 : decode cX12_scoreOf 45 = .ok (.iconst 3, 1) := by decide +kernel
theorem dX12_scoreOf_46 : decode cX12_scoreOf 46 = .ok (.iload_n 0, 1) := by decide +kernel
theorem dX12_scoreOf_47 : decode cX12_scoreOf 47 = .ok (.bipush 40, 2) := by decide +kernel
theorem dX12_scoreOf_49 : decode cX12_scoreOf 49 = .ok (.isub, 1) := by decide +kernel
theorem dX12_scoreOf_50 : decode cX12_scoreOf 50 = .ok (.imul, 1) := by decide +kernel
theorem dX12_scoreOf_51 : decode cX12_scoreOf 51 = .ok (.ireturn, 1) := by decide +kernel
theorem dX12_kindOf_0 : decode cX12_kindOf 0 = .ok (.iload_n 0, 1) := by decide +kernel
theorem dX12_kindOf_1 : decode cX12_kindOf 1 = .ok (.ifCond .ne 5, 3) := by decide +kernel
theorem dX12_kindOf_4 : decode cX12_kindOf 4 = .ok (.iconst 0, 1) := by decide +kernel
theorem dX12_kindOf_5 : decode cX12_kindOf 5 = .ok (.ireturn, 1) := by decide +kernel
theorem dX12_kindOf_6 : decode cX12_kindOf 6 = .ok (.iload_n 0, 1) := by decide +kernel
theorem dX12_kindOf_7 : decode cX12_kindOf 7 = .ok (.bipush 20, 2) := by decide +kernel
theorem dX12_kindOf_9 : decode cX12_kindOf 9 = .ok (.if_icmp .gt 7, 3) := by decide +kernel
theorem dX12_kindOf_12 : decode cX12_kindOf 12 = .ok (.iconst 1, 1) := by decide +kernel
theorem dX12_kindOf_13 : decode cX12_kindOf 13 = .ok (.goto 34, 3) := by decide +kernel
theorem dX12_kindOf_16 : decode cX12_kindOf 16 = .ok (.iload_n 0, 1) := by decide +kernel
theorem dX12_kindOf_17 : decode cX12_kindOf 17 = .ok (.bipush 40, 2) := by decide +kernel
theorem dX12_kindOf_19 : decode cX12_kindOf 19 = .ok (.if_icmp .gt 7, 3) := by decide +kernel
theorem dX12_kindOf_22 : decode cX12_kindOf 22 = .ok (.iconst 2, 1) := by decide +kernel
theorem dX12_kindOf_23 : decode cX12_kindOf 23 = .ok (.goto 24, 3) := by decide +kernel
theorem dX12_kindOf_26 : decode cX12_kindOf 26 = .ok (.iload_n 0, 1) := by decide +kernel
theorem dX12_kindOf_27 : decode cX12_kindOf 27 = .ok (.bipush 60, 2) := by decide +kernel
theorem dX12_kindOf_29 : decode cX12_kindOf 29 = .ok (.if_icmp .gt 7, 3) := by decide +kernel
theorem dX12_kindOf_32 : decode cX12_kindOf 32 = .ok (.iconst 3, 1) := by decide +kernel
theorem dX12_kindOf_33 : decode cX12_kindOf 33 = .ok (.goto 14, 3) := by decide +kernel
theorem dX12_kindOf_36 : decode cX12_kindOf 36 = .ok (.iload_n 0, 1) := by decide +kernel
theorem dX12_kindOf_37 : decode cX12_kindOf 37 = .ok (.bipush 61, 2) := by decide +kernel
theorem dX12_kindOf_39 : decode cX12_kindOf 39 = .ok (.if_icmp .ne 7, 3) := by decide +kernel
theorem dX12_kindOf_42 : decode cX12_kindOf 42 = .ok (.iconst 5, 1) := by decide +kernel
theorem dX12_kindOf_43 : decode cX12_kindOf 43 = .ok (.goto 4, 3) := by decide +kernel
theorem dX12_kindOf_46 : decode cX12_kindOf 46 = .ok (.iconst 4, 1) := by decide +kernel
theorem dX12_kindOf_47 : decode cX12_kindOf 47 = .ok (.ireturn, 1) := by decide +kernel
set_option maxRecDepth 20000 in
theorem ggX12_isUnder_X12_kindOf : GoodIn wsX12_isUnder wsX12_kindOf := goodIn_r _ [4] rfl (by decide +kernel)
set_option maxRecDepth 20000 in
theorem gX12_isUnder_X12_kindOf : GoodIn wsX12_isUnder (va_wsS RX12 102 yX12_kindOf wsX12_kindOf) := goodIn_app (goodIn_of _ (by decide +kernel)) ggX12_isUnder_X12_kindOf
theorem dX12_isUnder_0 : decode cX12_isUnder 0 = .ok (.iload_n 0, 1) := by decide +kernel
theorem dX12_isUnder_1 : decode cX12_isUnder 1 = .ok (.invokestatic 102, 3) := by decide +kernel
theorem dX12_isUnder_4 : decode cX12_isUnder 4 = .ok (.istore_n 2, 1) := by decide +kernel
theorem dX12_isUnder_5 : decode cX12_isUnder 5 = .ok (.iload_n 1, 1) := by decide +kernel
theorem dX12_isUnder_6 : decode cX12_isUnder 6 = .ok (.ifCond .eq 28, 3) := by decide +kernel
theorem dX12_isUnder_9 : decode cX12_isUnder 9 = .ok (.iload_n 2, 1) := by decide +kernel
theorem dX12_isUnder_10 : decode cX12_isUnder 10 = .ok (.iload_n 1, 1) := by decide +kernel
theorem dX12_isUnder_11 : decode cX12_isUnder 11 = .ok (.if_icmp .eq 23, 3) := by decide +kernel
theorem dX12_isUnder_14 : decode cX12_isUnder 14 = .ok (.iload_n 1, 1) := by decide +kernel
theorem dX12_isUnder_15 : decode cX12_isUnder 15 = .ok (.iconst 2, 1) := by decide +kernel
theorem dX12_isUnder_16 : decode cX12_isUnder 16 = .ok (.if_icmp .ne 8, 3) := by decide +kernel
theorem dX12_isUnder_19 : decode cX12_isUnder 19 = .ok (.iload_n 2, 1) := by decide +kernel
theorem dX12_isUnder_20 : decode cX12_isUnder 20 = .ok (.iconst 4, 1) := by decide +kernel
theorem dX12_isUnder_21 : decode cX12_isUnder 21 = .ok (.if_icmp .eq 13, 3) := by decide +kernel
theorem dX12_isUnder_24 : decode cX12_isUnder 24 = .ok (.iload_n 1, 1) := by decide +kernel
theorem dX12_isUnder_25 : decode cX12_isUnder 25 = .ok (.iconst 1, 1) := by decide +kernel
theorem dX12_isUnder_26 : decode cX12_isUnder 26 = .ok (.if_icmp .ne 12, 3) := by decide +kernel
theorem dX12_isUnder_29 : decode cX12_isUnder 29 = .ok (.iload_n 2, 1) := by decide +kernel
