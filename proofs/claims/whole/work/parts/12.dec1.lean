theorem inJx145de : ∀ w ∈ wsJx145de0, w ∈ lw_tbl := by decide +kernel
theorem inJxb160c : ∀ w ∈ wsJxb160c0, w ∈ lw_tbl := by decide +kernel
theorem inJxe99ae : ∀ w ∈ wsJxe99ae0, w ∈ lw_tbl := by decide +kernel
theorem inJxf58ca : ∀ w ∈ wsJxf58ca0, w ∈ lw_tbl := by decide +kernel
theorem inJ9 : ∀ w ∈ wsJ90, w ∈ lw_tbl := by decide +kernel
theorem inJxd2413 : ∀ w ∈ wsJxd24130, w ∈ lw_tbl := by decide +kernel
theorem inJ10 : ∀ w ∈ wsJ100, w ∈ lw_tbl := by decide +kernel
theorem inJxfd54e : ∀ w ∈ wsJxfd54e0, w ∈ lw_tbl := by decide +kernel
theorem inJx3cf43 : ∀ w ∈ wsJx3cf430, w ∈ lw_tbl := by decide +kernel
theorem inJ7 : ∀ w ∈ wsJ70, w ∈ lw_tbl := by decide +kernel
theorem dX0_kindOf_0 : decode cX0_kindOf 0 = .ok (.iload_n 0, 1) := by decide +kernel
theorem dX0_kindOf_1 : decode cX0_kindOf 1 = .ok (.ifCond .gt 5, 3) := by decide +kernel
theorem dX0_kindOf_4 : decode cX0_kindOf 4 = .ok (.iconst 0, 1) := by decide +kernel
theorem dX0_kindOf_5 : decode cX0_kindOf 5 = .ok (.ireturn, 1) := by decide +kernel
theorem dX0_kindOf_6 : decode cX0_kindOf 6 = .ok (.iload_n 0, 1) := by decide +kernel
theorem dX0_kindOf_7 : decode cX0_kindOf 7 = .ok (.bipush 61, 2) := by decide +kernel
theorem dX0_kindOf_9 : decode cX0_kindOf 9 = .ok (.if_icmp .ne 5, 3) := by decide +kernel
theorem dX0_kindOf_12 : decode cX0_kindOf 12 = .ok (.iconst 5, 1) := by decide +kernel
theorem dX0_kindOf_13 : decode cX0_kindOf 13 = .ok (.ireturn, 1) := by decide +kernel
theorem dX0_kindOf_14 : decode cX0_kindOf 14 = .ok (.iload_n 0, 1) := by decide +kernel
theorem dX0_kindOf_15 : decode cX0_kindOf 15 = .ok (.bipush 62, 2) := by decide +kernel
theorem dX0_kindOf_17 : decode cX0_kindOf 17 = .ok (.if_icmp .ne 7, 3) := by decide +kernel
theorem dX0_kindOf_20 : decode cX0_kindOf 20 = .ok (.iconst 4, 1) := by decide +kernel
theorem dX0_kindOf_21 : decode cX0_kindOf 21 = .ok (.goto 11, 3) := by decide +kernel
theorem dX0_kindOf_24 : decode cX0_kindOf 24 = .ok (.iload_n 0, 1) := by decide +kernel
theorem dX0_kindOf_25 : decode cX0_kindOf 25 = .ok (.iconst 1, 1) := by decide +kernel
theorem dX0_kindOf_26 : decode cX0_kindOf 26 = .ok (.isub, 1) := by decide +kernel
theorem dX0_kindOf_27 : decode cX0_kindOf 27 = .ok (.bipush 20, 2) := by decide +kernel
theorem dX0_kindOf_29 : decode cX0_kindOf 29 = .ok (.idiv, 1) := by decide +kernel
theorem dX0_kindOf_30 : decode cX0_kindOf 30 = .ok (.iconst 1, 1) := by decide +kernel
theorem dX0_kindOf_31 : decode cX0_kindOf 31 = .ok (.iadd, 1) := by decide +kernel
theorem dX0_kindOf_32 : decode cX0_kindOf 32 = .ok (.ireturn, 1) := by decide +kernel
theorem dX0_numberOf_0 : decode cX0_numberOf 0 = .ok (.iload_n 0, 1) := by decide +kernel
theorem dX0_numberOf_1 : decode cX0_numberOf 1 = .ok (.iconst 1, 1) := by decide +kernel
theorem dX0_numberOf_2 : decode cX0_numberOf 2 = .ok (.if_icmp .lt 9, 3) := by decide +kernel
theorem dX0_numberOf_5 : decode cX0_numberOf 5 = .ok (.iload_n 0, 1) := by decide +kernel
theorem dX0_numberOf_6 : decode cX0_numberOf 6 = .ok (.bipush 61, 2) := by decide +kernel
theorem dX0_numberOf_8 : decode cX0_numberOf 8 = .ok (.if_icmp .lt 7, 3) := by decide +kernel
theorem dX0_numberOf_11 : decode cX0_numberOf 11 = .ok (.iconst 0, 1) := by decide +kernel
theorem dX0_numberOf_12 : decode cX0_numberOf 12 = .ok (.goto 11, 3) := by decide +kernel
theorem dX0_numberOf_15 : decode cX0_numberOf 15 = .ok (.iload_n 0, 1) := by decide +kernel
theorem dX0_numberOf_16 : decode cX0_numberOf 16 = .ok (.iconst 1, 1) := by decide +kernel
theorem dX0_numberOf_17 : decode cX0_numberOf 17 = .ok (.isub, 1) := by decide +kernel
theorem dX0_numberOf_18 : decode cX0_numberOf 18 = .ok (.bipush 20, 2) := by decide +kernel
theorem dX0_numberOf_20 : decode cX0_numberOf 20 = .ok (.irem, 1) := by decide +kernel
theorem dX0_numberOf_21 : decode cX0_numberOf 21 = .ok (.iconst 1, 1) := by decide +kernel
theorem dX0_numberOf_22 : decode cX0_numberOf 22 = .ok (.iadd, 1) := by decide +kernel
theorem dX0_numberOf_23 : decode cX0_numberOf 23 = .ok (.ireturn, 1) := by decide +kernel
set_option maxRecDepth 20000 in
theorem ggX0_scoreOf_X0_numberOf : GoodIn wsX0_scoreOf wsX0_numberOf := goodIn_r _ [4] rfl (by decide +kernel)
set_option maxRecDepth 20000 in
theorem gX0_scoreOf_X0_numberOf : GoodIn wsX0_scoreOf (va_wsS RX0 9 yX0_numberOf wsX0_numberOf) := goodIn_app (goodIn_of _ (by decide +kernel)) ggX0_scoreOf_X0_numberOf
set_option maxRecDepth 20000 in
theorem ggX0_scoreOf_X0_kindOf : GoodIn wsX0_scoreOf wsX0_kindOf := goodIn_r _ [7] rfl (by decide +kernel)
set_option maxRecDepth 20000 in
theorem gX0_scoreOf_X0_kindOf : GoodIn wsX0_scoreOf (va_wsS RX0 15 yX0_kindOf wsX0_kindOf) := goodIn_app (goodIn_of _ (by decide +kernel)) ggX0_scoreOf_X0_kindOf
theorem dX0_scoreOf_0 : decode cX0_scoreOf 0 = .ok (.iload_n 0, 1) := by decide +kernel
theorem dX0_scoreOf_1 : decode cX0_scoreOf 1 = .ok (.bipush 61, 2) := by decide +kernel
theorem dX0_scoreOf_3 : decode cX0_scoreOf 3 = .ok (.if_icmp .ne 6, 3) := by decide +kernel
theorem dX0_scoreOf_6 : decode cX0_scoreOf 6 = .ok (.bipush 25, 2) := by decide +kernel
theorem dX0_scoreOf_8 : decode cX0_scoreOf 8 = .ok (.ireturn, 1) := by decide +kernel
theorem dX0_scoreOf_9 : decode cX0_scoreOf 9 = .ok (.iload_n 0, 1) := by decide +kernel
theorem dX0_scoreOf_10 : decode cX0_scoreOf 10 = .ok (.bipush 62, 2) := by decide +kernel
theorem dX0_scoreOf_12 : decode cX0_scoreOf 12 = .ok (.if_icmp .ne 8, 3) := by decide +kernel
theorem dX0_scoreOf_15 : decode cX0_scoreOf 15 = .ok (.bipush 50, 2) := by decide +kernel
theorem dX0_scoreOf_17 : decode cX0_scoreOf 17 = .ok (.goto 12, 3) := by decide +kernel
theorem dX0_scoreOf_20 : decode cX0_scoreOf 20 = .ok (.iload_n 0, 1) := by decide +kernel
theorem dX0_scoreOf_21 : decode cX0_scoreOf 21 = .ok (.invokestatic 9, 3) := by decide +kernel
theorem dX0_scoreOf_24 : decode cX0_scoreOf 24 = .ok (.iload_n 0, 1) := by decide +kernel
theorem dX0_scoreOf_25 : decode cX0_scoreOf 25 = .ok (.invokestatic 15, 3) := by decide +kernel
theorem dX0_scoreOf_28 : decode cX0_scoreOf 28 = .ok (.imul, 1) := by decide +kernel
theorem dX0_scoreOf_29 : decode cX0_scoreOf 29 = .ok (.ireturn, 1) := by decide +kernel
set_option maxRecDepth 20000 in
theorem ggX0_isOfKind_X0_kindOf : GoodIn wsX0_isOfKind wsX0_kindOf := goodIn_r _ [4] rfl (by decide +kernel)
set_option maxRecDepth 20000 in
theorem gX0_isOfKind_X0_kindOf : GoodIn wsX0_isOfKind (va_wsS RX0 15 yX0_kindOf wsX0_kindOf) := goodIn_app (goodIn_of _ (by decide +kernel)) ggX0_isOfKind_X0_kindOf
set_option maxRecDepth 20000 in
theorem ggX0_isOfKind_X0_kindAbove : GoodIn wsX0_isOfKind wsX0_kindAbove := goodIn_r _ [7] rfl (by decide +kernel)
set_option maxRecDepth 20000 in
theorem gX0_isOfKind_X0_kindAbove : GoodIn wsX0_isOfKind (va_wsS RX0 18 yX0_kindAbove wsX0_kindAbove) := goodIn_app (goodIn_of _ (by decide +kernel)) ggX0_isOfKind_X0_kindAbove
theorem dX0_isOfKind_0 : decode cX0_isOfKind 0 = .ok (.iload_n 0, 1) := by decide +kernel
theorem dX0_isOfKind_1 : decode cX0_isOfKind 1 = .ok (.invokestatic 15, 3) := by decide +kernel
theorem dX0_isOfKind_4 : decode cX0_isOfKind 4 = .ok (.istore_n 2, 1) := by decide +kernel
theorem dX0_isOfKind_5 : decode cX0_isOfKind 5 = .ok (.iload_n 2, 1) := by decide +kernel
theorem dX0_isOfKind_6 : decode cX0_isOfKind 6 = .ok (.iload_n 1, 1) := by decide +kernel
theorem dX0_isOfKind_7 : decode cX0_isOfKind 7 = .ok (.if_icmp .eq 15, 3) := by decide +kernel
theorem dX0_isOfKind_10 : decode cX0_isOfKind 10 = .ok (.iload_n 1, 1) := by decide +kernel
theorem dX0_isOfKind_11 : decode cX0_isOfKind 11 = .ok (.ifCond .eq 11, 3) := by decide +kernel
theorem dX0_isOfKind_14 : decode cX0_isOfKind 14 = .ok (.iload_n 2, 1) := by decide +kernel
theorem dX0_isOfKind_15 : decode cX0_isOfKind 15 = .ok (.invokestatic 18, 3) := by decide +kernel
theorem dX0_isOfKind_18 : decode cX0_isOfKind 18 = .ok (.iload_n 1, 1) := by decide +kernel
theorem dX0_isOfKind_19 : decode cX0_isOfKind 19 = .ok (.if_icmp .ne 7, 3) := by decide +kernel
theorem dX0_isOfKind_22 : decode cX0_isOfKind 22 = .ok (.iconst 1, 1) := by decide +kernel
theorem dX0_isOfKind_23 : decode cX0_isOfKind 23 = .ok (.goto 4, 3) := by decide +kernel
theorem dX0_isOfKind_26 : decode cX0_isOfKind 26 = .ok (.iconst 0, 1) := by decide +kernel
theorem dX0_isOfKind_27 : decode cX0_isOfKind 27 = .ok (.ireturn, 1) := by decide +kernel
theorem dX0_kindAbove_0 : decode cX0_kindAbove 0 = .ok (.iload_n 0, 1) := by decide +kernel
theorem dX0_kindAbove_1 : decode cX0_kindAbove 1 = .ok (.iconst 4, 1) := by decide +kernel
theorem dX0_kindAbove_2 : decode cX0_kindAbove 2 = .ok (.if_icmp .ne 5, 3) := by decide +kernel
theorem dX0_kindAbove_5 : decode cX0_kindAbove 5 = .ok (.iconst 2, 1) := by decide +kernel
theorem dX0_kindAbove_6 : decode cX0_kindAbove 6 = .ok (.ireturn, 1) := by decide +kernel
theorem dX0_kindAbove_7 : decode cX0_kindAbove 7 = .ok (.iload_n 0, 1) := by decide +kernel
theorem dX0_kindAbove_8 : decode cX0_kindAbove 8 = .ok (.iconst 5, 1) := by decide +kernel
theorem dX0_kindAbove_9 : decode cX0_kindAbove 9 = .ok (.if_icmp .ne 7, 3) := by decide +kernel
theorem dX0_kindAbove_12 : decode cX0_kindAbove 12 = .ok (.iconst 1, 1) := by decide +kernel
theorem dX0_kindAbove_13 : decode cX0_kindAbove 13 = .ok (.goto 4, 3) := by decide +kernel
theorem dX0_kindAbove_16 : decode cX0_kindAbove 16 = .ok (.iconst 0, 1) := by decide +kernel
theorem dX0_kindAbove_17 : decode cX0_kindAbove 17 = .ok (.ireturn, 1) := by decide +kernel
set_option maxRecDepth 20000 in
theorem ggX0_numberBeside_J9_floorMod_7cf53 : GoodIn wsX0_numberBeside wsJ9_floorMod_7cf53 := goodIn_r _ [5] rfl (by decide +kernel)
set_option maxRecDepth 20000 in
theorem gX0_numberBeside_J9_floorMod_7cf53 : GoodIn wsX0_numberBeside (va_wsS RX0 25 yJ9_floorMod_7cf53 wsJ9_floorMod_7cf53) := goodIn_app (goodIn_of _ (by decide +kernel)) ggX0_numberBeside_J9_floorMod_7cf53
theorem dX0_numberBeside_0 : decode cX0_numberBeside 0 = .ok (.getstatic 21, 3) := by decide +kernel
theorem dX0_numberBeside_3 : decode cX0_numberBeside 3 = .ok (.arraylength, 1) := by decide +kernel
theorem dX0_numberBeside_4 : decode cX0_numberBeside 4 = .ok (.istore_n 2, 1) := by decide +kernel
theorem dX0_numberBeside_5 : decode cX0_numberBeside 5 = .ok (.iconst 0, 1) := by decide +kernel
theorem dX0_numberBeside_6 : decode cX0_numberBeside 6 = .ok (.istore_n 3, 1) := by decide +kernel
theorem dX0_numberBeside_7 : decode cX0_numberBeside 7 = .ok (.iload_n 3, 1) := by decide +kernel
theorem dX0_numberBeside_8 : decode cX0_numberBeside 8 = .ok (.iload_n 2, 1) := by decide +kernel
theorem dX0_numberBeside_9 : decode cX0_numberBeside 9 = .ok (.if_icmp .ge 30, 3) := by decide +kernel
theorem dX0_numberBeside_12 : decode cX0_numberBeside 12 = .ok (.getstatic 21, 3) := by decide +kernel
theorem dX0_numberBeside_15 : decode cX0_numberBeside 15 = .ok (.iload_n 3, 1) := by decide +kernel
theorem dX0_numberBeside_16 : decode cX0_numberBeside 16 = .ok (.iaload, 1) := by decide +kernel
theorem dX0_numberBeside_17 : decode cX0_numberBeside 17 = .ok (.iload_n 0, 1) := by decide +kernel
theorem dX0_numberBeside_18 : decode cX0_numberBeside 18 = .ok (.if_icmp .ne 15, 3) := by decide +kernel
theorem dX0_numberBeside_21 : decode cX0_numberBeside 21 = .ok (.getstatic 21, 3) := by decide +kernel
theorem dX0_numberBeside_24 : decode cX0_numberBeside 24 = .ok (.iload_n 3, 1) := by decide +kernel
theorem dX0_numberBeside_25 : decode cX0_numberBeside 25 = .ok (.iload_n 1, 1) := by decide +kernel
theorem dX0_numberBeside_26 : decode cX0_numberBeside 26 = .ok (.iadd, 1) := by decide +kernel
theorem dX0_numberBeside_27 : decode cX0_numberBeside 27 = .ok (.iload_n 2, 1) := by decide +kernel
theorem dX0_numberBeside_28 : decode cX0_numberBeside 28 = .ok (.invokestatic 25, 3) := by decide +kernel
theorem dX0_numberBeside_31 : decode cX0_numberBeside 31 = .ok (.iaload, 1) := by decide +kernel
theorem dX0_numberBeside_32 : decode cX0_numberBeside 32 = .ok (.ireturn, 1) := by decide +kernel
theorem dX0_numberBeside_33 : decode cX0_numberBeside 33 = .ok (.iinc 3 1, 3) := by decide +kernel
theorem dX0_numberBeside_36 : decode cX0_numberBeside 36 = .ok (.goto (-29), 3) := by decide +kernel
theorem dX0_numberBeside_39 : decode cX0_numberBeside 39 = .ok (.iconst 0, 1) := by decide +kernel
theorem dX0_numberBeside_40 : decode cX0_numberBeside 40 = .ok (.ireturn, 1) := by decide +kernel
set_option maxRecDepth 20000 in
theorem ggX1_init_X1_addBesides : GoodIn wsX1_init wsX1_addBesides := goodIn_r _ [13, 14, 15, 16, 12, 17, 5, 6, 7, 8, 18, 19, 20, 21, 22, 23, 24, 25, 26, 27, 28, 29, 30] rfl (by decide +kernel)
set_option maxRecDepth 20000 in
theorem gX1_init_X1_addBesides : GoodIn wsX1_init (wsV RX1 24 RX1 yX1_addBesides wsX1_addBesides) := goodIn_app (goodIn_of _ (by decide +kernel)) ggX1_init_X1_addBesides
set_option maxRecDepth 20000 in
theorem ggX1_init_X1_add : GoodIn wsX1_init wsX1_add := goodIn_r _ [17, 5, 6, 7, 8, 27, 28, 29, 30] rfl (by decide +kernel)
set_option maxRecDepth 20000 in
theorem gX1_init_X1_add : GoodIn wsX1_init (wsV RX1 28 RX1 yX1_add wsX1_add) := goodIn_app (goodIn_of _ (by decide +kernel)) ggX1_init_X1_add
theorem dX1_init_0 : decode cX1_init 0 = .ok (.aload_n 0, 1) := by decide +kernel
theorem dX1_init_1 : decode cX1_init 1 = .ok (.invokespecial 3, 3) := by decide +kernel
theorem dX1_init_4 : decode cX1_init 4 = .ok (.aload_n 0, 1) := by decide +kernel
theorem dX1_init_5 : decode cX1_init 5 = .ok (.bipush 63, 2) := by decide +kernel
theorem dX1_init_7 : decode cX1_init 7 = .ok (.newarray .int, 2) := by decide +kernel
theorem dX1_init_9 : decode cX1_init 9 = .ok (.putfield 9, 3) := by decide +kernel
theorem dX1_init_12 : decode cX1_init 12 = .ok (.aload_n 0, 1) := by decide +kernel
theorem dX1_init_13 : decode cX1_init 13 = .ok (.sipush 315, 3) := by decide +kernel
theorem dX1_init_16 : decode cX1_init 16 = .ok (.newarray .int, 2) := by decide +kernel
theorem dX1_init_18 : decode cX1_init 18 = .ok (.putfield 15, 3) := by decide +kernel
theorem dX1_init_21 : decode cX1_init 21 = .ok (.aload_n 0, 1) := by decide +kernel
theorem dX1_init_22 : decode cX1_init 22 = .ok (.sipush 315, 3) := by decide +kernel
theorem dX1_init_25 : decode cX1_init 25 = .ok (.newarray .int, 2) := by decide +kernel
theorem dX1_init_27 : decode cX1_init 27 = .ok (.putfield 18, 3) := by decide +kernel
theorem dX1_init_30 : decode cX1_init 30 = .ok (.aload_n 0, 1) := by decide +kernel
theorem dX1_init_31 : decode cX1_init 31 = .ok (.sipush 315, 3) := by decide +kernel
theorem dX1_init_34 : decode cX1_init 34 = .ok (.newarray .int, 2) := by decide +kernel
theorem dX1_init_36 : decode cX1_init 36 = .ok (.putfield 21, 3) := by decide +kernel
theorem dX1_init_39 : decode cX1_init 39 = .ok (.iconst 1, 1) := by decide +kernel
theorem dX1_init_40 : decode cX1_init 40 = .ok (.istore_n 1, 1) := by decide +kernel
theorem dX1_init_41 : decode cX1_init 41 = .ok (.iload_n 1, 1) := by decide +kernel
theorem dX1_init_42 : decode cX1_init 42 = .ok (.bipush 20, 2) := by decide +kernel
theorem dX1_init_44 : decode cX1_init 44 = .ok (.if_icmp .gt 84, 3) := by decide +kernel
theorem dX1_init_47 : decode cX1_init 47 = .ok (.aload_n 0, 1) := by decide +kernel
theorem dX1_init_48 : decode cX1_init 48 = .ok (.iload_n 1, 1) := by decide +kernel
theorem dX1_init_49 : decode cX1_init 49 = .ok (.iconst 0, 1) := by decide +kernel
theorem dX1_init_50 : decode cX1_init 50 = .ok (.invokevirtual 24, 3) := by decide +kernel
theorem dX1_init_53 : decode cX1_init 53 = .ok (.aload_n 0, 1) := by decide +kernel
theorem dX1_init_54 : decode cX1_init 54 = .ok (.iload_n 1, 1) := by decide +kernel
theorem dX1_init_55 : decode cX1_init 55 = .ok (.iload_n 1, 1) := by decide +kernel
theorem dX1_init_56 : decode cX1_init 56 = .ok (.bipush 40, 2) := by decide +kernel
theorem dX1_init_58 : decode cX1_init 58 = .ok (.iadd, 1) := by decide +kernel
theorem dX1_init_59 : decode cX1_init 59 = .ok (.iconst 0, 1) := by decide +kernel
theorem dX1_init_60 : decode cX1_init 60 = .ok (.iconst 1, 1) := by decide +kernel
theorem dX1_init_61 : decode cX1_init 61 = .ok (.invokevirtual 28, 3) := by decide +kernel
theorem dX1_init_64 : decode cX1_init 64 = .ok (.aload_n 0, 1) := by decide +kernel
theorem dX1_init_65 : decode cX1_init 65 = .ok (.iload_n 1, 1) := by decide +kernel
theorem dX1_init_66 : decode cX1_init 66 = .ok (.iload_n 1, 1) := by decide +kernel
theorem dX1_init_67 : decode cX1_init 67 = .ok (.bipush 20, 2) := by decide +kernel
theorem dX1_init_69 : decode cX1_init 69 = .ok (.iadd, 1) := by decide +kernel
theorem dX1_init_70 : decode cX1_init 70 = .ok (.iconst 0, 1) := by decide +kernel
theorem dX1_init_71 : decode cX1_init 71 = .ok (.iconst 1, 1) := by decide +kernel
theorem dX1_init_72 : decode cX1_init 72 = .ok (.invokevirtual 28, 3) := by decide +kernel
theorem dX1_init_75 : decode cX1_init 75 = .ok (.aload_n 0, 1) := by decide +kernel
theorem dX1_init_76 : decode cX1_init 76 = .ok (.iload_n 1, 1) := by decide +kernel
theorem dX1_init_77 : decode cX1_init 77 = .ok (.bipush 20, 2) := by decide +kernel
theorem dX1_init_79 : decode cX1_init 79 = .ok (.invokevirtual 24, 3) := by decide +kernel
theorem dX1_init_82 : decode cX1_init 82 = .ok (.aload_n 0, 1) := by decide +kernel
theorem dX1_init_83 : decode cX1_init 83 = .ok (.iload_n 1, 1) := by decide +kernel
theorem dX1_init_84 : decode cX1_init 84 = .ok (.bipush 20, 2) := by decide +kernel
theorem dX1_init_86 : decode cX1_init 86 = .ok (.iadd, 1) := by decide +kernel
theorem dX1_init_87 : decode cX1_init 87 = .ok (.iload_n 1, 1) := by decide +kernel
theorem dX1_init_88 : decode cX1_init 88 = .ok (.iconst 0, 1) := by decide +kernel
theorem dX1_init_89 : decode cX1_init 89 = .ok (.iconst 1, 1) := by decide +kernel
theorem dX1_init_90 : decode cX1_init 90 = .ok (.invokevirtual 28, 3) := by decide +kernel
theorem dX1_init_93 : decode cX1_init 93 = .ok (.aload_n 0, 1) := by decide +kernel
theorem dX1_init_94 : decode cX1_init 94 = .ok (.iload_n 1, 1) := by decide +kernel
theorem dX1_init_95 : decode cX1_init 95 = .ok (.bipush 20, 2) := by decide +kernel
theorem dX1_init_97 : decode cX1_init 97 = .ok (.iadd, 1) := by decide +kernel
theorem dX1_init_98 : decode cX1_init 98 = .ok (.iconst 0, 1) := by decide +kernel
theorem dX1_init_99 : decode cX1_init 99 = .ok (.iconst 0, 1) := by decide +kernel
theorem dX1_init_100 : decode cX1_init 100 = .ok (.iconst 1, 1) := by decide +kernel
theorem dX1_init_101 : decode cX1_init 101 = .ok (.invokevirtual 28, 3) := by decide +kernel
theorem dX1_init_104 : decode cX1_init 104 = .ok (.aload_n 0, 1) := by decide +kernel
theorem dX1_init_105 : decode cX1_init 105 = .ok (.iload_n 1, 1) := by decide +kernel
theorem dX1_init_106 : decode cX1_init 106 = .ok (.bipush 40, 2) := by decide +kernel
theorem dX1_init_108 : decode cX1_init 108 = .ok (.invokevirtual 24, 3) := by decide +kernel
theorem dX1_init_111 : decode cX1_init 111 = .ok (.aload_n 0, 1) := by decide +kernel
theorem dX1_init_112 : decode cX1_init 112 = .ok (.iload_n 1, 1) := by decide +kernel
theorem dX1_init_113 : decode cX1_init 113 = .ok (.bipush 40, 2) := by decide +kernel
theorem dX1_init_115 : decode cX1_init 115 = .ok (.iadd, 1) := by decide +kernel
theorem dX1_init_116 : decode cX1_init 116 = .ok (.iload_n 1, 1) := by decide +kernel
theorem dX1_init_117 : decode cX1_init 117 = .ok (.iconst 0, 1) := by decide +kernel
theorem dX1_init_118 : decode cX1_init 118 = .ok (.iconst 2, 1) := by decide +kernel
theorem dX1_init_119 : decode cX1_init 119 = .ok (.invokevirtual 28, 3) := by decide +kernel
theorem dX1_init_122 : decode cX1_init 122 = .ok (.iinc 1 1, 3) := by decide +kernel
theorem dX1_init_125 : decode cX1_init 125 = .ok (.goto (-84), 3) := by decide +kernel
theorem dX1_init_128 : decode cX1_init 128 = .ok (.aload_n 0, 1) := by decide +kernel
theorem dX1_init_129 : decode cX1_init 129 = .ok (.bipush 61, 2) := by decide +kernel
theorem dX1_init_131 : decode cX1_init 131 = .ok (.bipush 61, 2) := by decide +kernel
theorem dX1_init_133 : decode cX1_init 133 = .ok (.iconst 0, 1) := by decide +kernel
theorem dX1_init_134 : decode cX1_init 134 = .ok (.iconst 0, 1) := by decide +kernel
theorem dX1_init_135 : decode cX1_init 135 = .ok (.invokevirtual 28, 3) := by decide +kernel
theorem dX1_init_138 : decode cX1_init 138 = .ok (.aload_n 0, 1) := by decide +kernel
theorem dX1_init_139 : decode cX1_init 139 = .ok (.bipush 61, 2) := by decide +kernel
theorem dX1_init_141 : decode cX1_init 141 = .ok (.bipush 62, 2) := by decide +kernel
theorem dX1_init_143 : decode cX1_init 143 = .ok (.iconst 0, 1) := by decide +kernel
theorem dX1_init_144 : decode cX1_init 144 = .ok (.iconst 1, 1) := by decide +kernel
theorem dX1_init_145 : decode cX1_init 145 = .ok (.invokevirtual 28, 3) := by decide +kernel
theorem dX1_init_148 : decode cX1_init 148 = .ok (.aload_n 0, 1) := by decide +kernel
theorem dX1_init_149 : decode cX1_init 149 = .ok (.bipush 61, 2) := by decide +kernel
theorem dX1_init_151 : decode cX1_init 151 = .ok (.bipush 6, 2) := by decide +kernel
theorem dX1_init_153 : decode cX1_init 153 = .ok (.iconst 1, 1) := by decide +kernel
theorem dX1_init_154 : decode cX1_init 154 = .ok (.iconst 0, 1) := by decide +kernel
theorem dX1_init_155 : decode cX1_init 155 = .ok (.invokevirtual 28, 3) := by decide +kernel
theorem dX1_init_158 : decode cX1_init 158 = .ok (.aload_n 0, 1) := by decide +kernel
theorem dX1_init_159 : decode cX1_init 159 = .ok (.bipush 61, 2) := by decide +kernel
theorem dX1_init_161 : decode cX1_init 161 = .ok (.bipush 11, 2) := by decide +kernel
theorem dX1_init_163 : decode cX1_init 163 = .ok (.iconst 1, 1) := by decide +kernel
theorem dX1_init_164 : decode cX1_init 164 = .ok (.iconst 0, 1) := by decide +kernel
theorem dX1_init_165 : decode cX1_init 165 = .ok (.invokevirtual 28, 3) := by decide +kernel
theorem dX1_init_168 : decode cX1_init 168 = .ok (.aload_n 0, 1) := by decide +kernel
theorem dX1_init_169 : decode cX1_init 169 = .ok (.bipush 61, 2) := by decide +kernel
theorem dX1_init_171 : decode cX1_init 171 = .ok (.bipush 20, 2) := by decide +kernel
theorem dX1_init_173 : decode cX1_init 173 = .ok (.iconst 0, 1) := by decide +kernel
theorem dX1_init_174 : decode cX1_init 174 = .ok (.iconst 1, 1) := by decide +kernel
theorem dX1_init_175 : decode cX1_init 175 = .ok (.invokevirtual 28, 3) := by decide +kernel
theorem dX1_init_178 : decode cX1_init 178 = .ok (.aload_n 0, 1) := by decide +kernel
theorem dX1_init_179 : decode cX1_init 179 = .ok (.bipush 62, 2) := by decide +kernel
theorem dX1_init_181 : decode cX1_init 181 = .ok (.bipush 62, 2) := by decide +kernel
theorem dX1_init_183 : decode cX1_init 183 = .ok (.iconst 0, 1) := by decide +kernel
theorem dX1_init_184 : decode cX1_init 184 = .ok (.iconst 0, 1) := by decide +kernel
theorem dX1_init_185 : decode cX1_init 185 = .ok (.invokevirtual 28, 3) := by decide +kernel
theorem dX1_init_188 : decode cX1_init 188 = .ok (.aload_n 0, 1) := by decide +kernel
theorem dX1_init_189 : decode cX1_init 189 = .ok (.bipush 62, 2) := by decide +kernel
theorem dX1_init_191 : decode cX1_init 191 = .ok (.bipush 61, 2) := by decide +kernel
theorem dX1_init_193 : decode cX1_init 193 = .ok (.iconst 2, 1) := by decide +kernel
theorem dX1_init_194 : decode cX1_init 194 = .ok (.iconst 2, 1) := by decide +kernel
theorem dX1_init_195 : decode cX1_init 195 = .ok (.invokevirtual 28, 3) := by decide +kernel
theorem dX1_init_198 : decode cX1_init 198 = .ok (.return_, 1) := by decide +kernel
set_option maxRecDepth 20000 in
theorem ggX1_addBesides_X1_add : GoodIn wsX1_addBesides wsX1_add := goodIn_r _ [5, 6, 7, 8, 9, 19, 20, 21, 22] rfl (by decide +kernel)
set_option maxRecDepth 20000 in
theorem gX1_addBesides_X1_add : GoodIn wsX1_addBesides (wsV RX1 28 RX1 yX1_add wsX1_add) := goodIn_app (goodIn_of _ (by decide +kernel)) ggX1_addBesides_X1_add
set_option maxRecDepth 20000 in
theorem ggX1_addBesides_X0_numberBeside : GoodIn wsX1_addBesides wsX0_numberBeside := goodIn_r _ [13, 14, 15, 16, 17, 18] rfl (by decide +kernel)
set_option maxRecDepth 20000 in
theorem gX1_addBesides_X0_numberBeside : GoodIn wsX1_addBesides (va_wsS RX1 32 yX0_numberBeside wsX0_numberBeside) := goodIn_app (goodIn_of _ (by decide +kernel)) ggX1_addBesides_X0_numberBeside
theorem dX1_addBesides_0 : decode cX1_addBesides 0 = .ok (.iload_n 1, 1) := by decide +kernel
theorem dX1_addBesides_1 : decode cX1_addBesides 1 = .ok (.iload_n 2, 1) := by decide +kernel
theorem dX1_addBesides_2 : decode cX1_addBesides 2 = .ok (.iadd, 1) := by decide +kernel
theorem dX1_addBesides_3 : decode cX1_addBesides 3 = .ok (.istore_n 3, 1) := by decide +kernel
theorem dX1_addBesides_4 : decode cX1_addBesides 4 = .ok (.aload_n 0, 1) := by decide +kernel
theorem dX1_addBesides_5 : decode cX1_addBesides 5 = .ok (.iload_n 3, 1) := by decide +kernel
theorem dX1_addBesides_6 : decode cX1_addBesides 6 = .ok (.iload_n 3, 1) := by decide +kernel
theorem dX1_addBesides_7 : decode cX1_addBesides 7 = .ok (.iconst 0, 1) := by decide +kernel
theorem dX1_addBesides_8 : decode cX1_addBesides 8 = .ok (.iconst 0, 1) := by decide +kernel
theorem dX1_addBesides_9 : decode cX1_addBesides 9 = .ok (.invokevirtual 28, 3) := by decide +kernel
theorem dX1_addBesides_12 : decode cX1_addBesides 12 = .ok (.aload_n 0, 1) := by decide +kernel
theorem dX1_addBesides_13 : decode cX1_addBesides 13 = .ok (.iload_n 3, 1) := by decide +kernel
theorem dX1_addBesides_14 : decode cX1_addBesides 14 = .ok (.iload_n 1, 1) := by decide +kernel
theorem dX1_addBesides_15 : decode cX1_addBesides 15 = .ok (.iconst (-1), 1) := by decide +kernel
theorem dX1_addBesides_16 : decode cX1_addBesides 16 = .ok (.invokestatic 32, 3) := by decide +kernel
theorem dX1_addBesides_19 : decode cX1_addBesides 19 = .ok (.iload_n 2, 1) := by decide +kernel
theorem dX1_addBesides_20 : decode cX1_addBesides 20 = .ok (.iadd, 1) := by decide +kernel
theorem dX1_addBesides_21 : decode cX1_addBesides 21 = .ok (.iconst 1, 1) := by decide +kernel
theorem dX1_addBesides_22 : decode cX1_addBesides 22 = .ok (.iconst 0, 1) := by decide +kernel
theorem dX1_addBesides_23 : decode cX1_addBesides 23 = .ok (.invokevirtual 28, 3) := by decide +kernel
theorem dX1_addBesides_26 : decode cX1_addBesides 26 = .ok (.aload_n 0, 1) := by decide +kernel
theorem dX1_addBesides_27 : decode cX1_addBesides 27 = .ok (.iload_n 3, 1) := by decide +kernel
theorem dX1_addBesides_28 : decode cX1_addBesides 28 = .ok (.iload_n 1, 1) := by decide +kernel
theorem dX1_addBesides_29 : decode cX1_addBesides 29 = .ok (.iconst 1, 1) := by decide +kernel
theorem dX1_addBesides_30 : decode cX1_addBesides 30 = .ok (.invokestatic 32, 3) := by decide +kernel
theorem dX1_addBesides_33 : decode cX1_addBesides 33 = .ok (.iload_n 2, 1) := by decide +kernel
theorem dX1_addBesides_34 : decode cX1_addBesides 34 = .ok (.iadd, 1) := by decide +kernel
theorem dX1_addBesides_35 : decode cX1_addBesides 35 = .ok (.iconst 1, 1) := by decide +kernel
theorem dX1_addBesides_36 : decode cX1_addBesides 36 = .ok (.iconst 0, 1) := by decide +kernel
theorem dX1_addBesides_37 : decode cX1_addBesides 37 = .ok (.invokevirtual 28, 3) := by decide +kernel
theorem dX1_addBesides_40 : decode cX1_addBesides 40 = .ok (.return_, 1) := by decide +kernel
theorem dX1_add_0 : decode cX1_add 0 = .ok (.iload_n 1, 1) := by decide +kernel
theorem dX1_add_1 : decode cX1_add 1 = .ok (.iconst 5, 1) := by decide +kernel
theorem dX1_add_2 : decode cX1_add 2 = .ok (.imul, 1) := by decide +kernel
theorem dX1_add_3 : decode cX1_add 3 = .ok (.aload_n 0, 1) := by decide +kernel
theorem dX1_add_4 : decode cX1_add 4 = .ok (.getfield 9, 3) := by decide +kernel
theorem dX1_add_7 : decode cX1_add 7 = .ok (.iload_n 1, 1) := by decide +kernel
theorem dX1_add_8 : decode cX1_add 8 = .ok (.iaload, 1) := by decide +kernel
theorem dX1_add_9 : decode cX1_add 9 = .ok (.iadd, 1) := by decide +kernel
theorem dX1_add_10 : decode cX1_add 10 = .ok (.istore 5, 2) := by decide +kernel
theorem dX1_add_12 : decode cX1_add 12 = .ok (.aload_n 0, 1) := by decide +kernel
theorem dX1_add_13 : decode cX1_add 13 = .ok (.getfield 15, 3) := by decide +kernel
theorem dX1_add_16 : decode cX1_add 16 = .ok (.iload 5, 2) := by decide +kernel
theorem dX1_add_18 : decode cX1_add 18 = .ok (.iload_n 2, 1) := by decide +kernel
theorem dX1_add_19 : decode cX1_add 19 = .ok (.iastore, 1) := by decide +kernel
theorem dX1_add_20 : decode cX1_add 20 = .ok (.aload_n 0, 1) := by decide +kernel
theorem dX1_add_21 : decode cX1_add 21 = .ok (.getfield 18, 3) := by decide +kernel
theorem dX1_add_24 : decode cX1_add 24 = .ok (.iload 5, 2) := by decide +kernel
theorem dX1_add_26 : decode cX1_add 26 = .ok (.iload_n 3, 1) := by decide +kernel
theorem dX1_add_27 : decode cX1_add 27 = .ok (.iastore, 1) := by decide +kernel
theorem dX1_add_28 : decode cX1_add 28 = .ok (.aload_n 0, 1) := by decide +kernel
theorem dX1_add_29 : decode cX1_add 29 = .ok (.getfield 21, 3) := by decide +kernel
theorem dX1_add_32 : decode cX1_add 32 = .ok (.iload 5, 2) := by decide +kernel
theorem dX1_add_34 : decode cX1_add 34 = .ok (.iload 4, 2) := by decide +kernel
theorem dX1_add_36 : decode cX1_add 36 = .ok (.iastore, 1) := by decide +kernel
theorem dX1_add_37 : decode cX1_add 37 = .ok (.aload_n 0, 1) := by decide +kernel
theorem dX1_add_38 : decode cX1_add 38 = .ok (.getfield 9, 3) := by decide +kernel
theorem dX1_add_41 : decode cX1_add 41 = .ok (.iload_n 1, 1) := by decide +kernel
theorem dX1_add_42 : decode cX1_add 42 = .ok (.dup2, 1) := by decide +kernel
theorem dX1_add_43 : decode cX1_add 43 = .ok (.iaload, 1) := by decide +kernel
theorem dX1_add_44 : decode cX1_add 44 = .ok (.iconst 1, 1) := by decide +kernel
theorem dX1_add_45 : decode cX1_add 45 = .ok (.iadd, 1) := by decide +kernel
theorem dX1_add_46 : decode cX1_add 46 = .ok (.iastore, 1) := by decide +kernel
theorem dX1_add_47 : decode cX1_add 47 = .ok (.return_, 1) := by decide +kernel
theorem dX1_fillWeights_0 : decode cX1_fillWeights 0 = .ok (.iconst 1, 1) := by decide +kernel
theorem dX1_fillWeights_1 : decode cX1_fillWeights 1 = .ok (.istore 4, 2) := by decide +kernel
theorem dX1_fillWeights_3 : decode cX1_fillWeights 3 = .ok (.iload 4, 2) := by decide +kernel
theorem dX1_fillWeights_5 : decode cX1_fillWeights 5 = .ok (.bipush 63, 2) := by decide +kernel
theorem dX1_fillWeights_7 : decode cX1_fillWeights 7 = .ok (.if_icmp .ge 85, 3) := by decide +kernel
theorem dX1_fillWeights_10 : decode cX1_fillWeights 10 = .ok (.iload 4, 2) := by decide +kernel
theorem dX1_fillWeights_12 : decode cX1_fillWeights 12 = .ok (.iconst 5, 1) := by decide +kernel
theorem dX1_fillWeights_13 : decode cX1_fillWeights 13 = .ok (.imul, 1) := by decide +kernel
theorem dX1_fillWeights_14 : decode cX1_fillWeights 14 = .ok (.istore 5, 2) := by decide +kernel
theorem dX1_fillWeights_16 : decode cX1_fillWeights 16 = .ok (.sipush 1000, 3) := by decide +kernel
theorem dX1_fillWeights_19 : decode cX1_fillWeights 19 = .ok (.istore 6, 2) := by decide +kernel
theorem dX1_fillWeights_21 : decode cX1_fillWeights 21 = .ok (.iload 5, 2) := by decide +kernel
theorem dX1_fillWeights_23 : decode cX1_fillWeights 23 = .ok (.iconst 1, 1) := by decide +kernel
theorem dX1_fillWeights_24 : decode cX1_fillWeights 24 = .ok (.iadd, 1) := by decide +kernel
theorem dX1_fillWeights_25 : decode cX1_fillWeights 25 = .ok (.istore 7, 2) := by decide +kernel
theorem dX1_fillWeights_27 : decode cX1_fillWeights 27 = .ok (.iload 7, 2) := by decide +kernel
theorem dX1_fillWeights_29 : decode cX1_fillWeights 29 = .ok (.iload 5, 2) := by decide +kernel
theorem dX1_fillWeights_31 : decode cX1_fillWeights 31 = .ok (.aload_n 0, 1) := by decide +kernel
theorem dX1_fillWeights_32 : decode cX1_fillWeights 32 = .ok (.getfield 9, 3) := by decide +kernel
theorem dX1_fillWeights_35 : decode cX1_fillWeights 35 = .ok (.iload 4, 2) := by decide +kernel
theorem dX1_fillWeights_37 : decode cX1_fillWeights 37 = .ok (.iaload, 1) := by decide +kernel
theorem dX1_fillWeights_38 : decode cX1_fillWeights 38 = .ok (.iadd, 1) := by decide +kernel
theorem dX1_fillWeights_39 : decode cX1_fillWeights 39 = .ok (.if_icmp .ge 41, 3) := by decide +kernel
theorem dX1_fillWeights_42 : decode cX1_fillWeights 42 = .ok (.aload_n 3, 1) := by decide +kernel
theorem dX1_fillWeights_43 : decode cX1_fillWeights 43 = .ok (.iload 7, 2) := by decide +kernel
theorem dX1_fillWeights_45 : decode cX1_fillWeights 45 = .ok (.aload_n 0, 1) := by decide +kernel
theorem dX1_fillWeights_46 : decode cX1_fillWeights 46 = .ok (.getfield 18, 3) := by decide +kernel
theorem dX1_fillWeights_49 : decode cX1_fillWeights 49 = .ok (.iload 7, 2) := by decide +kernel
theorem dX1_fillWeights_51 : decode cX1_fillWeights 51 = .ok (.iaload, 1) := by decide +kernel
theorem dX1_fillWeights_52 : decode cX1_fillWeights 52 = .ok (.iload_n 1, 1) := by decide +kernel
theorem dX1_fillWeights_53 : decode cX1_fillWeights 53 = .ok (.imul, 1) := by decide +kernel
theorem dX1_fillWeights_54 : decode cX1_fillWeights 54 = .ok (.aload_n 0, 1) := by decide +kernel
theorem dX1_fillWeights_55 : decode cX1_fillWeights 55 = .ok (.getfield 21, 3) := by decide +kernel
theorem dX1_fillWeights_58 : decode cX1_fillWeights 58 = .ok (.iload 7, 2) := by decide +kernel
theorem dX1_fillWeights_60 : decode cX1_fillWeights 60 = .ok (.iaload, 1) := by decide +kernel
theorem dX1_fillWeights_61 : decode cX1_fillWeights 61 = .ok (.iload_n 2, 1) := by decide +kernel
theorem dX1_fillWeights_62 : decode cX1_fillWeights 62 = .ok (.imul, 1) := by decide +kernel
theorem dX1_fillWeights_63 : decode cX1_fillWeights 63 = .ok (.iadd, 1) := by decide +kernel
theorem dX1_fillWeights_64 : decode cX1_fillWeights 64 = .ok (.iastore, 1) := by decide +kernel
theorem dX1_fillWeights_65 : decode cX1_fillWeights 65 = .ok (.iload 6, 2) := by decide +kernel
theorem dX1_fillWeights_67 : decode cX1_fillWeights 67 = .ok (.aload_n 3, 1) := by decide +kernel
theorem dX1_fillWeights_68 : decode cX1_fillWeights 68 = .ok (.iload 7, 2) := by decide +kernel
theorem dX1_fillWeights_70 : decode cX1_fillWeights 70 = .ok (.iaload, 1) := by decide +kernel
theorem dX1_fillWeights_71 : decode cX1_fillWeights 71 = .ok (.isub, 1) := by decide +kernel
theorem dX1_fillWeights_72 : decode cX1_fillWeights 72 = .ok (.istore 6, 2) := by decide +kernel
theorem dX1_fillWeights_74 : decode cX1_fillWeights 74 = .ok (.iinc 7 1, 3) := by decide +kernel
theorem dX1_fillWeights_77 : decode cX1_fillWeights 77 = .ok (.goto (-50), 3) := by decide +kernel
theorem dX1_fillWeights_80 : decode cX1_fillWeights 80 = .ok (.aload_n 3, 1) := by decide +kernel
theorem dX1_fillWeights_81 : decode cX1_fillWeights 81 = .ok (.iload 5, 2) := by decide +kernel
theorem dX1_fillWeights_83 : decode cX1_fillWeights 83 = .ok (.iload 6, 2) := by decide +kernel
theorem dX1_fillWeights_85 : decode cX1_fillWeights 85 = .ok (.iastore, 1) := by decide +kernel
theorem dX1_fillWeights_86 : decode cX1_fillWeights 86 = .ok (.iinc 4 1, 3) := by decide +kernel
theorem dX1_fillWeights_89 : decode cX1_fillWeights 89 = .ok (.goto (-86), 3) := by decide +kernel
theorem dX1_fillWeights_92 : decode cX1_fillWeights 92 = .ok (.return_, 1) := by decide +kernel
theorem dX2_init_0 : decode cX2_init 0 = .ok (.aload_n 0, 1) := by decide +kernel
theorem dX2_init_1 : decode cX2_init 1 = .ok (.invokespecial 3, 3) := by decide +kernel
theorem dX2_init_4 : decode cX2_init 4 = .ok (.aload_n 0, 1) := by decide +kernel
theorem dX2_init_5 : decode cX2_init 5 = .ok (.iconst 4, 1) := by decide +kernel
theorem dX2_init_6 : decode cX2_init 6 = .ok (.sipush 181, 3) := by decide +kernel
theorem dX2_init_9 : decode cX2_init 9 = .ok (.multianewarray 9 2, 4) := by decide +kernel
theorem dX2_init_13 : decode cX2_init 13 = .ok (.putfield 11, 3) := by decide +kernel
theorem dX2_init_16 : decode cX2_init 16 = .ok (.aload_n 0, 1) := by decide +kernel
theorem dX2_init_17 : decode cX2_init 17 = .ok (.iconst 3, 1) := by decide +kernel
theorem dX2_init_18 : decode cX2_init 18 = .ok (.newarray .int, 2) := by decide +kernel
theorem dX2_init_20 : decode cX2_init 20 = .ok (.putfield 16, 3) := by decide +kernel
theorem dX2_init_23 : decode cX2_init 23 = .ok (.aload_n 0, 1) := by decide +kernel
theorem dX2_init_24 : decode cX2_init 24 = .ok (.aload_n 1, 1) := by decide +kernel
theorem dX2_init_25 : decode cX2_init 25 = .ok (.putfield 20, 3) := by decide +kernel
theorem dX2_init_28 : decode cX2_init 28 = .ok (.aload_n 0, 1) := by decide +kernel
theorem dX2_init_29 : decode cX2_init 29 = .ok (.getfield 11, 3) := by decide +kernel
theorem dX2_init_32 : decode cX2_init 32 = .ok (.iconst 0, 1) := by decide +kernel
theorem dX2_init_33 : decode cX2_init 33 = .ok (.aaload, 1) := by decide +kernel
theorem dX2_init_34 : decode cX2_init 34 = .ok (.iconst 0, 1) := by decide +kernel
theorem dX2_init_35 : decode cX2_init 35 = .ok (.iconst 1, 1) := by decide +kernel
theorem dX2_init_36 : decode cX2_init 36 = .ok (.iastore, 1) := by decide +kernel
theorem dX2_init_37 : decode cX2_init 37 = .ok (.return_, 1) := by decide +kernel
theorem dX2_forget_0 : decode cX2_forget 0 = .ok (.aload_n 0, 1) := by decide +kernel
theorem dX2_forget_1 : decode cX2_forget 1 = .ok (.iconst 0, 1) := by decide +kernel
theorem dX2_forget_2 : decode cX2_forget 2 = .ok (.putfield 24, 3) := by decide +kernel
theorem dX2_forget_5 : decode cX2_forget 5 = .ok (.return_, 1) := by decide +kernel
set_option maxRecDepth 20000 in
theorem ggX2_countBy_X2_learn : GoodIn wsX2_countBy wsX2_learn := goodIn_r _ [6, 7, 1, 8, 9, 10, 5, 11, 12, 13, 14, 15, 16, 17, 18, 19, 20, 21, 22, 23, 24, 25, 26, 27, 28, 29, 30, 31, 32] rfl (by decide +kernel)
set_option maxRecDepth 20000 in
theorem gX2_countBy_X2_learn : GoodIn wsX2_countBy (wsV RX2 28 RX2 yX2_learn wsX2_learn) := goodIn_app (goodIn_of _ (by decide +kernel)) ggX2_countBy_X2_learn
theorem dX2_countBy_0 : decode cX2_countBy 0 = .ok (.aload_n 0, 1) := by decide +kernel
theorem dX2_countBy_1 : decode cX2_countBy 1 = .ok (.invokevirtual 28, 3) := by decide +kernel
theorem dX2_countBy_4 : decode cX2_countBy 4 = .ok (.aload_n 0, 1) := by decide +kernel
theorem dX2_countBy_5 : decode cX2_countBy 5 = .ok (.getfield 11, 3) := by decide +kernel
theorem dX2_countBy_8 : decode cX2_countBy 8 = .ok (.iload_n 2, 1) := by decide +kernel
theorem dX2_countBy_9 : decode cX2_countBy 9 = .ok (.aaload, 1) := by decide +kernel
theorem dX2_countBy_10 : decode cX2_countBy 10 = .ok (.iload_n 1, 1) := by decide +kernel
theorem dX2_countBy_11 : decode cX2_countBy 11 = .ok (.iaload, 1) := by decide +kernel
theorem dX2_countBy_12 : decode cX2_countBy 12 = .ok (.ireturn, 1) := by decide +kernel
set_option maxRecDepth 20000 in
theorem ggX2_countOfAll_X2_learn : GoodIn wsX2_countOfAll wsX2_learn := goodIn_r _ [6, 7, 1, 8, 9, 10, 5, 11, 12, 13, 14, 15, 16, 17, 18, 19, 20, 21, 22, 23, 24, 25, 26, 27, 28, 29, 30, 31, 32] rfl (by decide +kernel)
set_option maxRecDepth 20000 in
theorem gX2_countOfAll_X2_learn : GoodIn wsX2_countOfAll (wsV RX2 28 RX2 yX2_learn wsX2_learn) := goodIn_app (goodIn_of _ (by decide +kernel)) ggX2_countOfAll_X2_learn
theorem dX2_countOfAll_0 : decode cX2_countOfAll 0 = .ok (.aload_n 0, 1) := by decide +kernel
theorem dX2_countOfAll_1 : decode cX2_countOfAll 1 = .ok (.invokevirtual 28, 3) := by decide +kernel
theorem dX2_countOfAll_4 : decode cX2_countOfAll 4 = .ok (.aload_n 0, 1) := by decide +kernel
theorem dX2_countOfAll_5 : decode cX2_countOfAll 5 = .ok (.getfield 11, 3) := by decide +kernel
theorem dX2_countOfAll_8 : decode cX2_countOfAll 8 = .ok (.iconst 1, 1) := by decide +kernel
theorem dX2_countOfAll_9 : decode cX2_countOfAll 9 = .ok (.aaload, 1) := by decide +kernel
theorem dX2_countOfAll_10 : decode cX2_countOfAll 10 = .ok (.iload_n 1, 1) := by decide +kernel
theorem dX2_countOfAll_11 : decode cX2_countOfAll 11 = .ok (.iaload, 1) := by decide +kernel
theorem dX2_countOfAll_12 : decode cX2_countOfAll 12 = .ok (.aload_n 0, 1) := by decide +kernel
theorem dX2_countOfAll_13 : decode cX2_countOfAll 13 = .ok (.getfield 11, 3) := by decide +kernel
theorem dX2_countOfAll_16 : decode cX2_countOfAll 16 = .ok (.iconst 2, 1) := by decide +kernel
theorem dX2_countOfAll_17 : decode cX2_countOfAll 17 = .ok (.aaload, 1) := by decide +kernel
theorem dX2_countOfAll_18 : decode cX2_countOfAll 18 = .ok (.iload_n 1, 1) := by decide +kernel
theorem dX2_countOfAll_19 : decode cX2_countOfAll 19 = .ok (.iaload, 1) := by decide +kernel
theorem dX2_countOfAll_20 : decode cX2_countOfAll 20 = .ok (.iadd, 1) := by decide +kernel
theorem dX2_countOfAll_21 : decode cX2_countOfAll 21 = .ok (.aload_n 0, 1) := by decide +kernel
theorem dX2_countOfAll_22 : decode cX2_countOfAll 22 = .ok (.getfield 11, 3) := by decide +kernel
theorem dX2_countOfAll_25 : decode cX2_countOfAll 25 = .ok (.iconst 3, 1) := by decide +kernel
theorem dX2_countOfAll_26 : decode cX2_countOfAll 26 = .ok (.aaload, 1) := by decide +kernel
theorem dX2_countOfAll_27 : decode cX2_countOfAll 27 = .ok (.iload_n 1, 1) := by decide +kernel
theorem dX2_countOfAll_28 : decode cX2_countOfAll 28 = .ok (.iaload, 1) := by decide +kernel
theorem dX2_countOfAll_29 : decode cX2_countOfAll 29 = .ok (.iadd, 1) := by decide +kernel
theorem dX2_countOfAll_30 : decode cX2_countOfAll 30 = .ok (.ireturn, 1) := by decide +kernel
set_option maxRecDepth 20000 in
theorem ggX2_learn_X2_countFrom : GoodIn wsX2_learn wsX2_countFrom := goodIn_r _ [7, 8, 9, 10, 6, 11, 12, 2, 13, 14, 15, 16, 17, 18, 19, 20, 21, 22, 23, 24, 25, 26, 27, 28] rfl (by decide +kernel)
set_option maxRecDepth 20000 in
theorem gX2_learn_X2_countFrom : GoodIn wsX2_learn (wsV RX2 31 RX2 yX2_countFrom wsX2_countFrom) := goodIn_app (goodIn_of _ (by decide +kernel)) ggX2_learn_X2_countFrom
theorem dX2_learn_0 : decode cX2_learn 0 = .ok (.aload_n 0, 1) := by decide +kernel
theorem dX2_learn_1 : decode cX2_learn 1 = .ok (.getfield 24, 3) := by decide +kernel
theorem dX2_learn_4 : decode cX2_learn 4 = .ok (.ifCond .eq 4, 3) := by decide +kernel
theorem dX2_learn_7 : decode cX2_learn 7 = .ok (.return_, 1) := by decide +kernel
theorem dX2_learn_8 : decode cX2_learn 8 = .ok (.iconst 1, 1) := by decide +kernel
theorem dX2_learn_9 : decode cX2_learn 9 = .ok (.istore_n 1, 1) := by decide +kernel
theorem dX2_learn_10 : decode cX2_learn 10 = .ok (.iload_n 1, 1) := by decide +kernel
theorem dX2_learn_11 : decode cX2_learn 11 = .ok (.iconst 3, 1) := by decide +kernel
theorem dX2_learn_12 : decode cX2_learn 12 = .ok (.if_icmp .gt 38, 3) := by decide +kernel
theorem dX2_learn_15 : decode cX2_learn 15 = .ok (.iconst 1, 1) := by decide +kernel
theorem dX2_learn_16 : decode cX2_learn 16 = .ok (.istore_n 2, 1) := by decide +kernel
theorem dX2_learn_17 : decode cX2_learn 17 = .ok (.iload_n 2, 1) := by decide +kernel
theorem dX2_learn_18 : decode cX2_learn 18 = .ok (.sipush 180, 3) := by decide +kernel
theorem dX2_learn_21 : decode cX2_learn 21 = .ok (.if_icmp .gt 23, 3) := by decide +kernel
theorem dX2_learn_24 : decode cX2_learn 24 = .ok (.aload_n 0, 1) := by decide +kernel
theorem dX2_learn_25 : decode cX2_learn 25 = .ok (.getfield 11, 3) := by decide +kernel
theorem dX2_learn_28 : decode cX2_learn 28 = .ok (.iload_n 1, 1) := by decide +kernel
theorem dX2_learn_29 : decode cX2_learn 29 = .ok (.aaload, 1) := by decide +kernel
theorem dX2_learn_30 : decode cX2_learn 30 = .ok (.iload_n 2, 1) := by decide +kernel
theorem dX2_learn_31 : decode cX2_learn 31 = .ok (.aload_n 0, 1) := by decide +kernel
theorem dX2_learn_32 : decode cX2_learn 32 = .ok (.iload_n 2, 1) := by decide +kernel
theorem dX2_learn_33 : decode cX2_learn 33 = .ok (.iload_n 1, 1) := by decide +kernel
theorem dX2_learn_34 : decode cX2_learn 34 = .ok (.invokevirtual 31, 3) := by decide +kernel
theorem dX2_learn_37 : decode cX2_learn 37 = .ok (.iastore, 1) := by decide +kernel
theorem dX2_learn_38 : decode cX2_learn 38 = .ok (.iinc 2 1, 3) := by decide +kernel
theorem dX2_learn_41 : decode cX2_learn 41 = .ok (.goto (-24), 3) := by decide +kernel
theorem dX2_learn_44 : decode cX2_learn 44 = .ok (.iinc 1 1, 3) := by decide +kernel
theorem dX2_learn_47 : decode cX2_learn 47 = .ok (.goto (-37), 3) := by decide +kernel
theorem dX2_learn_50 : decode cX2_learn 50 = .ok (.aload_n 0, 1) := by decide +kernel
theorem dX2_learn_51 : decode cX2_learn 51 = .ok (.iconst 1, 1) := by decide +kernel
theorem dX2_learn_52 : decode cX2_learn 52 = .ok (.putfield 24, 3) := by decide +kernel
theorem dX2_learn_55 : decode cX2_learn 55 = .ok (.return_, 1) := by decide +kernel
set_option maxRecDepth 20000 in
theorem ggX2_countFrom_X2_countThrough : GoodIn wsX2_countFrom wsX2_countThrough := goodIn_r _ [5, 6, 7, 8, 9, 10, 11, 12, 13, 14, 15, 16, 17, 18, 19, 20, 21, 22, 23] rfl (by decide +kernel)
set_option maxRecDepth 20000 in
theorem gX2_countFrom_X2_countThrough : GoodIn wsX2_countFrom (wsV RX2 35 RX2 yX2_countThrough wsX2_countThrough) := goodIn_app (goodIn_of _ (by decide +kernel)) ggX2_countFrom_X2_countThrough
theorem dX2_countFrom_0 : decode cX2_countFrom 0 = .ok (.iconst 0, 1) := by decide +kernel
theorem dX2_countFrom_1 : decode cX2_countFrom 1 = .ok (.istore_n 3, 1) := by decide +kernel
theorem dX2_countFrom_2 : decode cX2_countFrom 2 = .ok (.iconst 1, 1) := by decide +kernel
theorem dX2_countFrom_3 : decode cX2_countFrom 3 = .ok (.istore 4, 2) := by decide +kernel
theorem dX2_countFrom_5 : decode cX2_countFrom 5 = .ok (.iload 4, 2) := by decide +kernel
theorem dX2_countFrom_7 : decode cX2_countFrom 7 = .ok (.bipush 63, 2) := by decide +kernel
theorem dX2_countFrom_9 : decode cX2_countFrom 9 = .ok (.if_icmp .ge 20, 3) := by decide +kernel
theorem dX2_countFrom_12 : decode cX2_countFrom 12 = .ok (.iload_n 3, 1) := by decide +kernel
theorem dX2_countFrom_13 : decode cX2_countFrom 13 = .ok (.aload_n 0, 1) := by decide +kernel
theorem dX2_countFrom_14 : decode cX2_countFrom 14 = .ok (.iload_n 1, 1) := by decide +kernel
theorem dX2_countFrom_15 : decode cX2_countFrom 15 = .ok (.iload 4, 2) := by decide +kernel
theorem dX2_countFrom_17 : decode cX2_countFrom 17 = .ok (.iload_n 2, 1) := by decide +kernel
theorem dX2_countFrom_18 : decode cX2_countFrom 18 = .ok (.invokevirtual 35, 3) := by decide +kernel
theorem dX2_countFrom_21 : decode cX2_countFrom 21 = .ok (.iadd, 1) := by decide +kernel
theorem dX2_countFrom_22 : decode cX2_countFrom 22 = .ok (.istore_n 3, 1) := by decide +kernel
theorem dX2_countFrom_23 : decode cX2_countFrom 23 = .ok (.iinc 4 1, 3) := by decide +kernel
theorem dX2_countFrom_26 : decode cX2_countFrom 26 = .ok (.goto (-21), 3) := by decide +kernel
theorem dX2_countFrom_29 : decode cX2_countFrom 29 = .ok (.iload_n 3, 1) := by decide +kernel
theorem dX2_countFrom_30 : decode cX2_countFrom 30 = .ok (.ireturn, 1) := by decide +kernel
set_option maxRecDepth 20000 in
theorem ggX2_countThrough_X9_restBehind : GoodIn wsX2_countThrough wsX9_restBehind := goodIn_r _ [7, 8, 9, 10, 16, 17, 18] rfl (by decide +kernel)
set_option maxRecDepth 20000 in
theorem gX2_countThrough_X9_restBehind : GoodIn wsX2_countThrough (wsV RX2 39 RX9 yX9_restBehind wsX9_restBehind) := goodIn_app (goodIn_of _ (by decide +kernel)) ggX2_countThrough_X9_restBehind
theorem dX2_countThrough_0 : decode cX2_countThrough 0 = .ok (.aload_n 0, 1) := by decide +kernel
theorem dX2_countThrough_1 : decode cX2_countThrough 1 = .ok (.getfield 20, 3) := by decide +kernel
theorem dX2_countThrough_4 : decode cX2_countThrough 4 = .ok (.iload_n 1, 1) := by decide +kernel
theorem dX2_countThrough_5 : decode cX2_countThrough 5 = .ok (.iload_n 2, 1) := by decide +kernel
theorem dX2_countThrough_6 : decode cX2_countThrough 6 = .ok (.invokevirtual 39, 3) := by decide +kernel
theorem dX2_countThrough_9 : decode cX2_countThrough 9 = .ok (.istore 4, 2) := by decide +kernel
theorem dX2_countThrough_11 : decode cX2_countThrough 11 = .ok (.iload 4, 2) := by decide +kernel
theorem dX2_countThrough_13 : decode cX2_countThrough 13 = .ok (.bipush (-5), 2) := by decide +kernel
theorem dX2_countThrough_15 : decode cX2_countThrough 15 = .ok (.if_icmp .ne 7, 3) := by decide +kernel
theorem dX2_countThrough_18 : decode cX2_countThrough 18 = .ok (.iconst 0, 1) := by decide +kernel
theorem dX2_countThrough_19 : decode cX2_countThrough 19 = .ok (.goto 14, 3) := by decide +kernel
theorem dX2_countThrough_22 : decode cX2_countThrough 22 = .ok (.aload_n 0, 1) := by decide +kernel
theorem dX2_countThrough_23 : decode cX2_countThrough 23 = .ok (.getfield 11, 3) := by decide +kernel
theorem dX2_countThrough_26 : decode cX2_countThrough 26 = .ok (.iload_n 3, 1) := by decide +kernel
theorem dX2_countThrough_27 : decode cX2_countThrough 27 = .ok (.iconst 1, 1) := by decide +kernel
theorem dX2_countThrough_28 : decode cX2_countThrough 28 = .ok (.isub, 1) := by decide +kernel
theorem dX2_countThrough_29 : decode cX2_countThrough 29 = .ok (.aaload, 1) := by decide +kernel
theorem dX2_countThrough_30 : decode cX2_countThrough 30 = .ok (.iload 4, 2) := by decide +kernel
theorem dX2_countThrough_32 : decode cX2_countThrough 32 = .ok (.iaload, 1) := by decide +kernel
theorem dX2_countThrough_33 : decode cX2_countThrough 33 = .ok (.ireturn, 1) := by decide +kernel
set_option maxRecDepth 20000 in
theorem ggX2_find_X2_countOfAll : GoodIn wsX2_find wsX2_countOfAll := goodIn_r _ [7, 1, 8, 9, 10, 6, 11, 12, 13, 14, 15, 16, 17, 18, 19, 20, 21, 22, 23, 24, 25, 26, 27, 28, 29, 35, 36, 37, 38, 39, 40, 41, 42] rfl (by decide +kernel)
set_option maxRecDepth 20000 in
theorem gX2_find_X2_countOfAll : GoodIn wsX2_find (wsV RX2 44 RX2 yX2_countOfAll wsX2_countOfAll) := goodIn_app (goodIn_of _ (by decide +kernel)) ggX2_find_X2_countOfAll
set_option maxRecDepth 20000 in
theorem ggX2_find_X2_fillRow : GoodIn wsX2_find wsX2_fillRow := goodIn_r _ [33, 2, 34, 21, 17, 18, 19, 6, 20, 1, 22, 23, 24, 25, 26, 27, 28, 29, 35, 36, 37, 38, 39, 40, 41, 42] rfl (by decide +kernel)
set_option maxRecDepth 20000 in
theorem gX2_find_X2_fillRow : GoodIn wsX2_find (wsV RX2 52 RX2 yX2_fillRow wsX2_fillRow) := goodIn_app (goodIn_of _ (by decide +kernel)) ggX2_find_X2_fillRow
theorem dX2_find_0 : decode cX2_find 0 = .ok (.iload_n 2, 1) := by decide +kernel
theorem dX2_find_1 : decode cX2_find 1 = .ok (.ifCond .lt 12, 3) := by decide +kernel
theorem dX2_find_4 : decode cX2_find 4 = .ok (.iload_n 2, 1) := by decide +kernel
theorem dX2_find_5 : decode cX2_find 5 = .ok (.aload_n 0, 1) := by decide +kernel
theorem dX2_find_6 : decode cX2_find 6 = .ok (.iload_n 1, 1) := by decide +kernel
theorem dX2_find_7 : decode cX2_find 7 = .ok (.invokevirtual 44, 3) := by decide +kernel
theorem dX2_find_10 : decode cX2_find 10 = .ok (.if_icmp .lt 5, 3) := by decide +kernel
theorem dX2_find_13 : decode cX2_find 13 = .ok (.iconst 0, 1) := by decide +kernel
theorem dX2_find_14 : decode cX2_find 14 = .ok (.ireturn, 1) := by decide +kernel
theorem dX2_find_15 : decode cX2_find 15 = .ok (.iload_n 2, 1) := by decide +kernel
theorem dX2_find_16 : decode cX2_find 16 = .ok (.istore_n 3, 1) := by decide +kernel
theorem dX2_find_17 : decode cX2_find 17 = .ok (.iconst 1, 1) := by decide +kernel
theorem dX2_find_18 : decode cX2_find 18 = .ok (.istore 4, 2) := by decide +kernel
theorem dX2_find_20 : decode cX2_find 20 = .ok (.iload 4, 2) := by decide +kernel
theorem dX2_find_22 : decode cX2_find 22 = .ok (.iconst 3, 1) := by decide +kernel
theorem dX2_find_23 : decode cX2_find 23 = .ok (.if_icmp .ge 34, 3) := by decide +kernel
theorem dX2_find_26 : decode cX2_find 26 = .ok (.iload_n 3, 1) := by decide +kernel
theorem dX2_find_27 : decode cX2_find 27 = .ok (.aload_n 0, 1) := by decide +kernel
theorem dX2_find_28 : decode cX2_find 28 = .ok (.getfield 11, 3) := by decide +kernel
theorem dX2_find_31 : decode cX2_find 31 = .ok (.iload 4, 2) := by decide +kernel
theorem dX2_find_33 : decode cX2_find 33 = .ok (.aaload, 1) := by decide +kernel
theorem dX2_find_34 : decode cX2_find 34 = .ok (.iload_n 1, 1) := by decide +kernel
theorem dX2_find_35 : decode cX2_find 35 = .ok (.iaload, 1) := by decide +kernel
theorem dX2_find_36 : decode cX2_find 36 = .ok (.if_icmp .lt 21, 3) := by decide +kernel
theorem dX2_find_39 : decode cX2_find 39 = .ok (.iload_n 3, 1) := by decide +kernel
theorem dX2_find_40 : decode cX2_find 40 = .ok (.aload_n 0, 1) := by decide +kernel
theorem dX2_find_41 : decode cX2_find 41 = .ok (.getfield 11, 3) := by decide +kernel
theorem dX2_find_44 : decode cX2_find 44 = .ok (.iload 4, 2) := by decide +kernel
theorem dX2_find_46 : decode cX2_find 46 = .ok (.aaload, 1) := by decide +kernel
theorem dX2_find_47 : decode cX2_find 47 = .ok (.iload_n 1, 1) := by decide +kernel
theorem dX2_find_48 : decode cX2_find 48 = .ok (.iaload, 1) := by decide +kernel
theorem dX2_find_49 : decode cX2_find 49 = .ok (.isub, 1) := by decide +kernel
theorem dX2_find_50 : decode cX2_find 50 = .ok (.istore_n 3, 1) := by decide +kernel
theorem dX2_find_51 : decode cX2_find 51 = .ok (.iinc 4 1, 3) := by decide +kernel
theorem dX2_find_54 : decode cX2_find 54 = .ok (.goto (-34), 3) := by decide +kernel
theorem dX2_find_57 : decode cX2_find 57 = .ok (.aload_n 0, 1) := by decide +kernel
theorem dX2_find_58 : decode cX2_find 58 = .ok (.iload 4, 2) := by decide +kernel
theorem dX2_find_60 : decode cX2_find 60 = .ok (.putfield 48, 3) := by decide +kernel
theorem dX2_find_63 : decode cX2_find 63 = .ok (.aload_n 0, 1) := by decide +kernel
theorem dX2_find_64 : decode cX2_find 64 = .ok (.iload_n 1, 1) := by decide +kernel
theorem dX2_find_65 : decode cX2_find 65 = .ok (.iload_n 3, 1) := by decide +kernel
theorem dX2_find_66 : decode cX2_find 66 = .ok (.invokevirtual 52, 3) := by decide +kernel
theorem dX2_find_69 : decode cX2_find 69 = .ok (.iconst 1, 1) := by decide +kernel
theorem dX2_find_70 : decode cX2_find 70 = .ok (.ireturn, 1) := by decide +kernel
set_option maxRecDepth 20000 in
theorem ggX2_fillRow_X2_countThrough : GoodIn wsX2_fillRow wsX2_countThrough := goodIn_r _ [8, 3, 9, 10, 11, 12, 13, 14, 15, 16, 17, 18, 19, 20, 21, 22, 23, 24, 25] rfl (by decide +kernel)
set_option maxRecDepth 20000 in
theorem gX2_fillRow_X2_countThrough : GoodIn wsX2_fillRow (wsV RX2 35 RX2 yX2_countThrough wsX2_countThrough) := goodIn_app (goodIn_of _ (by decide +kernel)) ggX2_fillRow_X2_countThrough
set_option maxRecDepth 20000 in
theorem ggX2_fillRow_X9_restBehind : GoodIn wsX2_fillRow wsX9_restBehind := goodIn_r _ [14, 15, 16, 17, 23, 24, 25] rfl (by decide +kernel)
set_option maxRecDepth 20000 in
theorem gX2_fillRow_X9_restBehind : GoodIn wsX2_fillRow (wsV RX2 39 RX9 yX9_restBehind wsX9_restBehind) := goodIn_app (goodIn_of _ (by decide +kernel)) ggX2_fillRow_X9_restBehind
theorem dX2_fillRow_0 : decode cX2_fillRow 0 = .ok (.iload_n 1, 1) := by decide +kernel
theorem dX2_fillRow_1 : decode cX2_fillRow 1 = .ok (.istore_n 3, 1) := by decide +kernel
theorem dX2_fillRow_2 : decode cX2_fillRow 2 = .ok (.iload_n 2, 1) := by decide +kernel
theorem dX2_fillRow_3 : decode cX2_fillRow 3 = .ok (.istore 4, 2) := by decide +kernel
theorem dX2_fillRow_5 : decode cX2_fillRow 5 = .ok (.iconst 0, 1) := by decide +kernel
theorem dX2_fillRow_6 : decode cX2_fillRow 6 = .ok (.istore 5, 2) := by decide +kernel
theorem dX2_fillRow_8 : decode cX2_fillRow 8 = .ok (.iload 5, 2) := by decide +kernel
theorem dX2_fillRow_10 : decode cX2_fillRow 10 = .ok (.aload_n 0, 1) := by decide +kernel
theorem dX2_fillRow_11 : decode cX2_fillRow 11 = .ok (.getfield 48, 3) := by decide +kernel
theorem dX2_fillRow_14 : decode cX2_fillRow 14 = .ok (.if_icmp .ge 91, 3) := by decide +kernel
theorem dX2_fillRow_17 : decode cX2_fillRow 17 = .ok (.iconst 1, 1) := by decide +kernel
theorem dX2_fillRow_18 : decode cX2_fillRow 18 = .ok (.istore 6, 2) := by decide +kernel
theorem dX2_fillRow_20 : decode cX2_fillRow 20 = .ok (.aload_n 0, 1) := by decide +kernel
theorem dX2_fillRow_21 : decode cX2_fillRow 21 = .ok (.iload_n 3, 1) := by decide +kernel
theorem dX2_fillRow_22 : decode cX2_fillRow 22 = .ok (.iload 6, 2) := by decide +kernel
theorem dX2_fillRow_24 : decode cX2_fillRow 24 = .ok (.aload_n 0, 1) := by decide +kernel
theorem dX2_fillRow_25 : decode cX2_fillRow 25 = .ok (.getfield 48, 3) := by decide +kernel
theorem dX2_fillRow_28 : decode cX2_fillRow 28 = .ok (.iload 5, 2) := by decide +kernel
theorem dX2_fillRow_30 : decode cX2_fillRow 30 = .ok (.isub, 1) := by decide +kernel
theorem dX2_fillRow_31 : decode cX2_fillRow 31 = .ok (.invokevirtual 35, 3) := by decide +kernel
theorem dX2_fillRow_34 : decode cX2_fillRow 34 = .ok (.istore 7, 2) := by decide +kernel
theorem dX2_fillRow_36 : decode cX2_fillRow 36 = .ok (.iload 6, 2) := by decide +kernel
theorem dX2_fillRow_38 : decode cX2_fillRow 38 = .ok (.bipush 62, 2) := by decide +kernel
theorem dX2_fillRow_40 : decode cX2_fillRow 40 = .ok (.if_icmp .ge 39, 3) := by decide +kernel
theorem dX2_fillRow_43 : decode cX2_fillRow 43 = .ok (.iload 4, 2) := by decide +kernel
theorem dX2_fillRow_45 : decode cX2_fillRow 45 = .ok (.iload 7, 2) := by decide +kernel
theorem dX2_fillRow_47 : decode cX2_fillRow 47 = .ok (.if_icmp .lt 32, 3) := by decide +kernel
theorem dX2_fillRow_50 : decode cX2_fillRow 50 = .ok (.iload 4, 2) := by decide +kernel
theorem dX2_fillRow_52 : decode cX2_fillRow 52 = .ok (.iload 7, 2) := by decide +kernel
theorem dX2_fillRow_54 : decode cX2_fillRow 54 = .ok (.isub, 1) := by decide +kernel
theorem dX2_fillRow_55 : decode cX2_fillRow 55 = .ok (.istore 4, 2) := by decide +kernel
theorem dX2_fillRow_57 : decode cX2_fillRow 57 = .ok (.iinc 6 1, 3) := by decide +kernel
theorem dX2_fillRow_60 : decode cX2_fillRow 60 = .ok (.aload_n 0, 1) := by decide +kernel
theorem dX2_fillRow_61 : decode cX2_fillRow 61 = .ok (.iload_n 3, 1) := by decide +kernel
theorem dX2_fillRow_62 : decode cX2_fillRow 62 = .ok (.iload 6, 2) := by decide +kernel
theorem dX2_fillRow_64 : decode cX2_fillRow 64 = .ok (.aload_n 0, 1) := by decide +kernel
theorem dX2_fillRow_65 : decode cX2_fillRow 65 = .ok (.getfield 48, 3) := by decide +kernel
theorem dX2_fillRow_68 : decode cX2_fillRow 68 = .ok (.iload 5, 2) := by decide +kernel
theorem dX2_fillRow_70 : decode cX2_fillRow 70 = .ok (.isub, 1) := by decide +kernel
theorem dX2_fillRow_71 : decode cX2_fillRow 71 = .ok (.invokevirtual 35, 3) := by decide +kernel
theorem dX2_fillRow_74 : decode cX2_fillRow 74 = .ok (.istore 7, 2) := by decide +kernel
theorem dX2_fillRow_76 : decode cX2_fillRow 76 = .ok (.goto (-40), 3) := by decide +kernel
theorem dX2_fillRow_79 : decode cX2_fillRow 79 = .ok (.aload_n 0, 1) := by decide +kernel
theorem dX2_fillRow_80 : decode cX2_fillRow 80 = .ok (.getfield 16, 3) := by decide +kernel
theorem dX2_fillRow_83 : decode cX2_fillRow 83 = .ok (.iload 5, 2) := by decide +kernel
theorem dX2_fillRow_85 : decode cX2_fillRow 85 = .ok (.iload 6, 2) := by decide +kernel
theorem dX2_fillRow_87 : decode cX2_fillRow 87 = .ok (.iastore, 1) := by decide +kernel
theorem dX2_fillRow_88 : decode cX2_fillRow 88 = .ok (.aload_n 0, 1) := by decide +kernel
theorem dX2_fillRow_89 : decode cX2_fillRow 89 = .ok (.getfield 20, 3) := by decide +kernel
theorem dX2_fillRow_92 : decode cX2_fillRow 92 = .ok (.iload_n 3, 1) := by decide +kernel
theorem dX2_fillRow_93 : decode cX2_fillRow 93 = .ok (.iload 6, 2) := by decide +kernel
theorem dX2_fillRow_95 : decode cX2_fillRow 95 = .ok (.invokevirtual 39, 3) := by decide +kernel
theorem dX2_fillRow_98 : decode cX2_fillRow 98 = .ok (.istore_n 3, 1) := by decide +kernel
theorem dX2_fillRow_99 : decode cX2_fillRow 99 = .ok (.iinc 5 1, 3) := by decide +kernel
theorem dX2_fillRow_102 : decode cX2_fillRow 102 = .ok (.goto (-94), 3) := by decide +kernel
theorem dX2_fillRow_105 : decode cX2_fillRow 105 = .ok (.return_, 1) := by decide +kernel
set_option maxRecDepth 20000 in
theorem ggX3_init_X6_init : GoodIn wsX3_init wsX6_init := goodIn_r _ [12, 13, 2, 3, 14, 15, 30, 31, 32, 33, 34, 35] rfl (by decide +kernel)
set_option maxRecDepth 20000 in
theorem gX3_init_X6_init_n11 : GoodIn wsX3_init (wsX6_init) := ggX3_init_X6_init
set_option maxRecDepth 20000 in
theorem ggX3_init_X3_begin : GoodIn wsX3_init wsX3_begin := goodIn_r _ [20, 7, 9, 21, 22, 23, 24, 25, 19, 26, 27, 28, 29, 36, 37, 38, 39, 40, 41, 42, 43, 30, 31, 32, 33, 34, 35] rfl (by decide +kernel)
set_option maxRecDepth 20000 in
theorem gX3_init_X3_begin : GoodIn wsX3_init (wsV RX3 28 RX3 yX3_begin wsX3_begin) := goodIn_app (goodIn_of _ (by decide +kernel)) ggX3_init_X3_begin
theorem dX3_init_0 : decode cX3_init 0 = .ok (.aload_n 0, 1) := by decide +kernel
theorem dX3_init_1 : decode cX3_init 1 = .ok (.invokespecial 3, 3) := by decide +kernel
theorem dX3_init_4 : decode cX3_init 4 = .ok (.aload_n 0, 1) := by decide +kernel
theorem dX3_init_5 : decode cX3_init 5 = .ok (.iconst 2, 1) := by decide +kernel
theorem dX3_init_6 : decode cX3_init 6 = .ok (.anewarray 9, 3) := by decide +kernel
theorem dX3_init_9 : decode cX3_init 9 = .ok (.dup, 1) := by decide +kernel
theorem dX3_init_10 : decode cX3_init 10 = .ok (.iconst 0, 1) := by decide +kernel
theorem dX3_init_11 : decode cX3_init 11 = .ok (.new 9, 3) := by decide +kernel
theorem dX3_init_14 : decode cX3_init 14 = .ok (.dup, 1) := by decide +kernel
theorem dX3_init_15 : decode cX3_init 15 = .ok (.invokespecial 11, 3) := by decide +kernel
theorem dX3_init_18 : decode cX3_init 18 = .ok (.aastore, 1) := by decide +kernel
theorem dX3_init_19 : decode cX3_init 19 = .ok (.dup, 1) := by decide +kernel
theorem dX3_init_20 : decode cX3_init 20 = .ok (.iconst 1, 1) := by decide +kernel
theorem dX3_init_21 : decode cX3_init 21 = .ok (.new 9, 3) := by decide +kernel
theorem dX3_init_24 : decode cX3_init 24 = .ok (.dup, 1) := by decide +kernel
theorem dX3_init_25 : decode cX3_init 25 = .ok (.invokespecial 11, 3) := by decide +kernel
theorem dX3_init_28 : decode cX3_init 28 = .ok (.aastore, 1) := by decide +kernel
theorem dX3_init_29 : decode cX3_init 29 = .ok (.putfield 12, 3) := by decide +kernel
theorem dX3_init_32 : decode cX3_init 32 = .ok (.aload_n 0, 1) := by decide +kernel
theorem dX3_init_33 : decode cX3_init 33 = .ok (.iconst 1, 1) := by decide +kernel
theorem dX3_init_34 : decode cX3_init 34 = .ok (.putfield 18, 3) := by decide +kernel
theorem dX3_init_37 : decode cX3_init 37 = .ok (.aload_n 0, 1) := by decide +kernel
theorem dX3_init_38 : decode cX3_init 38 = .ok (.sipush 301, 3) := by decide +kernel
theorem dX3_init_41 : decode cX3_init 41 = .ok (.putfield 22, 3) := by decide +kernel
theorem dX3_init_44 : decode cX3_init 44 = .ok (.aload_n 0, 1) := by decide +kernel
theorem dX3_init_45 : decode cX3_init 45 = .ok (.iconst 1, 1) := by decide +kernel
theorem dX3_init_46 : decode cX3_init 46 = .ok (.putfield 25, 3) := by decide +kernel
theorem dX3_init_49 : decode cX3_init 49 = .ok (.aload_n 0, 1) := by decide +kernel
theorem dX3_init_50 : decode cX3_init 50 = .ok (.invokevirtual 28, 3) := by decide +kernel
theorem dX3_init_53 : decode cX3_init 53 = .ok (.return_, 1) := by decide +kernel
set_option maxRecDepth 20000 in
theorem ggX3_become_X6_become : GoodIn wsX3_become wsX6_become := goodIn_r _ [13, 14, 15, 16, 17, 18, 19, 28, 29, 30, 31, 32, 33] rfl (by decide +kernel)
set_option maxRecDepth 20000 in
theorem gX3_become_X6_become : GoodIn wsX3_become (wsV RX3 31 RX6 yX6_become wsX6_become) := goodIn_app (goodIn_of _ (by decide +kernel)) ggX3_become_X6_become
theorem dX3_become_0 : decode cX3_become 0 = .ok (.aload_n 0, 1) := by decide +kernel
theorem dX3_become_1 : decode cX3_become 1 = .ok (.getfield 12, 3) := by decide +kernel
theorem dX3_become_4 : decode cX3_become 4 = .ok (.iconst 0, 1) := by decide +kernel
theorem dX3_become_5 : decode cX3_become 5 = .ok (.aaload, 1) := by decide +kernel
theorem dX3_become_6 : decode cX3_become 6 = .ok (.aload_n 1, 1) := by decide +kernel
theorem dX3_become_7 : decode cX3_become 7 = .ok (.getfield 12, 3) := by decide +kernel
theorem dX3_become_10 : decode cX3_become 10 = .ok (.iconst 0, 1) := by decide +kernel
theorem dX3_become_11 : decode cX3_become 11 = .ok (.aaload, 1) := by decide +kernel
theorem dX3_become_12 : decode cX3_become 12 = .ok (.invokevirtual 31, 3) := by decide +kernel
theorem dX3_become_15 : decode cX3_become 15 = .ok (.aload_n 0, 1) := by decide +kernel
theorem dX3_become_16 : decode cX3_become 16 = .ok (.getfield 12, 3) := by decide +kernel
theorem dX3_become_19 : decode cX3_become 19 = .ok (.iconst 1, 1) := by decide +kernel
theorem dX3_become_20 : decode cX3_become 20 = .ok (.aaload, 1) := by decide +kernel
theorem dX3_become_21 : decode cX3_become 21 = .ok (.aload_n 1, 1) := by decide +kernel
theorem dX3_become_22 : decode cX3_become 22 = .ok (.getfield 12, 3) := by decide +kernel
theorem dX3_become_25 : decode cX3_become 25 = .ok (.iconst 1, 1) := by decide +kernel
theorem dX3_become_26 : decode cX3_become 26 = .ok (.aaload, 1) := by decide +kernel
theorem dX3_become_27 : decode cX3_become 27 = .ok (.invokevirtual 31, 3) := by decide +kernel
theorem dX3_become_30 : decode cX3_become 30 = .ok (.aload_n 0, 1) := by decide +kernel
theorem dX3_become_31 : decode cX3_become 31 = .ok (.aload_n 1, 1) := by decide +kernel
theorem dX3_become_32 : decode cX3_become 32 = .ok (.getfield 18, 3) := by decide +kernel
theorem dX3_become_35 : decode cX3_become 35 = .ok (.putfield 18, 3) := by decide +kernel
theorem dX3_become_38 : decode cX3_become 38 = .ok (.aload_n 0, 1) := by decide +kernel
theorem dX3_become_39 : decode cX3_become 39 = .ok (.aload_n 1, 1) := by decide +kernel
theorem dX3_become_40 : decode cX3_become 40 = .ok (.getfield 22, 3) := by decide +kernel
theorem dX3_become_43 : decode cX3_become 43 = .ok (.putfield 22, 3) := by decide +kernel
theorem dX3_become_46 : decode cX3_become 46 = .ok (.aload_n 0, 1) := by decide +kernel
theorem dX3_become_47 : decode cX3_become 47 = .ok (.aload_n 1, 1) := by decide +kernel
theorem dX3_become_48 : decode cX3_become 48 = .ok (.getfield 35, 3) := by decide +kernel
theorem dX3_become_51 : decode cX3_become 51 = .ok (.putfield 35, 3) := by decide +kernel
theorem dX3_become_54 : decode cX3_become 54 = .ok (.aload_n 0, 1) := by decide +kernel
theorem dX3_become_55 : decode cX3_become 55 = .ok (.aload_n 1, 1) := by decide +kernel
theorem dX3_become_56 : decode cX3_become 56 = .ok (.getfield 38, 3) := by decide +kernel
theorem dX3_become_59 : decode cX3_become 59 = .ok (.putfield 38, 3) := by decide +kernel
theorem dX3_become_62 : decode cX3_become 62 = .ok (.aload_n 0, 1) := by decide +kernel
theorem dX3_become_63 : decode cX3_become 63 = .ok (.aload_n 1, 1) := by decide +kernel
theorem dX3_become_64 : decode cX3_become 64 = .ok (.getfield 41, 3) := by decide +kernel
theorem dX3_become_67 : decode cX3_become 67 = .ok (.putfield 41, 3) := by decide +kernel
theorem dX3_become_70 : decode cX3_become 70 = .ok (.aload_n 0, 1) := by decide +kernel
theorem dX3_become_71 : decode cX3_become 71 = .ok (.aload_n 1, 1) := by decide +kernel
theorem dX3_become_72 : decode cX3_become 72 = .ok (.getfield 44, 3) := by decide +kernel
theorem dX3_become_75 : decode cX3_become 75 = .ok (.putfield 44, 3) := by decide +kernel
theorem dX3_become_78 : decode cX3_become 78 = .ok (.aload_n 0, 1) := by decide +kernel
theorem dX3_become_79 : decode cX3_become 79 = .ok (.aload_n 1, 1) := by decide +kernel
theorem dX3_become_80 : decode cX3_become 80 = .ok (.getfield 25, 3) := by decide +kernel
theorem dX3_become_83 : decode cX3_become 83 = .ok (.putfield 25, 3) := by decide +kernel
theorem dX3_become_86 : decode cX3_become 86 = .ok (.return_, 1) := by decide +kernel
set_option maxRecDepth 20000 in
theorem ggX3_begin_X3_beginVisit : GoodIn wsX3_begin wsX3_beginVisit := goodIn_r _ [9, 10, 11, 1, 3, 12, 13, 14, 15, 16, 17, 18, 19, 20, 21, 22, 23, 24, 25, 26] rfl (by decide +kernel)
set_option maxRecDepth 20000 in
theorem gX3_begin_X3_beginVisit : GoodIn wsX3_begin (wsV RX3 50 RX3 yX3_beginVisit wsX3_beginVisit) := goodIn_app (goodIn_of _ (by decide +kernel)) ggX3_begin_X3_beginVisit
theorem dX3_begin_0 : decode cX3_begin 0 = .ok (.aload_n 0, 1) := by decide +kernel
theorem dX3_begin_1 : decode cX3_begin 1 = .ok (.getfield 12, 3) := by decide +kernel
theorem dX3_begin_4 : decode cX3_begin 4 = .ok (.iconst 0, 1) := by decide +kernel
theorem dX3_begin_5 : decode cX3_begin 5 = .ok (.aaload, 1) := by decide +kernel
theorem dX3_begin_6 : decode cX3_begin 6 = .ok (.aload_n 0, 1) := by decide +kernel
theorem dX3_begin_7 : decode cX3_begin 7 = .ok (.getfield 22, 3) := by decide +kernel
theorem dX3_begin_10 : decode cX3_begin 10 = .ok (.putfield 47, 3) := by decide +kernel
theorem dX3_begin_13 : decode cX3_begin 13 = .ok (.aload_n 0, 1) := by decide +kernel
theorem dX3_begin_14 : decode cX3_begin 14 = .ok (.getfield 12, 3) := by decide +kernel
theorem dX3_begin_17 : decode cX3_begin 17 = .ok (.iconst 1, 1) := by decide +kernel
theorem dX3_begin_18 : decode cX3_begin 18 = .ok (.aaload, 1) := by decide +kernel
theorem dX3_begin_19 : decode cX3_begin 19 = .ok (.aload_n 0, 1) := by decide +kernel
theorem dX3_begin_20 : decode cX3_begin 20 = .ok (.getfield 22, 3) := by decide +kernel
theorem dX3_begin_23 : decode cX3_begin 23 = .ok (.putfield 47, 3) := by decide +kernel
theorem dX3_begin_26 : decode cX3_begin 26 = .ok (.aload_n 0, 1) := by decide +kernel
theorem dX3_begin_27 : decode cX3_begin 27 = .ok (.aload_n 0, 1) := by decide +kernel
theorem dX3_begin_28 : decode cX3_begin 28 = .ok (.getfield 35, 3) := by decide +kernel
theorem dX3_begin_31 : decode cX3_begin 31 = .ok (.invokevirtual 50, 3) := by decide +kernel
theorem dX3_begin_34 : decode cX3_begin 34 = .ok (.return_, 1) := by decide +kernel
theorem dX3_beginVisit_0 : decode cX3_beginVisit 0 = .ok (.aload_n 0, 1) := by decide +kernel
theorem dX3_beginVisit_1 : decode cX3_beginVisit 1 = .ok (.iload_n 1, 1) := by decide +kernel
theorem dX3_beginVisit_2 : decode cX3_beginVisit 2 = .ok (.putfield 38, 3) := by decide +kernel
theorem dX3_beginVisit_5 : decode cX3_beginVisit 5 = .ok (.aload_n 0, 1) := by decide +kernel
theorem dX3_beginVisit_6 : decode cX3_beginVisit 6 = .ok (.iconst 3, 1) := by decide +kernel
theorem dX3_beginVisit_7 : decode cX3_beginVisit 7 = .ok (.putfield 41, 3) := by decide +kernel
theorem dX3_beginVisit_10 : decode cX3_beginVisit 10 = .ok (.aload_n 0, 1) := by decide +kernel
theorem dX3_beginVisit_11 : decode cX3_beginVisit 11 = .ok (.aload_n 0, 1) := by decide +kernel
theorem dX3_beginVisit_12 : decode cX3_beginVisit 12 = .ok (.getfield 12, 3) := by decide +kernel
theorem dX3_beginVisit_15 : decode cX3_beginVisit 15 = .ok (.iload_n 1, 1) := by decide +kernel
theorem dX3_beginVisit_16 : decode cX3_beginVisit 16 = .ok (.aaload, 1) := by decide +kernel
theorem dX3_beginVisit_17 : decode cX3_beginVisit 17 = .ok (.getfield 47, 3) := by decide +kernel
theorem dX3_beginVisit_20 : decode cX3_beginVisit 20 = .ok (.putfield 44, 3) := by decide +kernel
theorem dX3_beginVisit_23 : decode cX3_beginVisit 23 = .ok (.return_, 1) := by decide +kernel
theorem dX3_restOfThrower_0 : decode cX3_restOfThrower 0 = .ok (.aload_n 0, 1) := by decide +kernel
theorem dX3_restOfThrower_1 : decode cX3_restOfThrower 1 = .ok (.getfield 12, 3) := by decide +kernel
theorem dX3_restOfThrower_4 : decode cX3_restOfThrower 4 = .ok (.aload_n 0, 1) := by decide +kernel
theorem dX3_restOfThrower_5 : decode cX3_restOfThrower 5 = .ok (.getfield 38, 3) := by decide +kernel
theorem dX3_restOfThrower_8 : decode cX3_restOfThrower 8 = .ok (.aaload, 1) := by decide +kernel
theorem dX3_restOfThrower_9 : decode cX3_restOfThrower 9 = .ok (.getfield 47, 3) := by decide +kernel
theorem dX3_restOfThrower_12 : decode cX3_restOfThrower 12 = .ok (.ireturn, 1) := by decide +kernel
theorem dX3_legsOfBoth_0 : decode cX3_legsOfBoth 0 = .ok (.aload_n 0, 1) := by decide +kernel
theorem dX3_legsOfBoth_1 : decode cX3_legsOfBoth 1 = .ok (.getfield 12, 3) := by decide +kernel
theorem dX3_legsOfBoth_4 : decode cX3_legsOfBoth 4 = .ok (.iconst 0, 1) := by decide +kernel
theorem dX3_legsOfBoth_5 : decode cX3_legsOfBoth 5 = .ok (.aaload, 1) := by decide +kernel
theorem dX3_legsOfBoth_6 : decode cX3_legsOfBoth 6 = .ok (.getfield 54, 3) := by decide +kernel
theorem dX3_legsOfBoth_9 : decode cX3_legsOfBoth 9 = .ok (.aload_n 0, 1) := by decide +kernel
theorem dX3_legsOfBoth_10 : decode cX3_legsOfBoth 10 = .ok (.getfield 12, 3) := by decide +kernel
theorem dX3_legsOfBoth_13 : decode cX3_legsOfBoth 13 = .ok (.iconst 1, 1) := by decide +kernel
theorem dX3_legsOfBoth_14 : decode cX3_legsOfBoth 14 = .ok (.aaload, 1) := by decide +kernel
theorem dX3_legsOfBoth_15 : decode cX3_legsOfBoth 15 = .ok (.getfield 54, 3) := by decide +kernel
theorem dX3_legsOfBoth_18 : decode cX3_legsOfBoth 18 = .ok (.iadd, 1) := by decide +kernel
theorem dX3_legsOfBoth_19 : decode cX3_legsOfBoth 19 = .ok (.ireturn, 1) := by decide +kernel
theorem dX3_hasRestOfOne_0 : decode cX3_hasRestOfOne 0 = .ok (.aload_n 0, 1) := by decide +kernel
theorem dX3_hasRestOfOne_1 : decode cX3_hasRestOfOne 1 = .ok (.getfield 12, 3) := by decide +kernel
theorem dX3_hasRestOfOne_4 : decode cX3_hasRestOfOne 4 = .ok (.iconst 0, 1) := by decide +kernel
theorem dX3_hasRestOfOne_5 : decode cX3_hasRestOfOne 5 = .ok (.aaload, 1) := by decide +kernel
theorem dX3_hasRestOfOne_6 : decode cX3_hasRestOfOne 6 = .ok (.getfield 47, 3) := by decide +kernel
theorem dX3_hasRestOfOne_9 : decode cX3_hasRestOfOne 9 = .ok (.iconst 1, 1) := by decide +kernel
theorem dX3_hasRestOfOne_10 : decode cX3_hasRestOfOne 10 = .ok (.if_icmp .eq 24, 3) := by decide +kernel
theorem dX3_hasRestOfOne_13 : decode cX3_hasRestOfOne 13 = .ok (.aload_n 0, 1) := by decide +kernel
theorem dX3_hasRestOfOne_14 : decode cX3_hasRestOfOne 14 = .ok (.getfield 12, 3) := by decide +kernel
theorem dX3_hasRestOfOne_17 : decode cX3_hasRestOfOne 17 = .ok (.iconst 1, 1) := by decide +kernel
theorem dX3_hasRestOfOne_18 : decode cX3_hasRestOfOne 18 = .ok (.aaload, 1) := by decide +kernel
theorem dX3_hasRestOfOne_19 : decode cX3_hasRestOfOne 19 = .ok (.getfield 47, 3) := by decide +kernel
theorem dX3_hasRestOfOne_22 : decode cX3_hasRestOfOne 22 = .ok (.iconst 1, 1) := by decide +kernel
theorem dX3_hasRestOfOne_23 : decode cX3_hasRestOfOne 23 = .ok (.if_icmp .eq 11, 3) := by decide +kernel
theorem dX3_hasRestOfOne_26 : decode cX3_hasRestOfOne 26 = .ok (.aload_n 0, 1) := by decide +kernel
theorem dX3_hasRestOfOne_27 : decode cX3_hasRestOfOne 27 = .ok (.getfield 44, 3) := by decide +kernel
theorem dX3_hasRestOfOne_30 : decode cX3_hasRestOfOne 30 = .ok (.iconst 1, 1) := by decide +kernel
theorem dX3_hasRestOfOne_31 : decode cX3_hasRestOfOne 31 = .ok (.if_icmp .ne 7, 3) := by decide +kernel
theorem dX3_hasRestOfOne_34 : decode cX3_hasRestOfOne 34 = .ok (.iconst 1, 1) := by decide +kernel
theorem dX3_hasRestOfOne_35 : decode cX3_hasRestOfOne 35 = .ok (.goto 4, 3) := by decide +kernel
theorem dX3_hasRestOfOne_38 : decode cX3_hasRestOfOne 38 = .ok (.iconst 0, 1) := by decide +kernel
theorem dX3_hasRestOfOne_39 : decode cX3_hasRestOfOne 39 = .ok (.ireturn, 1) := by decide +kernel
set_option maxRecDepth 20000 in
theorem ggX3_land_X3_begin : GoodIn wsX3_land wsX3_begin := goodIn_r _ [14, 1, 15, 6, 9, 16, 17, 18, 13, 19, 2, 7, 3, 20, 21, 22, 23, 24, 25, 26, 27, 28, 29, 30, 31, 32, 33] rfl (by decide +kernel)
set_option maxRecDepth 20000 in
theorem gX3_land_X3_begin : GoodIn wsX3_land (wsV RX3 28 RX3 yX3_begin wsX3_begin) := goodIn_app (goodIn_of _ (by decide +kernel)) ggX3_land_X3_begin
set_option maxRecDepth 20000 in
theorem ggX3_land_X3_beginVisit : GoodIn wsX3_land wsX3_beginVisit := goodIn_r _ [19, 2, 7, 1, 6, 3, 20, 21, 22, 23, 24, 25, 26, 27, 28, 29, 30, 31, 32, 33] rfl (by decide +kernel)
set_option maxRecDepth 20000 in
theorem gX3_land_X3_beginVisit : GoodIn wsX3_land (wsV RX3 50 RX3 yX3_beginVisit wsX3_beginVisit) := goodIn_app (goodIn_of _ (by decide +kernel)) ggX3_land_X3_beginVisit
theorem dX3_land_0 : decode cX3_land 0 = .ok (.aload_n 0, 1) := by decide +kernel
theorem dX3_land_1 : decode cX3_land 1 = .ok (.getfield 12, 3) := by decide +kernel
theorem dX3_land_4 : decode cX3_land 4 = .ok (.aload_n 0, 1) := by decide +kernel
theorem dX3_land_5 : decode cX3_land 5 = .ok (.getfield 38, 3) := by decide +kernel
theorem dX3_land_8 : decode cX3_land 8 = .ok (.aaload, 1) := by decide +kernel
theorem dX3_land_9 : decode cX3_land 9 = .ok (.astore_n 2, 1) := by decide +kernel
theorem dX3_land_10 : decode cX3_land 10 = .ok (.iload_n 1, 1) := by decide +kernel
theorem dX3_land_11 : decode cX3_land 11 = .ok (.bipush (-5), 2) := by decide +kernel
theorem dX3_land_13 : decode cX3_land 13 = .ok (.if_icmp .ne 10, 3) := by decide +kernel
theorem dX3_land_16 : decode cX3_land 16 = .ok (.aload_n 0, 1) := by decide +kernel
theorem dX3_land_17 : decode cX3_land 17 = .ok (.getfield 44, 3) := by decide +kernel
theorem dX3_land_20 : decode cX3_land 20 = .ok (.goto 4, 3) := by decide +kernel
theorem dX3_land_23 : decode cX3_land 23 = .ok (.iload_n 1, 1) := by decide +kernel
theorem dX3_land_24 : decode cX3_land 24 = .ok (.istore_n 3, 1) := by decide +kernel
theorem dX3_land_25 : decode cX3_land 25 = .ok (.aload_n 2, 1) := by decide +kernel
theorem dX3_land_26 : decode cX3_land 26 = .ok (.dup, 1) := by decide +kernel
theorem dX3_land_27 : decode cX3_land 27 = .ok (.getfield 57, 3) := by decide +kernel
theorem dX3_land_30 : decode cX3_land 30 = .ok (.iconst 1, 1) := by decide +kernel
theorem dX3_land_31 : decode cX3_land 31 = .ok (.iadd, 1) := by decide +kernel
theorem dX3_land_32 : decode cX3_land 32 = .ok (.putfield 57, 3) := by decide +kernel
theorem dX3_land_35 : decode cX3_land 35 = .ok (.aload_n 2, 1) := by decide +kernel
theorem dX3_land_36 : decode cX3_land 36 = .ok (.dup, 1) := by decide +kernel
theorem dX3_land_37 : decode cX3_land 37 = .ok (.getfield 60, 3) := by decide +kernel
theorem dX3_land_40 : decode cX3_land 40 = .ok (.aload_n 2, 1) := by decide +kernel
theorem dX3_land_41 : decode cX3_land 41 = .ok (.getfield 47, 3) := by decide +kernel
theorem dX3_land_44 : decode cX3_land 44 = .ok (.iload_n 3, 1) := by decide +kernel
theorem dX3_land_45 : decode cX3_land 45 = .ok (.isub, 1) := by decide +kernel
theorem dX3_land_46 : decode cX3_land 46 = .ok (.iadd, 1) := by decide +kernel
theorem dX3_land_47 : decode cX3_land 47 = .ok (.putfield 60, 3) := by decide +kernel
theorem dX3_land_50 : decode cX3_land 50 = .ok (.aload_n 2, 1) := by decide +kernel
theorem dX3_land_51 : decode cX3_land 51 = .ok (.iload_n 3, 1) := by decide +kernel
theorem dX3_land_52 : decode cX3_land 52 = .ok (.putfield 47, 3) := by decide +kernel
theorem dX3_land_55 : decode cX3_land 55 = .ok (.aload_n 0, 1) := by decide +kernel
theorem dX3_land_56 : decode cX3_land 56 = .ok (.dup, 1) := by decide +kernel
theorem dX3_land_57 : decode cX3_land 57 = .ok (.getfield 41, 3) := by decide +kernel
theorem dX3_land_60 : decode cX3_land 60 = .ok (.iconst 1, 1) := by decide +kernel
theorem dX3_land_61 : decode cX3_land 61 = .ok (.isub, 1) := by decide +kernel
theorem dX3_land_62 : decode cX3_land 62 = .ok (.putfield 41, 3) := by decide +kernel
theorem dX3_land_65 : decode cX3_land 65 = .ok (.iload_n 1, 1) := by decide +kernel
theorem dX3_land_66 : decode cX3_land 66 = .ok (.ifCond .ne 30, 3) := by decide +kernel
theorem dX3_land_69 : decode cX3_land 69 = .ok (.aload_n 2, 1) := by decide +kernel
theorem dX3_land_70 : decode cX3_land 70 = .ok (.dup, 1) := by decide +kernel
theorem dX3_land_71 : decode cX3_land 71 = .ok (.getfield 54, 3) := by decide +kernel
theorem dX3_land_74 : decode cX3_land 74 = .ok (.iconst 1, 1) := by decide +kernel
theorem dX3_land_75 : decode cX3_land 75 = .ok (.iadd, 1) := by decide +kernel
theorem dX3_land_76 : decode cX3_land 76 = .ok (.putfield 54, 3) := by decide +kernel
theorem dX3_land_79 : decode cX3_land 79 = .ok (.aload_n 0, 1) := by decide +kernel
theorem dX3_land_80 : decode cX3_land 80 = .ok (.iconst 1, 1) := by decide +kernel
theorem dX3_land_81 : decode cX3_land 81 = .ok (.aload_n 0, 1) := by decide +kernel
theorem dX3_land_82 : decode cX3_land 82 = .ok (.getfield 35, 3) := by decide +kernel
theorem dX3_land_85 : decode cX3_land 85 = .ok (.isub, 1) := by decide +kernel
theorem dX3_land_86 : decode cX3_land 86 = .ok (.putfield 35, 3) := by decide +kernel
theorem dX3_land_89 : decode cX3_land 89 = .ok (.aload_n 0, 1) := by decide +kernel
theorem dX3_land_90 : decode cX3_land 90 = .ok (.invokevirtual 28, 3) := by decide +kernel
theorem dX3_land_93 : decode cX3_land 93 = .ok (.goto 26, 3) := by decide +kernel
theorem dX3_land_96 : decode cX3_land 96 = .ok (.iload_n 1, 1) := by decide +kernel
theorem dX3_land_97 : decode cX3_land 97 = .ok (.bipush (-5), 2) := by decide +kernel
theorem dX3_land_99 : decode cX3_land 99 = .ok (.if_icmp .eq 10, 3) := by decide +kernel
theorem dX3_land_102 : decode cX3_land 102 = .ok (.aload_n 0, 1) := by decide +kernel
theorem dX3_land_103 : decode cX3_land 103 = .ok (.getfield 41, 3) := by decide +kernel
theorem dX3_land_106 : decode cX3_land 106 = .ok (.ifCond .ne 13, 3) := by decide +kernel
theorem dX3_land_109 : decode cX3_land 109 = .ok (.aload_n 0, 1) := by decide +kernel
theorem dX3_land_110 : decode cX3_land 110 = .ok (.iconst 1, 1) := by decide +kernel
theorem dX3_land_111 : decode cX3_land 111 = .ok (.aload_n 0, 1) := by decide +kernel
theorem dX3_land_112 : decode cX3_land 112 = .ok (.getfield 38, 3) := by decide +kernel
theorem dX3_land_115 : decode cX3_land 115 = .ok (.isub, 1) := by decide +kernel
theorem dX3_land_116 : decode cX3_land 116 = .ok (.invokevirtual 50, 3) := by decide +kernel
theorem dX3_land_119 : decode cX3_land 119 = .ok (.iload_n 1, 1) := by decide +kernel
theorem dX3_land_120 : decode cX3_land 120 = .ok (.ireturn, 1) := by decide +kernel
theorem dX3_draw_0 : decode cX3_draw 0 = .ok (.aload_n 0, 1) := by decide +kernel
theorem dX3_draw_1 : decode cX3_draw 1 = .ok (.aload_n 0, 1) := by decide +kernel
theorem dX3_draw_2 : decode cX3_draw 2 = .ok (.getfield 25, 3) := by decide +kernel
theorem dX3_draw_5 : decode cX3_draw 5 = .ok (.ldc 63, 2) := by decide +kernel
theorem dX3_draw_7 : decode cX3_draw 7 = .ok (.imul, 1) := by decide +kernel
theorem dX3_draw_8 : decode cX3_draw 8 = .ok (.sipush 12345, 3) := by decide +kernel
theorem dX3_draw_11 : decode cX3_draw 11 = .ok (.iadd, 1) := by decide +kernel
theorem dX3_draw_12 : decode cX3_draw 12 = .ok (.putfield 25, 3) := by decide +kernel
theorem dX3_draw_15 : decode cX3_draw 15 = .ok (.aload_n 0, 1) := by decide +kernel
theorem dX3_draw_16 : decode cX3_draw 16 = .ok (.getfield 25, 3) := by decide +kernel
theorem dX3_draw_19 : decode cX3_draw 19 = .ok (.bipush 16, 2) := by decide +kernel
theorem dX3_draw_21 : decode cX3_draw 21 = .ok (.iushr, 1) := by decide +kernel
theorem dX3_draw_22 : decode cX3_draw 22 = .ok (.sipush 1000, 3) := by decide +kernel
theorem dX3_draw_25 : decode cX3_draw 25 = .ok (.irem, 1) := by decide +kernel
theorem dX3_draw_26 : decode cX3_draw 26 = .ok (.ireturn, 1) := by decide +kernel
set_option maxRecDepth 20000 in
theorem ggX4_init_X4_fillOdds : GoodIn wsX4_init wsX4_fillOdds := goodIn_r _ [23, 18, 4, 5, 7, 9, 24, 25, 26, 27, 28, 29, 30, 31, 32, 45, 46, 47, 48, 49, 50, 51, 52, 53, 54, 55, 56, 57, 58, 59, 60, 61] rfl (by decide +kernel)
set_option maxRecDepth 20000 in
theorem gX4_init_X4_fillOdds : GoodIn wsX4_init (wsV RX4 53 RX4 yX4_fillOdds wsX4_fillOdds) := goodIn_app (goodIn_of _ (by decide +kernel)) ggX4_init_X4_fillOdds
set_option maxRecDepth 20000 in
theorem ggX4_init_X4_forget : GoodIn wsX4_init wsX4_forget := goodIn_r _ [36, 17, 37, 38, 39, 40, 41, 42, 43, 44, 45, 46, 47, 48, 49, 50, 51, 52, 53, 54, 55, 56, 57, 62, 63, 64] rfl (by decide +kernel)
set_option maxRecDepth 20000 in
theorem gX4_init_X4_forget : GoodIn wsX4_init (wsV RX4 56 RX4 yX4_forget wsX4_forget) := goodIn_app (goodIn_of _ (by decide +kernel)) ggX4_init_X4_forget
theorem dX4_init_0 : decode cX4_init 0 = .ok (.aload_n 0, 1) := by decide +kernel
theorem dX4_init_1 : decode cX4_init 1 = .ok (.invokespecial 3, 3) := by decide +kernel
theorem dX4_init_4 : decode cX4_init 4 = .ok (.aload_n 0, 1) := by decide +kernel
theorem dX4_init_5 : decode cX4_init 5 = .ok (.bipush 60, 2) := by decide +kernel
theorem dX4_init_7 : decode cX4_init 7 = .ok (.putfield 9, 3) := by decide +kernel
theorem dX4_init_10 : decode cX4_init 10 = .ok (.aload_n 0, 1) := by decide +kernel
theorem dX4_init_11 : decode cX4_init 11 = .ok (.bipush 80, 2) := by decide +kernel
theorem dX4_init_13 : decode cX4_init 13 = .ok (.putfield 15, 3) := by decide +kernel
theorem dX4_init_16 : decode cX4_init 16 = .ok (.aload_n 0, 1) := by decide +kernel
theorem dX4_init_17 : decode cX4_init 17 = .ok (.sipush 315, 3) := by decide +kernel
theorem dX4_init_20 : decode cX4_init 20 = .ok (.newarray .int, 2) := by decide +kernel
theorem dX4_init_22 : decode cX4_init 22 = .ok (.putfield 18, 3) := by decide +kernel
theorem dX4_init_25 : decode cX4_init 25 = .ok (.aload_n 0, 1) := by decide +kernel
theorem dX4_init_26 : decode cX4_init 26 = .ok (.sipush 315, 3) := by decide +kernel
theorem dX4_init_29 : decode cX4_init 29 = .ok (.newarray .double, 2) := by decide +kernel
theorem dX4_init_31 : decode cX4_init 31 = .ok (.putfield 22, 3) := by decide +kernel
theorem dX4_init_34 : decode cX4_init 34 = .ok (.aload_n 0, 1) := by decide +kernel
theorem dX4_init_35 : decode cX4_init 35 = .ok (.bipush 63, 2) := by decide +kernel
theorem dX4_init_37 : decode cX4_init 37 = .ok (.newarray .int, 2) := by decide +kernel
theorem dX4_init_39 : decode cX4_init 39 = .ok (.putfield 26, 3) := by decide +kernel
theorem dX4_init_42 : decode cX4_init 42 = .ok (.aload_n 0, 1) := by decide +kernel
theorem dX4_init_43 : decode cX4_init 43 = .ok (.sipush 502, 3) := by decide +kernel
theorem dX4_init_46 : decode cX4_init 46 = .ok (.newarray .double, 2) := by decide +kernel
theorem dX4_init_48 : decode cX4_init 48 = .ok (.putfield 29, 3) := by decide +kernel
theorem dX4_init_51 : decode cX4_init 51 = .ok (.aload_n 0, 1) := by decide +kernel
theorem dX4_init_52 : decode cX4_init 52 = .ok (.sipush 502, 3) := by decide +kernel
theorem dX4_init_55 : decode cX4_init 55 = .ok (.newarray .int, 2) := by decide +kernel
theorem dX4_init_57 : decode cX4_init 57 = .ok (.putfield 32, 3) := by decide +kernel
theorem dX4_init_60 : decode cX4_init 60 = .ok (.aload_n 0, 1) := by decide +kernel
theorem dX4_init_61 : decode cX4_init 61 = .ok (.iconst 4, 1) := by decide +kernel
theorem dX4_init_62 : decode cX4_init 62 = .ok (.sipush 181, 3) := by decide +kernel
theorem dX4_init_65 : decode cX4_init 65 = .ok (.multianewarray 35 2, 4) := by decide +kernel
theorem dX4_init_69 : decode cX4_init 69 = .ok (.putfield 37, 3) := by decide +kernel
theorem dX4_init_72 : decode cX4_init 72 = .ok (.aload_n 0, 1) := by decide +kernel
theorem dX4_init_73 : decode cX4_init 73 = .ok (.iconst 4, 1) := by decide +kernel
theorem dX4_init_74 : decode cX4_init 74 = .ok (.sipush 181, 3) := by decide +kernel
theorem dX4_init_77 : decode cX4_init 77 = .ok (.multianewarray 40 2, 4) := by decide +kernel
theorem dX4_init_81 : decode cX4_init 81 = .ok (.putfield 42, 3) := by decide +kernel
theorem dX4_init_84 : decode cX4_init 84 = .ok (.aload_n 0, 1) := by decide +kernel
theorem dX4_init_85 : decode cX4_init 85 = .ok (.aload_n 1, 1) := by decide +kernel
theorem dX4_init_86 : decode cX4_init 86 = .ok (.putfield 45, 3) := by decide +kernel
theorem dX4_init_89 : decode cX4_init 89 = .ok (.aload_n 0, 1) := by decide +kernel
theorem dX4_init_90 : decode cX4_init 90 = .ok (.aload_n 2, 1) := by decide +kernel
theorem dX4_init_91 : decode cX4_init 91 = .ok (.putfield 49, 3) := by decide +kernel
theorem dX4_init_94 : decode cX4_init 94 = .ok (.aload_n 0, 1) := by decide +kernel
theorem dX4_init_95 : decode cX4_init 95 = .ok (.invokevirtual 53, 3) := by decide +kernel
theorem dX4_init_98 : decode cX4_init 98 = .ok (.iconst 0, 1) := by decide +kernel
theorem dX4_init_99 : decode cX4_init 99 = .ok (.istore_n 3, 1) := by decide +kernel
theorem dX4_init_100 : decode cX4_init 100 = .ok (.iload_n 3, 1) := by decide +kernel
theorem dX4_init_101 : decode cX4_init 101 = .ok (.iconst 3, 1) := by decide +kernel
theorem dX4_init_102 : decode cX4_init 102 = .ok (.if_icmp .gt 18, 3) := by decide +kernel
theorem dX4_init_105 : decode cX4_init 105 = .ok (.aload_n 0, 1) := by decide +kernel
theorem dX4_init_106 : decode cX4_init 106 = .ok (.getfield 37, 3) := by decide +kernel
theorem dX4_init_109 : decode cX4_init 109 = .ok (.iload_n 3, 1) := by decide +kernel
theorem dX4_init_110 : decode cX4_init 110 = .ok (.aaload, 1) := by decide +kernel
theorem dX4_init_111 : decode cX4_init 111 = .ok (.iconst 0, 1) := by decide +kernel
theorem dX4_init_112 : decode cX4_init 112 = .ok (.dconst 1, 1) := by decide +kernel
theorem dX4_init_113 : decode cX4_init 113 = .ok (.dastore, 1) := by decide +kernel
theorem dX4_init_114 : decode cX4_init 114 = .ok (.iinc 3 1, 3) := by decide +kernel
theorem dX4_init_117 : decode cX4_init 117 = .ok (.goto (-17), 3) := by decide +kernel
theorem dX4_init_120 : decode cX4_init 120 = .ok (.aload_n 0, 1) := by decide +kernel
theorem dX4_init_121 : decode cX4_init 121 = .ok (.invokevirtual 56, 3) := by decide +kernel
theorem dX4_init_124 : decode cX4_init 124 = .ok (.return_, 1) := by decide +kernel
set_option maxRecDepth 20000 in
theorem ggX4_become_X4_fillOdds : GoodIn wsX4_become wsX4_fillOdds := goodIn_r _ [7, 8, 1, 2, 9, 10, 11, 12, 13, 14, 15, 16, 17, 18, 19, 20, 21, 22, 23, 24, 25, 26, 27, 28, 29, 30, 31, 32, 33, 34, 35, 36] rfl (by decide +kernel)
set_option maxRecDepth 20000 in
theorem gX4_become_X4_fillOdds : GoodIn wsX4_become (wsV RX4 53 RX4 yX4_fillOdds wsX4_fillOdds) := goodIn_app (goodIn_of _ (by decide +kernel)) ggX4_become_X4_fillOdds
theorem dX4_become_0 : decode cX4_become 0 = .ok (.iload_n 1, 1) := by decide +kernel
theorem dX4_become_1 : decode cX4_become 1 = .ok (.aload_n 0, 1) := by decide +kernel
theorem dX4_become_2 : decode cX4_become 2 = .ok (.getfield 9, 3) := by decide +kernel
theorem dX4_become_5 : decode cX4_become 5 = .ok (.if_icmp .ne 13, 3) := by decide +kernel
theorem dX4_become_8 : decode cX4_become 8 = .ok (.iload_n 2, 1) := by decide +kernel
theorem dX4_become_9 : decode cX4_become 9 = .ok (.aload_n 0, 1) := by decide +kernel
theorem dX4_become_10 : decode cX4_become 10 = .ok (.getfield 15, 3) := by decide +kernel
theorem dX4_become_13 : decode cX4_become 13 = .ok (.if_icmp .ne 5, 3) := by decide +kernel
theorem dX4_become_16 : decode cX4_become 16 = .ok (.iconst 0, 1) := by decide +kernel
theorem dX4_become_17 : decode cX4_become 17 = .ok (.ireturn, 1) := by decide +kernel
theorem dX4_become_18 : decode cX4_become 18 = .ok (.aload_n 0, 1) := by decide +kernel
theorem dX4_become_19 : decode cX4_become 19 = .ok (.iload_n 1, 1) := by decide +kernel
theorem dX4_become_20 : decode cX4_become 20 = .ok (.putfield 9, 3) := by decide +kernel
theorem dX4_become_23 : decode cX4_become 23 = .ok (.aload_n 0, 1) := by decide +kernel
theorem dX4_become_24 : decode cX4_become 24 = .ok (.iload_n 2, 1) := by decide +kernel
theorem dX4_become_25 : decode cX4_become 25 = .ok (.putfield 15, 3) := by decide +kernel
theorem dX4_become_28 : decode cX4_become 28 = .ok (.aload_n 0, 1) := by decide +kernel
theorem dX4_become_29 : decode cX4_become 29 = .ok (.invokevirtual 53, 3) := by decide +kernel
theorem dX4_become_32 : decode cX4_become 32 = .ok (.iconst 1, 1) := by decide +kernel
theorem dX4_become_33 : decode cX4_become 33 = .ok (.ireturn, 1) := by decide +kernel
set_option maxRecDepth 20000 in
theorem ggX4_fillOdds_X1_fillWeights : GoodIn wsX4_fillOdds wsX1_fillWeights := goodIn_r _ [11, 12, 13, 14, 28, 29, 30, 31] rfl (by decide +kernel)
set_option maxRecDepth 20000 in
theorem gX4_fillOdds_X1_fillWeights : GoodIn wsX4_fillOdds (wsV RX4 59 RX1 yX1_fillWeights wsX1_fillWeights) := goodIn_app (goodIn_of _ (by decide +kernel)) ggX4_fillOdds_X1_fillWeights
theorem dX4_fillOdds_0 : decode cX4_fillOdds 0 = .ok (.aload_n 0, 1) := by decide +kernel
theorem dX4_fillOdds_1 : decode cX4_fillOdds 1 = .ok (.getfield 49, 3) := by decide +kernel
theorem dX4_fillOdds_4 : decode cX4_fillOdds 4 = .ok (.aload_n 0, 1) := by decide +kernel
theorem dX4_fillOdds_5 : decode cX4_fillOdds 5 = .ok (.getfield 9, 3) := by decide +kernel
theorem dX4_fillOdds_8 : decode cX4_fillOdds 8 = .ok (.aload_n 0, 1) := by decide +kernel
theorem dX4_fillOdds_9 : decode cX4_fillOdds 9 = .ok (.getfield 15, 3) := by decide +kernel
theorem dX4_fillOdds_12 : decode cX4_fillOdds 12 = .ok (.aload_n 0, 1) := by decide +kernel
theorem dX4_fillOdds_13 : decode cX4_fillOdds 13 = .ok (.getfield 18, 3) := by decide +kernel
theorem dX4_fillOdds_16 : decode cX4_fillOdds 16 = .ok (.invokevirtual 59, 3) := by decide +kernel
theorem dX4_fillOdds_19 : decode cX4_fillOdds 19 = .ok (.iconst 0, 1) := by decide +kernel
theorem dX4_fillOdds_20 : decode cX4_fillOdds 20 = .ok (.istore_n 1, 1) := by decide +kernel
theorem dX4_fillOdds_21 : decode cX4_fillOdds 21 = .ok (.iload_n 1, 1) := by decide +kernel
theorem dX4_fillOdds_22 : decode cX4_fillOdds 22 = .ok (.aload_n 0, 1) := by decide +kernel
theorem dX4_fillOdds_23 : decode cX4_fillOdds 23 = .ok (.getfield 18, 3) := by decide +kernel
theorem dX4_fillOdds_26 : decode cX4_fillOdds 26 = .ok (.arraylength, 1) := by decide +kernel
theorem dX4_fillOdds_27 : decode cX4_fillOdds 27 = .ok (.if_icmp .ge 26, 3) := by decide +kernel
theorem dX4_fillOdds_30 : decode cX4_fillOdds 30 = .ok (.aload_n 0, 1) := by decide +kernel
theorem dX4_fillOdds_31 : decode cX4_fillOdds 31 = .ok (.getfield 22, 3) := by decide +kernel
theorem dX4_fillOdds_34 : decode cX4_fillOdds 34 = .ok (.iload_n 1, 1) := by decide +kernel
theorem dX4_fillOdds_35 : decode cX4_fillOdds 35 = .ok (.aload_n 0, 1) := by decide +kernel
theorem dX4_fillOdds_36 : decode cX4_fillOdds 36 = .ok (.getfield 18, 3) := by decide +kernel
theorem dX4_fillOdds_39 : decode cX4_fillOdds 39 = .ok (.iload_n 1, 1) := by decide +kernel
theorem dX4_fillOdds_40 : decode cX4_fillOdds 40 = .ok (.iaload, 1) := by decide +kernel
theorem dX4_fillOdds_41 : decode cX4_fillOdds 41 = .ok (.i2d, 1) := by decide +kernel
theorem dX4_fillOdds_42 : decode cX4_fillOdds 42 = .ok (.ldc2_w 65, 3) := by decide +kernel
theorem dX4_fillOdds_45 : decode cX4_fillOdds 45 = .ok (.ddiv, 1) := by decide +kernel
theorem dX4_fillOdds_46 : decode cX4_fillOdds 46 = .ok (.dastore, 1) := by decide +kernel
theorem dX4_fillOdds_47 : decode cX4_fillOdds 47 = .ok (.iinc 1 1, 3) := by decide +kernel
theorem dX4_fillOdds_50 : decode cX4_fillOdds 50 = .ok (.goto (-29), 3) := by decide +kernel
theorem dX4_fillOdds_53 : decode cX4_fillOdds 53 = .ok (.return_, 1) := by decide +kernel
set_option maxRecDepth 20000 in
theorem ggX4_forget_X9_leastRest : GoodIn wsX4_forget wsX9_leastRest := goodIn_r _ [8, 9, 23, 24, 25] rfl (by decide +kernel)
set_option maxRecDepth 20000 in
theorem gX4_forget_X9_leastRest : GoodIn wsX4_forget (wsV RX4 67 RX9 yX9_leastRest wsX9_leastRest) := goodIn_app (goodIn_of _ (by decide +kernel)) ggX4_forget_X9_leastRest
theorem dX4_forget_0 : decode cX4_forget 0 = .ok (.aload_n 0, 1) := by decide +kernel
theorem dX4_forget_1 : decode cX4_forget 1 = .ok (.aload_n 0, 1) := by decide +kernel
theorem dX4_forget_2 : decode cX4_forget 2 = .ok (.getfield 45, 3) := by decide +kernel
theorem dX4_forget_5 : decode cX4_forget 5 = .ok (.invokevirtual 67, 3) := by decide +kernel
theorem dX4_forget_8 : decode cX4_forget 8 = .ok (.iconst 1, 1) := by decide +kernel
theorem dX4_forget_9 : decode cX4_forget 9 = .ok (.isub, 1) := by decide +kernel
theorem dX4_forget_10 : decode cX4_forget 10 = .ok (.putfield 73, 3) := by decide +kernel
theorem dX4_forget_13 : decode cX4_forget 13 = .ok (.aload_n 0, 1) := by decide +kernel
theorem dX4_forget_14 : decode cX4_forget 14 = .ok (.aload_n 0, 1) := by decide +kernel
theorem dX4_forget_15 : decode cX4_forget 15 = .ok (.getfield 45, 3) := by decide +kernel
theorem dX4_forget_18 : decode cX4_forget 18 = .ok (.invokevirtual 67, 3) := by decide +kernel
theorem dX4_forget_21 : decode cX4_forget 21 = .ok (.iconst 1, 1) := by decide +kernel
theorem dX4_forget_22 : decode cX4_forget 22 = .ok (.isub, 1) := by decide +kernel
theorem dX4_forget_23 : decode cX4_forget 23 = .ok (.putfield 76, 3) := by decide +kernel
theorem dX4_forget_26 : decode cX4_forget 26 = .ok (.return_, 1) := by decide +kernel
set_option maxRecDepth 20000 in
theorem ggX4_dartsAt_X4_learnDarts : GoodIn wsX4_dartsAt wsX4_learnDarts := goodIn_r _ [6, 7, 8, 9, 10, 11, 12, 13, 14, 15, 16, 17, 18, 19, 20, 21, 22, 23, 24, 5, 25, 1, 26, 27, 28, 29, 30, 31, 32, 33, 34, 35, 36, 37, 38, 39, 40, 41, 42, 43, 44, 45, 46, 47, 48, 49, 50, 51, 52, 53, 54, 55, 56] rfl (by decide +kernel)
set_option maxRecDepth 20000 in
theorem gX4_dartsAt_X4_learnDarts : GoodIn wsX4_dartsAt (wsV RX4 79 RX4 yX4_learnDarts wsX4_learnDarts) := goodIn_app (goodIn_of _ (by decide +kernel)) ggX4_dartsAt_X4_learnDarts
theorem dX4_dartsAt_0 : decode cX4_dartsAt 0 = .ok (.aload_n 0, 1) := by decide +kernel
theorem dX4_dartsAt_1 : decode cX4_dartsAt 1 = .ok (.iload_n 1, 1) := by decide +kernel
theorem dX4_dartsAt_2 : decode cX4_dartsAt 2 = .ok (.invokevirtual 79, 3) := by decide +kernel
theorem dX4_dartsAt_5 : decode cX4_dartsAt 5 = .ok (.aload_n 0, 1) := by decide +kernel
theorem dX4_dartsAt_6 : decode cX4_dartsAt 6 = .ok (.getfield 29, 3) := by decide +kernel
theorem dX4_dartsAt_9 : decode cX4_dartsAt 9 = .ok (.iload_n 1, 1) := by decide +kernel
theorem dX4_dartsAt_10 : decode cX4_dartsAt 10 = .ok (.daload, 1) := by decide +kernel
theorem dX4_dartsAt_11 : decode cX4_dartsAt 11 = .ok (.dreturn, 1) := by decide +kernel
set_option maxRecDepth 20000 in
theorem ggX4_aimAt_X4_learnDarts : GoodIn wsX4_aimAt wsX4_learnDarts := goodIn_r _ [6, 7, 8, 9, 10, 11, 12, 13, 14, 15, 16, 17, 18, 19, 20, 21, 22, 23, 24, 5, 25, 26, 1, 27, 28, 29, 30, 31, 32, 33, 34, 35, 36, 37, 38, 39, 40, 41, 42, 43, 44, 45, 46, 47, 48, 49, 50, 51, 52, 53, 54, 55, 56] rfl (by decide +kernel)
set_option maxRecDepth 20000 in
theorem gX4_aimAt_X4_learnDarts : GoodIn wsX4_aimAt (wsV RX4 79 RX4 yX4_learnDarts wsX4_learnDarts) := goodIn_app (goodIn_of _ (by decide +kernel)) ggX4_aimAt_X4_learnDarts
theorem dX4_aimAt_0 : decode cX4_aimAt 0 = .ok (.aload_n 0, 1) := by decide +kernel
theorem dX4_aimAt_1 : decode cX4_aimAt 1 = .ok (.iload_n 1, 1) := by decide +kernel
theorem dX4_aimAt_2 : decode cX4_aimAt 2 = .ok (.invokevirtual 79, 3) := by decide +kernel
theorem dX4_aimAt_5 : decode cX4_aimAt 5 = .ok (.aload_n 0, 1) := by decide +kernel
theorem dX4_aimAt_6 : decode cX4_aimAt 6 = .ok (.getfield 32, 3) := by decide +kernel
theorem dX4_aimAt_9 : decode cX4_aimAt 9 = .ok (.iload_n 1, 1) := by decide +kernel
theorem dX4_aimAt_10 : decode cX4_aimAt 10 = .ok (.iaload, 1) := by decide +kernel
theorem dX4_aimAt_11 : decode cX4_aimAt 11 = .ok (.ireturn, 1) := by decide +kernel
set_option maxRecDepth 20000 in
theorem ggX4_learnDarts_X9_restsBehind : GoodIn wsX4_learnDarts wsX9_restsBehind := goodIn_r _ [8, 9, 10, 11, 7, 12, 13, 14, 15, 46, 47, 48] rfl (by decide +kernel)
set_option maxRecDepth 20000 in
theorem gX4_learnDarts_X9_restsBehind : GoodIn wsX4_learnDarts (wsV RX4 83 RX9 yX9_restsBehind wsX9_restsBehind) := goodIn_app (goodIn_of _ (by decide +kernel)) ggX4_learnDarts_X9_restsBehind
set_option maxRecDepth 20000 in
theorem ggX4_learnDarts_X4_chooseAim : GoodIn wsX4_learnDarts wsX4_chooseAim := goodIn_r _ [20, 21, 22, 23, 24, 25, 19, 26, 27, 28, 29, 3, 30, 31, 32, 33, 34, 35, 36, 37, 38, 39, 40, 41, 42, 43, 44, 45, 49, 50, 51, 52] rfl (by decide +kernel)
set_option maxRecDepth 20000 in
theorem gX4_learnDarts_X4_chooseAim : GoodIn wsX4_learnDarts (wsV RX4 87 RX4 yX4_chooseAim wsX4_chooseAim) := goodIn_app (goodIn_of _ (by decide +kernel)) ggX4_learnDarts_X4_chooseAim
theorem dX4_learnDarts_0 : decode cX4_learnDarts 0 = .ok (.aload_n 0, 1) := by decide +kernel
theorem dX4_learnDarts_1 : decode cX4_learnDarts 1 = .ok (.getfield 73, 3) := by decide +kernel
theorem dX4_learnDarts_4 : decode cX4_learnDarts 4 = .ok (.iconst 1, 1) := by decide +kernel
theorem dX4_learnDarts_5 : decode cX4_learnDarts 5 = .ok (.iadd, 1) := by decide +kernel
theorem dX4_learnDarts_6 : decode cX4_learnDarts 6 = .ok (.istore_n 2, 1) := by decide +kernel
theorem dX4_learnDarts_7 : decode cX4_learnDarts 7 = .ok (.iload_n 2, 1) := by decide +kernel
theorem dX4_learnDarts_8 : decode cX4_learnDarts 8 = .ok (.iload_n 1, 1) := by decide +kernel
theorem dX4_learnDarts_9 : decode cX4_learnDarts 9 = .ok (.if_icmp .gt 31, 3) := by decide +kernel
theorem dX4_learnDarts_12 : decode cX4_learnDarts 12 = .ok (.aload_n 0, 1) := by decide +kernel
theorem dX4_learnDarts_13 : decode cX4_learnDarts 13 = .ok (.getfield 45, 3) := by decide +kernel
theorem dX4_learnDarts_16 : decode cX4_learnDarts 16 = .ok (.iload_n 2, 1) := by decide +kernel
theorem dX4_learnDarts_17 : decode cX4_learnDarts 17 = .ok (.aload_n 0, 1) := by decide +kernel
theorem dX4_learnDarts_18 : decode cX4_learnDarts 18 = .ok (.getfield 26, 3) := by decide +kernel
theorem dX4_learnDarts_21 : decode cX4_learnDarts 21 = .ok (.invokevirtual 83, 3) := by decide +kernel
theorem dX4_learnDarts_24 : decode cX4_learnDarts 24 = .ok (.aload_n 0, 1) := by decide +kernel
theorem dX4_learnDarts_25 : decode cX4_learnDarts 25 = .ok (.iload_n 2, 1) := by decide +kernel
theorem dX4_learnDarts_26 : decode cX4_learnDarts 26 = .ok (.invokevirtual 87, 3) := by decide +kernel
theorem dX4_learnDarts_29 : decode cX4_learnDarts 29 = .ok (.aload_n 0, 1) := by decide +kernel
theorem dX4_learnDarts_30 : decode cX4_learnDarts 30 = .ok (.iload_n 2, 1) := by decide +kernel
theorem dX4_learnDarts_31 : decode cX4_learnDarts 31 = .ok (.putfield 73, 3) := by decide +kernel
theorem dX4_learnDarts_34 : decode cX4_learnDarts 34 = .ok (.iinc 2 1, 3) := by decide +kernel
theorem dX4_learnDarts_37 : decode cX4_learnDarts 37 = .ok (.goto (-30), 3) := by decide +kernel
theorem dX4_learnDarts_40 : decode cX4_learnDarts 40 = .ok (.return_, 1) := by decide +kernel
set_option maxRecDepth 20000 in
theorem ggX4_chooseAim_X4_dartsBy : GoodIn wsX4_chooseAim wsX4_dartsBy := goodIn_r _ [7, 8, 9, 10, 11, 12, 13, 1, 14, 15, 16, 17, 18, 19, 20, 21, 22, 23, 24, 25, 26, 27, 28, 29, 30, 31] rfl (by decide +kernel)
set_option maxRecDepth 20000 in
theorem gX4_chooseAim_X4_dartsBy : GoodIn wsX4_chooseAim (wsV RX4 90 RX4 yX4_dartsBy wsX4_dartsBy) := goodIn_app (goodIn_of _ (by decide +kernel)) ggX4_chooseAim_X4_dartsBy
theorem dX4_chooseAim_0 : decode cX4_chooseAim 0 = .ok (.dconst 0, 1) := by decide +kernel
theorem dX4_chooseAim_1 : decode cX4_chooseAim 1 = .ok (.dstore_n 2, 1) := by decide +kernel
theorem dX4_chooseAim_2 : decode cX4_chooseAim 2 = .ok (.iconst 0, 1) := by decide +kernel
theorem dX4_chooseAim_3 : decode cX4_chooseAim 3 = .ok (.istore 4, 2) := by decide +kernel
theorem dX4_chooseAim_5 : decode cX4_chooseAim 5 = .ok (.iconst 1, 1) := by decide +kernel
theorem dX4_chooseAim_6 : decode cX4_chooseAim 6 = .ok (.istore 5, 2) := by decide +kernel
theorem dX4_chooseAim_8 : decode cX4_chooseAim 8 = .ok (.iload 5, 2) := by decide +kernel
theorem dX4_chooseAim_10 : decode cX4_chooseAim 10 = .ok (.bipush 63, 2) := by decide +kernel
theorem dX4_chooseAim_12 : decode cX4_chooseAim 12 = .ok (.if_icmp .ge 43, 3) := by decide +kernel
theorem dX4_chooseAim_15 : decode cX4_chooseAim 15 = .ok (.aload_n 0, 1) := by decide +kernel
theorem dX4_chooseAim_16 : decode cX4_chooseAim 16 = .ok (.iload 5, 2) := by decide +kernel
theorem dX4_chooseAim_18 : decode cX4_chooseAim 18 = .ok (.invokevirtual 90, 3) := by decide +kernel
theorem dX4_chooseAim_21 : decode cX4_chooseAim 21 = .ok (.dstore 6, 2) := by decide +kernel
theorem dX4_chooseAim_23 : decode cX4_chooseAim 23 = .ok (.dload 6, 2) := by decide +kernel
theorem dX4_chooseAim_25 : decode cX4_chooseAim 25 = .ok (.dconst 0, 1) := by decide +kernel
theorem dX4_chooseAim_26 : decode cX4_chooseAim 26 = .ok (.dcmp .l, 1) := by decide +kernel
theorem dX4_chooseAim_27 : decode cX4_chooseAim 27 = .ok (.ifCond .le 22, 3) := by decide +kernel
theorem dX4_chooseAim_30 : decode cX4_chooseAim 30 = .ok (.iload 4, 2) := by decide +kernel
theorem dX4_chooseAim_32 : decode cX4_chooseAim 32 = .ok (.ifCond .eq 10, 3) := by decide +kernel
theorem dX4_chooseAim_35 : decode cX4_chooseAim 35 = .ok (.dload 6, 2) := by decide +kernel
theorem dX4_chooseAim_37 : decode cX4_chooseAim 37 = .ok (.dload_n 2, 1) := by decide +kernel
theorem dX4_chooseAim_38 : decode cX4_chooseAim 38 = .ok (.dcmp .g, 1) := by decide +kernel
theorem dX4_chooseAim_39 : decode cX4_chooseAim 39 = .ok (.ifCond .ge 10, 3) := by decide +kernel
theorem dX4_chooseAim_42 : decode cX4_chooseAim 42 = .ok (.dload 6, 2) := by decide +kernel
theorem dX4_chooseAim_44 : decode cX4_chooseAim 44 = .ok (.dstore_n 2, 1) := by decide +kernel
theorem dX4_chooseAim_45 : decode cX4_chooseAim 45 = .ok (.iload 5, 2) := by decide +kernel
theorem dX4_chooseAim_47 : decode cX4_chooseAim 47 = .ok (.istore 4, 2) := by decide +kernel
theorem dX4_chooseAim_49 : decode cX4_chooseAim 49 = .ok (.iinc 5 1, 3) := by decide +kernel
theorem dX4_chooseAim_52 : decode cX4_chooseAim 52 = .ok (.goto (-44), 3) := by decide +kernel
theorem dX4_chooseAim_55 : decode cX4_chooseAim 55 = .ok (.aload_n 0, 1) := by decide +kernel
theorem dX4_chooseAim_56 : decode cX4_chooseAim 56 = .ok (.getfield 29, 3) := by decide +kernel
theorem dX4_chooseAim_59 : decode cX4_chooseAim 59 = .ok (.iload_n 1, 1) := by decide +kernel
theorem dX4_chooseAim_60 : decode cX4_chooseAim 60 = .ok (.dload_n 2, 1) := by decide +kernel
theorem dX4_chooseAim_61 : decode cX4_chooseAim 61 = .ok (.dastore, 1) := by decide +kernel
theorem dX4_chooseAim_62 : decode cX4_chooseAim 62 = .ok (.aload_n 0, 1) := by decide +kernel
theorem dX4_chooseAim_63 : decode cX4_chooseAim 63 = .ok (.getfield 32, 3) := by decide +kernel
theorem dX4_chooseAim_66 : decode cX4_chooseAim 66 = .ok (.iload_n 1, 1) := by decide +kernel
theorem dX4_chooseAim_67 : decode cX4_chooseAim 67 = .ok (.iload 4, 2) := by decide +kernel
theorem dX4_chooseAim_69 : decode cX4_chooseAim 69 = .ok (.iastore, 1) := by decide +kernel
theorem dX4_chooseAim_70 : decode cX4_chooseAim 70 = .ok (.return_, 1) := by decide +kernel
theorem dX4_dartsBy_0 : decode cX4_dartsBy 0 = .ok (.dconst 1, 1) := by decide +kernel
theorem dX4_dartsBy_1 : decode cX4_dartsBy 1 = .ok (.dstore_n 2, 1) := by decide +kernel
theorem dX4_dartsBy_2 : decode cX4_dartsBy 2 = .ok (.iconst 0, 1) := by decide +kernel
theorem dX4_dartsBy_3 : decode cX4_dartsBy 3 = .ok (.istore 4, 2) := by decide +kernel
theorem dX4_dartsBy_5 : decode cX4_dartsBy 5 = .ok (.iload_n 1, 1) := by decide +kernel
theorem dX4_dartsBy_6 : decode cX4_dartsBy 6 = .ok (.iconst 5, 1) := by decide +kernel
theorem dX4_dartsBy_7 : decode cX4_dartsBy 7 = .ok (.imul, 1) := by decide +kernel
theorem dX4_dartsBy_8 : decode cX4_dartsBy 8 = .ok (.istore 5, 2) := by decide +kernel
theorem dX4_dartsBy_10 : decode cX4_dartsBy 10 = .ok (.iload 5, 2) := by decide +kernel
theorem dX4_dartsBy_12 : decode cX4_dartsBy 12 = .ok (.istore 6, 2) := by decide +kernel
theorem dX4_dartsBy_14 : decode cX4_dartsBy 14 = .ok (.iload 6, 2) := by decide +kernel
theorem dX4_dartsBy_16 : decode cX4_dartsBy 16 = .ok (.iload 5, 2) := by decide +kernel
theorem dX4_dartsBy_18 : decode cX4_dartsBy 18 = .ok (.aload_n 0, 1) := by decide +kernel
theorem dX4_dartsBy_19 : decode cX4_dartsBy 19 = .ok (.getfield 49, 3) := by decide +kernel
theorem dX4_dartsBy_22 : decode cX4_dartsBy 22 = .ok (.getfield 94, 3) := by decide +kernel
theorem dX4_dartsBy_25 : decode cX4_dartsBy 25 = .ok (.iload_n 1, 1) := by decide +kernel
theorem dX4_dartsBy_26 : decode cX4_dartsBy 26 = .ok (.iaload, 1) := by decide +kernel
theorem dX4_dartsBy_27 : decode cX4_dartsBy 27 = .ok (.iadd, 1) := by decide +kernel
theorem dX4_dartsBy_28 : decode cX4_dartsBy 28 = .ok (.if_icmp .ge 75, 3) := by decide +kernel
theorem dX4_dartsBy_31 : decode cX4_dartsBy 31 = .ok (.aload_n 0, 1) := by decide +kernel
theorem dX4_dartsBy_32 : decode cX4_dartsBy 32 = .ok (.getfield 49, 3) := by decide +kernel
theorem dX4_dartsBy_35 : decode cX4_dartsBy 35 = .ok (.getfield 97, 3) := by decide +kernel
theorem dX4_dartsBy_38 : decode cX4_dartsBy 38 = .ok (.iload 6, 2) := by decide +kernel
theorem dX4_dartsBy_40 : decode cX4_dartsBy 40 = .ok (.iaload, 1) := by decide +kernel
theorem dX4_dartsBy_41 : decode cX4_dartsBy 41 = .ok (.istore 7, 2) := by decide +kernel
theorem dX4_dartsBy_43 : decode cX4_dartsBy 43 = .ok (.aload_n 0, 1) := by decide +kernel
theorem dX4_dartsBy_44 : decode cX4_dartsBy 44 = .ok (.getfield 26, 3) := by decide +kernel
theorem dX4_dartsBy_47 : decode cX4_dartsBy 47 = .ok (.iload 7, 2) := by decide +kernel
theorem dX4_dartsBy_49 : decode cX4_dartsBy 49 = .ok (.iaload, 1) := by decide +kernel
theorem dX4_dartsBy_50 : decode cX4_dartsBy 50 = .ok (.istore 8, 2) := by decide +kernel
theorem dX4_dartsBy_52 : decode cX4_dartsBy 52 = .ok (.iload 8, 2) := by decide +kernel
theorem dX4_dartsBy_54 : decode cX4_dartsBy 54 = .ok (.bipush (-5), 2) := by decide +kernel
theorem dX4_dartsBy_56 : decode cX4_dartsBy 56 = .ok (.if_icmp .eq 8, 3) := by decide +kernel
theorem dX4_dartsBy_59 : decode cX4_dartsBy 59 = .ok (.iload 7, 2) := by decide +kernel
theorem dX4_dartsBy_61 : decode cX4_dartsBy 61 = .ok (.ifCond .ne 18, 3) := by decide +kernel
theorem dX4_dartsBy_64 : decode cX4_dartsBy 64 = .ok (.iload 4, 2) := by decide +kernel
theorem dX4_dartsBy_66 : decode cX4_dartsBy 66 = .ok (.aload_n 0, 1) := by decide +kernel
theorem dX4_dartsBy_67 : decode cX4_dartsBy 67 = .ok (.getfield 18, 3) := by decide +kernel
theorem dX4_dartsBy_70 : decode cX4_dartsBy 70 = .ok (.iload 6, 2) := by decide +kernel
theorem dX4_dartsBy_72 : decode cX4_dartsBy 72 = .ok (.iaload, 1) := by decide +kernel
theorem dX4_dartsBy_73 : decode cX4_dartsBy 73 = .ok (.iadd, 1) := by decide +kernel
theorem dX4_dartsBy_74 : decode cX4_dartsBy 74 = .ok (.istore 4, 2) := by decide +kernel
theorem dX4_dartsBy_76 : decode cX4_dartsBy 76 = .ok (.goto 21, 3) := by decide +kernel
theorem dX4_dartsBy_79 : decode cX4_dartsBy 79 = .ok (.dload_n 2, 1) := by decide +kernel
theorem dX4_dartsBy_80 : decode cX4_dartsBy 80 = .ok (.aload_n 0, 1) := by decide +kernel
theorem dX4_dartsBy_81 : decode cX4_dartsBy 81 = .ok (.getfield 22, 3) := by decide +kernel
theorem dX4_dartsBy_84 : decode cX4_dartsBy 84 = .ok (.iload 6, 2) := by decide +kernel
theorem dX4_dartsBy_86 : decode cX4_dartsBy 86 = .ok (.daload, 1) := by decide +kernel
theorem dX4_dartsBy_87 : decode cX4_dartsBy 87 = .ok (.aload_n 0, 1) := by decide +kernel
theorem dX4_dartsBy_88 : decode cX4_dartsBy 88 = .ok (.getfield 29, 3) := by decide +kernel
theorem dX4_dartsBy_91 : decode cX4_dartsBy 91 = .ok (.iload 8, 2) := by decide +kernel
theorem dX4_dartsBy_93 : decode cX4_dartsBy 93 = .ok (.daload, 1) := by decide +kernel
theorem dX4_dartsBy_94 : decode cX4_dartsBy 94 = .ok (.dmul, 1) := by decide +kernel
theorem dX4_dartsBy_95 : decode cX4_dartsBy 95 = .ok (.dadd, 1) := by decide +kernel
theorem dX4_dartsBy_96 : decode cX4_dartsBy 96 = .ok (.dstore_n 2, 1) := by decide +kernel
theorem dX4_dartsBy_97 : decode cX4_dartsBy 97 = .ok (.iinc 6 1, 3) := by decide +kernel
theorem dX4_dartsBy_100 : decode cX4_dartsBy 100 = .ok (.goto (-86), 3) := by decide +kernel
theorem dX4_dartsBy_103 : decode cX4_dartsBy 103 = .ok (.iload 4, 2) := by decide +kernel
theorem dX4_dartsBy_105 : decode cX4_dartsBy 105 = .ok (.sipush 1000, 3) := by decide +kernel
theorem dX4_dartsBy_108 : decode cX4_dartsBy 108 = .ok (.if_icmp .lt 5, 3) := by decide +kernel
theorem dX4_dartsBy_111 : decode cX4_dartsBy 111 = .ok (.dconst 0, 1) := by decide +kernel
theorem dX4_dartsBy_112 : decode cX4_dartsBy 112 = .ok (.dreturn, 1) := by decide +kernel
theorem dX4_dartsBy_113 : decode cX4_dartsBy 113 = .ok (.dload_n 2, 1) := by decide +kernel
theorem dX4_dartsBy_114 : decode cX4_dartsBy 114 = .ok (.sipush 1000, 3) := by decide +kernel
theorem dX4_dartsBy_117 : decode cX4_dartsBy 117 = .ok (.iload 4, 2) := by decide +kernel
theorem dX4_dartsBy_119 : decode cX4_dartsBy 119 = .ok (.isub, 1) := by decide +kernel
theorem dX4_dartsBy_120 : decode cX4_dartsBy 120 = .ok (.i2d, 1) := by decide +kernel
theorem dX4_dartsBy_121 : decode cX4_dartsBy 121 = .ok (.ldc2_w 65, 3) := by decide +kernel
theorem dX4_dartsBy_124 : decode cX4_dartsBy 124 = .ok (.ddiv, 1) := by decide +kernel
theorem dX4_dartsBy_125 : decode cX4_dartsBy 125 = .ok (.ddiv, 1) := by decide +kernel
theorem dX4_dartsBy_126 : decode cX4_dartsBy 126 = .ok (.dreturn, 1) := by decide +kernel
set_option maxRecDepth 20000 in
theorem ggX4_chanceAt_X4_learnChances : GoodIn wsX4_chanceAt wsX4_learnChances := goodIn_r _ [6, 7, 8, 9, 10, 11, 12, 13, 14, 15, 16, 17, 18, 19, 20, 21, 22, 23, 24, 5, 25, 1, 26, 27, 28, 29, 30, 31, 32, 33, 34, 35, 36, 37, 38, 39, 40, 41, 42, 43, 44, 45, 46, 47, 48, 49, 50, 51, 52, 53, 54] rfl (by decide +kernel)
set_option maxRecDepth 20000 in
theorem gX4_chanceAt_X4_learnChances : GoodIn wsX4_chanceAt (wsV RX4 100 RX4 yX4_learnChances wsX4_learnChances) := goodIn_app (goodIn_of _ (by decide +kernel)) ggX4_chanceAt_X4_learnChances
theorem dX4_chanceAt_0 : decode cX4_chanceAt 0 = .ok (.aload_n 0, 1) := by decide +kernel
theorem dX4_chanceAt_1 : decode cX4_chanceAt 1 = .ok (.iload_n 1, 1) := by decide +kernel
theorem dX4_chanceAt_2 : decode cX4_chanceAt 2 = .ok (.invokevirtual 100, 3) := by decide +kernel
theorem dX4_chanceAt_5 : decode cX4_chanceAt 5 = .ok (.aload_n 0, 1) := by decide +kernel
theorem dX4_chanceAt_6 : decode cX4_chanceAt 6 = .ok (.getfield 37, 3) := by decide +kernel
theorem dX4_chanceAt_9 : decode cX4_chanceAt 9 = .ok (.iload_n 2, 1) := by decide +kernel
theorem dX4_chanceAt_10 : decode cX4_chanceAt 10 = .ok (.aaload, 1) := by decide +kernel
theorem dX4_chanceAt_11 : decode cX4_chanceAt 11 = .ok (.iload_n 1, 1) := by decide +kernel
theorem dX4_chanceAt_12 : decode cX4_chanceAt 12 = .ok (.daload, 1) := by decide +kernel
theorem dX4_chanceAt_13 : decode cX4_chanceAt 13 = .ok (.dreturn, 1) := by decide +kernel
set_option maxRecDepth 20000 in
theorem ggX4_chanceAimAt_X4_learnChances : GoodIn wsX4_chanceAimAt wsX4_learnChances := goodIn_r _ [6, 7, 8, 9, 10, 11, 12, 13, 14, 15, 16, 17, 18, 19, 20, 21, 22, 23, 24, 5, 25, 26, 1, 27, 28, 29, 30, 31, 32, 33, 34, 35, 36, 37, 38, 39, 40, 41, 42, 43, 44, 45, 46, 47, 48, 49, 50, 51, 52, 53, 54] rfl (by decide +kernel)
set_option maxRecDepth 20000 in
theorem gX4_chanceAimAt_X4_learnChances : GoodIn wsX4_chanceAimAt (wsV RX4 100 RX4 yX4_learnChances wsX4_learnChances) := goodIn_app (goodIn_of _ (by decide +kernel)) ggX4_chanceAimAt_X4_learnChances
theorem dX4_chanceAimAt_0 : decode cX4_chanceAimAt 0 = .ok (.aload_n 0, 1) := by decide +kernel
theorem dX4_chanceAimAt_1 : decode cX4_chanceAimAt 1 = .ok (.iload_n 1, 1) := by decide +kernel
theorem dX4_chanceAimAt_2 : decode cX4_chanceAimAt 2 = .ok (.invokevirtual 100, 3) := by decide +kernel
theorem dX4_chanceAimAt_5 : decode cX4_chanceAimAt 5 = .ok (.aload_n 0, 1) := by decide +kernel
theorem dX4_chanceAimAt_6 : decode cX4_chanceAimAt 6 = .ok (.getfield 42, 3) := by decide +kernel
theorem dX4_chanceAimAt_9 : decode cX4_chanceAimAt 9 = .ok (.iload_n 2, 1) := by decide +kernel
theorem dX4_chanceAimAt_10 : decode cX4_chanceAimAt 10 = .ok (.aaload, 1) := by decide +kernel
theorem dX4_chanceAimAt_11 : decode cX4_chanceAimAt 11 = .ok (.iload_n 1, 1) := by decide +kernel
theorem dX4_chanceAimAt_12 : decode cX4_chanceAimAt 12 = .ok (.iaload, 1) := by decide +kernel
theorem dX4_chanceAimAt_13 : decode cX4_chanceAimAt 13 = .ok (.ireturn, 1) := by decide +kernel
set_option maxRecDepth 20000 in
theorem ggX4_learnChances_X9_restsBehind : GoodIn wsX4_learnChances wsX9_restsBehind := goodIn_r _ [8, 9, 10, 11, 7, 12, 13, 14, 15, 44, 45, 46] rfl (by decide +kernel)
set_option maxRecDepth 20000 in
theorem gX4_learnChances_X9_restsBehind : GoodIn wsX4_learnChances (wsV RX4 83 RX9 yX9_restsBehind wsX9_restsBehind) := goodIn_app (goodIn_of _ (by decide +kernel)) ggX4_learnChances_X9_restsBehind
set_option maxRecDepth 20000 in
theorem ggX4_learnChances_X4_chooseChance : GoodIn wsX4_learnChances wsX4_chooseChance := goodIn_r _ [20, 21, 22, 23, 24, 25, 19, 26, 27, 28, 3, 29, 30, 31, 32, 33, 34, 35, 36, 37, 38, 39, 40, 41, 42, 43, 47, 48, 49, 50] rfl (by decide +kernel)
set_option maxRecDepth 20000 in
theorem gX4_learnChances_X4_chooseChance : GoodIn wsX4_learnChances (wsV RX4 103 RX4 yX4_chooseChance wsX4_chooseChance) := goodIn_app (goodIn_of _ (by decide +kernel)) ggX4_learnChances_X4_chooseChance
theorem dX4_learnChances_0 : decode cX4_learnChances 0 = .ok (.aload_n 0, 1) := by decide +kernel
theorem dX4_learnChances_1 : decode cX4_learnChances 1 = .ok (.getfield 76, 3) := by decide +kernel
theorem dX4_learnChances_4 : decode cX4_learnChances 4 = .ok (.iconst 1, 1) := by decide +kernel
theorem dX4_learnChances_5 : decode cX4_learnChances 5 = .ok (.iadd, 1) := by decide +kernel
theorem dX4_learnChances_6 : decode cX4_learnChances 6 = .ok (.istore_n 2, 1) := by decide +kernel
theorem dX4_learnChances_7 : decode cX4_learnChances 7 = .ok (.iload_n 2, 1) := by decide +kernel
theorem dX4_learnChances_8 : decode cX4_learnChances 8 = .ok (.iload_n 1, 1) := by decide +kernel
theorem dX4_learnChances_9 : decode cX4_learnChances 9 = .ok (.if_icmp .gt 45, 3) := by decide +kernel
theorem dX4_learnChances_12 : decode cX4_learnChances 12 = .ok (.aload_n 0, 1) := by decide +kernel
theorem dX4_learnChances_13 : decode cX4_learnChances 13 = .ok (.getfield 45, 3) := by decide +kernel
theorem dX4_learnChances_16 : decode cX4_learnChances 16 = .ok (.iload_n 2, 1) := by decide +kernel
theorem dX4_learnChances_17 : decode cX4_learnChances 17 = .ok (.aload_n 0, 1) := by decide +kernel
theorem dX4_learnChances_18 : decode cX4_learnChances 18 = .ok (.getfield 26, 3) := by decide +kernel
theorem dX4_learnChances_21 : decode cX4_learnChances 21 = .ok (.invokevirtual 83, 3) := by decide +kernel
theorem dX4_learnChances_24 : decode cX4_learnChances 24 = .ok (.iconst 1, 1) := by decide +kernel
theorem dX4_learnChances_25 : decode cX4_learnChances 25 = .ok (.istore_n 3, 1) := by decide +kernel
theorem dX4_learnChances_26 : decode cX4_learnChances 26 = .ok (.iload_n 3, 1) := by decide +kernel
theorem dX4_learnChances_27 : decode cX4_learnChances 27 = .ok (.iconst 3, 1) := by decide +kernel
theorem dX4_learnChances_28 : decode cX4_learnChances 28 = .ok (.if_icmp .gt 15, 3) := by decide +kernel
theorem dX4_learnChances_31 : decode cX4_learnChances 31 = .ok (.aload_n 0, 1) := by decide +kernel
theorem dX4_learnChances_32 : decode cX4_learnChances 32 = .ok (.iload_n 2, 1) := by decide +kernel
theorem dX4_learnChances_33 : decode cX4_learnChances 33 = .ok (.iload_n 3, 1) := by decide +kernel
theorem dX4_learnChances_34 : decode cX4_learnChances 34 = .ok (.invokevirtual 103, 3) := by decide +kernel
theorem dX4_learnChances_37 : decode cX4_learnChances 37 = .ok (.iinc 3 1, 3) := by decide +kernel
theorem dX4_learnChances_40 : decode cX4_learnChances 40 = .ok (.goto (-14), 3) := by decide +kernel
theorem dX4_learnChances_43 : decode cX4_learnChances 43 = .ok (.aload_n 0, 1) := by decide +kernel
theorem dX4_learnChances_44 : decode cX4_learnChances 44 = .ok (.iload_n 2, 1) := by decide +kernel
theorem dX4_learnChances_45 : decode cX4_learnChances 45 = .ok (.putfield 76, 3) := by decide +kernel
theorem dX4_learnChances_48 : decode cX4_learnChances 48 = .ok (.iinc 2 1, 3) := by decide +kernel
theorem dX4_learnChances_51 : decode cX4_learnChances 51 = .ok (.goto (-44), 3) := by decide +kernel
theorem dX4_learnChances_54 : decode cX4_learnChances 54 = .ok (.return_, 1) := by decide +kernel
set_option maxRecDepth 20000 in
theorem ggX4_chooseChance_X4_chanceBy : GoodIn wsX4_chooseChance wsX4_chanceBy := goodIn_r _ [7, 8, 9, 10, 11, 12, 1, 13, 14, 15, 16, 17, 18, 19, 20, 21, 22, 23, 24, 25, 26, 27, 28, 29] rfl (by decide +kernel)
set_option maxRecDepth 20000 in
theorem gX4_chooseChance_X4_chanceBy : GoodIn wsX4_chooseChance (wsV RX4 107 RX4 yX4_chanceBy wsX4_chanceBy) := goodIn_app (goodIn_of _ (by decide +kernel)) ggX4_chooseChance_X4_chanceBy
theorem dX4_chooseChance_0 : decode cX4_chooseChance 0 = .ok (.aload_n 0, 1) := by decide +kernel
theorem dX4_chooseChance_1 : decode cX4_chooseChance 1 = .ok (.iconst 1, 1) := by decide +kernel
theorem dX4_chooseChance_2 : decode cX4_chooseChance 2 = .ok (.iload_n 2, 1) := by decide +kernel
theorem dX4_chooseChance_3 : decode cX4_chooseChance 3 = .ok (.iconst 1, 1) := by decide +kernel
theorem dX4_chooseChance_4 : decode cX4_chooseChance 4 = .ok (.isub, 1) := by decide +kernel
theorem dX4_chooseChance_5 : decode cX4_chooseChance 5 = .ok (.invokevirtual 107, 3) := by decide +kernel
theorem dX4_chooseChance_8 : decode cX4_chooseChance 8 = .ok (.dstore_n 3, 1) := by decide +kernel
theorem dX4_chooseChance_9 : decode cX4_chooseChance 9 = .ok (.iconst 1, 1) := by decide +kernel
theorem dX4_chooseChance_10 : decode cX4_chooseChance 10 = .ok (.istore 5, 2) := by decide +kernel
theorem dX4_chooseChance_12 : decode cX4_chooseChance 12 = .ok (.iconst 2, 1) := by decide +kernel
theorem dX4_chooseChance_13 : decode cX4_chooseChance 13 = .ok (.istore 6, 2) := by decide +kernel
theorem dX4_chooseChance_15 : decode cX4_chooseChance 15 = .ok (.iload 6, 2) := by decide +kernel
theorem dX4_chooseChance_17 : decode cX4_chooseChance 17 = .ok (.bipush 63, 2) := by decide +kernel
theorem dX4_chooseChance_19 : decode cX4_chooseChance 19 = .ok (.if_icmp .ge 34, 3) := by decide +kernel
theorem dX4_chooseChance_22 : decode cX4_chooseChance 22 = .ok (.aload_n 0, 1) := by decide +kernel
theorem dX4_chooseChance_23 : decode cX4_chooseChance 23 = .ok (.iload 6, 2) := by decide +kernel
theorem dX4_chooseChance_25 : decode cX4_chooseChance 25 = .ok (.iload_n 2, 1) := by decide +kernel
theorem dX4_chooseChance_26 : decode cX4_chooseChance 26 = .ok (.iconst 1, 1) := by decide +kernel
theorem dX4_chooseChance_27 : decode cX4_chooseChance 27 = .ok (.isub, 1) := by decide +kernel
theorem dX4_chooseChance_28 : decode cX4_chooseChance 28 = .ok (.invokevirtual 107, 3) := by decide +kernel
theorem dX4_chooseChance_31 : decode cX4_chooseChance 31 = .ok (.dstore 7, 2) := by decide +kernel
theorem dX4_chooseChance_33 : decode cX4_chooseChance 33 = .ok (.dload 7, 2) := by decide +kernel
theorem dX4_chooseChance_35 : decode cX4_chooseChance 35 = .ok (.dload_n 3, 1) := by decide +kernel
theorem dX4_chooseChance_36 : decode cX4_chooseChance 36 = .ok (.dcmp .l, 1) := by decide +kernel
theorem dX4_chooseChance_37 : decode cX4_chooseChance 37 = .ok (.ifCond .le 10, 3) := by decide +kernel
theorem dX4_chooseChance_40 : decode cX4_chooseChance 40 = .ok (.dload 7, 2) := by decide +kernel
theorem dX4_chooseChance_42 : decode cX4_chooseChance 42 = .ok (.dstore_n 3, 1) := by decide +kernel
theorem dX4_chooseChance_43 : decode cX4_chooseChance 43 = .ok (.iload 6, 2) := by decide +kernel
theorem dX4_chooseChance_45 : decode cX4_chooseChance 45 = .ok (.istore 5, 2) := by decide +kernel
theorem dX4_chooseChance_47 : decode cX4_chooseChance 47 = .ok (.iinc 6 1, 3) := by decide +kernel
theorem dX4_chooseChance_50 : decode cX4_chooseChance 50 = .ok (.goto (-35), 3) := by decide +kernel
theorem dX4_chooseChance_53 : decode cX4_chooseChance 53 = .ok (.aload_n 0, 1) := by decide +kernel
theorem dX4_chooseChance_54 : decode cX4_chooseChance 54 = .ok (.getfield 37, 3) := by decide +kernel
theorem dX4_chooseChance_57 : decode cX4_chooseChance 57 = .ok (.iload_n 2, 1) := by decide +kernel
theorem dX4_chooseChance_58 : decode cX4_chooseChance 58 = .ok (.aaload, 1) := by decide +kernel
theorem dX4_chooseChance_59 : decode cX4_chooseChance 59 = .ok (.iload_n 1, 1) := by decide +kernel
theorem dX4_chooseChance_60 : decode cX4_chooseChance 60 = .ok (.dload_n 3, 1) := by decide +kernel
theorem dX4_chooseChance_61 : decode cX4_chooseChance 61 = .ok (.dastore, 1) := by decide +kernel
theorem dX4_chooseChance_62 : decode cX4_chooseChance 62 = .ok (.aload_n 0, 1) := by decide +kernel
theorem dX4_chooseChance_63 : decode cX4_chooseChance 63 = .ok (.getfield 42, 3) := by decide +kernel
theorem dX4_chooseChance_66 : decode cX4_chooseChance 66 = .ok (.iload_n 2, 1) := by decide +kernel
theorem dX4_chooseChance_67 : decode cX4_chooseChance 67 = .ok (.aaload, 1) := by decide +kernel
theorem dX4_chooseChance_68 : decode cX4_chooseChance 68 = .ok (.iload_n 1, 1) := by decide +kernel
theorem dX4_chooseChance_69 : decode cX4_chooseChance 69 = .ok (.iload 5, 2) := by decide +kernel
theorem dX4_chooseChance_71 : decode cX4_chooseChance 71 = .ok (.iastore, 1) := by decide +kernel
theorem dX4_chooseChance_72 : decode cX4_chooseChance 72 = .ok (.return_, 1) := by decide +kernel
theorem dX4_chanceBy_0 : decode cX4_chanceBy 0 = .ok (.dconst 0, 1) := by decide +kernel
theorem dX4_chanceBy_1 : decode cX4_chanceBy 1 = .ok (.dstore_n 3, 1) := by decide +kernel
theorem dX4_chanceBy_2 : decode cX4_chanceBy 2 = .ok (.iload_n 1, 1) := by decide +kernel
theorem dX4_chanceBy_3 : decode cX4_chanceBy 3 = .ok (.iconst 5, 1) := by decide +kernel
theorem dX4_chanceBy_4 : decode cX4_chanceBy 4 = .ok (.imul, 1) := by decide +kernel
theorem dX4_chanceBy_5 : decode cX4_chanceBy 5 = .ok (.istore 5, 2) := by decide +kernel
theorem dX4_chanceBy_7 : decode cX4_chanceBy 7 = .ok (.iload 5, 2) := by decide +kernel
theorem dX4_chanceBy_9 : decode cX4_chanceBy 9 = .ok (.istore 6, 2) := by decide +kernel
theorem dX4_chanceBy_11 : decode cX4_chanceBy 11 = .ok (.iload 6, 2) := by decide +kernel
theorem dX4_chanceBy_13 : decode cX4_chanceBy 13 = .ok (.iload 5, 2) := by decide +kernel
theorem dX4_chanceBy_15 : decode cX4_chanceBy 15 = .ok (.aload_n 0, 1) := by decide +kernel
theorem dX4_chanceBy_16 : decode cX4_chanceBy 16 = .ok (.getfield 49, 3) := by decide +kernel
theorem dX4_chanceBy_19 : decode cX4_chanceBy 19 = .ok (.getfield 94, 3) := by decide +kernel
theorem dX4_chanceBy_22 : decode cX4_chanceBy 22 = .ok (.iload_n 1, 1) := by decide +kernel
theorem dX4_chanceBy_23 : decode cX4_chanceBy 23 = .ok (.iaload, 1) := by decide +kernel
theorem dX4_chanceBy_24 : decode cX4_chanceBy 24 = .ok (.iadd, 1) := by decide +kernel
theorem dX4_chanceBy_25 : decode cX4_chanceBy 25 = .ok (.if_icmp .ge 53, 3) := by decide +kernel
theorem dX4_chanceBy_28 : decode cX4_chanceBy 28 = .ok (.aload_n 0, 1) := by decide +kernel
theorem dX4_chanceBy_29 : decode cX4_chanceBy 29 = .ok (.getfield 26, 3) := by decide +kernel
theorem dX4_chanceBy_32 : decode cX4_chanceBy 32 = .ok (.aload_n 0, 1) := by decide +kernel
theorem dX4_chanceBy_33 : decode cX4_chanceBy 33 = .ok (.getfield 49, 3) := by decide +kernel
theorem dX4_chanceBy_36 : decode cX4_chanceBy 36 = .ok (.getfield 97, 3) := by decide +kernel
theorem dX4_chanceBy_39 : decode cX4_chanceBy 39 = .ok (.iload 6, 2) := by decide +kernel
theorem dX4_chanceBy_41 : decode cX4_chanceBy 41 = .ok (.iaload, 1) := by decide +kernel
theorem dX4_chanceBy_42 : decode cX4_chanceBy 42 = .ok (.iaload, 1) := by decide +kernel
theorem dX4_chanceBy_43 : decode cX4_chanceBy 43 = .ok (.istore 7, 2) := by decide +kernel
theorem dX4_chanceBy_45 : decode cX4_chanceBy 45 = .ok (.iload 7, 2) := by decide +kernel
theorem dX4_chanceBy_47 : decode cX4_chanceBy 47 = .ok (.bipush (-5), 2) := by decide +kernel
theorem dX4_chanceBy_49 : decode cX4_chanceBy 49 = .ok (.if_icmp .eq 23, 3) := by decide +kernel
theorem dX4_chanceBy_52 : decode cX4_chanceBy 52 = .ok (.dload_n 3, 1) := by decide +kernel
theorem dX4_chanceBy_53 : decode cX4_chanceBy 53 = .ok (.aload_n 0, 1) := by decide +kernel
theorem dX4_chanceBy_54 : decode cX4_chanceBy 54 = .ok (.getfield 22, 3) := by decide +kernel
theorem dX4_chanceBy_57 : decode cX4_chanceBy 57 = .ok (.iload 6, 2) := by decide +kernel
theorem dX4_chanceBy_59 : decode cX4_chanceBy 59 = .ok (.daload, 1) := by decide +kernel
theorem dX4_chanceBy_60 : decode cX4_chanceBy 60 = .ok (.aload_n 0, 1) := by decide +kernel
theorem dX4_chanceBy_61 : decode cX4_chanceBy 61 = .ok (.getfield 37, 3) := by decide +kernel
theorem dX4_chanceBy_64 : decode cX4_chanceBy 64 = .ok (.iload_n 2, 1) := by decide +kernel
theorem dX4_chanceBy_65 : decode cX4_chanceBy 65 = .ok (.aaload, 1) := by decide +kernel
theorem dX4_chanceBy_66 : decode cX4_chanceBy 66 = .ok (.iload 7, 2) := by decide +kernel
theorem dX4_chanceBy_68 : decode cX4_chanceBy 68 = .ok (.daload, 1) := by decide +kernel
theorem dX4_chanceBy_69 : decode cX4_chanceBy 69 = .ok (.dmul, 1) := by decide +kernel
theorem dX4_chanceBy_70 : decode cX4_chanceBy 70 = .ok (.dadd, 1) := by decide +kernel
theorem dX4_chanceBy_71 : decode cX4_chanceBy 71 = .ok (.dstore_n 3, 1) := by decide +kernel
theorem dX4_chanceBy_72 : decode cX4_chanceBy 72 = .ok (.iinc 6 1, 3) := by decide +kernel
theorem dX4_chanceBy_75 : decode cX4_chanceBy 75 = .ok (.goto (-64), 3) := by decide +kernel
theorem dX4_chanceBy_78 : decode cX4_chanceBy 78 = .ok (.dload_n 3, 1) := by decide +kernel
theorem dX4_chanceBy_79 : decode cX4_chanceBy 79 = .ok (.dreturn, 1) := by decide +kernel
theorem dX4_fallenUpon_0 : decode cX4_fallenUpon 0 = .ok (.iload_n 1, 1) := by decide +kernel
theorem dX4_fallenUpon_1 : decode cX4_fallenUpon 1 = .ok (.iconst 5, 1) := by decide +kernel
theorem dX4_fallenUpon_2 : decode cX4_fallenUpon 2 = .ok (.imul, 1) := by decide +kernel
theorem dX4_fallenUpon_3 : decode cX4_fallenUpon 3 = .ok (.istore_n 3, 1) := by decide +kernel
theorem dX4_fallenUpon_4 : decode cX4_fallenUpon 4 = .ok (.iconst 0, 1) := by decide +kernel
theorem dX4_fallenUpon_5 : decode cX4_fallenUpon 5 = .ok (.istore 4, 2) := by decide +kernel
theorem dX4_fallenUpon_7 : decode cX4_fallenUpon 7 = .ok (.iload_n 3, 1) := by decide +kernel
theorem dX4_fallenUpon_8 : decode cX4_fallenUpon 8 = .ok (.istore 5, 2) := by decide +kernel
theorem dX4_fallenUpon_10 : decode cX4_fallenUpon 10 = .ok (.iload 5, 2) := by decide +kernel
theorem dX4_fallenUpon_12 : decode cX4_fallenUpon 12 = .ok (.iload_n 3, 1) := by decide +kernel
theorem dX4_fallenUpon_13 : decode cX4_fallenUpon 13 = .ok (.aload_n 0, 1) := by decide +kernel
theorem dX4_fallenUpon_14 : decode cX4_fallenUpon 14 = .ok (.getfield 49, 3) := by decide +kernel
theorem dX4_fallenUpon_17 : decode cX4_fallenUpon 17 = .ok (.getfield 94, 3) := by decide +kernel
theorem dX4_fallenUpon_20 : decode cX4_fallenUpon 20 = .ok (.iload_n 1, 1) := by decide +kernel
theorem dX4_fallenUpon_21 : decode cX4_fallenUpon 21 = .ok (.iaload, 1) := by decide +kernel
theorem dX4_fallenUpon_22 : decode cX4_fallenUpon 22 = .ok (.iadd, 1) := by decide +kernel
theorem dX4_fallenUpon_23 : decode cX4_fallenUpon 23 = .ok (.if_icmp .ge 38, 3) := by decide +kernel
theorem dX4_fallenUpon_26 : decode cX4_fallenUpon 26 = .ok (.iload 4, 2) := by decide +kernel
theorem dX4_fallenUpon_28 : decode cX4_fallenUpon 28 = .ok (.aload_n 0, 1) := by decide +kernel
theorem dX4_fallenUpon_29 : decode cX4_fallenUpon 29 = .ok (.getfield 18, 3) := by decide +kernel
theorem dX4_fallenUpon_32 : decode cX4_fallenUpon 32 = .ok (.iload 5, 2) := by decide +kernel
theorem dX4_fallenUpon_34 : decode cX4_fallenUpon 34 = .ok (.iaload, 1) := by decide +kernel
theorem dX4_fallenUpon_35 : decode cX4_fallenUpon 35 = .ok (.iadd, 1) := by decide +kernel
theorem dX4_fallenUpon_36 : decode cX4_fallenUpon 36 = .ok (.istore 4, 2) := by decide +kernel
theorem dX4_fallenUpon_38 : decode cX4_fallenUpon 38 = .ok (.iload 4, 2) := by decide +kernel
theorem dX4_fallenUpon_40 : decode cX4_fallenUpon 40 = .ok (.iload_n 2, 1) := by decide +kernel
theorem dX4_fallenUpon_41 : decode cX4_fallenUpon 41 = .ok (.if_icmp .le 14, 3) := by decide +kernel
theorem dX4_fallenUpon_44 : decode cX4_fallenUpon 44 = .ok (.aload_n 0, 1) := by decide +kernel
theorem dX4_fallenUpon_45 : decode cX4_fallenUpon 45 = .ok (.getfield 49, 3) := by decide +kernel
theorem dX4_fallenUpon_48 : decode cX4_fallenUpon 48 = .ok (.getfield 97, 3) := by decide +kernel
theorem dX4_fallenUpon_51 : decode cX4_fallenUpon 51 = .ok (.iload 5, 2) := by decide +kernel
theorem dX4_fallenUpon_53 : decode cX4_fallenUpon 53 = .ok (.iaload, 1) := by decide +kernel
theorem dX4_fallenUpon_54 : decode cX4_fallenUpon 54 = .ok (.ireturn, 1) := by decide +kernel
theorem dX4_fallenUpon_55 : decode cX4_fallenUpon 55 = .ok (.iinc 5 1, 3) := by decide +kernel
theorem dX4_fallenUpon_58 : decode cX4_fallenUpon 58 = .ok (.goto (-48), 3) := by decide +kernel
theorem dX4_fallenUpon_61 : decode cX4_fallenUpon 61 = .ok (.iload_n 1, 1) := by decide +kernel
theorem dX4_fallenUpon_62 : decode cX4_fallenUpon 62 = .ok (.ireturn, 1) := by decide +kernel
theorem dX5_init_0 : decode cX5_init 0 = .ok (.aload_n 0, 1) := by decide +kernel
theorem dX5_init_1 : decode cX5_init 1 = .ok (.invokespecial 3, 3) := by decide +kernel
theorem dX5_init_4 : decode cX5_init 4 = .ok (.aload_n 0, 1) := by decide +kernel
theorem dX5_init_5 : decode cX5_init 5 = .ok (.bipush 12, 2) := by decide +kernel
theorem dX5_init_7 : decode cX5_init 7 = .ok (.newarray .int, 2) := by decide +kernel
theorem dX5_init_9 : decode cX5_init 9 = .ok (.putfield 11, 3) := by decide +kernel
theorem dX5_init_12 : decode cX5_init 12 = .ok (.return_, 1) := by decide +kernel
set_option maxRecDepth 20000 in
theorem ggX5_spellRow_X5_put : GoodIn wsX5_spellRow wsX5_put := goodIn_r _ [6, 1, 7, 24, 25] rfl (by decide +kernel)
set_option maxRecDepth 20000 in
theorem gX5_spellRow_X5_put : GoodIn wsX5_spellRow (wsV RX5 19 RX5 yX5_put wsX5_put) := goodIn_app (goodIn_of _ (by decide +kernel)) ggX5_spellRow_X5_put
set_option maxRecDepth 20000 in
theorem ggX5_spellRow_X5_spellSpot : GoodIn wsX5_spellRow wsX5_spellSpot := goodIn_r _ [11, 12, 13, 14, 15, 16, 17, 18, 5, 19, 2, 3, 4, 6, 1, 7, 20, 21, 22, 23, 24, 25] rfl (by decide +kernel)
set_option maxRecDepth 20000 in
theorem gX5_spellRow_X5_spellSpot : GoodIn wsX5_spellRow (wsV RX5 23 RX5 yX5_spellSpot wsX5_spellSpot) := goodIn_app (goodIn_of _ (by decide +kernel)) ggX5_spellRow_X5_spellSpot
theorem dX5_spellRow_0 : decode cX5_spellRow 0 = .ok (.aload_n 0, 1) := by decide +kernel
theorem dX5_spellRow_1 : decode cX5_spellRow 1 = .ok (.iconst 0, 1) := by decide +kernel
theorem dX5_spellRow_2 : decode cX5_spellRow 2 = .ok (.putfield 15, 3) := by decide +kernel
theorem dX5_spellRow_5 : decode cX5_spellRow 5 = .ok (.iconst 0, 1) := by decide +kernel
theorem dX5_spellRow_6 : decode cX5_spellRow 6 = .ok (.istore_n 3, 1) := by decide +kernel
theorem dX5_spellRow_7 : decode cX5_spellRow 7 = .ok (.iload_n 3, 1) := by decide +kernel
theorem dX5_spellRow_8 : decode cX5_spellRow 8 = .ok (.iload_n 2, 1) := by decide +kernel
theorem dX5_spellRow_9 : decode cX5_spellRow 9 = .ok (.if_icmp .ge 26, 3) := by decide +kernel
theorem dX5_spellRow_12 : decode cX5_spellRow 12 = .ok (.iload_n 3, 1) := by decide +kernel
theorem dX5_spellRow_13 : decode cX5_spellRow 13 = .ok (.ifCond .le 9, 3) := by decide +kernel
theorem dX5_spellRow_16 : decode cX5_spellRow 16 = .ok (.aload_n 0, 1) := by decide +kernel
theorem dX5_spellRow_17 : decode cX5_spellRow 17 = .ok (.bipush 32, 2) := by decide +kernel
theorem dX5_spellRow_19 : decode cX5_spellRow 19 = .ok (.invokevirtual 19, 3) := by decide +kernel
theorem dX5_spellRow_22 : decode cX5_spellRow 22 = .ok (.aload_n 0, 1) := by decide +kernel
theorem dX5_spellRow_23 : decode cX5_spellRow 23 = .ok (.aload_n 1, 1) := by decide +kernel
theorem dX5_spellRow_24 : decode cX5_spellRow 24 = .ok (.iload_n 3, 1) := by decide +kernel
theorem dX5_spellRow_25 : decode cX5_spellRow 25 = .ok (.iaload, 1) := by decide +kernel
theorem dX5_spellRow_26 : decode cX5_spellRow 26 = .ok (.invokevirtual 23, 3) := by decide +kernel
theorem dX5_spellRow_29 : decode cX5_spellRow 29 = .ok (.iinc 3 1, 3) := by decide +kernel
theorem dX5_spellRow_32 : decode cX5_spellRow 32 = .ok (.goto (-25), 3) := by decide +kernel
theorem dX5_spellRow_35 : decode cX5_spellRow 35 = .ok (.return_, 1) := by decide +kernel
set_option maxRecDepth 20000 in
theorem ggX5_spellSpot_X0_kindOf : GoodIn wsX5_spellSpot wsX0_kindOf := goodIn_r _ [4] rfl (by decide +kernel)
set_option maxRecDepth 20000 in
theorem gX5_spellSpot_X0_kindOf : GoodIn wsX5_spellSpot (va_wsS RX5 26 yX0_kindOf wsX0_kindOf) := goodIn_app (goodIn_of _ (by decide +kernel)) ggX5_spellSpot_X0_kindOf
set_option maxRecDepth 20000 in
theorem ggX5_spellSpot_X5_putPair : GoodIn wsX5_spellSpot wsX5_putPair := goodIn_r _ [9, 10, 11, 12, 8, 13, 14, 15, 20, 21] rfl (by decide +kernel)
set_option maxRecDepth 20000 in
theorem gX5_spellSpot_X5_putPair : GoodIn wsX5_spellSpot (wsV RX5 32 RX5 yX5_putPair wsX5_putPair) := goodIn_app (goodIn_of _ (by decide +kernel)) ggX5_spellSpot_X5_putPair
set_option maxRecDepth 20000 in
theorem ggX5_spellSpot_X5_putNumber : GoodIn wsX5_spellSpot wsX5_putNumber := goodIn_r _ [19, 10, 11, 12, 8, 13, 14, 15, 20, 21] rfl (by decide +kernel)
set_option maxRecDepth 20000 in
theorem gX5_spellSpot_X5_putNumber : GoodIn wsX5_spellSpot (wsV RX5 36 RX5 yX5_putNumber wsX5_putNumber) := goodIn_app (goodIn_of _ (by decide +kernel)) ggX5_spellSpot_X5_putNumber
set_option maxRecDepth 20000 in
theorem ggX5_spellSpot_X5_put : GoodIn wsX5_spellSpot wsX5_put := goodIn_r _ [13, 14, 15, 20, 21] rfl (by decide +kernel)
set_option maxRecDepth 20000 in
theorem gX5_spellSpot_X5_put : GoodIn wsX5_spellSpot (wsV RX5 19 RX5 yX5_put wsX5_put) := goodIn_app (goodIn_of _ (by decide +kernel)) ggX5_spellSpot_X5_put
theorem dX5_spellSpot_0 : decode cX5_spellSpot 0 = .ok (.iload_n 1, 1) := by decide +kernel
theorem dX5_spellSpot_1 : decode cX5_spellSpot 1 = .ok (.invokestatic 26, 3) := by decide +kernel
theorem dX5_spellSpot_4 : decode cX5_spellSpot 4 = .ok (.tableswitch 94 1 5 #[58, 68, 81, 47, 36], 36) := by decide +kernel
theorem dX5_spellSpot_40 : decode cX5_spellSpot 40 = .ok (.aload_n 0, 1) := by decide +kernel
theorem dX5_spellSpot_41 : decode cX5_spellSpot 41 = .ok (.bipush 79, 2) := by decide +kernel
theorem dX5_spellSpot_43 : decode cX5_spellSpot 43 = .ok (.bipush 66, 2) := by decide +kernel
theorem dX5_spellSpot_45 : decode cX5_spellSpot 45 = .ok (.invokevirtual 32, 3) := by decide +kernel
theorem dX5_spellSpot_48 : decode cX5_spellSpot 48 = .ok (.goto 56, 3) := by decide +kernel
theorem dX5_spellSpot_51 : decode cX5_spellSpot 51 = .ok (.aload_n 0, 1) := by decide +kernel
theorem dX5_spellSpot_52 : decode cX5_spellSpot 52 = .ok (.bipush 66, 2) := by decide +kernel
theorem dX5_spellSpot_54 : decode cX5_spellSpot 54 = .ok (.bipush 85, 2) := by decide +kernel
theorem dX5_spellSpot_56 : decode cX5_spellSpot 56 = .ok (.invokevirtual 32, 3) := by decide +kernel
theorem dX5_spellSpot_59 : decode cX5_spellSpot 59 = .ok (.goto 45, 3) := by decide +kernel
theorem dX5_spellSpot_62 : decode cX5_spellSpot 62 = .ok (.aload_n 0, 1) := by decide +kernel
theorem dX5_spellSpot_63 : decode cX5_spellSpot 63 = .ok (.bipush 83, 2) := by decide +kernel
theorem dX5_spellSpot_65 : decode cX5_spellSpot 65 = .ok (.iload_n 1, 1) := by decide +kernel
theorem dX5_spellSpot_66 : decode cX5_spellSpot 66 = .ok (.invokevirtual 36, 3) := by decide +kernel
theorem dX5_spellSpot_69 : decode cX5_spellSpot 69 = .ok (.goto 35, 3) := by decide +kernel
theorem dX5_spellSpot_72 : decode cX5_spellSpot 72 = .ok (.aload_n 0, 1) := by decide +kernel
theorem dX5_spellSpot_73 : decode cX5_spellSpot 73 = .ok (.bipush 68, 2) := by decide +kernel
theorem dX5_spellSpot_75 : decode cX5_spellSpot 75 = .ok (.iload_n 1, 1) := by decide +kernel
theorem dX5_spellSpot_76 : decode cX5_spellSpot 76 = .ok (.bipush 20, 2) := by decide +kernel
theorem dX5_spellSpot_78 : decode cX5_spellSpot 78 = .ok (.isub, 1) := by decide +kernel
theorem dX5_spellSpot_79 : decode cX5_spellSpot 79 = .ok (.invokevirtual 36, 3) := by decide +kernel
theorem dX5_spellSpot_82 : decode cX5_spellSpot 82 = .ok (.goto 22, 3) := by decide +kernel
theorem dX5_spellSpot_85 : decode cX5_spellSpot 85 = .ok (.aload_n 0, 1) := by decide +kernel
theorem dX5_spellSpot_86 : decode cX5_spellSpot 86 = .ok (.bipush 84, 2) := by decide +kernel
theorem dX5_spellSpot_88 : decode cX5_spellSpot 88 = .ok (.iload_n 1, 1) := by decide +kernel
theorem dX5_spellSpot_89 : decode cX5_spellSpot 89 = .ok (.bipush 40, 2) := by decide +kernel
theorem dX5_spellSpot_91 : decode cX5_spellSpot 91 = .ok (.isub, 1) := by decide +kernel
theorem dX5_spellSpot_92 : decode cX5_spellSpot 92 = .ok (.invokevirtual 36, 3) := by decide +kernel
theorem dX5_spellSpot_95 : decode cX5_spellSpot 95 = .ok (.goto 9, 3) := by decide +kernel
theorem dX5_spellSpot_98 : decode cX5_spellSpot 98 = .ok (.aload_n 0, 1) := by decide +kernel
theorem dX5_spellSpot_99 : decode cX5_spellSpot 99 = .ok (.bipush 45, 2) := by decide +kernel
theorem dX5_spellSpot_101 : decode cX5_spellSpot 101 = .ok (.invokevirtual 19, 3) := by decide +kernel
theorem dX5_spellSpot_104 : decode cX5_spellSpot 104 = .ok (.return_, 1) := by decide +kernel
set_option maxRecDepth 20000 in
theorem ggX5_putPair_X5_put : GoodIn wsX5_putPair wsX5_put := goodIn_r _ [5, 6, 7, 8, 9] rfl (by decide +kernel)
set_option maxRecDepth 20000 in
theorem gX5_putPair_X5_put : GoodIn wsX5_putPair (wsV RX5 19 RX5 yX5_put wsX5_put) := goodIn_app (goodIn_of _ (by decide +kernel)) ggX5_putPair_X5_put
theorem dX5_putPair_0 : decode cX5_putPair 0 = .ok (.aload_n 0, 1) := by decide +kernel
theorem dX5_putPair_1 : decode cX5_putPair 1 = .ok (.iload_n 1, 1) := by decide +kernel
theorem dX5_putPair_2 : decode cX5_putPair 2 = .ok (.invokevirtual 19, 3) := by decide +kernel
theorem dX5_putPair_5 : decode cX5_putPair 5 = .ok (.aload_n 0, 1) := by decide +kernel
theorem dX5_putPair_6 : decode cX5_putPair 6 = .ok (.iload_n 2, 1) := by decide +kernel
theorem dX5_putPair_7 : decode cX5_putPair 7 = .ok (.invokevirtual 19, 3) := by decide +kernel
theorem dX5_putPair_10 : decode cX5_putPair 10 = .ok (.return_, 1) := by decide +kernel
set_option maxRecDepth 20000 in
theorem ggX5_putNumber_X5_put : GoodIn wsX5_putNumber wsX5_put := goodIn_r _ [5, 6, 7, 8, 9] rfl (by decide +kernel)
set_option maxRecDepth 20000 in
theorem gX5_putNumber_X5_put : GoodIn wsX5_putNumber (wsV RX5 19 RX5 yX5_put wsX5_put) := goodIn_app (goodIn_of _ (by decide +kernel)) ggX5_putNumber_X5_put
theorem dX5_putNumber_0 : decode cX5_putNumber 0 = .ok (.aload_n 0, 1) := by decide +kernel
theorem dX5_putNumber_1 : decode cX5_putNumber 1 = .ok (.iload_n 1, 1) := by decide +kernel
theorem dX5_putNumber_2 : decode cX5_putNumber 2 = .ok (.invokevirtual 19, 3) := by decide +kernel
theorem dX5_putNumber_5 : decode cX5_putNumber 5 = .ok (.iload_n 2, 1) := by decide +kernel
theorem dX5_putNumber_6 : decode cX5_putNumber 6 = .ok (.bipush 10, 2) := by decide +kernel
theorem dX5_putNumber_8 : decode cX5_putNumber 8 = .ok (.if_icmp .lt 14, 3) := by decide +kernel
theorem dX5_putNumber_11 : decode cX5_putNumber 11 = .ok (.aload_n 0, 1) := by decide +kernel
theorem dX5_putNumber_12 : decode cX5_putNumber 12 = .ok (.bipush 48, 2) := by decide +kernel
theorem dX5_putNumber_14 : decode cX5_putNumber 14 = .ok (.iload_n 2, 1) := by decide +kernel
theorem dX5_putNumber_15 : decode cX5_putNumber 15 = .ok (.bipush 10, 2) := by decide +kernel
theorem dX5_putNumber_17 : decode cX5_putNumber 17 = .ok (.idiv, 1) := by decide +kernel
theorem dX5_putNumber_18 : decode cX5_putNumber 18 = .ok (.iadd, 1) := by decide +kernel
theorem dX5_putNumber_19 : decode cX5_putNumber 19 = .ok (.invokevirtual 19, 3) := by decide +kernel
theorem dX5_putNumber_22 : decode cX5_putNumber 22 = .ok (.aload_n 0, 1) := by decide +kernel
theorem dX5_putNumber_23 : decode cX5_putNumber 23 = .ok (.bipush 48, 2) := by decide +kernel
theorem dX5_putNumber_25 : decode cX5_putNumber 25 = .ok (.iload_n 2, 1) := by decide +kernel
theorem dX5_putNumber_26 : decode cX5_putNumber 26 = .ok (.bipush 10, 2) := by decide +kernel
theorem dX5_putNumber_28 : decode cX5_putNumber 28 = .ok (.irem, 1) := by decide +kernel
theorem dX5_putNumber_29 : decode cX5_putNumber 29 = .ok (.iadd, 1) := by decide +kernel
theorem dX5_putNumber_30 : decode cX5_putNumber 30 = .ok (.invokevirtual 19, 3) := by decide +kernel
theorem dX5_putNumber_33 : decode cX5_putNumber 33 = .ok (.return_, 1) := by decide +kernel
theorem dX5_put_0 : decode cX5_put 0 = .ok (.aload_n 0, 1) := by decide +kernel
theorem dX5_put_1 : decode cX5_put 1 = .ok (.getfield 15, 3) := by decide +kernel
theorem dX5_put_4 : decode cX5_put 4 = .ok (.bipush 12, 2) := by decide +kernel
theorem dX5_put_6 : decode cX5_put 6 = .ok (.if_icmp .ge 23, 3) := by decide +kernel
theorem dX5_put_9 : decode cX5_put 9 = .ok (.aload_n 0, 1) := by decide +kernel
theorem dX5_put_10 : decode cX5_put 10 = .ok (.getfield 11, 3) := by decide +kernel
theorem dX5_put_13 : decode cX5_put 13 = .ok (.aload_n 0, 1) := by decide +kernel
theorem dX5_put_14 : decode cX5_put 14 = .ok (.getfield 15, 3) := by decide +kernel
theorem dX5_put_17 : decode cX5_put 17 = .ok (.iload_n 1, 1) := by decide +kernel
theorem dX5_put_18 : decode cX5_put 18 = .ok (.iastore, 1) := by decide +kernel
theorem dX5_put_19 : decode cX5_put 19 = .ok (.aload_n 0, 1) := by decide +kernel
theorem dX5_put_20 : decode cX5_put 20 = .ok (.dup, 1) := by decide +kernel
theorem dX5_put_21 : decode cX5_put 21 = .ok (.getfield 15, 3) := by decide +kernel
theorem dX5_put_24 : decode cX5_put 24 = .ok (.iconst 1, 1) := by decide +kernel
theorem dX5_put_25 : decode cX5_put 25 = .ok (.iadd, 1) := by decide +kernel
theorem dX5_put_26 : decode cX5_put 26 = .ok (.putfield 15, 3) := by decide +kernel
theorem dX5_put_29 : decode cX5_put 29 = .ok (.return_, 1) := by decide +kernel
theorem dX6_init_0 : decode cX6_init 0 = .ok (.aload_n 0, 1) := by decide +kernel
theorem dX6_init_1 : decode cX6_init 1 = .ok (.invokespecial 3, 3) := by decide +kernel
theorem dX6_init_4 : decode cX6_init 4 = .ok (.aload_n 0, 1) := by decide +kernel
theorem dX6_init_5 : decode cX6_init 5 = .ok (.bipush 60, 2) := by decide +kernel
theorem dX6_init_7 : decode cX6_init 7 = .ok (.putfield 9, 3) := by decide +kernel
theorem dX6_init_10 : decode cX6_init 10 = .ok (.aload_n 0, 1) := by decide +kernel
theorem dX6_init_11 : decode cX6_init 11 = .ok (.bipush 80, 2) := by decide +kernel
theorem dX6_init_13 : decode cX6_init 13 = .ok (.putfield 15, 3) := by decide +kernel
theorem dX6_init_16 : decode cX6_init 16 = .ok (.return_, 1) := by decide +kernel
theorem dX6_become_0 : decode cX6_become 0 = .ok (.aload_n 0, 1) := by decide +kernel
theorem dX6_become_1 : decode cX6_become 1 = .ok (.aload_n 1, 1) := by decide +kernel
theorem dX6_become_2 : decode cX6_become 2 = .ok (.getfield 9, 3) := by decide +kernel
theorem dX6_become_5 : decode cX6_become 5 = .ok (.putfield 9, 3) := by decide +kernel
theorem dX6_become_8 : decode cX6_become 8 = .ok (.aload_n 0, 1) := by decide +kernel
theorem dX6_become_9 : decode cX6_become 9 = .ok (.aload_n 1, 1) := by decide +kernel
theorem dX6_become_10 : decode cX6_become 10 = .ok (.getfield 15, 3) := by decide +kernel
theorem dX6_become_13 : decode cX6_become 13 = .ok (.putfield 15, 3) := by decide +kernel
theorem dX6_become_16 : decode cX6_become 16 = .ok (.aload_n 0, 1) := by decide +kernel
theorem dX6_become_17 : decode cX6_become 17 = .ok (.aload_n 1, 1) := by decide +kernel
theorem dX6_become_18 : decode cX6_become 18 = .ok (.getfield 18, 3) := by decide +kernel
theorem dX6_become_21 : decode cX6_become 21 = .ok (.putfield 18, 3) := by decide +kernel
theorem dX6_become_24 : decode cX6_become 24 = .ok (.aload_n 0, 1) := by decide +kernel
theorem dX6_become_25 : decode cX6_become 25 = .ok (.aload_n 1, 1) := by decide +kernel
theorem dX6_become_26 : decode cX6_become 26 = .ok (.getfield 21, 3) := by decide +kernel
theorem dX6_become_29 : decode cX6_become 29 = .ok (.putfield 21, 3) := by decide +kernel
theorem dX6_become_32 : decode cX6_become 32 = .ok (.aload_n 0, 1) := by decide +kernel
theorem dX6_become_33 : decode cX6_become 33 = .ok (.aload_n 1, 1) := by decide +kernel
theorem dX6_become_34 : decode cX6_become 34 = .ok (.getfield 24, 3) := by decide +kernel
theorem dX6_become_37 : decode cX6_become 37 = .ok (.putfield 24, 3) := by decide +kernel
theorem dX6_become_40 : decode cX6_become 40 = .ok (.aload_n 0, 1) := by decide +kernel
theorem dX6_become_41 : decode cX6_become 41 = .ok (.aload_n 1, 1) := by decide +kernel
theorem dX6_become_42 : decode cX6_become 42 = .ok (.getfield 27, 3) := by decide +kernel
theorem dX6_become_45 : decode cX6_become 45 = .ok (.putfield 27, 3) := by decide +kernel
theorem dX6_become_48 : decode cX6_become 48 = .ok (.return_, 1) := by decide +kernel
theorem dX6_tell_0 : decode cX6_tell 0 = .ok (.iload_n 1, 1) := by decide +kernel
theorem dX6_tell_1 : decode cX6_tell 1 = .ok (.tableswitch 69 0 5 #[39, 44, 49, 54, 59, 64], 39) := by decide +kernel
theorem dX6_tell_40 : decode cX6_tell 40 = .ok (.aload_n 0, 1) := by decide +kernel
theorem dX6_tell_41 : decode cX6_tell 41 = .ok (.getfield 18, 3) := by decide +kernel
theorem dX6_tell_44 : decode cX6_tell 44 = .ok (.ireturn, 1) := by decide +kernel
theorem dX6_tell_45 : decode cX6_tell 45 = .ok (.aload_n 0, 1) := by decide +kernel
theorem dX6_tell_46 : decode cX6_tell 46 = .ok (.getfield 21, 3) := by decide +kernel
theorem dX6_tell_49 : decode cX6_tell 49 = .ok (.ireturn, 1) := by decide +kernel
theorem dX6_tell_50 : decode cX6_tell 50 = .ok (.aload_n 0, 1) := by decide +kernel
theorem dX6_tell_51 : decode cX6_tell 51 = .ok (.getfield 24, 3) := by decide +kernel
theorem dX6_tell_54 : decode cX6_tell 54 = .ok (.ireturn, 1) := by decide +kernel
theorem dX6_tell_55 : decode cX6_tell 55 = .ok (.aload_n 0, 1) := by decide +kernel
theorem dX6_tell_56 : decode cX6_tell 56 = .ok (.getfield 27, 3) := by decide +kernel
theorem dX6_tell_59 : decode cX6_tell 59 = .ok (.ireturn, 1) := by decide +kernel
theorem dX6_tell_60 : decode cX6_tell 60 = .ok (.aload_n 0, 1) := by decide +kernel
theorem dX6_tell_61 : decode cX6_tell 61 = .ok (.getfield 9, 3) := by decide +kernel
theorem dX6_tell_64 : decode cX6_tell 64 = .ok (.ireturn, 1) := by decide +kernel
theorem dX6_tell_65 : decode cX6_tell 65 = .ok (.aload_n 0, 1) := by decide +kernel
theorem dX6_tell_66 : decode cX6_tell 66 = .ok (.getfield 15, 3) := by decide +kernel
theorem dX6_tell_69 : decode cX6_tell 69 = .ok (.ireturn, 1) := by decide +kernel
theorem dX6_tell_70 : decode cX6_tell 70 = .ok (.iconst (-1), 1) := by decide +kernel
theorem dX6_tell_71 : decode cX6_tell 71 = .ok (.ireturn, 1) := by decide +kernel
theorem dX7_init_0 : decode cX7_init 0 = .ok (.aload_n 0, 1) := by decide +kernel
theorem dX7_init_1 : decode cX7_init 1 = .ok (.invokespecial 3, 3) := by decide +kernel
theorem dX7_init_4 : decode cX7_init 4 = .ok (.aload_n 0, 1) := by decide +kernel
theorem dX7_init_5 : decode cX7_init 5 = .ok (.iconst 2, 1) := by decide +kernel
theorem dX7_init_6 : decode cX7_init 6 = .ok (.sipush 625, 3) := by decide +kernel
theorem dX7_init_9 : decode cX7_init 9 = .ok (.multianewarray 11 2, 4) := by decide +kernel
theorem dX7_init_13 : decode cX7_init 13 = .ok (.putfield 13, 3) := by decide +kernel
theorem dX7_init_16 : decode cX7_init 16 = .ok (.aload_n 0, 1) := by decide +kernel
theorem dX7_init_17 : decode cX7_init 17 = .ok (.iconst 2, 1) := by decide +kernel
theorem dX7_init_18 : decode cX7_init 18 = .ok (.sipush 625, 3) := by decide +kernel
theorem dX7_init_21 : decode cX7_init 21 = .ok (.multianewarray 16 2, 4) := by decide +kernel
theorem dX7_init_25 : decode cX7_init 25 = .ok (.putfield 18, 3) := by decide +kernel
theorem dX7_init_28 : decode cX7_init 28 = .ok (.aload_n 0, 1) := by decide +kernel
theorem dX7_init_29 : decode cX7_init 29 = .ok (.sipush 625, 3) := by decide +kernel
theorem dX7_init_32 : decode cX7_init 32 = .ok (.newarray .int, 2) := by decide +kernel
theorem dX7_init_34 : decode cX7_init 34 = .ok (.putfield 21, 3) := by decide +kernel
theorem dX7_init_37 : decode cX7_init 37 = .ok (.aload_n 0, 1) := by decide +kernel
theorem dX7_init_38 : decode cX7_init 38 = .ok (.iconst 2, 1) := by decide +kernel
theorem dX7_init_39 : decode cX7_init 39 = .ok (.bipush 63, 2) := by decide +kernel
theorem dX7_init_41 : decode cX7_init 41 = .ok (.multianewarray 11 2, 4) := by decide +kernel
theorem dX7_init_45 : decode cX7_init 45 = .ok (.putfield 25, 3) := by decide +kernel
theorem dX7_init_48 : decode cX7_init 48 = .ok (.aload_n 0, 1) := by decide +kernel
theorem dX7_init_49 : decode cX7_init 49 = .ok (.iconst 2, 1) := by decide +kernel
theorem dX7_init_50 : decode cX7_init 50 = .ok (.bipush 63, 2) := by decide +kernel
theorem dX7_init_52 : decode cX7_init 52 = .ok (.multianewarray 11 2, 4) := by decide +kernel
theorem dX7_init_56 : decode cX7_init 56 = .ok (.putfield 28, 3) := by decide +kernel
theorem dX7_init_59 : decode cX7_init 59 = .ok (.aload_n 0, 1) := by decide +kernel
theorem dX7_init_60 : decode cX7_init 60 = .ok (.bipush 63, 2) := by decide +kernel
theorem dX7_init_62 : decode cX7_init 62 = .ok (.newarray .int, 2) := by decide +kernel
theorem dX7_init_64 : decode cX7_init 64 = .ok (.putfield 31, 3) := by decide +kernel
theorem dX7_init_67 : decode cX7_init 67 = .ok (.aload_n 0, 1) := by decide +kernel
theorem dX7_init_68 : decode cX7_init 68 = .ok (.aload_n 1, 1) := by decide +kernel
theorem dX7_init_69 : decode cX7_init 69 = .ok (.putfield 34, 3) := by decide +kernel
theorem dX7_init_72 : decode cX7_init 72 = .ok (.aload_n 0, 1) := by decide +kernel
theorem dX7_init_73 : decode cX7_init 73 = .ok (.aload_n 2, 1) := by decide +kernel
theorem dX7_init_74 : decode cX7_init 74 = .ok (.putfield 38, 3) := by decide +kernel
theorem dX7_init_77 : decode cX7_init 77 = .ok (.aload_n 0, 1) := by decide +kernel
theorem dX7_init_78 : decode cX7_init 78 = .ok (.aload_n 3, 1) := by decide +kernel
theorem dX7_init_79 : decode cX7_init 79 = .ok (.putfield 42, 3) := by decide +kernel
theorem dX7_init_82 : decode cX7_init 82 = .ok (.return_, 1) := by decide +kernel
set_option maxRecDepth 20000 in
theorem ggX7_forget_J7_fill_53178 : GoodIn wsX7_forget wsJ7_fill_53178 := goodIn_r _ [5] rfl (by decide +kernel)
set_option maxRecDepth 20000 in
theorem gX7_forget_J7_fill_53178 : GoodIn wsX7_forget (va_wsS RX7 46 yJ7_fill_53178 wsJ7_fill_53178) := goodIn_app (goodIn_of _ (by decide +kernel)) ggX7_forget_J7_fill_53178
theorem dX7_forget_0 : decode cX7_forget 0 = .ok (.aload_n 0, 1) := by decide +kernel
theorem dX7_forget_1 : decode cX7_forget 1 = .ok (.getfield 21, 3) := by decide +kernel
theorem dX7_forget_4 : decode cX7_forget 4 = .ok (.iconst 0, 1) := by decide +kernel
theorem dX7_forget_5 : decode cX7_forget 5 = .ok (.invokestatic 46, 3) := by decide +kernel
theorem dX7_forget_8 : decode cX7_forget 8 = .ok (.return_, 1) := by decide +kernel
set_option maxRecDepth 20000 in
theorem ggX7_wonBy_X7_learn : GoodIn wsX7_wonBy wsX7_learn := goodIn_r _ [6, 7, 8, 9, 10, 11, 12, 13, 14, 15, 16, 17, 5, 18, 19, 1, 20, 21, 22, 23, 24, 25, 26, 27, 28, 29, 30, 31, 32, 33, 34, 35, 36, 37, 38, 39, 40, 41, 42, 43, 44, 45, 46, 47, 48, 49, 50, 51, 52, 53, 54, 55, 56, 57, 58, 59, 60, 61, 62, 63, 64, 65, 66, 67, 68, 69, 70, 71, 72, 73, 74, 75, 76, 77, 78, 79, 80, 81, 82, 83, 84, 85] rfl (by decide +kernel)
set_option maxRecDepth 20000 in
theorem gX7_wonBy_X7_learn : GoodIn wsX7_wonBy (wsV RX7 52 RX7 yX7_learn wsX7_learn) := goodIn_app (goodIn_of _ (by decide +kernel)) ggX7_wonBy_X7_learn
theorem dX7_wonBy_0 : decode cX7_wonBy 0 = .ok (.aload_n 0, 1) := by decide +kernel
theorem dX7_wonBy_1 : decode cX7_wonBy 1 = .ok (.iload_n 2, 1) := by decide +kernel
theorem dX7_wonBy_2 : decode cX7_wonBy 2 = .ok (.iload_n 3, 1) := by decide +kernel
theorem dX7_wonBy_3 : decode cX7_wonBy 3 = .ok (.invokevirtual 52, 3) := by decide +kernel
theorem dX7_wonBy_6 : decode cX7_wonBy 6 = .ok (.aload_n 0, 1) := by decide +kernel
theorem dX7_wonBy_7 : decode cX7_wonBy 7 = .ok (.getfield 13, 3) := by decide +kernel
theorem dX7_wonBy_10 : decode cX7_wonBy 10 = .ok (.iload_n 1, 1) := by decide +kernel
theorem dX7_wonBy_11 : decode cX7_wonBy 11 = .ok (.aaload, 1) := by decide +kernel
theorem dX7_wonBy_12 : decode cX7_wonBy 12 = .ok (.iload_n 2, 1) := by decide +kernel
theorem dX7_wonBy_13 : decode cX7_wonBy 13 = .ok (.bipush 25, 2) := by decide +kernel
theorem dX7_wonBy_15 : decode cX7_wonBy 15 = .ok (.imul, 1) := by decide +kernel
theorem dX7_wonBy_16 : decode cX7_wonBy 16 = .ok (.iload_n 3, 1) := by decide +kernel
theorem dX7_wonBy_17 : decode cX7_wonBy 17 = .ok (.iadd, 1) := by decide +kernel
theorem dX7_wonBy_18 : decode cX7_wonBy 18 = .ok (.daload, 1) := by decide +kernel
theorem dX7_wonBy_19 : decode cX7_wonBy 19 = .ok (.dreturn, 1) := by decide +kernel
set_option maxRecDepth 20000 in
theorem ggX7_aimOf_X7_learn : GoodIn wsX7_aimOf wsX7_learn := goodIn_r _ [6, 7, 8, 9, 10, 11, 12, 13, 14, 15, 16, 17, 5, 18, 19, 20, 1, 21, 22, 23, 24, 25, 26, 27, 28, 29, 30, 31, 32, 33, 34, 35, 36, 37, 38, 39, 40, 41, 42, 43, 44, 45, 46, 47, 48, 49, 50, 51, 52, 53, 54, 55, 56, 57, 58, 59, 60, 61, 62, 63, 64, 65, 66, 67, 68, 69, 70, 71, 72, 73, 74, 75, 76, 77, 78, 79, 80, 81, 82, 83, 84, 85] rfl (by decide +kernel)
set_option maxRecDepth 20000 in
theorem gX7_aimOf_X7_learn : GoodIn wsX7_aimOf (wsV RX7 52 RX7 yX7_learn wsX7_learn) := goodIn_app (goodIn_of _ (by decide +kernel)) ggX7_aimOf_X7_learn
theorem dX7_aimOf_0 : decode cX7_aimOf 0 = .ok (.aload_n 0, 1) := by decide +kernel
theorem dX7_aimOf_1 : decode cX7_aimOf 1 = .ok (.iload_n 2, 1) := by decide +kernel
theorem dX7_aimOf_2 : decode cX7_aimOf 2 = .ok (.iload_n 3, 1) := by decide +kernel
theorem dX7_aimOf_3 : decode cX7_aimOf 3 = .ok (.invokevirtual 52, 3) := by decide +kernel
theorem dX7_aimOf_6 : decode cX7_aimOf 6 = .ok (.aload_n 0, 1) := by decide +kernel
theorem dX7_aimOf_7 : decode cX7_aimOf 7 = .ok (.getfield 18, 3) := by decide +kernel
theorem dX7_aimOf_10 : decode cX7_aimOf 10 = .ok (.iload_n 1, 1) := by decide +kernel
theorem dX7_aimOf_11 : decode cX7_aimOf 11 = .ok (.aaload, 1) := by decide +kernel
theorem dX7_aimOf_12 : decode cX7_aimOf 12 = .ok (.iload_n 2, 1) := by decide +kernel
theorem dX7_aimOf_13 : decode cX7_aimOf 13 = .ok (.bipush 25, 2) := by decide +kernel
theorem dX7_aimOf_15 : decode cX7_aimOf 15 = .ok (.imul, 1) := by decide +kernel
theorem dX7_aimOf_16 : decode cX7_aimOf 16 = .ok (.iload_n 3, 1) := by decide +kernel
theorem dX7_aimOf_17 : decode cX7_aimOf 17 = .ok (.iadd, 1) := by decide +kernel
theorem dX7_aimOf_18 : decode cX7_aimOf 18 = .ok (.iaload, 1) := by decide +kernel
theorem dX7_aimOf_19 : decode cX7_aimOf 19 = .ok (.ireturn, 1) := by decide +kernel
set_option maxRecDepth 20000 in
theorem ggX7_isStill_X7_learn : GoodIn wsX7_isStill wsX7_learn := goodIn_r _ [6, 1, 7, 8, 9, 10, 11, 12, 13, 14, 15, 16, 5, 17, 18, 19, 20, 21, 22, 23, 24, 25, 26, 27, 28, 29, 30, 31, 32, 33, 34, 35, 36, 37, 38, 39, 40, 41, 42, 43, 44, 45, 46, 47, 48, 49, 50, 51, 52, 53, 54, 55, 56, 57, 58, 59, 60, 61, 62, 63, 64, 65, 66, 67, 68, 69, 70, 71, 72, 73, 74, 75, 76, 77, 78, 79, 80, 81, 82, 83, 84, 85] rfl (by decide +kernel)
set_option maxRecDepth 20000 in
theorem gX7_isStill_X7_learn : GoodIn wsX7_isStill (wsV RX7 52 RX7 yX7_learn wsX7_learn) := goodIn_app (goodIn_of _ (by decide +kernel)) ggX7_isStill_X7_learn
theorem dX7_isStill_0 : decode cX7_isStill 0 = .ok (.aload_n 0, 1) := by decide +kernel
theorem dX7_isStill_1 : decode cX7_isStill 1 = .ok (.iload_n 1, 1) := by decide +kernel
theorem dX7_isStill_2 : decode cX7_isStill 2 = .ok (.iload_n 2, 1) := by decide +kernel
theorem dX7_isStill_3 : decode cX7_isStill 3 = .ok (.invokevirtual 52, 3) := by decide +kernel
theorem dX7_isStill_6 : decode cX7_isStill 6 = .ok (.aload_n 0, 1) := by decide +kernel
theorem dX7_isStill_7 : decode cX7_isStill 7 = .ok (.getfield 21, 3) := by decide +kernel
theorem dX7_isStill_10 : decode cX7_isStill 10 = .ok (.iload_n 1, 1) := by decide +kernel
theorem dX7_isStill_11 : decode cX7_isStill 11 = .ok (.bipush 25, 2) := by decide +kernel
theorem dX7_isStill_13 : decode cX7_isStill 13 = .ok (.imul, 1) := by decide +kernel
theorem dX7_isStill_14 : decode cX7_isStill 14 = .ok (.iload_n 2, 1) := by decide +kernel
theorem dX7_isStill_15 : decode cX7_isStill 15 = .ok (.iadd, 1) := by decide +kernel
theorem dX7_isStill_16 : decode cX7_isStill 16 = .ok (.iaload, 1) := by decide +kernel
theorem dX7_isStill_17 : decode cX7_isStill 17 = .ok (.iconst 2, 1) := by decide +kernel
theorem dX7_isStill_18 : decode cX7_isStill 18 = .ok (.if_icmp .ne 7, 3) := by decide +kernel
theorem dX7_isStill_21 : decode cX7_isStill 21 = .ok (.iconst 1, 1) := by decide +kernel
theorem dX7_isStill_22 : decode cX7_isStill 22 = .ok (.goto 4, 3) := by decide +kernel
theorem dX7_isStill_25 : decode cX7_isStill 25 = .ok (.iconst 0, 1) := by decide +kernel
theorem dX7_isStill_26 : decode cX7_isStill 26 = .ok (.ireturn, 1) := by decide +kernel
set_option maxRecDepth 20000 in
theorem ggX7_learn_X9_leastRest : GoodIn wsX7_learn wsX9_leastRest := goodIn_r _ [7, 8, 62, 63, 64] rfl (by decide +kernel)
set_option maxRecDepth 20000 in
theorem gX7_learn_X9_leastRest : GoodIn wsX7_learn (wsV RX7 56 RX9 yX9_leastRest wsX9_leastRest) := goodIn_app (goodIn_of _ (by decide +kernel)) ggX7_learn_X9_leastRest
set_option maxRecDepth 20000 in
theorem ggX7_learn_X7_sweep : GoodIn wsX7_learn wsX7_sweep := goodIn_r _ [13, 14, 15, 16, 1, 17, 18, 19, 12, 20, 2, 21, 22, 23, 24, 6, 25, 26, 27, 28, 29, 30, 31, 8, 32, 33, 34, 35, 36, 37, 38, 39, 40, 41, 42, 43, 44, 45, 46, 47, 48, 49, 50, 51, 52, 53, 54, 55, 56, 57, 58, 59, 60, 61, 62, 63, 64, 65, 66, 67, 68, 69, 70, 71, 72, 73, 74, 75, 76, 77, 78, 79, 80, 81] rfl (by decide +kernel)
set_option maxRecDepth 20000 in
theorem gX7_learn_X7_sweep : GoodIn wsX7_learn (wsV RX7 62 RX7 yX7_sweep wsX7_sweep) := goodIn_app (goodIn_of _ (by decide +kernel)) ggX7_learn_X7_sweep
theorem dX7_learn_0 : decode cX7_learn 0 = .ok (.aload_n 0, 1) := by decide +kernel
theorem dX7_learn_1 : decode cX7_learn 1 = .ok (.getfield 21, 3) := by decide +kernel
theorem dX7_learn_4 : decode cX7_learn 4 = .ok (.iload_n 1, 1) := by decide +kernel
theorem dX7_learn_5 : decode cX7_learn 5 = .ok (.bipush 25, 2) := by decide +kernel
theorem dX7_learn_7 : decode cX7_learn 7 = .ok (.imul, 1) := by decide +kernel
theorem dX7_learn_8 : decode cX7_learn 8 = .ok (.iload_n 2, 1) := by decide +kernel
theorem dX7_learn_9 : decode cX7_learn 9 = .ok (.iadd, 1) := by decide +kernel
theorem dX7_learn_10 : decode cX7_learn 10 = .ok (.iaload, 1) := by decide +kernel
theorem dX7_learn_11 : decode cX7_learn 11 = .ok (.ifCond .eq 4, 3) := by decide +kernel
theorem dX7_learn_14 : decode cX7_learn 14 = .ok (.return_, 1) := by decide +kernel
theorem dX7_learn_15 : decode cX7_learn 15 = .ok (.aload_n 0, 1) := by decide +kernel
theorem dX7_learn_16 : decode cX7_learn 16 = .ok (.getfield 34, 3) := by decide +kernel
theorem dX7_learn_19 : decode cX7_learn 19 = .ok (.invokevirtual 56, 3) := by decide +kernel
theorem dX7_learn_22 : decode cX7_learn 22 = .ok (.istore_n 3, 1) := by decide +kernel
theorem dX7_learn_23 : decode cX7_learn 23 = .ok (.iload_n 3, 1) := by decide +kernel
theorem dX7_learn_24 : decode cX7_learn 24 = .ok (.istore 4, 2) := by decide +kernel
theorem dX7_learn_26 : decode cX7_learn 26 = .ok (.iload 4, 2) := by decide +kernel
theorem dX7_learn_28 : decode cX7_learn 28 = .ok (.iload_n 1, 1) := by decide +kernel
theorem dX7_learn_29 : decode cX7_learn 29 = .ok (.if_icmp .gt 48, 3) := by decide +kernel
theorem dX7_learn_32 : decode cX7_learn 32 = .ok (.iload_n 3, 1) := by decide +kernel
theorem dX7_learn_33 : decode cX7_learn 33 = .ok (.istore 5, 2) := by decide +kernel
theorem dX7_learn_35 : decode cX7_learn 35 = .ok (.iload 5, 2) := by decide +kernel
theorem dX7_learn_37 : decode cX7_learn 37 = .ok (.iload_n 2, 1) := by decide +kernel
theorem dX7_learn_38 : decode cX7_learn 38 = .ok (.if_icmp .gt 33, 3) := by decide +kernel
theorem dX7_learn_41 : decode cX7_learn 41 = .ok (.aload_n 0, 1) := by decide +kernel
theorem dX7_learn_42 : decode cX7_learn 42 = .ok (.getfield 21, 3) := by decide +kernel
theorem dX7_learn_45 : decode cX7_learn 45 = .ok (.iload 4, 2) := by decide +kernel
theorem dX7_learn_47 : decode cX7_learn 47 = .ok (.bipush 25, 2) := by decide +kernel
theorem dX7_learn_49 : decode cX7_learn 49 = .ok (.imul, 1) := by decide +kernel
theorem dX7_learn_50 : decode cX7_learn 50 = .ok (.iload 5, 2) := by decide +kernel
theorem dX7_learn_52 : decode cX7_learn 52 = .ok (.iadd, 1) := by decide +kernel
theorem dX7_learn_53 : decode cX7_learn 53 = .ok (.iaload, 1) := by decide +kernel
theorem dX7_learn_54 : decode cX7_learn 54 = .ok (.ifCond .ne 11, 3) := by decide +kernel
theorem dX7_learn_57 : decode cX7_learn 57 = .ok (.aload_n 0, 1) := by decide +kernel
theorem dX7_learn_58 : decode cX7_learn 58 = .ok (.iload 4, 2) := by decide +kernel
theorem dX7_learn_60 : decode cX7_learn 60 = .ok (.iload 5, 2) := by decide +kernel
theorem dX7_learn_62 : decode cX7_learn 62 = .ok (.invokevirtual 62, 3) := by decide +kernel
theorem dX7_learn_65 : decode cX7_learn 65 = .ok (.iinc 5 1, 3) := by decide +kernel
theorem dX7_learn_68 : decode cX7_learn 68 = .ok (.goto (-33), 3) := by decide +kernel
theorem dX7_learn_71 : decode cX7_learn 71 = .ok (.iinc 4 1, 3) := by decide +kernel
theorem dX7_learn_74 : decode cX7_learn 74 = .ok (.goto (-48), 3) := by decide +kernel
theorem dX7_learn_77 : decode cX7_learn 77 = .ok (.return_, 1) := by decide +kernel
set_option maxRecDepth 20000 in
theorem ggX7_sweep_X7_weigh : GoodIn wsX7_sweep wsX7_weigh := goodIn_r _ [9, 10, 11, 12, 13, 14, 15, 16, 17, 18, 19, 20, 21, 22, 23, 24, 25, 26, 8, 27, 28, 2, 29, 30, 31, 32, 33, 34, 35, 36, 45, 46, 47, 48, 49, 50, 51, 52, 53, 54, 55, 56, 57, 58, 59, 60, 61, 62, 63, 64, 65, 66, 67, 68, 69, 70, 71, 72, 73] rfl (by decide +kernel)
set_option maxRecDepth 20000 in
theorem gX7_sweep_X7_weigh : GoodIn wsX7_sweep (wsV RX7 65 RX7 yX7_weigh wsX7_weigh) := goodIn_app (goodIn_of _ (by decide +kernel)) ggX7_sweep_X7_weigh
set_option maxRecDepth 20000 in
theorem ggX7_sweep_X7_bestAim : GoodIn wsX7_sweep wsX7_bestAim := goodIn_r _ [40, 41, 42, 43, 8, 44, 34, 35, 45, 46, 47, 48, 49, 50, 51, 52, 53] rfl (by decide +kernel)
set_option maxRecDepth 20000 in
theorem gX7_sweep_X7_bestAim : GoodIn wsX7_sweep (wsV RX7 71 RX7 yX7_bestAim wsX7_bestAim) := goodIn_app (goodIn_of _ (by decide +kernel)) ggX7_sweep_X7_bestAim
set_option maxRecDepth 20000 in
theorem ggX7_sweep_X7_valueOf : GoodIn wsX7_sweep wsX7_valueOf := goodIn_r _ [44, 34, 35, 45, 46, 47, 48, 49, 50, 51, 52, 53] rfl (by decide +kernel)
set_option maxRecDepth 20000 in
theorem gX7_sweep_X7_valueOf : GoodIn wsX7_sweep (wsV RX7 75 RX7 yX7_valueOf wsX7_valueOf) := goodIn_app (goodIn_of _ (by decide +kernel)) ggX7_sweep_X7_valueOf
theorem dX7_sweep_0 : decode cX7_sweep 0 = .ok (.aload_n 0, 1) := by decide +kernel
theorem dX7_sweep_1 : decode cX7_sweep 1 = .ok (.iconst 0, 1) := by decide +kernel
theorem dX7_sweep_2 : decode cX7_sweep 2 = .ok (.iload_n 1, 1) := by decide +kernel
theorem dX7_sweep_3 : decode cX7_sweep 3 = .ok (.iload_n 2, 1) := by decide +kernel
theorem dX7_sweep_4 : decode cX7_sweep 4 = .ok (.invokevirtual 65, 3) := by decide +kernel
theorem dX7_sweep_7 : decode cX7_sweep 7 = .ok (.aload_n 0, 1) := by decide +kernel
theorem dX7_sweep_8 : decode cX7_sweep 8 = .ok (.iconst 1, 1) := by decide +kernel
theorem dX7_sweep_9 : decode cX7_sweep 9 = .ok (.iload_n 1, 1) := by decide +kernel
theorem dX7_sweep_10 : decode cX7_sweep 10 = .ok (.iload_n 2, 1) := by decide +kernel
theorem dX7_sweep_11 : decode cX7_sweep 11 = .ok (.invokevirtual 65, 3) := by decide +kernel
theorem dX7_sweep_14 : decode cX7_sweep 14 = .ok (.ldc2_w 69, 3) := by decide +kernel
theorem dX7_sweep_17 : decode cX7_sweep 17 = .ok (.dstore_n 3, 1) := by decide +kernel
theorem dX7_sweep_18 : decode cX7_sweep 18 = .ok (.ldc2_w 69, 3) := by decide +kernel
theorem dX7_sweep_21 : decode cX7_sweep 21 = .ok (.dstore 5, 2) := by decide +kernel
theorem dX7_sweep_23 : decode cX7_sweep 23 = .ok (.iconst 0, 1) := by decide +kernel
theorem dX7_sweep_24 : decode cX7_sweep 24 = .ok (.istore 7, 2) := by decide +kernel
theorem dX7_sweep_26 : decode cX7_sweep 26 = .ok (.iconst 0, 1) := by decide +kernel
theorem dX7_sweep_27 : decode cX7_sweep 27 = .ok (.istore 8, 2) := by decide +kernel
theorem dX7_sweep_29 : decode cX7_sweep 29 = .ok (.iload 8, 2) := by decide +kernel
theorem dX7_sweep_31 : decode cX7_sweep 31 = .ok (.bipush 12, 2) := by decide +kernel
theorem dX7_sweep_33 : decode cX7_sweep 33 = .ok (.if_icmp .ge 75, 3) := by decide +kernel
theorem dX7_sweep_36 : decode cX7_sweep 36 = .ok (.iload 7, 2) := by decide +kernel
theorem dX7_sweep_38 : decode cX7_sweep 38 = .ok (.ifCond .ne 70, 3) := by decide +kernel
theorem dX7_sweep_41 : decode cX7_sweep 41 = .ok (.aload_n 0, 1) := by decide +kernel
theorem dX7_sweep_42 : decode cX7_sweep 42 = .ok (.iconst 0, 1) := by decide +kernel
theorem dX7_sweep_43 : decode cX7_sweep 43 = .ok (.aload_n 0, 1) := by decide +kernel
theorem dX7_sweep_44 : decode cX7_sweep 44 = .ok (.iconst 0, 1) := by decide +kernel
theorem dX7_sweep_45 : decode cX7_sweep 45 = .ok (.dload 5, 2) := by decide +kernel
theorem dX7_sweep_47 : decode cX7_sweep 47 = .ok (.invokevirtual 71, 3) := by decide +kernel
theorem dX7_sweep_50 : decode cX7_sweep 50 = .ok (.dload 5, 2) := by decide +kernel
theorem dX7_sweep_52 : decode cX7_sweep 52 = .ok (.invokevirtual 75, 3) := by decide +kernel
theorem dX7_sweep_55 : decode cX7_sweep 55 = .ok (.dstore 9, 2) := by decide +kernel
theorem dX7_sweep_57 : decode cX7_sweep 57 = .ok (.aload_n 0, 1) := by decide +kernel
theorem dX7_sweep_58 : decode cX7_sweep 58 = .ok (.iconst 1, 1) := by decide +kernel
theorem dX7_sweep_59 : decode cX7_sweep 59 = .ok (.aload_n 0, 1) := by decide +kernel
theorem dX7_sweep_60 : decode cX7_sweep 60 = .ok (.iconst 1, 1) := by decide +kernel
theorem dX7_sweep_61 : decode cX7_sweep 61 = .ok (.dload 9, 2) := by decide +kernel
theorem dX7_sweep_63 : decode cX7_sweep 63 = .ok (.invokevirtual 71, 3) := by decide +kernel
theorem dX7_sweep_66 : decode cX7_sweep 66 = .ok (.dload 9, 2) := by decide +kernel
theorem dX7_sweep_68 : decode cX7_sweep 68 = .ok (.invokevirtual 75, 3) := by decide +kernel
theorem dX7_sweep_71 : decode cX7_sweep 71 = .ok (.dstore 11, 2) := by decide +kernel
theorem dX7_sweep_73 : decode cX7_sweep 73 = .ok (.dload 9, 2) := by decide +kernel
theorem dX7_sweep_75 : decode cX7_sweep 75 = .ok (.dload_n 3, 1) := by decide +kernel
theorem dX7_sweep_76 : decode cX7_sweep 76 = .ok (.dcmp .l, 1) := by decide +kernel
theorem dX7_sweep_77 : decode cX7_sweep 77 = .ok (.ifCond .ne 15, 3) := by decide +kernel
theorem dX7_sweep_80 : decode cX7_sweep 80 = .ok (.dload 11, 2) := by decide +kernel
theorem dX7_sweep_82 : decode cX7_sweep 82 = .ok (.dload 5, 2) := by decide +kernel
theorem dX7_sweep_84 : decode cX7_sweep 84 = .ok (.dcmp .l, 1) := by decide +kernel
theorem dX7_sweep_85 : decode cX7_sweep 85 = .ok (.ifCond .ne 7, 3) := by decide +kernel
theorem dX7_sweep_88 : decode cX7_sweep 88 = .ok (.iconst 1, 1) := by decide +kernel
theorem dX7_sweep_89 : decode cX7_sweep 89 = .ok (.goto 4, 3) := by decide +kernel
theorem dX7_sweep_92 : decode cX7_sweep 92 = .ok (.iconst 0, 1) := by decide +kernel
theorem dX7_sweep_93 : decode cX7_sweep 93 = .ok (.istore 7, 2) := by decide +kernel
theorem dX7_sweep_95 : decode cX7_sweep 95 = .ok (.dload 9, 2) := by decide +kernel
theorem dX7_sweep_97 : decode cX7_sweep 97 = .ok (.dstore_n 3, 1) := by decide +kernel
theorem dX7_sweep_98 : decode cX7_sweep 98 = .ok (.dload 11, 2) := by decide +kernel
theorem dX7_sweep_100 : decode cX7_sweep 100 = .ok (.dstore 5, 2) := by decide +kernel
theorem dX7_sweep_102 : decode cX7_sweep 102 = .ok (.iinc 8 1, 3) := by decide +kernel
theorem dX7_sweep_105 : decode cX7_sweep 105 = .ok (.goto (-76), 3) := by decide +kernel
theorem dX7_sweep_108 : decode cX7_sweep 108 = .ok (.iload_n 1, 1) := by decide +kernel
theorem dX7_sweep_109 : decode cX7_sweep 109 = .ok (.bipush 25, 2) := by decide +kernel
theorem dX7_sweep_111 : decode cX7_sweep 111 = .ok (.imul, 1) := by decide +kernel
theorem dX7_sweep_112 : decode cX7_sweep 112 = .ok (.iload_n 2, 1) := by decide +kernel
theorem dX7_sweep_113 : decode cX7_sweep 113 = .ok (.iadd, 1) := by decide +kernel
theorem dX7_sweep_114 : decode cX7_sweep 114 = .ok (.istore 8, 2) := by decide +kernel
theorem dX7_sweep_116 : decode cX7_sweep 116 = .ok (.aload_n 0, 1) := by decide +kernel
theorem dX7_sweep_117 : decode cX7_sweep 117 = .ok (.getfield 13, 3) := by decide +kernel
theorem dX7_sweep_120 : decode cX7_sweep 120 = .ok (.iconst 0, 1) := by decide +kernel
theorem dX7_sweep_121 : decode cX7_sweep 121 = .ok (.aaload, 1) := by decide +kernel
theorem dX7_sweep_122 : decode cX7_sweep 122 = .ok (.iload 8, 2) := by decide +kernel
theorem dX7_sweep_124 : decode cX7_sweep 124 = .ok (.dload_n 3, 1) := by decide +kernel
theorem dX7_sweep_125 : decode cX7_sweep 125 = .ok (.dastore, 1) := by decide +kernel
theorem dX7_sweep_126 : decode cX7_sweep 126 = .ok (.aload_n 0, 1) := by decide +kernel
theorem dX7_sweep_127 : decode cX7_sweep 127 = .ok (.getfield 13, 3) := by decide +kernel
theorem dX7_sweep_130 : decode cX7_sweep 130 = .ok (.iconst 1, 1) := by decide +kernel
theorem dX7_sweep_131 : decode cX7_sweep 131 = .ok (.aaload, 1) := by decide +kernel
theorem dX7_sweep_132 : decode cX7_sweep 132 = .ok (.iload 8, 2) := by decide +kernel
theorem dX7_sweep_134 : decode cX7_sweep 134 = .ok (.dload 5, 2) := by decide +kernel
theorem dX7_sweep_136 : decode cX7_sweep 136 = .ok (.dastore, 1) := by decide +kernel
theorem dX7_sweep_137 : decode cX7_sweep 137 = .ok (.aload_n 0, 1) := by decide +kernel
theorem dX7_sweep_138 : decode cX7_sweep 138 = .ok (.getfield 18, 3) := by decide +kernel
theorem dX7_sweep_141 : decode cX7_sweep 141 = .ok (.iconst 0, 1) := by decide +kernel
theorem dX7_sweep_142 : decode cX7_sweep 142 = .ok (.aaload, 1) := by decide +kernel
theorem dX7_sweep_143 : decode cX7_sweep 143 = .ok (.iload 8, 2) := by decide +kernel
theorem dX7_sweep_145 : decode cX7_sweep 145 = .ok (.aload_n 0, 1) := by decide +kernel
theorem dX7_sweep_146 : decode cX7_sweep 146 = .ok (.iconst 0, 1) := by decide +kernel
theorem dX7_sweep_147 : decode cX7_sweep 147 = .ok (.dload 5, 2) := by decide +kernel
theorem dX7_sweep_149 : decode cX7_sweep 149 = .ok (.invokevirtual 71, 3) := by decide +kernel
theorem dX7_sweep_152 : decode cX7_sweep 152 = .ok (.iastore, 1) := by decide +kernel
theorem dX7_sweep_153 : decode cX7_sweep 153 = .ok (.aload_n 0, 1) := by decide +kernel
theorem dX7_sweep_154 : decode cX7_sweep 154 = .ok (.getfield 18, 3) := by decide +kernel
theorem dX7_sweep_157 : decode cX7_sweep 157 = .ok (.iconst 1, 1) := by decide +kernel
theorem dX7_sweep_158 : decode cX7_sweep 158 = .ok (.aaload, 1) := by decide +kernel
theorem dX7_sweep_159 : decode cX7_sweep 159 = .ok (.iload 8, 2) := by decide +kernel
theorem dX7_sweep_161 : decode cX7_sweep 161 = .ok (.aload_n 0, 1) := by decide +kernel
theorem dX7_sweep_162 : decode cX7_sweep 162 = .ok (.iconst 1, 1) := by decide +kernel
theorem dX7_sweep_163 : decode cX7_sweep 163 = .ok (.dload_n 3, 1) := by decide +kernel
theorem dX7_sweep_164 : decode cX7_sweep 164 = .ok (.invokevirtual 71, 3) := by decide +kernel
theorem dX7_sweep_167 : decode cX7_sweep 167 = .ok (.iastore, 1) := by decide +kernel
theorem dX7_sweep_168 : decode cX7_sweep 168 = .ok (.aload_n 0, 1) := by decide +kernel
theorem dX7_sweep_169 : decode cX7_sweep 169 = .ok (.getfield 21, 3) := by decide +kernel
theorem dX7_sweep_172 : decode cX7_sweep 172 = .ok (.iload 8, 2) := by decide +kernel
theorem dX7_sweep_174 : decode cX7_sweep 174 = .ok (.iload 7, 2) := by decide +kernel
theorem dX7_sweep_176 : decode cX7_sweep 176 = .ok (.ifCond .eq 7, 3) := by decide +kernel
theorem dX7_sweep_179 : decode cX7_sweep 179 = .ok (.iconst 2, 1) := by decide +kernel
theorem dX7_sweep_180 : decode cX7_sweep 180 = .ok (.goto 4, 3) := by decide +kernel
theorem dX7_sweep_183 : decode cX7_sweep 183 = .ok (.iconst 1, 1) := by decide +kernel
theorem dX7_sweep_184 : decode cX7_sweep 184 = .ok (.iastore, 1) := by decide +kernel
theorem dX7_sweep_185 : decode cX7_sweep 185 = .ok (.return_, 1) := by decide +kernel
set_option maxRecDepth 20000 in
theorem ggX7_weigh_X9_restsBehind : GoodIn wsX7_weigh wsX9_restsBehind := goodIn_r _ [7, 8, 9, 10, 6, 11, 12, 13, 14, 39, 40, 41] rfl (by decide +kernel)
set_option maxRecDepth 20000 in
theorem gX7_weigh_X9_restsBehind : GoodIn wsX7_weigh (wsV RX7 79 RX9 yX9_restsBehind wsX9_restsBehind) := goodIn_app (goodIn_of _ (by decide +kernel)) ggX7_weigh_X9_restsBehind
set_option maxRecDepth 20000 in
theorem ggX7_weigh_X7_weighAim : GoodIn wsX7_weigh wsX7_weighAim := goodIn_r _ [19, 20, 21, 22, 23, 24, 2, 25, 26, 27, 28, 29, 30, 31, 32, 33, 34, 35, 36, 37, 38, 42, 43, 44, 45, 46, 47, 48, 49, 50, 51, 52, 53, 54, 55, 56, 57, 58] rfl (by decide +kernel)
set_option maxRecDepth 20000 in
theorem gX7_weigh_X7_weighAim : GoodIn wsX7_weigh (wsV RX7 83 RX7 yX7_weighAim wsX7_weighAim) := goodIn_app (goodIn_of _ (by decide +kernel)) ggX7_weigh_X7_weighAim
theorem dX7_weigh_0 : decode cX7_weigh 0 = .ok (.aload_n 0, 1) := by decide +kernel
theorem dX7_weigh_1 : decode cX7_weigh 1 = .ok (.getfield 34, 3) := by decide +kernel
theorem dX7_weigh_4 : decode cX7_weigh 4 = .ok (.iload_n 1, 1) := by decide +kernel
theorem dX7_weigh_5 : decode cX7_weigh 5 = .ok (.ifCond .ne 7, 3) := by decide +kernel
theorem dX7_weigh_8 : decode cX7_weigh 8 = .ok (.iload_n 2, 1) := by decide +kernel
theorem dX7_weigh_9 : decode cX7_weigh 9 = .ok (.goto 4, 3) := by decide +kernel
theorem dX7_weigh_12 : decode cX7_weigh 12 = .ok (.iload_n 3, 1) := by decide +kernel
theorem dX7_weigh_13 : decode cX7_weigh 13 = .ok (.aload_n 0, 1) := by decide +kernel
theorem dX7_weigh_14 : decode cX7_weigh 14 = .ok (.getfield 31, 3) := by decide +kernel
theorem dX7_weigh_17 : decode cX7_weigh 17 = .ok (.invokevirtual 79, 3) := by decide +kernel
theorem dX7_weigh_20 : decode cX7_weigh 20 = .ok (.iload_n 1, 1) := by decide +kernel
theorem dX7_weigh_21 : decode cX7_weigh 21 = .ok (.ifCond .ne 7, 3) := by decide +kernel
theorem dX7_weigh_24 : decode cX7_weigh 24 = .ok (.iload_n 3, 1) := by decide +kernel
theorem dX7_weigh_25 : decode cX7_weigh 25 = .ok (.goto 7, 3) := by decide +kernel
theorem dX7_weigh_28 : decode cX7_weigh 28 = .ok (.iload_n 2, 1) := by decide +kernel
theorem dX7_weigh_29 : decode cX7_weigh 29 = .ok (.bipush 25, 2) := by decide +kernel
theorem dX7_weigh_31 : decode cX7_weigh 31 = .ok (.imul, 1) := by decide +kernel
theorem dX7_weigh_32 : decode cX7_weigh 32 = .ok (.istore 4, 2) := by decide +kernel
theorem dX7_weigh_34 : decode cX7_weigh 34 = .ok (.iload_n 1, 1) := by decide +kernel
theorem dX7_weigh_35 : decode cX7_weigh 35 = .ok (.ifCond .ne 8, 3) := by decide +kernel
theorem dX7_weigh_38 : decode cX7_weigh 38 = .ok (.bipush 25, 2) := by decide +kernel
theorem dX7_weigh_40 : decode cX7_weigh 40 = .ok (.goto 4, 3) := by decide +kernel
theorem dX7_weigh_43 : decode cX7_weigh 43 = .ok (.iconst 1, 1) := by decide +kernel
theorem dX7_weigh_44 : decode cX7_weigh 44 = .ok (.istore 5, 2) := by decide +kernel
theorem dX7_weigh_46 : decode cX7_weigh 46 = .ok (.iconst 1, 1) := by decide +kernel
theorem dX7_weigh_47 : decode cX7_weigh 47 = .ok (.istore 6, 2) := by decide +kernel
theorem dX7_weigh_49 : decode cX7_weigh 49 = .ok (.iload 6, 2) := by decide +kernel
theorem dX7_weigh_51 : decode cX7_weigh 51 = .ok (.bipush 63, 2) := by decide +kernel
theorem dX7_weigh_53 : decode cX7_weigh 53 = .ok (.if_icmp .ge 20, 3) := by decide +kernel
theorem dX7_weigh_56 : decode cX7_weigh 56 = .ok (.aload_n 0, 1) := by decide +kernel
theorem dX7_weigh_57 : decode cX7_weigh 57 = .ok (.iload_n 1, 1) := by decide +kernel
theorem dX7_weigh_58 : decode cX7_weigh 58 = .ok (.iload 6, 2) := by decide +kernel
theorem dX7_weigh_60 : decode cX7_weigh 60 = .ok (.iload 4, 2) := by decide +kernel
theorem dX7_weigh_62 : decode cX7_weigh 62 = .ok (.iload 5, 2) := by decide +kernel
theorem dX7_weigh_64 : decode cX7_weigh 64 = .ok (.invokevirtual 83, 3) := by decide +kernel
theorem dX7_weigh_67 : decode cX7_weigh 67 = .ok (.iinc 6 1, 3) := by decide +kernel
theorem dX7_weigh_70 : decode cX7_weigh 70 = .ok (.goto (-21), 3) := by decide +kernel
theorem dX7_weigh_73 : decode cX7_weigh 73 = .ok (.return_, 1) := by decide +kernel
theorem dX7_weighAim_0 : decode cX7_weighAim 0 = .ok (.aload_n 0, 1) := by decide +kernel
theorem dX7_weighAim_1 : decode cX7_weighAim 1 = .ok (.getfield 42, 3) := by decide +kernel
theorem dX7_weighAim_4 : decode cX7_weighAim 4 = .ok (.iload_n 1, 1) := by decide +kernel
theorem dX7_weighAim_5 : decode cX7_weighAim 5 = .ok (.aaload, 1) := by decide +kernel
theorem dX7_weighAim_6 : decode cX7_weighAim 6 = .ok (.astore 5, 2) := by decide +kernel
theorem dX7_weighAim_8 : decode cX7_weighAim 8 = .ok (.aload_n 0, 1) := by decide +kernel
theorem dX7_weighAim_9 : decode cX7_weighAim 9 = .ok (.getfield 13, 3) := by decide +kernel
theorem dX7_weighAim_12 : decode cX7_weighAim 12 = .ok (.iconst 1, 1) := by decide +kernel
theorem dX7_weighAim_13 : decode cX7_weighAim 13 = .ok (.iload_n 1, 1) := by decide +kernel
theorem dX7_weighAim_14 : decode cX7_weighAim 14 = .ok (.isub, 1) := by decide +kernel
theorem dX7_weighAim_15 : decode cX7_weighAim 15 = .ok (.aaload, 1) := by decide +kernel
theorem dX7_weighAim_16 : decode cX7_weighAim 16 = .ok (.astore 6, 2) := by decide +kernel
theorem dX7_weighAim_18 : decode cX7_weighAim 18 = .ok (.dconst 0, 1) := by decide +kernel
theorem dX7_weighAim_19 : decode cX7_weighAim 19 = .ok (.dstore 7, 2) := by decide +kernel
theorem dX7_weighAim_21 : decode cX7_weighAim 21 = .ok (.iconst 0, 1) := by decide +kernel
theorem dX7_weighAim_22 : decode cX7_weighAim 22 = .ok (.istore 9, 2) := by decide +kernel
theorem dX7_weighAim_24 : decode cX7_weighAim 24 = .ok (.iload_n 2, 1) := by decide +kernel
theorem dX7_weighAim_25 : decode cX7_weighAim 25 = .ok (.iconst 5, 1) := by decide +kernel
theorem dX7_weighAim_26 : decode cX7_weighAim 26 = .ok (.imul, 1) := by decide +kernel
theorem dX7_weighAim_27 : decode cX7_weighAim 27 = .ok (.istore 10, 2) := by decide +kernel
theorem dX7_weighAim_29 : decode cX7_weighAim 29 = .ok (.iload 10, 2) := by decide +kernel
theorem dX7_weighAim_31 : decode cX7_weighAim 31 = .ok (.istore 11, 2) := by decide +kernel
theorem dX7_weighAim_33 : decode cX7_weighAim 33 = .ok (.iload 11, 2) := by decide +kernel
theorem dX7_weighAim_35 : decode cX7_weighAim 35 = .ok (.iload 10, 2) := by decide +kernel
theorem dX7_weighAim_37 : decode cX7_weighAim 37 = .ok (.aload_n 0, 1) := by decide +kernel
theorem dX7_weighAim_38 : decode cX7_weighAim 38 = .ok (.getfield 38, 3) := by decide +kernel
theorem dX7_weighAim_41 : decode cX7_weighAim 41 = .ok (.getfield 87, 3) := by decide +kernel
theorem dX7_weighAim_44 : decode cX7_weighAim 44 = .ok (.iload_n 2, 1) := by decide +kernel
theorem dX7_weighAim_45 : decode cX7_weighAim 45 = .ok (.iaload, 1) := by decide +kernel
theorem dX7_weighAim_46 : decode cX7_weighAim 46 = .ok (.iadd, 1) := by decide +kernel
theorem dX7_weighAim_47 : decode cX7_weighAim 47 = .ok (.if_icmp .ge 105, 3) := by decide +kernel
theorem dX7_weighAim_50 : decode cX7_weighAim 50 = .ok (.aload_n 0, 1) := by decide +kernel
theorem dX7_weighAim_51 : decode cX7_weighAim 51 = .ok (.getfield 38, 3) := by decide +kernel
theorem dX7_weighAim_54 : decode cX7_weighAim 54 = .ok (.getfield 92, 3) := by decide +kernel
theorem dX7_weighAim_57 : decode cX7_weighAim 57 = .ok (.iload 11, 2) := by decide +kernel
theorem dX7_weighAim_59 : decode cX7_weighAim 59 = .ok (.iaload, 1) := by decide +kernel
theorem dX7_weighAim_60 : decode cX7_weighAim 60 = .ok (.istore 12, 2) := by decide +kernel
theorem dX7_weighAim_62 : decode cX7_weighAim 62 = .ok (.aload_n 0, 1) := by decide +kernel
theorem dX7_weighAim_63 : decode cX7_weighAim 63 = .ok (.getfield 31, 3) := by decide +kernel
theorem dX7_weighAim_66 : decode cX7_weighAim 66 = .ok (.iload 12, 2) := by decide +kernel
theorem dX7_weighAim_68 : decode cX7_weighAim 68 = .ok (.iaload, 1) := by decide +kernel
theorem dX7_weighAim_69 : decode cX7_weighAim 69 = .ok (.istore 13, 2) := by decide +kernel
theorem dX7_weighAim_71 : decode cX7_weighAim 71 = .ok (.iload 13, 2) := by decide +kernel
theorem dX7_weighAim_73 : decode cX7_weighAim 73 = .ok (.bipush (-5), 2) := by decide +kernel
theorem dX7_weighAim_75 : decode cX7_weighAim 75 = .ok (.if_icmp .eq 8, 3) := by decide +kernel
theorem dX7_weighAim_78 : decode cX7_weighAim 78 = .ok (.iload 12, 2) := by decide +kernel
theorem dX7_weighAim_80 : decode cX7_weighAim 80 = .ok (.ifCond .ne 19, 3) := by decide +kernel
theorem dX7_weighAim_83 : decode cX7_weighAim 83 = .ok (.iload 9, 2) := by decide +kernel
theorem dX7_weighAim_85 : decode cX7_weighAim 85 = .ok (.aload 5, 2) := by decide +kernel
theorem dX7_weighAim_87 : decode cX7_weighAim 87 = .ok (.getfield 95, 3) := by decide +kernel
theorem dX7_weighAim_90 : decode cX7_weighAim 90 = .ok (.iload 11, 2) := by decide +kernel
theorem dX7_weighAim_92 : decode cX7_weighAim 92 = .ok (.iaload, 1) := by decide +kernel
theorem dX7_weighAim_93 : decode cX7_weighAim 93 = .ok (.iadd, 1) := by decide +kernel
theorem dX7_weighAim_94 : decode cX7_weighAim 94 = .ok (.istore 9, 2) := by decide +kernel
theorem dX7_weighAim_96 : decode cX7_weighAim 96 = .ok (.goto 50, 3) := by decide +kernel
theorem dX7_weighAim_99 : decode cX7_weighAim 99 = .ok (.iload 13, 2) := by decide +kernel
theorem dX7_weighAim_101 : decode cX7_weighAim 101 = .ok (.ifCond .ne 19, 3) := by decide +kernel
theorem dX7_weighAim_104 : decode cX7_weighAim 104 = .ok (.dload 7, 2) := by decide +kernel
theorem dX7_weighAim_106 : decode cX7_weighAim 106 = .ok (.aload 5, 2) := by decide +kernel
theorem dX7_weighAim_108 : decode cX7_weighAim 108 = .ok (.getfield 100, 3) := by decide +kernel
theorem dX7_weighAim_111 : decode cX7_weighAim 111 = .ok (.iload 11, 2) := by decide +kernel
theorem dX7_weighAim_113 : decode cX7_weighAim 113 = .ok (.daload, 1) := by decide +kernel
theorem dX7_weighAim_114 : decode cX7_weighAim 114 = .ok (.dadd, 1) := by decide +kernel
theorem dX7_weighAim_115 : decode cX7_weighAim 115 = .ok (.dstore 7, 2) := by decide +kernel
theorem dX7_weighAim_117 : decode cX7_weighAim 117 = .ok (.goto 29, 3) := by decide +kernel
theorem dX7_weighAim_120 : decode cX7_weighAim 120 = .ok (.dload 7, 2) := by decide +kernel
theorem dX7_weighAim_122 : decode cX7_weighAim 122 = .ok (.aload 5, 2) := by decide +kernel
theorem dX7_weighAim_124 : decode cX7_weighAim 124 = .ok (.getfield 100, 3) := by decide +kernel
theorem dX7_weighAim_127 : decode cX7_weighAim 127 = .ok (.iload 11, 2) := by decide +kernel
theorem dX7_weighAim_129 : decode cX7_weighAim 129 = .ok (.daload, 1) := by decide +kernel
theorem dX7_weighAim_130 : decode cX7_weighAim 130 = .ok (.dconst 1, 1) := by decide +kernel
theorem dX7_weighAim_131 : decode cX7_weighAim 131 = .ok (.aload 6, 2) := by decide +kernel
theorem dX7_weighAim_133 : decode cX7_weighAim 133 = .ok (.iload_n 3, 1) := by decide +kernel
theorem dX7_weighAim_134 : decode cX7_weighAim 134 = .ok (.iload 13, 2) := by decide +kernel
theorem dX7_weighAim_136 : decode cX7_weighAim 136 = .ok (.iload 4, 2) := by decide +kernel
theorem dX7_weighAim_138 : decode cX7_weighAim 138 = .ok (.imul, 1) := by decide +kernel
theorem dX7_weighAim_139 : decode cX7_weighAim 139 = .ok (.iadd, 1) := by decide +kernel
theorem dX7_weighAim_140 : decode cX7_weighAim 140 = .ok (.daload, 1) := by decide +kernel
theorem dX7_weighAim_141 : decode cX7_weighAim 141 = .ok (.dsub, 1) := by decide +kernel
theorem dX7_weighAim_142 : decode cX7_weighAim 142 = .ok (.dmul, 1) := by decide +kernel
theorem dX7_weighAim_143 : decode cX7_weighAim 143 = .ok (.dadd, 1) := by decide +kernel
theorem dX7_weighAim_144 : decode cX7_weighAim 144 = .ok (.dstore 7, 2) := by decide +kernel
theorem dX7_weighAim_146 : decode cX7_weighAim 146 = .ok (.iinc 11 1, 3) := by decide +kernel
theorem dX7_weighAim_149 : decode cX7_weighAim 149 = .ok (.goto (-116), 3) := by decide +kernel
theorem dX7_weighAim_152 : decode cX7_weighAim 152 = .ok (.aload_n 0, 1) := by decide +kernel
theorem dX7_weighAim_153 : decode cX7_weighAim 153 = .ok (.getfield 25, 3) := by decide +kernel
theorem dX7_weighAim_156 : decode cX7_weighAim 156 = .ok (.iload_n 1, 1) := by decide +kernel
theorem dX7_weighAim_157 : decode cX7_weighAim 157 = .ok (.aaload, 1) := by decide +kernel
theorem dX7_weighAim_158 : decode cX7_weighAim 158 = .ok (.iload_n 2, 1) := by decide +kernel
theorem dX7_weighAim_159 : decode cX7_weighAim 159 = .ok (.dload 7, 2) := by decide +kernel
theorem dX7_weighAim_161 : decode cX7_weighAim 161 = .ok (.dastore, 1) := by decide +kernel
theorem dX7_weighAim_162 : decode cX7_weighAim 162 = .ok (.aload_n 0, 1) := by decide +kernel
theorem dX7_weighAim_163 : decode cX7_weighAim 163 = .ok (.getfield 28, 3) := by decide +kernel
theorem dX7_weighAim_166 : decode cX7_weighAim 166 = .ok (.iload_n 1, 1) := by decide +kernel
theorem dX7_weighAim_167 : decode cX7_weighAim 167 = .ok (.aaload, 1) := by decide +kernel
theorem dX7_weighAim_168 : decode cX7_weighAim 168 = .ok (.iload_n 2, 1) := by decide +kernel
theorem dX7_weighAim_169 : decode cX7_weighAim 169 = .ok (.iload 9, 2) := by decide +kernel
theorem dX7_weighAim_171 : decode cX7_weighAim 171 = .ok (.i2d, 1) := by decide +kernel
theorem dX7_weighAim_172 : decode cX7_weighAim 172 = .ok (.ldc2_w 104, 3) := by decide +kernel
theorem dX7_weighAim_175 : decode cX7_weighAim 175 = .ok (.ddiv, 1) := by decide +kernel
theorem dX7_weighAim_176 : decode cX7_weighAim 176 = .ok (.dastore, 1) := by decide +kernel
theorem dX7_weighAim_177 : decode cX7_weighAim 177 = .ok (.return_, 1) := by decide +kernel
theorem dX7_valueOf_0 : decode cX7_valueOf 0 = .ok (.aload_n 0, 1) := by decide +kernel
theorem dX7_valueOf_1 : decode cX7_valueOf 1 = .ok (.getfield 25, 3) := by decide +kernel
theorem dX7_valueOf_4 : decode cX7_valueOf 4 = .ok (.iload_n 1, 1) := by decide +kernel
theorem dX7_valueOf_5 : decode cX7_valueOf 5 = .ok (.aaload, 1) := by decide +kernel
theorem dX7_valueOf_6 : decode cX7_valueOf 6 = .ok (.iload_n 2, 1) := by decide +kernel
theorem dX7_valueOf_7 : decode cX7_valueOf 7 = .ok (.daload, 1) := by decide +kernel
theorem dX7_valueOf_8 : decode cX7_valueOf 8 = .ok (.aload_n 0, 1) := by decide +kernel
theorem dX7_valueOf_9 : decode cX7_valueOf 9 = .ok (.getfield 28, 3) := by decide +kernel
theorem dX7_valueOf_12 : decode cX7_valueOf 12 = .ok (.iload_n 1, 1) := by decide +kernel
theorem dX7_valueOf_13 : decode cX7_valueOf 13 = .ok (.aaload, 1) := by decide +kernel
theorem dX7_valueOf_14 : decode cX7_valueOf 14 = .ok (.iload_n 2, 1) := by decide +kernel
theorem dX7_valueOf_15 : decode cX7_valueOf 15 = .ok (.daload, 1) := by decide +kernel
theorem dX7_valueOf_16 : decode cX7_valueOf 16 = .ok (.dconst 1, 1) := by decide +kernel
theorem dX7_valueOf_17 : decode cX7_valueOf 17 = .ok (.dload_n 3, 1) := by decide +kernel
theorem dX7_valueOf_18 : decode cX7_valueOf 18 = .ok (.dsub, 1) := by decide +kernel
theorem dX7_valueOf_19 : decode cX7_valueOf 19 = .ok (.dmul, 1) := by decide +kernel
theorem dX7_valueOf_20 : decode cX7_valueOf 20 = .ok (.dadd, 1) := by decide +kernel
theorem dX7_valueOf_21 : decode cX7_valueOf 21 = .ok (.dreturn, 1) := by decide +kernel
set_option maxRecDepth 20000 in
theorem ggX7_bestAim_X7_valueOf : GoodIn wsX7_bestAim wsX7_valueOf := goodIn_r _ [5, 6, 7, 8, 9, 10, 11, 12, 13, 14, 15, 16] rfl (by decide +kernel)
set_option maxRecDepth 20000 in
theorem gX7_bestAim_X7_valueOf : GoodIn wsX7_bestAim (wsV RX7 75 RX7 yX7_valueOf wsX7_valueOf) := goodIn_app (goodIn_of _ (by decide +kernel)) ggX7_bestAim_X7_valueOf
theorem dX7_bestAim_0 : decode cX7_bestAim 0 = .ok (.iconst 1, 1) := by decide +kernel
theorem dX7_bestAim_1 : decode cX7_bestAim 1 = .ok (.istore 4, 2) := by decide +kernel
theorem dX7_bestAim_3 : decode cX7_bestAim 3 = .ok (.aload_n 0, 1) := by decide +kernel
theorem dX7_bestAim_4 : decode cX7_bestAim 4 = .ok (.iload_n 1, 1) := by decide +kernel
theorem dX7_bestAim_5 : decode cX7_bestAim 5 = .ok (.iconst 1, 1) := by decide +kernel
theorem dX7_bestAim_6 : decode cX7_bestAim 6 = .ok (.dload_n 2, 1) := by decide +kernel
theorem dX7_bestAim_7 : decode cX7_bestAim 7 = .ok (.invokevirtual 75, 3) := by decide +kernel
theorem dX7_bestAim_10 : decode cX7_bestAim 10 = .ok (.dstore 5, 2) := by decide +kernel
theorem dX7_bestAim_12 : decode cX7_bestAim 12 = .ok (.iconst 2, 1) := by decide +kernel
theorem dX7_bestAim_13 : decode cX7_bestAim 13 = .ok (.istore 7, 2) := by decide +kernel
theorem dX7_bestAim_15 : decode cX7_bestAim 15 = .ok (.iload 7, 2) := by decide +kernel
theorem dX7_bestAim_17 : decode cX7_bestAim 17 = .ok (.bipush 63, 2) := by decide +kernel
theorem dX7_bestAim_19 : decode cX7_bestAim 19 = .ok (.if_icmp .ge 35, 3) := by decide +kernel
theorem dX7_bestAim_22 : decode cX7_bestAim 22 = .ok (.aload_n 0, 1) := by decide +kernel
theorem dX7_bestAim_23 : decode cX7_bestAim 23 = .ok (.iload_n 1, 1) := by decide +kernel
theorem dX7_bestAim_24 : decode cX7_bestAim 24 = .ok (.iload 7, 2) := by decide +kernel
theorem dX7_bestAim_26 : decode cX7_bestAim 26 = .ok (.dload_n 2, 1) := by decide +kernel
theorem dX7_bestAim_27 : decode cX7_bestAim 27 = .ok (.invokevirtual 75, 3) := by decide +kernel
theorem dX7_bestAim_30 : decode cX7_bestAim 30 = .ok (.dstore 8, 2) := by decide +kernel
theorem dX7_bestAim_32 : decode cX7_bestAim 32 = .ok (.dload 8, 2) := by decide +kernel
theorem dX7_bestAim_34 : decode cX7_bestAim 34 = .ok (.dload 5, 2) := by decide +kernel
theorem dX7_bestAim_36 : decode cX7_bestAim 36 = .ok (.dcmp .l, 1) := by decide +kernel
theorem dX7_bestAim_37 : decode cX7_bestAim 37 = .ok (.ifCond .le 11, 3) := by decide +kernel
theorem dX7_bestAim_40 : decode cX7_bestAim 40 = .ok (.dload 8, 2) := by decide +kernel
theorem dX7_bestAim_42 : decode cX7_bestAim 42 = .ok (.dstore 5, 2) := by decide +kernel
theorem dX7_bestAim_44 : decode cX7_bestAim 44 = .ok (.iload 7, 2) := by decide +kernel
theorem dX7_bestAim_46 : decode cX7_bestAim 46 = .ok (.istore 4, 2) := by decide +kernel
theorem dX7_bestAim_48 : decode cX7_bestAim 48 = .ok (.iinc 7 1, 3) := by decide +kernel
theorem dX7_bestAim_51 : decode cX7_bestAim 51 = .ok (.goto (-36), 3) := by decide +kernel
theorem dX7_bestAim_54 : decode cX7_bestAim 54 = .ok (.iload 4, 2) := by decide +kernel
theorem dX7_bestAim_56 : decode cX7_bestAim 56 = .ok (.ireturn, 1) := by decide +kernel
theorem dX8_init_0 : decode cX8_init 0 = .ok (.aload_n 0, 1) := by decide +kernel
theorem dX8_init_1 : decode cX8_init 1 = .ok (.invokespecial 3, 3) := by decide +kernel
theorem dX8_init_4 : decode cX8_init 4 = .ok (.aload_n 0, 1) := by decide +kernel
theorem dX8_init_5 : decode cX8_init 5 = .ok (.bipush 20, 2) := by decide +kernel
theorem dX8_init_7 : decode cX8_init 7 = .ok (.newarray .int, 2) := by decide +kernel
theorem dX8_init_9 : decode cX8_init 9 = .ok (.putfield 9, 3) := by decide +kernel
theorem dX8_init_12 : decode cX8_init 12 = .ok (.aload_n 0, 1) := by decide +kernel
theorem dX8_init_13 : decode cX8_init 13 = .ok (.bipush (-11), 2) := by decide +kernel
theorem dX8_init_15 : decode cX8_init 15 = .ok (.putfield 15, 3) := by decide +kernel
theorem dX8_init_18 : decode cX8_init 18 = .ok (.return_, 1) := by decide +kernel
theorem dX8_isMissing_0 : decode cX8_isMissing 0 = .ok (.aload_n 0, 1) := by decide +kernel
theorem dX8_isMissing_1 : decode cX8_isMissing 1 = .ok (.getfield 15, 3) := by decide +kernel
theorem dX8_isMissing_4 : decode cX8_isMissing 4 = .ok (.bipush (-11), 2) := by decide +kernel
theorem dX8_isMissing_6 : decode cX8_isMissing 6 = .ok (.if_icmp .ne 7, 3) := by decide +kernel
theorem dX8_isMissing_9 : decode cX8_isMissing 9 = .ok (.iconst 1, 1) := by decide +kernel
theorem dX8_isMissing_10 : decode cX8_isMissing 10 = .ok (.goto 4, 3) := by decide +kernel
theorem dX8_isMissing_13 : decode cX8_isMissing 13 = .ok (.iconst 0, 1) := by decide +kernel
theorem dX8_isMissing_14 : decode cX8_isMissing 14 = .ok (.ireturn, 1) := by decide +kernel
set_option maxRecDepth 20000 in
theorem ggX8_make_J7_fill_53178 : GoodIn wsX8_make wsJ7_fill_53178 := goodIn_r _ [7] rfl (by decide +kernel)
set_option maxRecDepth 20000 in
theorem gX8_make_J7_fill_53178 : GoodIn wsX8_make (va_wsS RX8 22 yJ7_fill_53178 wsJ7_fill_53178) := goodIn_app (goodIn_of _ (by decide +kernel)) ggX8_make_J7_fill_53178
theorem dX8_make_0 : decode cX8_make 0 = .ok (.aload_n 0, 1) := by decide +kernel
theorem dX8_make_1 : decode cX8_make 1 = .ok (.iload_n 1, 1) := by decide +kernel
theorem dX8_make_2 : decode cX8_make 2 = .ok (.putfield 19, 3) := by decide +kernel
theorem dX8_make_5 : decode cX8_make 5 = .ok (.aload_n 0, 1) := by decide +kernel
theorem dX8_make_6 : decode cX8_make 6 = .ok (.iload_n 2, 1) := by decide +kernel
theorem dX8_make_7 : decode cX8_make 7 = .ok (.putfield 15, 3) := by decide +kernel
theorem dX8_make_10 : decode cX8_make 10 = .ok (.aload_n 0, 1) := by decide +kernel
theorem dX8_make_11 : decode cX8_make 11 = .ok (.getfield 9, 3) := by decide +kernel
theorem dX8_make_14 : decode cX8_make 14 = .ok (.bipush (-5), 2) := by decide +kernel
theorem dX8_make_16 : decode cX8_make 16 = .ok (.invokestatic 22, 3) := by decide +kernel
theorem dX8_make_19 : decode cX8_make 19 = .ok (.return_, 1) := by decide +kernel
theorem dX8_become_0 : decode cX8_become 0 = .ok (.aload_n 0, 1) := by decide +kernel
theorem dX8_become_1 : decode cX8_become 1 = .ok (.aload_n 1, 1) := by decide +kernel
theorem dX8_become_2 : decode cX8_become 2 = .ok (.getfield 19, 3) := by decide +kernel
theorem dX8_become_5 : decode cX8_become 5 = .ok (.putfield 19, 3) := by decide +kernel
theorem dX8_become_8 : decode cX8_become 8 = .ok (.aload_n 0, 1) := by decide +kernel
theorem dX8_become_9 : decode cX8_become 9 = .ok (.aload_n 1, 1) := by decide +kernel
theorem dX8_become_10 : decode cX8_become 10 = .ok (.getfield 15, 3) := by decide +kernel
theorem dX8_become_13 : decode cX8_become 13 = .ok (.putfield 15, 3) := by decide +kernel
theorem dX8_become_16 : decode cX8_become 16 = .ok (.aload_n 1, 1) := by decide +kernel
theorem dX8_become_17 : decode cX8_become 17 = .ok (.getfield 9, 3) := by decide +kernel
theorem dX8_become_20 : decode cX8_become 20 = .ok (.iconst 0, 1) := by decide +kernel
theorem dX8_become_21 : decode cX8_become 21 = .ok (.aload_n 0, 1) := by decide +kernel
theorem dX8_become_22 : decode cX8_become 22 = .ok (.getfield 9, 3) := by decide +kernel
theorem dX8_become_25 : decode cX8_become 25 = .ok (.iconst 0, 1) := by decide +kernel
theorem dX8_become_26 : decode cX8_become 26 = .ok (.bipush 20, 2) := by decide +kernel
theorem dX8_become_28 : decode cX8_become 28 = .ok (.invokestatic 28, 3) := by decide +kernel
theorem dX8_become_31 : decode cX8_become 31 = .ok (.return_, 1) := by decide +kernel
theorem dX8_gather_0 : decode cX8_gather 0 = .ok (.iconst 0, 1) := by decide +kernel
theorem dX8_gather_1 : decode cX8_gather 1 = .ok (.istore_n 3, 1) := by decide +kernel
theorem dX8_gather_2 : decode cX8_gather 2 = .ok (.iload_n 1, 1) := by decide +kernel
theorem dX8_gather_3 : decode cX8_gather 3 = .ok (.istore 4, 2) := by decide +kernel
theorem dX8_gather_5 : decode cX8_gather 5 = .ok (.iload 4, 2) := by decide +kernel
theorem dX8_gather_7 : decode cX8_gather 7 = .ok (.aload_n 0, 1) := by decide +kernel
theorem dX8_gather_8 : decode cX8_gather 8 = .ok (.getfield 15, 3) := by decide +kernel
theorem dX8_gather_11 : decode cX8_gather 11 = .ok (.if_icmp .ge 34, 3) := by decide +kernel
theorem dX8_gather_14 : decode cX8_gather 14 = .ok (.aload_n 0, 1) := by decide +kernel
theorem dX8_gather_15 : decode cX8_gather 15 = .ok (.getfield 9, 3) := by decide +kernel
theorem dX8_gather_18 : decode cX8_gather 18 = .ok (.iload 4, 2) := by decide +kernel
theorem dX8_gather_20 : decode cX8_gather 20 = .ok (.iaload, 1) := by decide +kernel
theorem dX8_gather_21 : decode cX8_gather 21 = .ok (.bipush (-5), 2) := by decide +kernel
theorem dX8_gather_23 : decode cX8_gather 23 = .ok (.if_icmp .eq 16, 3) := by decide +kernel
theorem dX8_gather_26 : decode cX8_gather 26 = .ok (.aload_n 2, 1) := by decide +kernel
theorem dX8_gather_27 : decode cX8_gather 27 = .ok (.iload_n 3, 1) := by decide +kernel
theorem dX8_gather_28 : decode cX8_gather 28 = .ok (.aload_n 0, 1) := by decide +kernel
theorem dX8_gather_29 : decode cX8_gather 29 = .ok (.getfield 9, 3) := by decide +kernel
theorem dX8_gather_32 : decode cX8_gather 32 = .ok (.iload 4, 2) := by decide +kernel
theorem dX8_gather_34 : decode cX8_gather 34 = .ok (.iaload, 1) := by decide +kernel
theorem dX8_gather_35 : decode cX8_gather 35 = .ok (.iastore, 1) := by decide +kernel
theorem dX8_gather_36 : decode cX8_gather 36 = .ok (.iinc 3 1, 3) := by decide +kernel
theorem dX8_gather_39 : decode cX8_gather 39 = .ok (.iinc 4 1, 3) := by decide +kernel
theorem dX8_gather_42 : decode cX8_gather 42 = .ok (.goto (-37), 3) := by decide +kernel
theorem dX8_gather_45 : decode cX8_gather 45 = .ok (.iload_n 3, 1) := by decide +kernel
theorem dX8_gather_46 : decode cX8_gather 46 = .ok (.ireturn, 1) := by decide +kernel
set_option maxRecDepth 20000 in
theorem ggX9_init_X0_scoreOf : GoodIn wsX9_init wsX0_scoreOf := goodIn_r _ [12, 13, 14, 11, 15, 16, 17, 18] rfl (by decide +kernel)
set_option maxRecDepth 20000 in
theorem gX9_init_X0_scoreOf : GoodIn wsX9_init (va_wsS RX9 23 yX0_scoreOf wsX0_scoreOf) := goodIn_app (goodIn_of _ (by decide +kernel)) ggX9_init_X0_scoreOf
set_option maxRecDepth 20000 in
theorem ggX9_init_X9_markEnding : GoodIn wsX9_init wsX9_markEnding := goodIn_r _ [23, 7, 8, 24, 25, 11, 26, 16, 17, 18, 27, 28, 29, 30, 31, 32] rfl (by decide +kernel)
set_option maxRecDepth 20000 in
theorem gX9_init_X9_markEnding : GoodIn wsX9_init (wsV RX9 29 RX9 yX9_markEnding wsX9_markEnding) := goodIn_app (goodIn_of _ (by decide +kernel)) ggX9_init_X9_markEnding
theorem dX9_init_0 : decode cX9_init 0 = .ok (.aload_n 0, 1) := by decide +kernel
theorem dX9_init_1 : decode cX9_init 1 = .ok (.invokespecial 3, 3) := by decide +kernel
theorem dX9_init_4 : decode cX9_init 4 = .ok (.aload_n 0, 1) := by decide +kernel
theorem dX9_init_5 : decode cX9_init 5 = .ok (.bipush 63, 2) := by decide +kernel
theorem dX9_init_7 : decode cX9_init 7 = .ok (.newarray .int, 2) := by decide +kernel
theorem dX9_init_9 : decode cX9_init 9 = .ok (.putfield 9, 3) := by decide +kernel
theorem dX9_init_12 : decode cX9_init 12 = .ok (.aload_n 0, 1) := by decide +kernel
theorem dX9_init_13 : decode cX9_init 13 = .ok (.bipush 63, 2) := by decide +kernel
theorem dX9_init_15 : decode cX9_init 15 = .ok (.newarray .boolean, 2) := by decide +kernel
theorem dX9_init_17 : decode cX9_init 17 = .ok (.putfield 15, 3) := by decide +kernel
theorem dX9_init_20 : decode cX9_init 20 = .ok (.aload_n 0, 1) := by decide +kernel
theorem dX9_init_21 : decode cX9_init 21 = .ok (.iconst 1, 1) := by decide +kernel
theorem dX9_init_22 : decode cX9_init 22 = .ok (.putfield 19, 3) := by decide +kernel
theorem dX9_init_25 : decode cX9_init 25 = .ok (.iconst 0, 1) := by decide +kernel
theorem dX9_init_26 : decode cX9_init 26 = .ok (.istore_n 1, 1) := by decide +kernel
theorem dX9_init_27 : decode cX9_init 27 = .ok (.iload_n 1, 1) := by decide +kernel
theorem dX9_init_28 : decode cX9_init 28 = .ok (.bipush 63, 2) := by decide +kernel
theorem dX9_init_30 : decode cX9_init 30 = .ok (.if_icmp .ge 19, 3) := by decide +kernel
theorem dX9_init_33 : decode cX9_init 33 = .ok (.aload_n 0, 1) := by decide +kernel
theorem dX9_init_34 : decode cX9_init 34 = .ok (.getfield 9, 3) := by decide +kernel
theorem dX9_init_37 : decode cX9_init 37 = .ok (.iload_n 1, 1) := by decide +kernel
theorem dX9_init_38 : decode cX9_init 38 = .ok (.iload_n 1, 1) := by decide +kernel
theorem dX9_init_39 : decode cX9_init 39 = .ok (.invokestatic 23, 3) := by decide +kernel
theorem dX9_init_42 : decode cX9_init 42 = .ok (.iastore, 1) := by decide +kernel
theorem dX9_init_43 : decode cX9_init 43 = .ok (.iinc 1 1, 3) := by decide +kernel
theorem dX9_init_46 : decode cX9_init 46 = .ok (.goto (-19), 3) := by decide +kernel
theorem dX9_init_49 : decode cX9_init 49 = .ok (.aload_n 0, 1) := by decide +kernel
theorem dX9_init_50 : decode cX9_init 50 = .ok (.invokevirtual 29, 3) := by decide +kernel
theorem dX9_init_53 : decode cX9_init 53 = .ok (.return_, 1) := by decide +kernel
set_option maxRecDepth 20000 in
theorem ggX9_become_X9_markEnding : GoodIn wsX9_become wsX9_markEnding := goodIn_r _ [6, 7, 1, 8, 9, 10, 11, 12, 13, 14, 15, 16, 17, 18, 19, 20] rfl (by decide +kernel)
set_option maxRecDepth 20000 in
theorem gX9_become_X9_markEnding : GoodIn wsX9_become (wsV RX9 29 RX9 yX9_markEnding wsX9_markEnding) := goodIn_app (goodIn_of _ (by decide +kernel)) ggX9_become_X9_markEnding
theorem dX9_become_0 : decode cX9_become 0 = .ok (.iload_n 1, 1) := by decide +kernel
theorem dX9_become_1 : decode cX9_become 1 = .ok (.aload_n 0, 1) := by decide +kernel
theorem dX9_become_2 : decode cX9_become 2 = .ok (.getfield 19, 3) := by decide +kernel
theorem dX9_become_5 : decode cX9_become 5 = .ok (.if_icmp .ne 5, 3) := by decide +kernel
theorem dX9_become_8 : decode cX9_become 8 = .ok (.iconst 0, 1) := by decide +kernel
theorem dX9_become_9 : decode cX9_become 9 = .ok (.ireturn, 1) := by decide +kernel
theorem dX9_become_10 : decode cX9_become 10 = .ok (.aload_n 0, 1) := by decide +kernel
theorem dX9_become_11 : decode cX9_become 11 = .ok (.iload_n 1, 1) := by decide +kernel
theorem dX9_become_12 : decode cX9_become 12 = .ok (.putfield 19, 3) := by decide +kernel
theorem dX9_become_15 : decode cX9_become 15 = .ok (.aload_n 0, 1) := by decide +kernel
theorem dX9_become_16 : decode cX9_become 16 = .ok (.invokevirtual 29, 3) := by decide +kernel
theorem dX9_become_19 : decode cX9_become 19 = .ok (.iconst 1, 1) := by decide +kernel
theorem dX9_become_20 : decode cX9_become 20 = .ok (.ireturn, 1) := by decide +kernel
set_option maxRecDepth 20000 in
theorem ggX9_markEnding_X0_isOfKind : GoodIn wsX9_markEnding wsX0_isOfKind := goodIn_r _ [6, 7, 8, 5, 9, 10, 11, 12] rfl (by decide +kernel)
set_option maxRecDepth 20000 in
theorem gX9_markEnding_X0_isOfKind : GoodIn wsX9_markEnding (va_wsS RX9 32 yX0_isOfKind wsX0_isOfKind) := goodIn_app (goodIn_of _ (by decide +kernel)) ggX9_markEnding_X0_isOfKind
theorem dX9_markEnding_0 : decode cX9_markEnding 0 = .ok (.iconst 0, 1) := by decide +kernel
theorem dX9_markEnding_1 : decode cX9_markEnding 1 = .ok (.istore_n 1, 1) := by decide +kernel
theorem dX9_markEnding_2 : decode cX9_markEnding 2 = .ok (.iload_n 1, 1) := by decide +kernel
theorem dX9_markEnding_3 : decode cX9_markEnding 3 = .ok (.bipush 63, 2) := by decide +kernel
theorem dX9_markEnding_5 : decode cX9_markEnding 5 = .ok (.if_icmp .ge 51, 3) := by decide +kernel
theorem dX9_markEnding_8 : decode cX9_markEnding 8 = .ok (.aload_n 0, 1) := by decide +kernel
theorem dX9_markEnding_9 : decode cX9_markEnding 9 = .ok (.getfield 15, 3) := by decide +kernel
theorem dX9_markEnding_12 : decode cX9_markEnding 12 = .ok (.iload_n 1, 1) := by decide +kernel
theorem dX9_markEnding_13 : decode cX9_markEnding 13 = .ok (.aload_n 0, 1) := by decide +kernel
theorem dX9_markEnding_14 : decode cX9_markEnding 14 = .ok (.getfield 19, 3) := by decide +kernel
theorem dX9_markEnding_17 : decode cX9_markEnding 17 = .ok (.ifCond .eq 27, 3) := by decide +kernel
theorem dX9_markEnding_20 : decode cX9_markEnding 20 = .ok (.iload_n 1, 1) := by decide +kernel
theorem dX9_markEnding_21 : decode cX9_markEnding 21 = .ok (.iconst 2, 1) := by decide +kernel
theorem dX9_markEnding_22 : decode cX9_markEnding 22 = .ok (.invokestatic 32, 3) := by decide +kernel
theorem dX9_markEnding_25 : decode cX9_markEnding 25 = .ok (.ifCond .ne 19, 3) := by decide +kernel
theorem dX9_markEnding_28 : decode cX9_markEnding 28 = .ok (.aload_n 0, 1) := by decide +kernel
theorem dX9_markEnding_29 : decode cX9_markEnding 29 = .ok (.getfield 19, 3) := by decide +kernel
theorem dX9_markEnding_32 : decode cX9_markEnding 32 = .ok (.iconst 2, 1) := by decide +kernel
theorem dX9_markEnding_33 : decode cX9_markEnding 33 = .ok (.if_icmp .ne 15, 3) := by decide +kernel
theorem dX9_markEnding_36 : decode cX9_markEnding 36 = .ok (.iload_n 1, 1) := by decide +kernel
theorem dX9_markEnding_37 : decode cX9_markEnding 37 = .ok (.iconst 3, 1) := by decide +kernel
theorem dX9_markEnding_38 : decode cX9_markEnding 38 = .ok (.invokestatic 32, 3) := by decide +kernel
theorem dX9_markEnding_41 : decode cX9_markEnding 41 = .ok (.ifCond .eq 7, 3) := by decide +kernel
theorem dX9_markEnding_44 : decode cX9_markEnding 44 = .ok (.iconst 1, 1) := by decide +kernel
theorem dX9_markEnding_45 : decode cX9_markEnding 45 = .ok (.goto 4, 3) := by decide +kernel
theorem dX9_markEnding_48 : decode cX9_markEnding 48 = .ok (.iconst 0, 1) := by decide +kernel
theorem dX9_markEnding_49 : decode cX9_markEnding 49 = .ok (.bastore, 1) := by decide +kernel
theorem dX9_markEnding_50 : decode cX9_markEnding 50 = .ok (.iinc 1 1, 3) := by decide +kernel
theorem dX9_markEnding_53 : decode cX9_markEnding 53 = .ok (.goto (-51), 3) := by decide +kernel
theorem dX9_markEnding_56 : decode cX9_markEnding 56 = .ok (.return_, 1) := by decide +kernel
theorem dX9_leastRest_0 : decode cX9_leastRest 0 = .ok (.aload_n 0, 1) := by decide +kernel
theorem dX9_leastRest_1 : decode cX9_leastRest 1 = .ok (.getfield 19, 3) := by decide +kernel
theorem dX9_leastRest_4 : decode cX9_leastRest 4 = .ok (.ifCond .ne 7, 3) := by decide +kernel
theorem dX9_leastRest_7 : decode cX9_leastRest 7 = .ok (.iconst 1, 1) := by decide +kernel
theorem dX9_leastRest_8 : decode cX9_leastRest 8 = .ok (.goto 4, 3) := by decide +kernel
theorem dX9_leastRest_11 : decode cX9_leastRest 11 = .ok (.iconst 2, 1) := by decide +kernel
theorem dX9_leastRest_12 : decode cX9_leastRest 12 = .ok (.ireturn, 1) := by decide +kernel
theorem dX9_restBehind_0 : decode cX9_restBehind 0 = .ok (.iload_n 1, 1) := by decide +kernel
theorem dX9_restBehind_1 : decode cX9_restBehind 1 = .ok (.aload_n 0, 1) := by decide +kernel
theorem dX9_restBehind_2 : decode cX9_restBehind 2 = .ok (.getfield 9, 3) := by decide +kernel
theorem dX9_restBehind_5 : decode cX9_restBehind 5 = .ok (.iload_n 2, 1) := by decide +kernel
theorem dX9_restBehind_6 : decode cX9_restBehind 6 = .ok (.iaload, 1) := by decide +kernel
theorem dX9_restBehind_7 : decode cX9_restBehind 7 = .ok (.isub, 1) := by decide +kernel
theorem dX9_restBehind_8 : decode cX9_restBehind 8 = .ok (.istore_n 3, 1) := by decide +kernel
theorem dX9_restBehind_9 : decode cX9_restBehind 9 = .ok (.iload_n 3, 1) := by decide +kernel
theorem dX9_restBehind_10 : decode cX9_restBehind 10 = .ok (.ifCond .lt 28, 3) := by decide +kernel
theorem dX9_restBehind_13 : decode cX9_restBehind 13 = .ok (.iload_n 3, 1) := by decide +kernel
theorem dX9_restBehind_14 : decode cX9_restBehind 14 = .ok (.ifCond .ne 12, 3) := by decide +kernel
theorem dX9_restBehind_17 : decode cX9_restBehind 17 = .ok (.aload_n 0, 1) := by decide +kernel
theorem dX9_restBehind_18 : decode cX9_restBehind 18 = .ok (.getfield 15, 3) := by decide +kernel
theorem dX9_restBehind_21 : decode cX9_restBehind 21 = .ok (.iload_n 2, 1) := by decide +kernel
theorem dX9_restBehind_22 : decode cX9_restBehind 22 = .ok (.baload, 1) := by decide +kernel
theorem dX9_restBehind_23 : decode cX9_restBehind 23 = .ok (.ifCond .eq 15, 3) := by decide +kernel
theorem dX9_restBehind_26 : decode cX9_restBehind 26 = .ok (.iload_n 3, 1) := by decide +kernel
theorem dX9_restBehind_27 : decode cX9_restBehind 27 = .ok (.iconst 1, 1) := by decide +kernel
theorem dX9_restBehind_28 : decode cX9_restBehind 28 = .ok (.if_icmp .ne 13, 3) := by decide +kernel
theorem dX9_restBehind_31 : decode cX9_restBehind 31 = .ok (.aload_n 0, 1) := by decide +kernel
theorem dX9_restBehind_32 : decode cX9_restBehind 32 = .ok (.getfield 19, 3) := by decide +kernel
theorem dX9_restBehind_35 : decode cX9_restBehind 35 = .ok (.ifCond .eq 6, 3) := by decide +kernel
theorem dX9_restBehind_38 : decode cX9_restBehind 38 = .ok (.bipush (-5), 2) := by decide +kernel
theorem dX9_restBehind_40 : decode cX9_restBehind 40 = .ok (.ireturn, 1) := by decide +kernel
theorem dX9_restBehind_41 : decode cX9_restBehind 41 = .ok (.iload_n 3, 1) := by decide +kernel
theorem dX9_restBehind_42 : decode cX9_restBehind 42 = .ok (.ireturn, 1) := by decide +kernel
set_option maxRecDepth 20000 in
theorem ggX9_restsBehind_X9_restBehind : GoodIn wsX9_restsBehind wsX9_restBehind := goodIn_r _ [5, 6, 7, 8, 9, 10, 11] rfl (by decide +kernel)
set_option maxRecDepth 20000 in
theorem gX9_restsBehind_X9_restBehind : GoodIn wsX9_restsBehind (wsV RX9 36 RX9 yX9_restBehind wsX9_restBehind) := goodIn_app (goodIn_of _ (by decide +kernel)) ggX9_restsBehind_X9_restBehind
theorem dX9_restsBehind_0 : decode cX9_restsBehind 0 = .ok (.iconst 0, 1) := by decide +kernel
theorem dX9_restsBehind_1 : decode cX9_restsBehind 1 = .ok (.istore_n 3, 1) := by decide +kernel
theorem dX9_restsBehind_2 : decode cX9_restsBehind 2 = .ok (.iload_n 3, 1) := by decide +kernel
theorem dX9_restsBehind_3 : decode cX9_restsBehind 3 = .ok (.bipush 63, 2) := by decide +kernel
theorem dX9_restsBehind_5 : decode cX9_restsBehind 5 = .ok (.if_icmp .ge 18, 3) := by decide +kernel
theorem dX9_restsBehind_8 : decode cX9_restsBehind 8 = .ok (.aload_n 2, 1) := by decide +kernel
theorem dX9_restsBehind_9 : decode cX9_restsBehind 9 = .ok (.iload_n 3, 1) := by decide +kernel
theorem dX9_restsBehind_10 : decode cX9_restsBehind 10 = .ok (.aload_n 0, 1) := by decide +kernel
theorem dX9_restsBehind_11 : decode cX9_restsBehind 11 = .ok (.iload_n 1, 1) := by decide +kernel
theorem dX9_restsBehind_12 : decode cX9_restsBehind 12 = .ok (.iload_n 3, 1) := by decide +kernel
theorem dX9_restsBehind_13 : decode cX9_restsBehind 13 = .ok (.invokevirtual 36, 3) := by decide +kernel
theorem dX9_restsBehind_16 : decode cX9_restsBehind 16 = .ok (.iastore, 1) := by decide +kernel
theorem dX9_restsBehind_17 : decode cX9_restsBehind 17 = .ok (.iinc 3 1, 3) := by decide +kernel
theorem dX9_restsBehind_20 : decode cX9_restsBehind 20 = .ok (.goto (-18), 3) := by decide +kernel
theorem dX9_restsBehind_23 : decode cX9_restsBehind 23 = .ok (.return_, 1) := by decide +kernel
set_option maxRecDepth 20000 in
theorem ggX9_verdict_X9_restBehind : GoodIn wsX9_verdict wsX9_restBehind := goodIn_r _ [5, 6, 7, 8, 9, 10, 11] rfl (by decide +kernel)
set_option maxRecDepth 20000 in
theorem gX9_verdict_X9_restBehind : GoodIn wsX9_verdict (wsV RX9 36 RX9 yX9_restBehind wsX9_restBehind) := goodIn_app (goodIn_of _ (by decide +kernel)) ggX9_verdict_X9_restBehind
theorem dX9_verdict_0 : decode cX9_verdict 0 = .ok (.iload_n 3, 1) := by decide +kernel
theorem dX9_verdict_1 : decode cX9_verdict 1 = .ok (.istore 4, 2) := by decide +kernel
theorem dX9_verdict_3 : decode cX9_verdict 3 = .ok (.iconst 0, 1) := by decide +kernel
theorem dX9_verdict_4 : decode cX9_verdict 4 = .ok (.istore 5, 2) := by decide +kernel
theorem dX9_verdict_6 : decode cX9_verdict 6 = .ok (.iload 5, 2) := by decide +kernel
theorem dX9_verdict_8 : decode cX9_verdict 8 = .ok (.iload_n 2, 1) := by decide +kernel
theorem dX9_verdict_9 : decode cX9_verdict 9 = .ok (.if_icmp .ge 59, 3) := by decide +kernel
theorem dX9_verdict_12 : decode cX9_verdict 12 = .ok (.aload_n 0, 1) := by decide +kernel
theorem dX9_verdict_13 : decode cX9_verdict 13 = .ok (.iload 4, 2) := by decide +kernel
theorem dX9_verdict_15 : decode cX9_verdict 15 = .ok (.aload_n 1, 1) := by decide +kernel
theorem dX9_verdict_16 : decode cX9_verdict 16 = .ok (.iload 5, 2) := by decide +kernel
theorem dX9_verdict_18 : decode cX9_verdict 18 = .ok (.iaload, 1) := by decide +kernel
theorem dX9_verdict_19 : decode cX9_verdict 19 = .ok (.invokevirtual 36, 3) := by decide +kernel
theorem dX9_verdict_22 : decode cX9_verdict 22 = .ok (.istore 4, 2) := by decide +kernel
theorem dX9_verdict_24 : decode cX9_verdict 24 = .ok (.iload 4, 2) := by decide +kernel
theorem dX9_verdict_26 : decode cX9_verdict 26 = .ok (.bipush (-5), 2) := by decide +kernel
theorem dX9_verdict_28 : decode cX9_verdict 28 = .ok (.if_icmp .ne 9, 3) := by decide +kernel
theorem dX9_verdict_31 : decode cX9_verdict 31 = .ok (.bipush 100, 2) := by decide +kernel
theorem dX9_verdict_33 : decode cX9_verdict 33 = .ok (.iload 5, 2) := by decide +kernel
theorem dX9_verdict_35 : decode cX9_verdict 35 = .ok (.iadd, 1) := by decide +kernel
theorem dX9_verdict_36 : decode cX9_verdict 36 = .ok (.ireturn, 1) := by decide +kernel
theorem dX9_verdict_37 : decode cX9_verdict 37 = .ok (.iload 4, 2) := by decide +kernel
theorem dX9_verdict_39 : decode cX9_verdict 39 = .ok (.ifCond .ne 23, 3) := by decide +kernel
theorem dX9_verdict_42 : decode cX9_verdict 42 = .ok (.iload 5, 2) := by decide +kernel
theorem dX9_verdict_44 : decode cX9_verdict 44 = .ok (.iload_n 2, 1) := by decide +kernel
theorem dX9_verdict_45 : decode cX9_verdict 45 = .ok (.iconst 1, 1) := by decide +kernel
theorem dX9_verdict_46 : decode cX9_verdict 46 = .ok (.isub, 1) := by decide +kernel
theorem dX9_verdict_47 : decode cX9_verdict 47 = .ok (.if_icmp .ne 8, 3) := by decide +kernel
theorem dX9_verdict_50 : decode cX9_verdict 50 = .ok (.iload 5, 2) := by decide +kernel
theorem dX9_verdict_52 : decode cX9_verdict 52 = .ok (.goto 9, 3) := by decide +kernel
theorem dX9_verdict_55 : decode cX9_verdict 55 = .ok (.sipush 200, 3) := by decide +kernel
theorem dX9_verdict_58 : decode cX9_verdict 58 = .ok (.iload 5, 2) := by decide +kernel
theorem dX9_verdict_60 : decode cX9_verdict 60 = .ok (.iadd, 1) := by decide +kernel
theorem dX9_verdict_61 : decode cX9_verdict 61 = .ok (.ireturn, 1) := by decide +kernel
theorem dX9_verdict_62 : decode cX9_verdict 62 = .ok (.iinc 5 1, 3) := by decide +kernel
theorem dX9_verdict_65 : decode cX9_verdict 65 = .ok (.goto (-59), 3) := by decide +kernel
theorem dX9_verdict_68 : decode cX9_verdict 68 = .ok (.sipush 1000, 3) := by decide +kernel
theorem dX9_verdict_71 : decode cX9_verdict 71 = .ok (.iload 4, 2) := by decide +kernel
theorem dX9_verdict_73 : decode cX9_verdict 73 = .ok (.iadd, 1) := by decide +kernel
theorem dX9_verdict_74 : decode cX9_verdict 74 = .ok (.ireturn, 1) := by decide +kernel
theorem dX10_init_0 : decode cX10_init 0 = .ok (.aload_n 0, 1) := by decide +kernel
theorem dX10_init_1 : decode cX10_init 1 = .ok (.invokespecial 3, 3) := by decide +kernel
theorem dX10_init_4 : decode cX10_init 4 = .ok (.aload_n 0, 1) := by decide +kernel
theorem dX10_init_5 : decode cX10_init 5 = .ok (.bipush 60, 2) := by decide +kernel
theorem dX10_init_7 : decode cX10_init 7 = .ok (.newarray .int, 2) := by decide +kernel
theorem dX10_init_9 : decode cX10_init 9 = .ok (.putfield 11, 3) := by decide +kernel
theorem dX10_init_12 : decode cX10_init 12 = .ok (.aload_n 0, 1) := by decide +kernel
theorem dX10_init_13 : decode cX10_init 13 = .ok (.bipush 12, 2) := by decide +kernel
theorem dX10_init_15 : decode cX10_init 15 = .ok (.newarray .int, 2) := by decide +kernel
theorem dX10_init_17 : decode cX10_init 17 = .ok (.putfield 15, 3) := by decide +kernel
theorem dX10_init_20 : decode cX10_init 20 = .ok (.return_, 1) := by decide +kernel
theorem dX10_append_0 : decode cX10_append 0 = .ok (.aload_n 0, 1) := by decide +kernel
theorem dX10_append_1 : decode cX10_append 1 = .ok (.getfield 18, 3) := by decide +kernel
theorem dX10_append_4 : decode cX10_append 4 = .ok (.bipush 60, 2) := by decide +kernel
theorem dX10_append_6 : decode cX10_append 6 = .ok (.if_icmp .lt 5, 3) := by decide +kernel
theorem dX10_append_9 : decode cX10_append 9 = .ok (.iconst 0, 1) := by decide +kernel
theorem dX10_append_10 : decode cX10_append 10 = .ok (.ireturn, 1) := by decide +kernel
theorem dX10_append_11 : decode cX10_append 11 = .ok (.aload_n 0, 1) := by decide +kernel
theorem dX10_append_12 : decode cX10_append 12 = .ok (.getfield 11, 3) := by decide +kernel
theorem dX10_append_15 : decode cX10_append 15 = .ok (.aload_n 0, 1) := by decide +kernel
theorem dX10_append_16 : decode cX10_append 16 = .ok (.getfield 18, 3) := by decide +kernel
theorem dX10_append_19 : decode cX10_append 19 = .ok (.iload_n 1, 1) := by decide +kernel
theorem dX10_append_20 : decode cX10_append 20 = .ok (.iastore, 1) := by decide +kernel
theorem dX10_append_21 : decode cX10_append 21 = .ok (.aload_n 0, 1) := by decide +kernel
theorem dX10_append_22 : decode cX10_append 22 = .ok (.dup, 1) := by decide +kernel
theorem dX10_append_23 : decode cX10_append 23 = .ok (.getfield 18, 3) := by decide +kernel
theorem dX10_append_26 : decode cX10_append 26 = .ok (.iconst 1, 1) := by decide +kernel
theorem dX10_append_27 : decode cX10_append 27 = .ok (.iadd, 1) := by decide +kernel
theorem dX10_append_28 : decode cX10_append 28 = .ok (.putfield 18, 3) := by decide +kernel
theorem dX10_append_31 : decode cX10_append 31 = .ok (.iconst 1, 1) := by decide +kernel
theorem dX10_append_32 : decode cX10_append 32 = .ok (.ireturn, 1) := by decide +kernel
set_option maxRecDepth 20000 in
theorem ggX10_read_X10_faultOfPath : GoodIn wsX10_read wsX10_faultOfPath := goodIn_r _ [6, 7, 8, 1, 9, 10, 11, 12, 5, 13, 14, 15, 16, 17, 18, 19, 20, 21, 22, 23, 24, 25, 26, 27, 28, 29, 30, 31, 32, 33, 34] rfl (by decide +kernel)
set_option maxRecDepth 20000 in
theorem gX10_read_X10_faultOfPath : GoodIn wsX10_read (wsV RX10 22 RX10 yX10_faultOfPath wsX10_faultOfPath) := goodIn_app (goodIn_of _ (by decide +kernel)) ggX10_read_X10_faultOfPath
theorem dX10_read_0 : decode cX10_read 0 = .ok (.aload_n 0, 1) := by decide +kernel
theorem dX10_read_1 : decode cX10_read 1 = .ok (.invokevirtual 22, 3) := by decide +kernel
theorem dX10_read_4 : decode cX10_read 4 = .ok (.istore_n 1, 1) := by decide +kernel
theorem dX10_read_5 : decode cX10_read 5 = .ok (.aload_n 0, 1) := by decide +kernel
theorem dX10_read_6 : decode cX10_read 6 = .ok (.iconst 0, 1) := by decide +kernel
theorem dX10_read_7 : decode cX10_read 7 = .ok (.putfield 18, 3) := by decide +kernel
theorem dX10_read_10 : decode cX10_read 10 = .ok (.iload_n 1, 1) := by decide +kernel
theorem dX10_read_11 : decode cX10_read 11 = .ok (.ireturn, 1) := by decide +kernel
set_option maxRecDepth 20000 in
theorem ggX10_faultOfPath_X10_faultOfSpot : GoodIn wsX10_faultOfPath wsX10_faultOfSpot := goodIn_r _ [9, 1, 3, 4, 10, 11, 12, 8, 13, 2, 14, 15, 16, 17, 18, 19, 20, 21, 22, 23, 24, 25, 26, 27, 28, 29, 30] rfl (by decide +kernel)
set_option maxRecDepth 20000 in
theorem gX10_faultOfPath_X10_faultOfSpot : GoodIn wsX10_faultOfPath (wsV RX10 32 RX10 yX10_faultOfSpot wsX10_faultOfSpot) := goodIn_app (goodIn_of _ (by decide +kernel)) ggX10_faultOfPath_X10_faultOfSpot
