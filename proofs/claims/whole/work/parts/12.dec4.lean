theorem dX12_fallsUpon_0 : decode cX12_fallsUpon 0 = .ok (.aload_n 0, 1) := by decide +kernel
theorem dX12_fallsUpon_1 : decode cX12_fallsUpon 1 = .ok (.getfield 13, 3) := by decide +kernel
theorem dX12_fallsUpon_4 : decode cX12_fallsUpon 4 = .ok (.bipush 15, 2) := by decide +kernel
theorem dX12_fallsUpon_6 : decode cX12_fallsUpon 6 = .ok (.iaload, 1) := by decide +kernel
theorem dX12_fallsUpon_7 : decode cX12_fallsUpon 7 = .ok (.istore_n 2, 1) := by decide +kernel
theorem dX12_fallsUpon_8 : decode cX12_fallsUpon 8 = .ok (.aload_n 0, 1) := by decide +kernel
theorem dX12_fallsUpon_9 : decode cX12_fallsUpon 9 = .ok (.getfield 13, 3) := by decide +kernel
theorem dX12_fallsUpon_12 : decode cX12_fallsUpon 12 = .ok (.iconst 4, 1) := by decide +kernel
theorem dX12_fallsUpon_13 : decode cX12_fallsUpon 13 = .ok (.iload_n 2, 1) := by decide +kernel
theorem dX12_fallsUpon_14 : decode cX12_fallsUpon 14 = .ok (.iadd, 1) := by decide +kernel
theorem dX12_fallsUpon_15 : decode cX12_fallsUpon 15 = .ok (.iaload, 1) := by decide +kernel
theorem dX12_fallsUpon_16 : decode cX12_fallsUpon 16 = .ok (.istore_n 3, 1) := by decide +kernel
theorem dX12_fallsUpon_17 : decode cX12_fallsUpon 17 = .ok (.aload_n 0, 1) := by decide +kernel
theorem dX12_fallsUpon_18 : decode cX12_fallsUpon 18 = .ok (.iload_n 3, 1) := by decide +kernel
theorem dX12_fallsUpon_19 : decode cX12_fallsUpon 19 = .ok (.iload_n 1, 1) := by decide +kernel
theorem dX12_fallsUpon_20 : decode cX12_fallsUpon 20 = .ok (.invokevirtual 153, 3) := by decide +kernel
theorem dX12_fallsUpon_23 : decode cX12_fallsUpon 23 = .ok (.istore 4, 2) := by decide +kernel
theorem dX12_fallsUpon_25 : decode cX12_fallsUpon 25 = .ok (.aload_n 0, 1) := by decide +kernel
theorem dX12_fallsUpon_26 : decode cX12_fallsUpon 26 = .ok (.getfield 13, 3) := by decide +kernel
theorem dX12_fallsUpon_29 : decode cX12_fallsUpon 29 = .ok (.bipush 8, 2) := by decide +kernel
theorem dX12_fallsUpon_31 : decode cX12_fallsUpon 31 = .ok (.iload_n 2, 1) := by decide +kernel
theorem dX12_fallsUpon_32 : decode cX12_fallsUpon 32 = .ok (.iadd, 1) := by decide +kernel
theorem dX12_fallsUpon_33 : decode cX12_fallsUpon 33 = .ok (.dup2, 1) := by decide +kernel
theorem dX12_fallsUpon_34 : decode cX12_fallsUpon 34 = .ok (.iaload, 1) := by decide +kernel
theorem dX12_fallsUpon_35 : decode cX12_fallsUpon 35 = .ok (.iconst 1, 1) := by decide +kernel
theorem dX12_fallsUpon_36 : decode cX12_fallsUpon 36 = .ok (.iadd, 1) := by decide +kernel
theorem dX12_fallsUpon_37 : decode cX12_fallsUpon 37 = .ok (.iastore, 1) := by decide +kernel
theorem dX12_fallsUpon_38 : decode cX12_fallsUpon 38 = .ok (.iload 4, 2) := by decide +kernel
theorem dX12_fallsUpon_40 : decode cX12_fallsUpon 40 = .ok (.ifCond .ge 49, 3) := by decide +kernel
theorem dX12_fallsUpon_43 : decode cX12_fallsUpon 43 = .ok (.aload_n 0, 1) := by decide +kernel
theorem dX12_fallsUpon_44 : decode cX12_fallsUpon 44 = .ok (.getfield 13, 3) := by decide +kernel
theorem dX12_fallsUpon_47 : decode cX12_fallsUpon 47 = .ok (.bipush 10, 2) := by decide +kernel
theorem dX12_fallsUpon_49 : decode cX12_fallsUpon 49 = .ok (.iload_n 2, 1) := by decide +kernel
theorem dX12_fallsUpon_50 : decode cX12_fallsUpon 50 = .ok (.iadd, 1) := by decide +kernel
theorem dX12_fallsUpon_51 : decode cX12_fallsUpon 51 = .ok (.dup2, 1) := by decide +kernel
theorem dX12_fallsUpon_52 : decode cX12_fallsUpon 52 = .ok (.iaload, 1) := by decide +kernel
theorem dX12_fallsUpon_53 : decode cX12_fallsUpon 53 = .ok (.aload_n 0, 1) := by decide +kernel
theorem dX12_fallsUpon_54 : decode cX12_fallsUpon 54 = .ok (.getfield 13, 3) := by decide +kernel
theorem dX12_fallsUpon_57 : decode cX12_fallsUpon 57 = .ok (.bipush 17, 2) := by decide +kernel
theorem dX12_fallsUpon_59 : decode cX12_fallsUpon 59 = .ok (.iaload, 1) := by decide +kernel
theorem dX12_fallsUpon_60 : decode cX12_fallsUpon 60 = .ok (.iload_n 3, 1) := by decide +kernel
theorem dX12_fallsUpon_61 : decode cX12_fallsUpon 61 = .ok (.isub, 1) := by decide +kernel
theorem dX12_fallsUpon_62 : decode cX12_fallsUpon 62 = .ok (.isub, 1) := by decide +kernel
theorem dX12_fallsUpon_63 : decode cX12_fallsUpon 63 = .ok (.iastore, 1) := by decide +kernel
theorem dX12_fallsUpon_64 : decode cX12_fallsUpon 64 = .ok (.aload_n 0, 1) := by decide +kernel
theorem dX12_fallsUpon_65 : decode cX12_fallsUpon 65 = .ok (.getfield 13, 3) := by decide +kernel
theorem dX12_fallsUpon_68 : decode cX12_fallsUpon 68 = .ok (.iconst 4, 1) := by decide +kernel
theorem dX12_fallsUpon_69 : decode cX12_fallsUpon 69 = .ok (.iload_n 2, 1) := by decide +kernel
theorem dX12_fallsUpon_70 : decode cX12_fallsUpon 70 = .ok (.iadd, 1) := by decide +kernel
theorem dX12_fallsUpon_71 : decode cX12_fallsUpon 71 = .ok (.aload_n 0, 1) := by decide +kernel
theorem dX12_fallsUpon_72 : decode cX12_fallsUpon 72 = .ok (.getfield 13, 3) := by decide +kernel
theorem dX12_fallsUpon_75 : decode cX12_fallsUpon 75 = .ok (.bipush 17, 2) := by decide +kernel
theorem dX12_fallsUpon_77 : decode cX12_fallsUpon 77 = .ok (.iaload, 1) := by decide +kernel
theorem dX12_fallsUpon_78 : decode cX12_fallsUpon 78 = .ok (.iastore, 1) := by decide +kernel
theorem dX12_fallsUpon_79 : decode cX12_fallsUpon 79 = .ok (.aload_n 0, 1) := by decide +kernel
theorem dX12_fallsUpon_80 : decode cX12_fallsUpon 80 = .ok (.iconst 1, 1) := by decide +kernel
theorem dX12_fallsUpon_81 : decode cX12_fallsUpon 81 = .ok (.iload_n 2, 1) := by decide +kernel
theorem dX12_fallsUpon_82 : decode cX12_fallsUpon 82 = .ok (.isub, 1) := by decide +kernel
theorem dX12_fallsUpon_83 : decode cX12_fallsUpon 83 = .ok (.invokevirtual 285, 3) := by decide +kernel
theorem dX12_fallsUpon_86 : decode cX12_fallsUpon 86 = .ok (.bipush (-5), 2) := by decide +kernel
theorem dX12_fallsUpon_88 : decode cX12_fallsUpon 88 = .ok (.ireturn, 1) := by decide +kernel
theorem dX12_fallsUpon_89 : decode cX12_fallsUpon 89 = .ok (.aload_n 0, 1) := by decide +kernel
theorem dX12_fallsUpon_90 : decode cX12_fallsUpon 90 = .ok (.getfield 13, 3) := by decide +kernel
theorem dX12_fallsUpon_93 : decode cX12_fallsUpon 93 = .ok (.bipush 10, 2) := by decide +kernel
theorem dX12_fallsUpon_95 : decode cX12_fallsUpon 95 = .ok (.iload_n 2, 1) := by decide +kernel
theorem dX12_fallsUpon_96 : decode cX12_fallsUpon 96 = .ok (.iadd, 1) := by decide +kernel
theorem dX12_fallsUpon_97 : decode cX12_fallsUpon 97 = .ok (.dup2, 1) := by decide +kernel
theorem dX12_fallsUpon_98 : decode cX12_fallsUpon 98 = .ok (.iaload, 1) := by decide +kernel
theorem dX12_fallsUpon_99 : decode cX12_fallsUpon 99 = .ok (.iload_n 3, 1) := by decide +kernel
theorem dX12_fallsUpon_100 : decode cX12_fallsUpon 100 = .ok (.iload 4, 2) := by decide +kernel
theorem dX12_fallsUpon_102 : decode cX12_fallsUpon 102 = .ok (.isub, 1) := by decide +kernel
theorem dX12_fallsUpon_103 : decode cX12_fallsUpon 103 = .ok (.iadd, 1) := by decide +kernel
theorem dX12_fallsUpon_104 : decode cX12_fallsUpon 104 = .ok (.iastore, 1) := by decide +kernel
theorem dX12_fallsUpon_105 : decode cX12_fallsUpon 105 = .ok (.aload_n 0, 1) := by decide +kernel
theorem dX12_fallsUpon_106 : decode cX12_fallsUpon 106 = .ok (.getfield 13, 3) := by decide +kernel
theorem dX12_fallsUpon_109 : decode cX12_fallsUpon 109 = .ok (.iconst 4, 1) := by decide +kernel
theorem dX12_fallsUpon_110 : decode cX12_fallsUpon 110 = .ok (.iload_n 2, 1) := by decide +kernel
theorem dX12_fallsUpon_111 : decode cX12_fallsUpon 111 = .ok (.iadd, 1) := by decide +kernel
theorem dX12_fallsUpon_112 : decode cX12_fallsUpon 112 = .ok (.iload 4, 2) := by decide +kernel
theorem dX12_fallsUpon_114 : decode cX12_fallsUpon 114 = .ok (.iastore, 1) := by decide +kernel
theorem dX12_fallsUpon_115 : decode cX12_fallsUpon 115 = .ok (.aload_n 0, 1) := by decide +kernel
theorem dX12_fallsUpon_116 : decode cX12_fallsUpon 116 = .ok (.getfield 13, 3) := by decide +kernel
theorem dX12_fallsUpon_119 : decode cX12_fallsUpon 119 = .ok (.bipush 16, 2) := by decide +kernel
theorem dX12_fallsUpon_121 : decode cX12_fallsUpon 121 = .ok (.dup2, 1) := by decide +kernel
theorem dX12_fallsUpon_122 : decode cX12_fallsUpon 122 = .ok (.iaload, 1) := by decide +kernel
theorem dX12_fallsUpon_123 : decode cX12_fallsUpon 123 = .ok (.iconst 1, 1) := by decide +kernel
theorem dX12_fallsUpon_124 : decode cX12_fallsUpon 124 = .ok (.isub, 1) := by decide +kernel
theorem dX12_fallsUpon_125 : decode cX12_fallsUpon 125 = .ok (.iastore, 1) := by decide +kernel
theorem dX12_fallsUpon_126 : decode cX12_fallsUpon 126 = .ok (.iload 4, 2) := by decide +kernel
theorem dX12_fallsUpon_128 : decode cX12_fallsUpon 128 = .ok (.ifCond .ne 32, 3) := by decide +kernel
theorem dX12_fallsUpon_131 : decode cX12_fallsUpon 131 = .ok (.aload_n 0, 1) := by decide +kernel
theorem dX12_fallsUpon_132 : decode cX12_fallsUpon 132 = .ok (.getfield 13, 3) := by decide +kernel
theorem dX12_fallsUpon_135 : decode cX12_fallsUpon 135 = .ok (.bipush 6, 2) := by decide +kernel
theorem dX12_fallsUpon_137 : decode cX12_fallsUpon 137 = .ok (.iload_n 2, 1) := by decide +kernel
theorem dX12_fallsUpon_138 : decode cX12_fallsUpon 138 = .ok (.iadd, 1) := by decide +kernel
theorem dX12_fallsUpon_139 : decode cX12_fallsUpon 139 = .ok (.dup2, 1) := by decide +kernel
theorem dX12_fallsUpon_140 : decode cX12_fallsUpon 140 = .ok (.iaload, 1) := by decide +kernel
theorem dX12_fallsUpon_141 : decode cX12_fallsUpon 141 = .ok (.iconst 1, 1) := by decide +kernel
theorem dX12_fallsUpon_142 : decode cX12_fallsUpon 142 = .ok (.iadd, 1) := by decide +kernel
theorem dX12_fallsUpon_143 : decode cX12_fallsUpon 143 = .ok (.iastore, 1) := by decide +kernel
theorem dX12_fallsUpon_144 : decode cX12_fallsUpon 144 = .ok (.aload_n 0, 1) := by decide +kernel
theorem dX12_fallsUpon_145 : decode cX12_fallsUpon 145 = .ok (.iconst 1, 1) := by decide +kernel
theorem dX12_fallsUpon_146 : decode cX12_fallsUpon 146 = .ok (.aload_n 0, 1) := by decide +kernel
theorem dX12_fallsUpon_147 : decode cX12_fallsUpon 147 = .ok (.getfield 13, 3) := by decide +kernel
theorem dX12_fallsUpon_150 : decode cX12_fallsUpon 150 = .ok (.bipush 14, 2) := by decide +kernel
theorem dX12_fallsUpon_152 : decode cX12_fallsUpon 152 = .ok (.iaload, 1) := by decide +kernel
theorem dX12_fallsUpon_153 : decode cX12_fallsUpon 153 = .ok (.isub, 1) := by decide +kernel
theorem dX12_fallsUpon_154 : decode cX12_fallsUpon 154 = .ok (.invokevirtual 288, 3) := by decide +kernel
theorem dX12_fallsUpon_157 : decode cX12_fallsUpon 157 = .ok (.goto 20, 3) := by decide +kernel
theorem dX12_fallsUpon_160 : decode cX12_fallsUpon 160 = .ok (.aload_n 0, 1) := by decide +kernel
theorem dX12_fallsUpon_161 : decode cX12_fallsUpon 161 = .ok (.getfield 13, 3) := by decide +kernel
theorem dX12_fallsUpon_164 : decode cX12_fallsUpon 164 = .ok (.bipush 16, 2) := by decide +kernel
theorem dX12_fallsUpon_166 : decode cX12_fallsUpon 166 = .ok (.iaload, 1) := by decide +kernel
theorem dX12_fallsUpon_167 : decode cX12_fallsUpon 167 = .ok (.ifCond .ne 10, 3) := by decide +kernel
theorem dX12_fallsUpon_170 : decode cX12_fallsUpon 170 = .ok (.aload_n 0, 1) := by decide +kernel
theorem dX12_fallsUpon_171 : decode cX12_fallsUpon 171 = .ok (.iconst 1, 1) := by decide +kernel
theorem dX12_fallsUpon_172 : decode cX12_fallsUpon 172 = .ok (.iload_n 2, 1) := by decide +kernel
theorem dX12_fallsUpon_173 : decode cX12_fallsUpon 173 = .ok (.isub, 1) := by decide +kernel
theorem dX12_fallsUpon_174 : decode cX12_fallsUpon 174 = .ok (.invokevirtual 285, 3) := by decide +kernel
theorem dX12_fallsUpon_177 : decode cX12_fallsUpon 177 = .ok (.iload 4, 2) := by decide +kernel
theorem dX12_fallsUpon_179 : decode cX12_fallsUpon 179 = .ok (.ireturn, 1) := by decide +kernel
set_option maxRecDepth 20000 in
theorem ggX12_thrown_X12_in : GoodIn wsX12_thrown wsX12_in := goodIn_r _ [5] rfl (by decide +kernel)
set_option maxRecDepth 20000 in
theorem gX12_thrown_X12_in : GoodIn wsX12_thrown (va_wsS RX12 108 yX12_in wsX12_in) := goodIn_app (goodIn_of _ (by decide +kernel)) ggX12_thrown_X12_in
set_option maxRecDepth 20000 in
theorem ggX12_thrown_X12_fallsUpon : GoodIn wsX12_thrown wsX12_fallsUpon := goodIn_r _ [9, 10, 11, 12, 13, 4, 14, 15, 16, 17, 18, 19, 20, 21, 22, 23, 24, 25, 26, 27, 28, 29, 30, 31, 32, 33, 34, 35, 36, 37, 38, 39, 40, 41, 42, 43, 44, 45, 46, 47, 48, 49, 50, 51, 52, 53, 54, 55, 56, 57, 58, 59, 60, 61, 62, 63, 64, 65, 66, 67, 68, 69, 70, 71] rfl (by decide +kernel)
set_option maxRecDepth 20000 in
theorem gX12_thrown_X12_fallsUpon : GoodIn wsX12_thrown (wsV RX12 291 RX12 yX12_fallsUpon wsX12_fallsUpon) := goodIn_app (goodIn_of _ (by decide +kernel)) ggX12_thrown_X12_fallsUpon
theorem dX12_thrown_0 : decode cX12_thrown 0 = .ok (.iload_n 1, 1) := by decide +kernel
theorem dX12_thrown_1 : decode cX12_thrown 1 = .ok (.i2l, 1) := by decide +kernel
theorem dX12_thrown_2 : decode cX12_thrown 2 = .ok (.lconst 0, 1) := by decide +kernel
theorem dX12_thrown_3 : decode cX12_thrown 3 = .ok (.ldc2_w 112, 3) := by decide +kernel
theorem dX12_thrown_6 : decode cX12_thrown 6 = .ok (.invokestatic 108, 3) := by decide +kernel
theorem dX12_thrown_9 : decode cX12_thrown 9 = .ok (.ifCond .eq 11, 3) := by decide +kernel
theorem dX12_thrown_12 : decode cX12_thrown 12 = .ok (.aload_n 0, 1) := by decide +kernel
theorem dX12_thrown_13 : decode cX12_thrown 13 = .ok (.iload_n 1, 1) := by decide +kernel
theorem dX12_thrown_14 : decode cX12_thrown 14 = .ok (.invokevirtual 291, 3) := by decide +kernel
theorem dX12_thrown_17 : decode cX12_thrown 17 = .ok (.goto 4, 3) := by decide +kernel
theorem dX12_thrown_20 : decode cX12_thrown 20 = .ok (.iconst (-1), 1) := by decide +kernel
theorem dX12_thrown_21 : decode cX12_thrown 21 = .ok (.ireturn, 1) := by decide +kernel
set_option maxRecDepth 20000 in
theorem ggX12_drawn_X12_layFalls : GoodIn wsX12_drawn wsX12_layFalls := goodIn_r _ [9, 1, 10, 11, 12, 8, 13, 14, 15, 16, 17, 18, 19, 20, 21, 4, 3, 22, 23, 24, 25, 26, 27, 28, 29, 30, 31, 32, 33, 34, 35, 36, 37, 38, 39, 40, 41, 42, 43, 44, 45, 46, 47, 48, 49, 50, 51, 52, 53, 54, 55, 56, 57, 58, 59, 60, 61, 62, 63, 64, 65, 66] rfl (by decide +kernel)
set_option maxRecDepth 20000 in
theorem gX12_drawn_X12_layFalls : GoodIn wsX12_drawn (wsV RX12 146 RX12 yX12_layFalls wsX12_layFalls) := goodIn_app (goodIn_of _ (by decide +kernel)) ggX12_drawn_X12_layFalls
theorem dX12_drawn_0 : decode cX12_drawn 0 = .ok (.aload_n 0, 1) := by decide +kernel
theorem dX12_drawn_1 : decode cX12_drawn 1 = .ok (.getfield 13, 3) := by decide +kernel
theorem dX12_drawn_4 : decode cX12_drawn 4 = .ok (.bipush 18, 2) := by decide +kernel
theorem dX12_drawn_6 : decode cX12_drawn 6 = .ok (.aload_n 0, 1) := by decide +kernel
theorem dX12_drawn_7 : decode cX12_drawn 7 = .ok (.getfield 13, 3) := by decide +kernel
theorem dX12_drawn_10 : decode cX12_drawn 10 = .ok (.bipush 18, 2) := by decide +kernel
theorem dX12_drawn_12 : decode cX12_drawn 12 = .ok (.iaload, 1) := by decide +kernel
theorem dX12_drawn_13 : decode cX12_drawn 13 = .ok (.ldc_w 294, 3) := by decide +kernel
theorem dX12_drawn_16 : decode cX12_drawn 16 = .ok (.imul, 1) := by decide +kernel
theorem dX12_drawn_17 : decode cX12_drawn 17 = .ok (.sipush 12345, 3) := by decide +kernel
theorem dX12_drawn_20 : decode cX12_drawn 20 = .ok (.iadd, 1) := by decide +kernel
theorem dX12_drawn_21 : decode cX12_drawn 21 = .ok (.iastore, 1) := by decide +kernel
theorem dX12_drawn_22 : decode cX12_drawn 22 = .ok (.aload_n 0, 1) := by decide +kernel
theorem dX12_drawn_23 : decode cX12_drawn 23 = .ok (.getfield 13, 3) := by decide +kernel
theorem dX12_drawn_26 : decode cX12_drawn 26 = .ok (.bipush 18, 2) := by decide +kernel
theorem dX12_drawn_28 : decode cX12_drawn 28 = .ok (.iaload, 1) := by decide +kernel
theorem dX12_drawn_29 : decode cX12_drawn 29 = .ok (.bipush 16, 2) := by decide +kernel
theorem dX12_drawn_31 : decode cX12_drawn 31 = .ok (.iushr, 1) := by decide +kernel
theorem dX12_drawn_32 : decode cX12_drawn 32 = .ok (.sipush 1000, 3) := by decide +kernel
theorem dX12_drawn_35 : decode cX12_drawn 35 = .ok (.irem, 1) := by decide +kernel
theorem dX12_drawn_36 : decode cX12_drawn 36 = .ok (.istore_n 2, 1) := by decide +kernel
theorem dX12_drawn_37 : decode cX12_drawn 37 = .ok (.aload_n 0, 1) := by decide +kernel
theorem dX12_drawn_38 : decode cX12_drawn 38 = .ok (.aload_n 0, 1) := by decide +kernel
theorem dX12_drawn_39 : decode cX12_drawn 39 = .ok (.getfield 13, 3) := by decide +kernel
theorem dX12_drawn_42 : decode cX12_drawn 42 = .ok (.bipush 15, 2) := by decide +kernel
theorem dX12_drawn_44 : decode cX12_drawn 44 = .ok (.iaload, 1) := by decide +kernel
theorem dX12_drawn_45 : decode cX12_drawn 45 = .ok (.iload_n 1, 1) := by decide +kernel
theorem dX12_drawn_46 : decode cX12_drawn 46 = .ok (.invokevirtual 146, 3) := by decide +kernel
theorem dX12_drawn_49 : decode cX12_drawn 49 = .ok (.iconst 0, 1) := by decide +kernel
theorem dX12_drawn_50 : decode cX12_drawn 50 = .ok (.istore_n 3, 1) := by decide +kernel
theorem dX12_drawn_51 : decode cX12_drawn 51 = .ok (.aload_n 0, 1) := by decide +kernel
theorem dX12_drawn_52 : decode cX12_drawn 52 = .ok (.getfield 22, 3) := by decide +kernel
theorem dX12_drawn_55 : decode cX12_drawn 55 = .ok (.iconst 0, 1) := by decide +kernel
theorem dX12_drawn_56 : decode cX12_drawn 56 = .ok (.iaload, 1) := by decide +kernel
theorem dX12_drawn_57 : decode cX12_drawn 57 = .ok (.istore 4, 2) := by decide +kernel
theorem dX12_drawn_59 : decode cX12_drawn 59 = .ok (.iload 4, 2) := by decide +kernel
theorem dX12_drawn_61 : decode cX12_drawn 61 = .ok (.iload_n 2, 1) := by decide +kernel
theorem dX12_drawn_62 : decode cX12_drawn 62 = .ok (.if_icmp .gt 20, 3) := by decide +kernel
theorem dX12_drawn_65 : decode cX12_drawn 65 = .ok (.iinc 3 1, 3) := by decide +kernel
theorem dX12_drawn_68 : decode cX12_drawn 68 = .ok (.iload 4, 2) := by decide +kernel
theorem dX12_drawn_70 : decode cX12_drawn 70 = .ok (.aload_n 0, 1) := by decide +kernel
theorem dX12_drawn_71 : decode cX12_drawn 71 = .ok (.getfield 22, 3) := by decide +kernel
theorem dX12_drawn_74 : decode cX12_drawn 74 = .ok (.iload_n 3, 1) := by decide +kernel
theorem dX12_drawn_75 : decode cX12_drawn 75 = .ok (.iaload, 1) := by decide +kernel
theorem dX12_drawn_76 : decode cX12_drawn 76 = .ok (.iadd, 1) := by decide +kernel
theorem dX12_drawn_77 : decode cX12_drawn 77 = .ok (.istore 4, 2) := by decide +kernel
theorem dX12_drawn_79 : decode cX12_drawn 79 = .ok (.goto (-20), 3) := by decide +kernel
theorem dX12_drawn_82 : decode cX12_drawn 82 = .ok (.aload_n 0, 1) := by decide +kernel
theorem dX12_drawn_83 : decode cX12_drawn 83 = .ok (.getfield 19, 3) := by decide +kernel
theorem dX12_drawn_86 : decode cX12_drawn 86 = .ok (.iload_n 3, 1) := by decide +kernel
theorem dX12_drawn_87 : decode cX12_drawn 87 = .ok (.iaload, 1) := by decide +kernel
theorem dX12_drawn_88 : decode cX12_drawn 88 = .ok (.ireturn, 1) := by decide +kernel
set_option maxRecDepth 20000 in
theorem ggX12_throwsAt_X12_in : GoodIn wsX12_throwsAt wsX12_in := goodIn_r _ [5] rfl (by decide +kernel)
set_option maxRecDepth 20000 in
theorem gX12_throwsAt_X12_in : GoodIn wsX12_throwsAt (va_wsS RX12 108 yX12_in wsX12_in) := goodIn_app (goodIn_of _ (by decide +kernel)) ggX12_throwsAt_X12_in
set_option maxRecDepth 20000 in
theorem ggX12_throwsAt_X12_drawn : GoodIn wsX12_throwsAt wsX12_drawn := goodIn_r _ [9, 10, 11, 12, 13, 14, 15, 16, 4, 17, 18, 19, 20, 21, 22, 2, 3, 5, 23, 24, 25, 26, 27, 28, 29, 30, 31, 57, 58, 59, 60, 61, 62, 63, 64, 65, 66, 67, 68, 69, 70, 71, 72, 73, 74, 75, 76, 77, 78, 79, 80, 81, 82, 83, 84, 85, 86, 87, 88, 89, 90, 91, 92, 93, 94, 95, 96] rfl (by decide +kernel)
set_option maxRecDepth 20000 in
theorem gX12_throwsAt_X12_drawn : GoodIn wsX12_throwsAt (wsV RX12 295 RX12 yX12_drawn wsX12_drawn) := goodIn_app (goodIn_of _ (by decide +kernel)) ggX12_throwsAt_X12_drawn
set_option maxRecDepth 20000 in
theorem ggX12_throwsAt_X12_fallsUpon : GoodIn wsX12_throwsAt wsX12_fallsUpon := goodIn_r _ [35, 10, 36, 37, 38, 4, 39, 40, 41, 42, 43, 44, 45, 46, 47, 48, 49, 50, 51, 52, 53, 54, 55, 56, 57, 58, 59, 60, 61, 62, 63, 64, 65, 66, 67, 68, 69, 70, 71, 72, 73, 74, 75, 76, 77, 78, 79, 80, 81, 82, 83, 84, 85, 86, 87, 88, 89, 90, 91, 92, 93, 94, 95, 96] rfl (by decide +kernel)
set_option maxRecDepth 20000 in
theorem gX12_throwsAt_X12_fallsUpon : GoodIn wsX12_throwsAt (wsV RX12 291 RX12 yX12_fallsUpon wsX12_fallsUpon) := goodIn_app (goodIn_of _ (by decide +kernel)) ggX12_throwsAt_X12_fallsUpon
theorem dX12_throwsAt_0 : decode cX12_throwsAt 0 = .ok (.iload_n 1, 1) := by decide +kernel
theorem dX12_throwsAt_1 : decode cX12_throwsAt 1 = .ok (.i2l, 1) := by decide +kernel
theorem dX12_throwsAt_2 : decode cX12_throwsAt 2 = .ok (.lconst 1, 1) := by decide +kernel
theorem dX12_throwsAt_3 : decode cX12_throwsAt 3 = .ok (.ldc2_w 112, 3) := by decide +kernel
theorem dX12_throwsAt_6 : decode cX12_throwsAt 6 = .ok (.invokestatic 108, 3) := by decide +kernel
theorem dX12_throwsAt_9 : decode cX12_throwsAt 9 = .ok (.ifCond .ne 5, 3) := by decide +kernel
theorem dX12_throwsAt_12 : decode cX12_throwsAt 12 = .ok (.iconst (-1), 1) := by decide +kernel
theorem dX12_throwsAt_13 : decode cX12_throwsAt 13 = .ok (.ireturn, 1) := by decide +kernel
theorem dX12_throwsAt_14 : decode cX12_throwsAt 14 = .ok (.aload_n 0, 1) := by decide +kernel
theorem dX12_throwsAt_15 : decode cX12_throwsAt 15 = .ok (.iload_n 1, 1) := by decide +kernel
theorem dX12_throwsAt_16 : decode cX12_throwsAt 16 = .ok (.invokevirtual 295, 3) := by decide +kernel
theorem dX12_throwsAt_19 : decode cX12_throwsAt 19 = .ok (.istore_n 2, 1) := by decide +kernel
theorem dX12_throwsAt_20 : decode cX12_throwsAt 20 = .ok (.aload_n 0, 1) := by decide +kernel
theorem dX12_throwsAt_21 : decode cX12_throwsAt 21 = .ok (.iload_n 2, 1) := by decide +kernel
theorem dX12_throwsAt_22 : decode cX12_throwsAt 22 = .ok (.invokevirtual 291, 3) := by decide +kernel
theorem dX12_throwsAt_25 : decode cX12_throwsAt 25 = .ok (.pop, 1) := by decide +kernel
theorem dX12_throwsAt_26 : decode cX12_throwsAt 26 = .ok (.iload_n 2, 1) := by decide +kernel
theorem dX12_throwsAt_27 : decode cX12_throwsAt 27 = .ok (.ireturn, 1) := by decide +kernel
set_option maxRecDepth 20000 in
theorem ggX12_minds_X12_in : GoodIn wsX12_minds wsX12_in := goodIn_r _ [7] rfl (by decide +kernel)
set_option maxRecDepth 20000 in
theorem gX12_minds_X12_in : GoodIn wsX12_minds (va_wsS RX12 108 yX12_in wsX12_in) := goodIn_app (goodIn_of _ (by decide +kernel)) ggX12_minds_X12_in
set_option maxRecDepth 20000 in
theorem ggX12_minds_X12_layDarts : GoodIn wsX12_minds wsX12_layDarts := goodIn_r _ [11, 12, 13, 3, 14, 15, 16, 6, 17, 18, 2, 19, 20, 21, 22, 23, 24, 25, 26, 27, 28, 29, 30, 31, 32, 33, 34, 35, 36, 37, 38, 4, 5, 7, 39, 40, 41, 42, 43, 44, 45, 46, 47, 48, 49, 50, 51, 52, 53, 54, 55, 56, 57, 58, 59, 60, 61, 62, 63, 64, 65, 66, 67, 68, 69, 70, 71, 72, 73, 91, 92, 93, 94, 95, 96, 97, 98, 99, 100, 101, 102, 103, 104, 105, 106, 107, 108, 109, 110, 111, 112, 113, 114, 115, 116, 117, 118, 119, 120, 121, 122, 123, 124, 125, 126, 127, 128, 129, 130] rfl (by decide +kernel)
set_option maxRecDepth 20000 in
theorem gX12_minds_X12_layDarts : GoodIn wsX12_minds (wsV RX12 178 RX12 yX12_layDarts wsX12_layDarts) := goodIn_app (goodIn_of _ (by decide +kernel)) ggX12_minds_X12_layDarts
set_option maxRecDepth 20000 in
theorem ggX12_minds_X12_drawn : GoodIn wsX12_minds wsX12_drawn := goodIn_r _ [77, 2, 78, 30, 28, 31, 32, 33, 6, 34, 26, 35, 36, 37, 38, 4, 5, 7, 39, 40, 41, 42, 43, 44, 45, 46, 47, 91, 92, 93, 94, 95, 96, 97, 98, 99, 100, 101, 102, 103, 104, 105, 106, 107, 108, 109, 110, 111, 112, 113, 114, 115, 116, 117, 118, 119, 120, 121, 122, 123, 124, 125, 126, 127, 128, 129, 130] rfl (by decide +kernel)
set_option maxRecDepth 20000 in
theorem gX12_minds_X12_drawn : GoodIn wsX12_minds (wsV RX12 295 RX12 yX12_drawn wsX12_drawn) := goodIn_app (goodIn_of _ (by decide +kernel)) ggX12_minds_X12_drawn
set_option maxRecDepth 20000 in
theorem ggX12_minds_X12_fallsUpon : GoodIn wsX12_minds wsX12_fallsUpon := goodIn_r _ [82, 2, 61, 62, 63, 6, 64, 65, 66, 67, 68, 69, 70, 71, 72, 73, 83, 84, 85, 86, 87, 88, 89, 90, 91, 92, 93, 94, 95, 96, 97, 98, 99, 100, 101, 102, 103, 104, 105, 106, 107, 108, 109, 110, 111, 112, 113, 114, 115, 116, 117, 118, 119, 120, 121, 122, 123, 124, 125, 126, 127, 128, 129, 130] rfl (by decide +kernel)
set_option maxRecDepth 20000 in
theorem gX12_minds_X12_fallsUpon : GoodIn wsX12_minds (wsV RX12 291 RX12 yX12_fallsUpon wsX12_fallsUpon) := goodIn_app (goodIn_of _ (by decide +kernel)) ggX12_minds_X12_fallsUpon
theorem dX12_minds_0 : decode cX12_minds 0 = .ok (.iload_n 1, 1) := by decide +kernel
theorem dX12_minds_1 : decode cX12_minds 1 = .ok (.i2l, 1) := by decide +kernel
theorem dX12_minds_2 : decode cX12_minds 2 = .ok (.lconst 1, 1) := by decide +kernel
theorem dX12_minds_3 : decode cX12_minds 3 = .ok (.ldc2_w 298, 3) := by decide +kernel
theorem dX12_minds_6 : decode cX12_minds 6 = .ok (.invokestatic 108, 3) := by decide +kernel
theorem dX12_minds_9 : decode cX12_minds 9 = .ok (.ifCond .ne 6, 3) := by decide +kernel
theorem dX12_minds_12 : decode cX12_minds 12 = .ok (.bipush (-2), 2) := by decide +kernel
theorem dX12_minds_14 : decode cX12_minds 14 = .ok (.ireturn, 1) := by decide +kernel
theorem dX12_minds_15 : decode cX12_minds 15 = .ok (.iconst 0, 1) := by decide +kernel
theorem dX12_minds_16 : decode cX12_minds 16 = .ok (.istore_n 2, 1) := by decide +kernel
theorem dX12_minds_17 : decode cX12_minds 17 = .ok (.iconst 0, 1) := by decide +kernel
theorem dX12_minds_18 : decode cX12_minds 18 = .ok (.istore_n 3, 1) := by decide +kernel
theorem dX12_minds_19 : decode cX12_minds 19 = .ok (.iload_n 3, 1) := by decide +kernel
theorem dX12_minds_20 : decode cX12_minds 20 = .ok (.iload_n 1, 1) := by decide +kernel
theorem dX12_minds_21 : decode cX12_minds 21 = .ok (.if_icmp .ge 68, 3) := by decide +kernel
theorem dX12_minds_24 : decode cX12_minds 24 = .ok (.aload_n 0, 1) := by decide +kernel
theorem dX12_minds_25 : decode cX12_minds 25 = .ok (.getfield 13, 3) := by decide +kernel
theorem dX12_minds_28 : decode cX12_minds 28 = .ok (.bipush 15, 2) := by decide +kernel
theorem dX12_minds_30 : decode cX12_minds 30 = .ok (.iaload, 1) := by decide +kernel
theorem dX12_minds_31 : decode cX12_minds 31 = .ok (.istore 4, 2) := by decide +kernel
theorem dX12_minds_33 : decode cX12_minds 33 = .ok (.aload_n 0, 1) := by decide +kernel
theorem dX12_minds_34 : decode cX12_minds 34 = .ok (.iload 4, 2) := by decide +kernel
theorem dX12_minds_36 : decode cX12_minds 36 = .ok (.invokevirtual 178, 3) := by decide +kernel
theorem dX12_minds_39 : decode cX12_minds 39 = .ok (.aload_n 0, 1) := by decide +kernel
theorem dX12_minds_40 : decode cX12_minds 40 = .ok (.aload_n 0, 1) := by decide +kernel
theorem dX12_minds_41 : decode cX12_minds 41 = .ok (.getfield 29, 3) := by decide +kernel
theorem dX12_minds_44 : decode cX12_minds 44 = .ok (.sipush 502, 3) := by decide +kernel
theorem dX12_minds_47 : decode cX12_minds 47 = .ok (.iload 4, 2) := by decide +kernel
theorem dX12_minds_49 : decode cX12_minds 49 = .ok (.imul, 1) := by decide +kernel
theorem dX12_minds_50 : decode cX12_minds 50 = .ok (.aload_n 0, 1) := by decide +kernel
theorem dX12_minds_51 : decode cX12_minds 51 = .ok (.getfield 13, 3) := by decide +kernel
theorem dX12_minds_54 : decode cX12_minds 54 = .ok (.iconst 4, 1) := by decide +kernel
theorem dX12_minds_55 : decode cX12_minds 55 = .ok (.iload 4, 2) := by decide +kernel
theorem dX12_minds_57 : decode cX12_minds 57 = .ok (.iadd, 1) := by decide +kernel
theorem dX12_minds_58 : decode cX12_minds 58 = .ok (.iaload, 1) := by decide +kernel
theorem dX12_minds_59 : decode cX12_minds 59 = .ok (.iadd, 1) := by decide +kernel
theorem dX12_minds_60 : decode cX12_minds 60 = .ok (.iaload, 1) := by decide +kernel
theorem dX12_minds_61 : decode cX12_minds 61 = .ok (.invokevirtual 295, 3) := by decide +kernel
theorem dX12_minds_64 : decode cX12_minds 64 = .ok (.istore 5, 2) := by decide +kernel
theorem dX12_minds_66 : decode cX12_minds 66 = .ok (.iload_n 2, 1) := by decide +kernel
theorem dX12_minds_67 : decode cX12_minds 67 = .ok (.aload_n 0, 1) := by decide +kernel
theorem dX12_minds_68 : decode cX12_minds 68 = .ok (.iload 5, 2) := by decide +kernel
theorem dX12_minds_70 : decode cX12_minds 70 = .ok (.invokevirtual 291, 3) := by decide +kernel
theorem dX12_minds_73 : decode cX12_minds 73 = .ok (.ifCond .ne 7, 3) := by decide +kernel
theorem dX12_minds_76 : decode cX12_minds 76 = .ok (.iconst 1, 1) := by decide +kernel
theorem dX12_minds_77 : decode cX12_minds 77 = .ok (.goto 4, 3) := by decide +kernel
theorem dX12_minds_80 : decode cX12_minds 80 = .ok (.iconst 0, 1) := by decide +kernel
theorem dX12_minds_81 : decode cX12_minds 81 = .ok (.iadd, 1) := by decide +kernel
theorem dX12_minds_82 : decode cX12_minds 82 = .ok (.istore_n 2, 1) := by decide +kernel
theorem dX12_minds_83 : decode cX12_minds 83 = .ok (.iinc 3 1, 3) := by decide +kernel
theorem dX12_minds_86 : decode cX12_minds 86 = .ok (.goto (-67), 3) := by decide +kernel
theorem dX12_minds_89 : decode cX12_minds 89 = .ok (.iload_n 2, 1) := by decide +kernel
theorem dX12_minds_90 : decode cX12_minds 90 = .ok (.ireturn, 1) := by decide +kernel
theorem dX12_seed_0 : decode cX12_seed 0 = .ok (.aload_n 0, 1) := by decide +kernel
theorem dX12_seed_1 : decode cX12_seed 1 = .ok (.getfield 13, 3) := by decide +kernel
theorem dX12_seed_4 : decode cX12_seed 4 = .ok (.bipush 18, 2) := by decide +kernel
theorem dX12_seed_6 : decode cX12_seed 6 = .ok (.iaload, 1) := by decide +kernel
theorem dX12_seed_7 : decode cX12_seed 7 = .ok (.istore_n 2, 1) := by decide +kernel
theorem dX12_seed_8 : decode cX12_seed 8 = .ok (.aload_n 0, 1) := by decide +kernel
theorem dX12_seed_9 : decode cX12_seed 9 = .ok (.getfield 13, 3) := by decide +kernel
theorem dX12_seed_12 : decode cX12_seed 12 = .ok (.bipush 18, 2) := by decide +kernel
theorem dX12_seed_14 : decode cX12_seed 14 = .ok (.iload_n 1, 1) := by decide +kernel
theorem dX12_seed_15 : decode cX12_seed 15 = .ok (.iastore, 1) := by decide +kernel
theorem dX12_seed_16 : decode cX12_seed 16 = .ok (.iload_n 2, 1) := by decide +kernel
theorem dX12_seed_17 : decode cX12_seed 17 = .ok (.ireturn, 1) := by decide +kernel
set_option maxRecDepth 20000 in
theorem ggX12_average_X12_isPlayer : GoodIn wsX12_average wsX12_isPlayer := goodIn_r _ [6, 7, 8, 5, 9] rfl (by decide +kernel)
set_option maxRecDepth 20000 in
theorem gX12_average_X12_isPlayer : GoodIn wsX12_average (va_wsS RX12 140 yX12_isPlayer wsX12_isPlayer) := goodIn_app (goodIn_of _ (by decide +kernel)) ggX12_average_X12_isPlayer
set_option maxRecDepth 20000 in
theorem ggX12_average_Jxf58ca_floatToIntBits_5c35a : GoodIn wsX12_average wsJxf58ca_floatToIntBits_5c35a := goodIn_r _ [13, 14, 15, 16, 17, 18, 19, 20, 12, 21] rfl (by decide +kernel)
set_option maxRecDepth 20000 in
theorem gX12_average_Jxf58ca_floatToIntBits_5c35a : GoodIn wsX12_average (va_wsS RX12 198 yJxf58ca_floatToIntBits_5c35a wsJxf58ca_floatToIntBits_5c35a) := goodIn_app (goodIn_of _ (by decide +kernel)) ggX12_average_Jxf58ca_floatToIntBits_5c35a
theorem dX12_average_0 : decode cX12_average 0 = .ok (.iload_n 1, 1) := by decide +kernel
theorem dX12_average_1 : decode cX12_average 1 = .ok (.invokestatic 140, 3) := by decide +kernel
theorem dX12_average_4 : decode cX12_average 4 = .ok (.ifCond .ne 5, 3) := by decide +kernel
theorem dX12_average_7 : decode cX12_average 7 = .ok (.iconst (-1), 1) := by decide +kernel
theorem dX12_average_8 : decode cX12_average 8 = .ok (.ireturn, 1) := by decide +kernel
theorem dX12_average_9 : decode cX12_average 9 = .ok (.aload_n 0, 1) := by decide +kernel
theorem dX12_average_10 : decode cX12_average 10 = .ok (.getfield 13, 3) := by decide +kernel
theorem dX12_average_13 : decode cX12_average 13 = .ok (.bipush 8, 2) := by decide +kernel
theorem dX12_average_15 : decode cX12_average 15 = .ok (.iload_n 1, 1) := by decide +kernel
theorem dX12_average_16 : decode cX12_average 16 = .ok (.iadd, 1) := by decide +kernel
theorem dX12_average_17 : decode cX12_average 17 = .ok (.iaload, 1) := by decide +kernel
theorem dX12_average_18 : decode cX12_average 18 = .ok (.ifCond .ne 7, 3) := by decide +kernel
theorem dX12_average_21 : decode cX12_average 21 = .ok (.iconst 0, 1) := by decide +kernel
theorem dX12_average_22 : decode cX12_average 22 = .ok (.goto 31, 3) := by decide +kernel
theorem dX12_average_25 : decode cX12_average 25 = .ok (.ldc_w 300, 3) := by decide +kernel
theorem dX12_average_28 : decode cX12_average 28 = .ok (.aload_n 0, 1) := by decide +kernel
theorem dX12_average_29 : decode cX12_average 29 = .ok (.getfield 13, 3) := by decide +kernel
theorem dX12_average_32 : decode cX12_average 32 = .ok (.bipush 10, 2) := by decide +kernel
theorem dX12_average_34 : decode cX12_average 34 = .ok (.iload_n 1, 1) := by decide +kernel
theorem dX12_average_35 : decode cX12_average 35 = .ok (.iadd, 1) := by decide +kernel
theorem dX12_average_36 : decode cX12_average 36 = .ok (.iaload, 1) := by decide +kernel
theorem dX12_average_37 : decode cX12_average 37 = .ok (.i2f, 1) := by decide +kernel
theorem dX12_average_38 : decode cX12_average 38 = .ok (.fmul, 1) := by decide +kernel
theorem dX12_average_39 : decode cX12_average 39 = .ok (.aload_n 0, 1) := by decide +kernel
theorem dX12_average_40 : decode cX12_average 40 = .ok (.getfield 13, 3) := by decide +kernel
theorem dX12_average_43 : decode cX12_average 43 = .ok (.bipush 8, 2) := by decide +kernel
theorem dX12_average_45 : decode cX12_average 45 = .ok (.iload_n 1, 1) := by decide +kernel
theorem dX12_average_46 : decode cX12_average 46 = .ok (.iadd, 1) := by decide +kernel
theorem dX12_average_47 : decode cX12_average 47 = .ok (.iaload, 1) := by decide +kernel
theorem dX12_average_48 : decode cX12_average 48 = .ok (.i2f, 1) := by decide +kernel
theorem dX12_average_49 : decode cX12_average 49 = .ok (.fdiv, 1) := by decide +kernel
theorem dX12_average_50 : decode cX12_average 50 = .ok (.invokestatic 198, 3) := by decide +kernel
theorem dX12_average_53 : decode cX12_average 53 = .ok (.ireturn, 1) := by decide +kernel
set_option maxRecDepth 20000 in
theorem ggX12_told_X12_toldOf : GoodIn wsX12_told wsX12_toldOf := goodIn_r _ [8, 1, 9, 10, 7, 11, 12, 13, 14, 15, 16, 17, 18, 19, 20, 21, 22, 23, 24, 25, 26, 27, 28, 29, 30, 31, 32, 33, 34, 35, 36, 37, 38, 39, 40, 41, 42, 43, 44, 45, 46, 47, 48, 49, 50, 51, 52, 53, 54] rfl (by decide +kernel)
set_option maxRecDepth 20000 in
theorem gX12_told_X12_toldOf : GoodIn wsX12_told (wsV RX12 304 RX12 yX12_toldOf wsX12_toldOf) := goodIn_app (goodIn_of _ (by decide +kernel)) ggX12_told_X12_toldOf
theorem dX12_told_0 : decode cX12_told 0 = .ok (.iload_n 1, 1) := by decide +kernel
theorem dX12_told_1 : decode cX12_told 1 = .ok (.tableswitch 117 0 8 #[51, 59, 67, 75, 83, 91, 99, 107, 112], 51) := by decide +kernel
theorem dX12_told_52 : decode cX12_told 52 = .ok (.aload_n 0, 1) := by decide +kernel
theorem dX12_told_53 : decode cX12_told 53 = .ok (.getfield 13, 3) := by decide +kernel
theorem dX12_told_56 : decode cX12_told 56 = .ok (.bipush 15, 2) := by decide +kernel
theorem dX12_told_58 : decode cX12_told 58 = .ok (.iaload, 1) := by decide +kernel
theorem dX12_told_59 : decode cX12_told 59 = .ok (.ireturn, 1) := by decide +kernel
theorem dX12_told_60 : decode cX12_told 60 = .ok (.aload_n 0, 1) := by decide +kernel
theorem dX12_told_61 : decode cX12_told 61 = .ok (.getfield 13, 3) := by decide +kernel
theorem dX12_told_64 : decode cX12_told 64 = .ok (.bipush 16, 2) := by decide +kernel
theorem dX12_told_66 : decode cX12_told 66 = .ok (.iaload, 1) := by decide +kernel
theorem dX12_told_67 : decode cX12_told 67 = .ok (.ireturn, 1) := by decide +kernel
theorem dX12_told_68 : decode cX12_told 68 = .ok (.aload_n 0, 1) := by decide +kernel
theorem dX12_told_69 : decode cX12_told 69 = .ok (.getfield 13, 3) := by decide +kernel
theorem dX12_told_72 : decode cX12_told 72 = .ok (.bipush 14, 2) := by decide +kernel
theorem dX12_told_74 : decode cX12_told 74 = .ok (.iaload, 1) := by decide +kernel
theorem dX12_told_75 : decode cX12_told 75 = .ok (.ireturn, 1) := by decide +kernel
theorem dX12_told_76 : decode cX12_told 76 = .ok (.aload_n 0, 1) := by decide +kernel
theorem dX12_told_77 : decode cX12_told 77 = .ok (.getfield 13, 3) := by decide +kernel
theorem dX12_told_80 : decode cX12_told 80 = .ok (.bipush 13, 2) := by decide +kernel
theorem dX12_told_82 : decode cX12_told 82 = .ok (.iaload, 1) := by decide +kernel
theorem dX12_told_83 : decode cX12_told 83 = .ok (.ireturn, 1) := by decide +kernel
theorem dX12_told_84 : decode cX12_told 84 = .ok (.aload_n 0, 1) := by decide +kernel
theorem dX12_told_85 : decode cX12_told 85 = .ok (.getfield 13, 3) := by decide +kernel
theorem dX12_told_88 : decode cX12_told 88 = .ok (.bipush 12, 2) := by decide +kernel
theorem dX12_told_90 : decode cX12_told 90 = .ok (.iaload, 1) := by decide +kernel
theorem dX12_told_91 : decode cX12_told 91 = .ok (.ireturn, 1) := by decide +kernel
theorem dX12_told_92 : decode cX12_told 92 = .ok (.aload_n 0, 1) := by decide +kernel
theorem dX12_told_93 : decode cX12_told 93 = .ok (.getfield 13, 3) := by decide +kernel
theorem dX12_told_96 : decode cX12_told 96 = .ok (.bipush 17, 2) := by decide +kernel
theorem dX12_told_98 : decode cX12_told 98 = .ok (.iaload, 1) := by decide +kernel
theorem dX12_told_99 : decode cX12_told 99 = .ok (.ireturn, 1) := by decide +kernel
theorem dX12_told_100 : decode cX12_told 100 = .ok (.aload_n 0, 1) := by decide +kernel
theorem dX12_told_101 : decode cX12_told 101 = .ok (.getfield 13, 3) := by decide +kernel
theorem dX12_told_104 : decode cX12_told 104 = .ok (.bipush 18, 2) := by decide +kernel
theorem dX12_told_106 : decode cX12_told 106 = .ok (.iaload, 1) := by decide +kernel
theorem dX12_told_107 : decode cX12_told 107 = .ok (.ireturn, 1) := by decide +kernel
theorem dX12_told_108 : decode cX12_told 108 = .ok (.aload_n 0, 1) := by decide +kernel
theorem dX12_told_109 : decode cX12_told 109 = .ok (.getfield 301, 3) := by decide +kernel
theorem dX12_told_112 : decode cX12_told 112 = .ok (.ireturn, 1) := by decide +kernel
theorem dX12_told_113 : decode cX12_told 113 = .ok (.aload_n 0, 1) := by decide +kernel
theorem dX12_told_114 : decode cX12_told 114 = .ok (.getfield 276, 3) := by decide +kernel
theorem dX12_told_117 : decode cX12_told 117 = .ok (.ireturn, 1) := by decide +kernel
theorem dX12_told_118 : decode cX12_told 118 = .ok (.aload_n 0, 1) := by decide +kernel
theorem dX12_told_119 : decode cX12_told 119 = .ok (.iload_n 1, 1) := by decide +kernel
theorem dX12_told_120 : decode cX12_told 120 = .ok (.bipush 10, 2) := by decide +kernel
theorem dX12_told_122 : decode cX12_told 122 = .ok (.idiv, 1) := by decide +kernel
theorem dX12_told_123 : decode cX12_told 123 = .ok (.iconst 1, 1) := by decide +kernel
theorem dX12_told_124 : decode cX12_told 124 = .ok (.isub, 1) := by decide +kernel
theorem dX12_told_125 : decode cX12_told 125 = .ok (.iload_n 1, 1) := by decide +kernel
theorem dX12_told_126 : decode cX12_told 126 = .ok (.bipush 10, 2) := by decide +kernel
theorem dX12_told_128 : decode cX12_told 128 = .ok (.irem, 1) := by decide +kernel
theorem dX12_told_129 : decode cX12_told 129 = .ok (.iload_n 1, 1) := by decide +kernel
theorem dX12_told_130 : decode cX12_told 130 = .ok (.invokevirtual 304, 3) := by decide +kernel
theorem dX12_told_133 : decode cX12_told 133 = .ok (.ireturn, 1) := by decide +kernel
set_option maxRecDepth 20000 in
theorem ggX12_toldOf_X12_isPlayer : GoodIn wsX12_toldOf wsX12_isPlayer := goodIn_r _ [5, 6, 7, 4, 8] rfl (by decide +kernel)
set_option maxRecDepth 20000 in
theorem gX12_toldOf_X12_isPlayer : GoodIn wsX12_toldOf (va_wsS RX12 140 yX12_isPlayer wsX12_isPlayer) := goodIn_app (goodIn_of _ (by decide +kernel)) ggX12_toldOf_X12_isPlayer
theorem dX12_toldOf_0 : decode cX12_toldOf 0 = .ok (.iload_n 3, 1) := by decide +kernel
theorem dX12_toldOf_1 : decode cX12_toldOf 1 = .ok (.bipush 10, 2) := by decide +kernel
theorem dX12_toldOf_3 : decode cX12_toldOf 3 = .ok (.if_icmp .lt 15, 3) := by decide +kernel
theorem dX12_toldOf_6 : decode cX12_toldOf 6 = .ok (.iload_n 1, 1) := by decide +kernel
theorem dX12_toldOf_7 : decode cX12_toldOf 7 = .ok (.invokestatic 140, 3) := by decide +kernel
theorem dX12_toldOf_10 : decode cX12_toldOf 10 = .ok (.ifCond .eq 8, 3) := by decide +kernel
theorem dX12_toldOf_13 : decode cX12_toldOf 13 = .ok (.iload_n 2, 1) := by decide +kernel
theorem dX12_toldOf_14 : decode cX12_toldOf 14 = .ok (.iconst 5, 1) := by decide +kernel
theorem dX12_toldOf_15 : decode cX12_toldOf 15 = .ok (.if_icmp .le 5, 3) := by decide +kernel
theorem dX12_toldOf_18 : decode cX12_toldOf 18 = .ok (.iconst (-1), 1) := by decide +kernel
theorem dX12_toldOf_19 : decode cX12_toldOf 19 = .ok (.ireturn, 1) := by decide +kernel
theorem dX12_toldOf_20 : decode cX12_toldOf 20 = .ok (.iload_n 2, 1) := by decide +kernel
theorem dX12_toldOf_21 : decode cX12_toldOf 21 = .ok (.iconst 4, 1) := by decide +kernel
theorem dX12_toldOf_22 : decode cX12_toldOf 22 = .ok (.if_icmp .ge 18, 3) := by decide +kernel
theorem dX12_toldOf_25 : decode cX12_toldOf 25 = .ok (.aload_n 0, 1) := by decide +kernel
theorem dX12_toldOf_26 : decode cX12_toldOf 26 = .ok (.getfield 13, 3) := by decide +kernel
theorem dX12_toldOf_29 : decode cX12_toldOf 29 = .ok (.iconst 4, 1) := by decide +kernel
theorem dX12_toldOf_30 : decode cX12_toldOf 30 = .ok (.iconst 2, 1) := by decide +kernel
theorem dX12_toldOf_31 : decode cX12_toldOf 31 = .ok (.iload_n 2, 1) := by decide +kernel
theorem dX12_toldOf_32 : decode cX12_toldOf 32 = .ok (.imul, 1) := by decide +kernel
theorem dX12_toldOf_33 : decode cX12_toldOf 33 = .ok (.iadd, 1) := by decide +kernel
theorem dX12_toldOf_34 : decode cX12_toldOf 34 = .ok (.iload_n 1, 1) := by decide +kernel
theorem dX12_toldOf_35 : decode cX12_toldOf 35 = .ok (.iadd, 1) := by decide +kernel
theorem dX12_toldOf_36 : decode cX12_toldOf 36 = .ok (.iaload, 1) := by decide +kernel
theorem dX12_toldOf_37 : decode cX12_toldOf 37 = .ok (.goto 15, 3) := by decide +kernel
theorem dX12_toldOf_40 : decode cX12_toldOf 40 = .ok (.aload_n 0, 1) := by decide +kernel
theorem dX12_toldOf_41 : decode cX12_toldOf 41 = .ok (.getfield 13, 3) := by decide +kernel
theorem dX12_toldOf_44 : decode cX12_toldOf 44 = .ok (.iconst 2, 1) := by decide +kernel
theorem dX12_toldOf_45 : decode cX12_toldOf 45 = .ok (.iload_n 2, 1) := by decide +kernel
theorem dX12_toldOf_46 : decode cX12_toldOf 46 = .ok (.iconst 4, 1) := by decide +kernel
theorem dX12_toldOf_47 : decode cX12_toldOf 47 = .ok (.isub, 1) := by decide +kernel
theorem dX12_toldOf_48 : decode cX12_toldOf 48 = .ok (.imul, 1) := by decide +kernel
theorem dX12_toldOf_49 : decode cX12_toldOf 49 = .ok (.iload_n 1, 1) := by decide +kernel
theorem dX12_toldOf_50 : decode cX12_toldOf 50 = .ok (.iadd, 1) := by decide +kernel
theorem dX12_toldOf_51 : decode cX12_toldOf 51 = .ok (.iaload, 1) := by decide +kernel
theorem dX12_toldOf_52 : decode cX12_toldOf 52 = .ok (.ireturn, 1) := by decide +kernel
set_option maxRecDepth 20000 in
theorem ggX12_feed_X12_in : GoodIn wsX12_feed wsX12_in := goodIn_r _ [7] rfl (by decide +kernel)
set_option maxRecDepth 20000 in
theorem gX12_feed_X12_in : GoodIn wsX12_feed (va_wsS RX12 108 yX12_in wsX12_in) := goodIn_app (goodIn_of _ (by decide +kernel)) ggX12_feed_X12_in
theorem dX12_feed_0 : decode cX12_feed 0 = .ok (.iload_n 1, 1) := by decide +kernel
theorem dX12_feed_1 : decode cX12_feed 1 = .ok (.i2l, 1) := by decide +kernel
theorem dX12_feed_2 : decode cX12_feed 2 = .ok (.lconst 1, 1) := by decide +kernel
theorem dX12_feed_3 : decode cX12_feed 3 = .ok (.ldc2_w 308, 3) := by decide +kernel
theorem dX12_feed_6 : decode cX12_feed 6 = .ok (.invokestatic 108, 3) := by decide +kernel
theorem dX12_feed_9 : decode cX12_feed 9 = .ok (.ifCond .ne 6, 3) := by decide +kernel
theorem dX12_feed_12 : decode cX12_feed 12 = .ok (.bipush (-2), 2) := by decide +kernel
theorem dX12_feed_14 : decode cX12_feed 14 = .ok (.ireturn, 1) := by decide +kernel
theorem dX12_feed_15 : decode cX12_feed 15 = .ok (.aload_n 0, 1) := by decide +kernel
theorem dX12_feed_16 : decode cX12_feed 16 = .ok (.getfield 301, 3) := by decide +kernel
theorem dX12_feed_19 : decode cX12_feed 19 = .ok (.bipush 60, 2) := by decide +kernel
theorem dX12_feed_21 : decode cX12_feed 21 = .ok (.if_icmp .ne 6, 3) := by decide +kernel
theorem dX12_feed_24 : decode cX12_feed 24 = .ok (.bipush (-4), 2) := by decide +kernel
theorem dX12_feed_26 : decode cX12_feed 26 = .ok (.ireturn, 1) := by decide +kernel
theorem dX12_feed_27 : decode cX12_feed 27 = .ok (.aload_n 0, 1) := by decide +kernel
theorem dX12_feed_28 : decode cX12_feed 28 = .ok (.getfield 84, 3) := by decide +kernel
theorem dX12_feed_31 : decode cX12_feed 31 = .ok (.aload_n 0, 1) := by decide +kernel
theorem dX12_feed_32 : decode cX12_feed 32 = .ok (.getfield 301, 3) := by decide +kernel
theorem dX12_feed_35 : decode cX12_feed 35 = .ok (.iload_n 1, 1) := by decide +kernel
theorem dX12_feed_36 : decode cX12_feed 36 = .ok (.iastore, 1) := by decide +kernel
theorem dX12_feed_37 : decode cX12_feed 37 = .ok (.aload_n 0, 1) := by decide +kernel
theorem dX12_feed_38 : decode cX12_feed 38 = .ok (.dup, 1) := by decide +kernel
theorem dX12_feed_39 : decode cX12_feed 39 = .ok (.getfield 301, 3) := by decide +kernel
theorem dX12_feed_42 : decode cX12_feed 42 = .ok (.iconst 1, 1) := by decide +kernel
theorem dX12_feed_43 : decode cX12_feed 43 = .ok (.iadd, 1) := by decide +kernel
theorem dX12_feed_44 : decode cX12_feed 44 = .ok (.putfield 301, 3) := by decide +kernel
theorem dX12_feed_47 : decode cX12_feed 47 = .ok (.aload_n 0, 1) := by decide +kernel
theorem dX12_feed_48 : decode cX12_feed 48 = .ok (.getfield 301, 3) := by decide +kernel
theorem dX12_feed_51 : decode cX12_feed 51 = .ok (.ireturn, 1) := by decide +kernel
theorem dX12_clear_0 : decode cX12_clear 0 = .ok (.aload_n 0, 1) := by decide +kernel
theorem dX12_clear_1 : decode cX12_clear 1 = .ok (.getfield 301, 3) := by decide +kernel
theorem dX12_clear_4 : decode cX12_clear 4 = .ok (.istore_n 1, 1) := by decide +kernel
theorem dX12_clear_5 : decode cX12_clear 5 = .ok (.aload_n 0, 1) := by decide +kernel
theorem dX12_clear_6 : decode cX12_clear 6 = .ok (.iconst 0, 1) := by decide +kernel
theorem dX12_clear_7 : decode cX12_clear 7 = .ok (.putfield 301, 3) := by decide +kernel
theorem dX12_clear_10 : decode cX12_clear 10 = .ok (.iload_n 1, 1) := by decide +kernel
theorem dX12_clear_11 : decode cX12_clear 11 = .ok (.ireturn, 1) := by decide +kernel
theorem dX12_here_0 : decode cX12_here 0 = .ok (.aload_n 0, 1) := by decide +kernel
theorem dX12_here_1 : decode cX12_here 1 = .ok (.getfield 310, 3) := by decide +kernel
theorem dX12_here_4 : decode cX12_here 4 = .ok (.aload_n 0, 1) := by decide +kernel
theorem dX12_here_5 : decode cX12_here 5 = .ok (.getfield 301, 3) := by decide +kernel
theorem dX12_here_8 : decode cX12_here 8 = .ok (.if_icmp .ge 15, 3) := by decide +kernel
theorem dX12_here_11 : decode cX12_here 11 = .ok (.aload_n 0, 1) := by decide +kernel
theorem dX12_here_12 : decode cX12_here 12 = .ok (.getfield 84, 3) := by decide +kernel
theorem dX12_here_15 : decode cX12_here 15 = .ok (.aload_n 0, 1) := by decide +kernel
theorem dX12_here_16 : decode cX12_here 16 = .ok (.getfield 310, 3) := by decide +kernel
theorem dX12_here_19 : decode cX12_here 19 = .ok (.iaload, 1) := by decide +kernel
theorem dX12_here_20 : decode cX12_here 20 = .ok (.goto 4, 3) := by decide +kernel
theorem dX12_here_23 : decode cX12_here 23 = .ok (.iconst (-1), 1) := by decide +kernel
theorem dX12_here_24 : decode cX12_here 24 = .ok (.ireturn, 1) := by decide +kernel
set_option maxRecDepth 20000 in
theorem ggX12_wants_X12_here : GoodIn wsX12_wants wsX12_here := goodIn_r _ [7, 2, 8, 9, 10, 11, 12, 13, 14, 15, 16, 17, 18, 19, 20, 21, 22, 23, 24, 25, 26, 27, 28, 29, 30, 31, 32, 33, 34, 35, 36, 37, 38, 39, 40, 41, 42, 43, 44, 45, 46, 47, 48, 49] rfl (by decide +kernel)
set_option maxRecDepth 20000 in
theorem gX12_wants_X12_here : GoodIn wsX12_wants (wsV RX12 317 RX12 yX12_here wsX12_here) := goodIn_app (goodIn_of _ (by decide +kernel)) ggX12_wants_X12_here
theorem dX12_wants_0 : decode cX12_wants 0 = .ok (.aload_n 0, 1) := by decide +kernel
theorem dX12_wants_1 : decode cX12_wants 1 = .ok (.aload_n 0, 1) := by decide +kernel
theorem dX12_wants_2 : decode cX12_wants 2 = .ok (.getfield 313, 3) := by decide +kernel
theorem dX12_wants_5 : decode cX12_wants 5 = .ok (.ifCond .ne 11, 3) := by decide +kernel
theorem dX12_wants_8 : decode cX12_wants 8 = .ok (.aload_n 0, 1) := by decide +kernel
theorem dX12_wants_9 : decode cX12_wants 9 = .ok (.invokevirtual 317, 3) := by decide +kernel
theorem dX12_wants_12 : decode cX12_wants 12 = .ok (.iload_n 1, 1) := by decide +kernel
theorem dX12_wants_13 : decode cX12_wants 13 = .ok (.if_icmp .eq 7, 3) := by decide +kernel
theorem dX12_wants_16 : decode cX12_wants 16 = .ok (.iconst 1, 1) := by decide +kernel
theorem dX12_wants_17 : decode cX12_wants 17 = .ok (.goto 4, 3) := by decide +kernel
theorem dX12_wants_20 : decode cX12_wants 20 = .ok (.iconst 0, 1) := by decide +kernel
theorem dX12_wants_21 : decode cX12_wants 21 = .ok (.putfield 313, 3) := by decide +kernel
theorem dX12_wants_24 : decode cX12_wants 24 = .ok (.aload_n 0, 1) := by decide +kernel
theorem dX12_wants_25 : decode cX12_wants 25 = .ok (.dup, 1) := by decide +kernel
theorem dX12_wants_26 : decode cX12_wants 26 = .ok (.getfield 310, 3) := by decide +kernel
theorem dX12_wants_29 : decode cX12_wants 29 = .ok (.aload_n 0, 1) := by decide +kernel
theorem dX12_wants_30 : decode cX12_wants 30 = .ok (.getfield 313, 3) := by decide +kernel
theorem dX12_wants_33 : decode cX12_wants 33 = .ok (.ifCond .eq 7, 3) := by decide +kernel
theorem dX12_wants_36 : decode cX12_wants 36 = .ok (.iconst 0, 1) := by decide +kernel
theorem dX12_wants_37 : decode cX12_wants 37 = .ok (.goto 4, 3) := by decide +kernel
theorem dX12_wants_40 : decode cX12_wants 40 = .ok (.iconst 1, 1) := by decide +kernel
theorem dX12_wants_41 : decode cX12_wants 41 = .ok (.iadd, 1) := by decide +kernel
theorem dX12_wants_42 : decode cX12_wants 42 = .ok (.putfield 310, 3) := by decide +kernel
theorem dX12_wants_45 : decode cX12_wants 45 = .ok (.return_, 1) := by decide +kernel
set_option maxRecDepth 20000 in
theorem ggX12_readNumber_X12_here : GoodIn wsX12_readNumber wsX12_here := goodIn_r _ [10, 1, 11, 12, 16, 17, 18, 19, 20, 21, 22, 23, 24, 25, 26, 27, 28, 29, 30, 31, 32, 33, 34, 35, 36, 37, 38, 39, 40, 41, 42, 43, 44, 45, 46, 47, 48, 49, 50, 51, 52, 53, 54, 55] rfl (by decide +kernel)
set_option maxRecDepth 20000 in
theorem gX12_readNumber_X12_here : GoodIn wsX12_readNumber (wsV RX12 317 RX12 yX12_here wsX12_here) := goodIn_app (goodIn_of _ (by decide +kernel)) ggX12_readNumber_X12_here
set_option maxRecDepth 20000 in
theorem ggX12_readNumber_X12_in : GoodIn wsX12_readNumber wsX12_in := goodIn_r _ [15] rfl (by decide +kernel)
set_option maxRecDepth 20000 in
theorem gX12_readNumber_X12_in : GoodIn wsX12_readNumber (va_wsS RX12 108 yX12_in wsX12_in) := goodIn_app (goodIn_of _ (by decide +kernel)) ggX12_readNumber_X12_in
theorem dX12_readNumber_0 : decode cX12_readNumber 0 = .ok (.aload_n 0, 1) := by decide +kernel
theorem dX12_readNumber_1 : decode cX12_readNumber 1 = .ok (.getfield 310, 3) := by decide +kernel
theorem dX12_readNumber_4 : decode cX12_readNumber 4 = .ok (.istore_n 1, 1) := by decide +kernel
theorem dX12_readNumber_5 : decode cX12_readNumber 5 = .ok (.iconst 0, 1) := by decide +kernel
theorem dX12_readNumber_6 : decode cX12_readNumber 6 = .ok (.istore_n 2, 1) := by decide +kernel
theorem dX12_readNumber_7 : decode cX12_readNumber 7 = .ok (.aload_n 0, 1) := by decide +kernel
theorem dX12_readNumber_8 : decode cX12_readNumber 8 = .ok (.aload_n 0, 1) := by decide +kernel
theorem dX12_readNumber_9 : decode cX12_readNumber 9 = .ok (.invokevirtual 317, 3) := by decide +kernel
theorem dX12_readNumber_12 : decode cX12_readNumber 12 = .ok (.i2l, 1) := by decide +kernel
theorem dX12_readNumber_13 : decode cX12_readNumber 13 = .ok (.ldc2_w 320, 3) := by decide +kernel
theorem dX12_readNumber_16 : decode cX12_readNumber 16 = .ok (.ldc2_w 322, 3) := by decide +kernel
theorem dX12_readNumber_19 : decode cX12_readNumber 19 = .ok (.invokestatic 108, 3) := by decide +kernel
theorem dX12_readNumber_22 : decode cX12_readNumber 22 = .ok (.ifCond .ne 7, 3) := by decide +kernel
theorem dX12_readNumber_25 : decode cX12_readNumber 25 = .ok (.iconst 1, 1) := by decide +kernel
theorem dX12_readNumber_26 : decode cX12_readNumber 26 = .ok (.goto 4, 3) := by decide +kernel
theorem dX12_readNumber_29 : decode cX12_readNumber 29 = .ok (.iconst 0, 1) := by decide +kernel
theorem dX12_readNumber_30 : decode cX12_readNumber 30 = .ok (.putfield 313, 3) := by decide +kernel
theorem dX12_readNumber_33 : decode cX12_readNumber 33 = .ok (.iconst 0, 1) := by decide +kernel
theorem dX12_readNumber_34 : decode cX12_readNumber 34 = .ok (.istore_n 3, 1) := by decide +kernel
theorem dX12_readNumber_35 : decode cX12_readNumber 35 = .ok (.iload_n 3, 1) := by decide +kernel
theorem dX12_readNumber_36 : decode cX12_readNumber 36 = .ok (.iconst 2, 1) := by decide +kernel
theorem dX12_readNumber_37 : decode cX12_readNumber 37 = .ok (.if_icmp .ge 49, 3) := by decide +kernel
theorem dX12_readNumber_40 : decode cX12_readNumber 40 = .ok (.aload_n 0, 1) := by decide +kernel
theorem dX12_readNumber_41 : decode cX12_readNumber 41 = .ok (.invokevirtual 317, 3) := by decide +kernel
theorem dX12_readNumber_44 : decode cX12_readNumber 44 = .ok (.i2l, 1) := by decide +kernel
theorem dX12_readNumber_45 : decode cX12_readNumber 45 = .ok (.ldc2_w 320, 3) := by decide +kernel
theorem dX12_readNumber_48 : decode cX12_readNumber 48 = .ok (.ldc2_w 322, 3) := by decide +kernel
theorem dX12_readNumber_51 : decode cX12_readNumber 51 = .ok (.invokestatic 108, 3) := by decide +kernel
theorem dX12_readNumber_54 : decode cX12_readNumber 54 = .ok (.ifCond .eq 32, 3) := by decide +kernel
theorem dX12_readNumber_57 : decode cX12_readNumber 57 = .ok (.bipush 10, 2) := by decide +kernel
theorem dX12_readNumber_59 : decode cX12_readNumber 59 = .ok (.iload_n 2, 1) := by decide +kernel
theorem dX12_readNumber_60 : decode cX12_readNumber 60 = .ok (.imul, 1) := by decide +kernel
theorem dX12_readNumber_61 : decode cX12_readNumber 61 = .ok (.aload_n 0, 1) := by decide +kernel
theorem dX12_readNumber_62 : decode cX12_readNumber 62 = .ok (.invokevirtual 317, 3) := by decide +kernel
theorem dX12_readNumber_65 : decode cX12_readNumber 65 = .ok (.iadd, 1) := by decide +kernel
theorem dX12_readNumber_66 : decode cX12_readNumber 66 = .ok (.bipush 48, 2) := by decide +kernel
theorem dX12_readNumber_68 : decode cX12_readNumber 68 = .ok (.isub, 1) := by decide +kernel
theorem dX12_readNumber_69 : decode cX12_readNumber 69 = .ok (.istore_n 2, 1) := by decide +kernel
theorem dX12_readNumber_70 : decode cX12_readNumber 70 = .ok (.aload_n 0, 1) := by decide +kernel
theorem dX12_readNumber_71 : decode cX12_readNumber 71 = .ok (.dup, 1) := by decide +kernel
theorem dX12_readNumber_72 : decode cX12_readNumber 72 = .ok (.getfield 310, 3) := by decide +kernel
theorem dX12_readNumber_75 : decode cX12_readNumber 75 = .ok (.iconst 1, 1) := by decide +kernel
theorem dX12_readNumber_76 : decode cX12_readNumber 76 = .ok (.iadd, 1) := by decide +kernel
theorem dX12_readNumber_77 : decode cX12_readNumber 77 = .ok (.putfield 310, 3) := by decide +kernel
theorem dX12_readNumber_80 : decode cX12_readNumber 80 = .ok (.iinc 3 1, 3) := by decide +kernel
theorem dX12_readNumber_83 : decode cX12_readNumber 83 = .ok (.goto (-48), 3) := by decide +kernel
theorem dX12_readNumber_86 : decode cX12_readNumber 86 = .ok (.aload_n 0, 1) := by decide +kernel
theorem dX12_readNumber_87 : decode cX12_readNumber 87 = .ok (.getfield 313, 3) := by decide +kernel
theorem dX12_readNumber_90 : decode cX12_readNumber 90 = .ok (.ifCond .ne 25, 3) := by decide +kernel
theorem dX12_readNumber_93 : decode cX12_readNumber 93 = .ok (.iload_n 2, 1) := by decide +kernel
theorem dX12_readNumber_94 : decode cX12_readNumber 94 = .ok (.i2l, 1) := by decide +kernel
theorem dX12_readNumber_95 : decode cX12_readNumber 95 = .ok (.lconst 1, 1) := by decide +kernel
theorem dX12_readNumber_96 : decode cX12_readNumber 96 = .ok (.ldc2_w 324, 3) := by decide +kernel
theorem dX12_readNumber_99 : decode cX12_readNumber 99 = .ok (.invokestatic 108, 3) := by decide +kernel
theorem dX12_readNumber_102 : decode cX12_readNumber 102 = .ok (.ifCond .ne 13, 3) := by decide +kernel
theorem dX12_readNumber_105 : decode cX12_readNumber 105 = .ok (.aload_n 0, 1) := by decide +kernel
theorem dX12_readNumber_106 : decode cX12_readNumber 106 = .ok (.iconst 1, 1) := by decide +kernel
theorem dX12_readNumber_107 : decode cX12_readNumber 107 = .ok (.putfield 313, 3) := by decide +kernel
theorem dX12_readNumber_110 : decode cX12_readNumber 110 = .ok (.aload_n 0, 1) := by decide +kernel
theorem dX12_readNumber_111 : decode cX12_readNumber 111 = .ok (.iload_n 1, 1) := by decide +kernel
theorem dX12_readNumber_112 : decode cX12_readNumber 112 = .ok (.putfield 310, 3) := by decide +kernel
theorem dX12_readNumber_115 : decode cX12_readNumber 115 = .ok (.iload_n 2, 1) := by decide +kernel
theorem dX12_readNumber_116 : decode cX12_readNumber 116 = .ok (.ireturn, 1) := by decide +kernel
set_option maxRecDepth 20000 in
theorem ggX12_readSpot_X12_here : GoodIn wsX12_readSpot wsX12_here := goodIn_r _ [7, 2, 8, 9, 24, 25, 26, 27, 28, 29, 30, 31, 32, 33, 34, 35, 36, 37, 38, 39, 40, 41, 42, 43, 44, 45, 46, 47, 48, 49, 50, 51, 52, 53, 54, 55, 56, 57, 58, 59, 60, 61, 62, 63] rfl (by decide +kernel)
set_option maxRecDepth 20000 in
theorem gX12_readSpot_X12_here : GoodIn wsX12_readSpot (wsV RX12 317 RX12 yX12_here wsX12_here) := goodIn_app (goodIn_of _ (by decide +kernel)) ggX12_readSpot_X12_here
set_option maxRecDepth 20000 in
theorem ggX12_readSpot_X12_wants : GoodIn wsX12_readSpot wsX12_wants := goodIn_r _ [13, 1, 2, 3, 4, 5, 6, 7, 8, 9, 24, 25, 26, 27, 28, 29, 30, 31, 32, 33, 34, 35, 36, 37, 38, 39, 40, 41, 42, 43, 44, 45, 46, 47, 48, 49, 50, 51, 52, 53, 54, 55, 56, 57, 58, 59, 60, 61, 62, 63] rfl (by decide +kernel)
set_option maxRecDepth 20000 in
theorem gX12_readSpot_X12_wants : GoodIn wsX12_readSpot (wsV RX12 326 RX12 yX12_wants wsX12_wants) := goodIn_app (goodIn_of _ (by decide +kernel)) ggX12_readSpot_X12_wants
set_option maxRecDepth 20000 in
theorem ggX12_readSpot_X12_readNumber : GoodIn wsX12_readSpot wsX12_readNumber := goodIn_r _ [17, 2, 18, 19, 1, 20, 3, 4, 5, 6, 7, 8, 9, 21, 22, 23, 24, 25, 26, 27, 28, 29, 30, 31, 32, 33, 34, 35, 36, 37, 38, 39, 40, 41, 42, 43, 44, 45, 46, 47, 48, 49, 50, 51, 52, 53, 54, 55, 56, 57, 58, 59, 60, 61, 62, 63] rfl (by decide +kernel)
set_option maxRecDepth 20000 in
theorem gX12_readSpot_X12_readNumber : GoodIn wsX12_readSpot (wsV RX12 329 RX12 yX12_readNumber wsX12_readNumber) := goodIn_app (goodIn_of _ (by decide +kernel)) ggX12_readSpot_X12_readNumber
theorem dX12_readSpot_0 : decode cX12_readSpot 0 = .ok (.aload_n 0, 1) := by decide +kernel
theorem dX12_readSpot_1 : decode cX12_readSpot 1 = .ok (.invokevirtual 317, 3) := by decide +kernel
theorem dX12_readSpot_4 : decode cX12_readSpot 4 = .ok (.istore_n 1, 1) := by decide +kernel
theorem dX12_readSpot_5 : decode cX12_readSpot 5 = .ok (.aload_n 0, 1) := by decide +kernel
theorem dX12_readSpot_6 : decode cX12_readSpot 6 = .ok (.iload_n 1, 1) := by decide +kernel
theorem dX12_readSpot_7 : decode cX12_readSpot 7 = .ok (.bipush 83, 2) := by decide +kernel
theorem dX12_readSpot_9 : decode cX12_readSpot 9 = .ok (.if_icmp .eq 37, 3) := by decide +kernel
theorem dX12_readSpot_12 : decode cX12_readSpot 12 = .ok (.iload_n 1, 1) := by decide +kernel
theorem dX12_readSpot_13 : decode cX12_readSpot 13 = .ok (.bipush 68, 2) := by decide +kernel
theorem dX12_readSpot_15 : decode cX12_readSpot 15 = .ok (.if_icmp .eq 31, 3) := by decide +kernel
theorem dX12_readSpot_18 : decode cX12_readSpot 18 = .ok (.iload_n 1, 1) := by decide +kernel
theorem dX12_readSpot_19 : decode cX12_readSpot 19 = .ok (.bipush 84, 2) := by decide +kernel
theorem dX12_readSpot_21 : decode cX12_readSpot 21 = .ok (.if_icmp .eq 25, 3) := by decide +kernel
theorem dX12_readSpot_24 : decode cX12_readSpot 24 = .ok (.iload_n 1, 1) := by decide +kernel
theorem dX12_readSpot_25 : decode cX12_readSpot 25 = .ok (.bipush 79, 2) := by decide +kernel
theorem dX12_readSpot_27 : decode cX12_readSpot 27 = .ok (.if_icmp .eq 19, 3) := by decide +kernel
theorem dX12_readSpot_30 : decode cX12_readSpot 30 = .ok (.iload_n 1, 1) := by decide +kernel
theorem dX12_readSpot_31 : decode cX12_readSpot 31 = .ok (.bipush 66, 2) := by decide +kernel
theorem dX12_readSpot_33 : decode cX12_readSpot 33 = .ok (.if_icmp .eq 13, 3) := by decide +kernel
theorem dX12_readSpot_36 : decode cX12_readSpot 36 = .ok (.iload_n 1, 1) := by decide +kernel
theorem dX12_readSpot_37 : decode cX12_readSpot 37 = .ok (.bipush 45, 2) := by decide +kernel
theorem dX12_readSpot_39 : decode cX12_readSpot 39 = .ok (.if_icmp .eq 7, 3) := by decide +kernel
theorem dX12_readSpot_42 : decode cX12_readSpot 42 = .ok (.iconst 1, 1) := by decide +kernel
theorem dX12_readSpot_43 : decode cX12_readSpot 43 = .ok (.goto 4, 3) := by decide +kernel
theorem dX12_readSpot_46 : decode cX12_readSpot 46 = .ok (.iconst 0, 1) := by decide +kernel
theorem dX12_readSpot_47 : decode cX12_readSpot 47 = .ok (.putfield 313, 3) := by decide +kernel
theorem dX12_readSpot_50 : decode cX12_readSpot 50 = .ok (.aload_n 0, 1) := by decide +kernel
theorem dX12_readSpot_51 : decode cX12_readSpot 51 = .ok (.dup, 1) := by decide +kernel
theorem dX12_readSpot_52 : decode cX12_readSpot 52 = .ok (.getfield 310, 3) := by decide +kernel
theorem dX12_readSpot_55 : decode cX12_readSpot 55 = .ok (.aload_n 0, 1) := by decide +kernel
theorem dX12_readSpot_56 : decode cX12_readSpot 56 = .ok (.getfield 313, 3) := by decide +kernel
theorem dX12_readSpot_59 : decode cX12_readSpot 59 = .ok (.ifCond .eq 7, 3) := by decide +kernel
theorem dX12_readSpot_62 : decode cX12_readSpot 62 = .ok (.iconst 0, 1) := by decide +kernel
theorem dX12_readSpot_63 : decode cX12_readSpot 63 = .ok (.goto 4, 3) := by decide +kernel
theorem dX12_readSpot_66 : decode cX12_readSpot 66 = .ok (.iconst 1, 1) := by decide +kernel
theorem dX12_readSpot_67 : decode cX12_readSpot 67 = .ok (.iadd, 1) := by decide +kernel
theorem dX12_readSpot_68 : decode cX12_readSpot 68 = .ok (.putfield 310, 3) := by decide +kernel
theorem dX12_readSpot_71 : decode cX12_readSpot 71 = .ok (.aload_n 0, 1) := by decide +kernel
theorem dX12_readSpot_72 : decode cX12_readSpot 72 = .ok (.getfield 313, 3) := by decide +kernel
theorem dX12_readSpot_75 : decode cX12_readSpot 75 = .ok (.ifCond .ne 9, 3) := by decide +kernel
theorem dX12_readSpot_78 : decode cX12_readSpot 78 = .ok (.iload_n 1, 1) := by decide +kernel
theorem dX12_readSpot_79 : decode cX12_readSpot 79 = .ok (.bipush 45, 2) := by decide +kernel
theorem dX12_readSpot_81 : decode cX12_readSpot 81 = .ok (.if_icmp .ne 5, 3) := by decide +kernel
theorem dX12_readSpot_84 : decode cX12_readSpot 84 = .ok (.iconst 0, 1) := by decide +kernel
theorem dX12_readSpot_85 : decode cX12_readSpot 85 = .ok (.ireturn, 1) := by decide +kernel
theorem dX12_readSpot_86 : decode cX12_readSpot 86 = .ok (.iload_n 1, 1) := by decide +kernel
theorem dX12_readSpot_87 : decode cX12_readSpot 87 = .ok (.bipush 79, 2) := by decide +kernel
theorem dX12_readSpot_89 : decode cX12_readSpot 89 = .ok (.if_icmp .ne 12, 3) := by decide +kernel
theorem dX12_readSpot_92 : decode cX12_readSpot 92 = .ok (.aload_n 0, 1) := by decide +kernel
theorem dX12_readSpot_93 : decode cX12_readSpot 93 = .ok (.bipush 66, 2) := by decide +kernel
theorem dX12_readSpot_95 : decode cX12_readSpot 95 = .ok (.invokevirtual 326, 3) := by decide +kernel
theorem dX12_readSpot_98 : decode cX12_readSpot 98 = .ok (.bipush 61, 2) := by decide +kernel
theorem dX12_readSpot_100 : decode cX12_readSpot 100 = .ok (.ireturn, 1) := by decide +kernel
theorem dX12_readSpot_101 : decode cX12_readSpot 101 = .ok (.iload_n 1, 1) := by decide +kernel
theorem dX12_readSpot_102 : decode cX12_readSpot 102 = .ok (.bipush 66, 2) := by decide +kernel
theorem dX12_readSpot_104 : decode cX12_readSpot 104 = .ok (.if_icmp .ne 12, 3) := by decide +kernel
theorem dX12_readSpot_107 : decode cX12_readSpot 107 = .ok (.aload_n 0, 1) := by decide +kernel
theorem dX12_readSpot_108 : decode cX12_readSpot 108 = .ok (.bipush 85, 2) := by decide +kernel
theorem dX12_readSpot_110 : decode cX12_readSpot 110 = .ok (.invokevirtual 326, 3) := by decide +kernel
theorem dX12_readSpot_113 : decode cX12_readSpot 113 = .ok (.bipush 62, 2) := by decide +kernel
theorem dX12_readSpot_115 : decode cX12_readSpot 115 = .ok (.ireturn, 1) := by decide +kernel
theorem dX12_readSpot_116 : decode cX12_readSpot 116 = .ok (.iload_n 1, 1) := by decide +kernel
theorem dX12_readSpot_117 : decode cX12_readSpot 117 = .ok (.bipush 83, 2) := by decide +kernel
theorem dX12_readSpot_119 : decode cX12_readSpot 119 = .ok (.if_icmp .ne 7, 3) := by decide +kernel
theorem dX12_readSpot_122 : decode cX12_readSpot 122 = .ok (.iconst 0, 1) := by decide +kernel
theorem dX12_readSpot_123 : decode cX12_readSpot 123 = .ok (.goto 16, 3) := by decide +kernel
theorem dX12_readSpot_126 : decode cX12_readSpot 126 = .ok (.iload_n 1, 1) := by decide +kernel
theorem dX12_readSpot_127 : decode cX12_readSpot 127 = .ok (.bipush 68, 2) := by decide +kernel
theorem dX12_readSpot_129 : decode cX12_readSpot 129 = .ok (.if_icmp .ne 8, 3) := by decide +kernel
theorem dX12_readSpot_132 : decode cX12_readSpot 132 = .ok (.bipush 20, 2) := by decide +kernel
theorem dX12_readSpot_134 : decode cX12_readSpot 134 = .ok (.goto 5, 3) := by decide +kernel
theorem dX12_readSpot_137 : decode cX12_readSpot 137 = .ok (.bipush 40, 2) := by decide +kernel
theorem dX12_readSpot_139 : decode cX12_readSpot 139 = .ok (.aload_n 0, 1) := by decide +kernel
theorem dX12_readSpot_140 : decode cX12_readSpot 140 = .ok (.invokevirtual 329, 3) := by decide +kernel
theorem dX12_readSpot_143 : decode cX12_readSpot 143 = .ok (.iadd, 1) := by decide +kernel
theorem dX12_readSpot_144 : decode cX12_readSpot 144 = .ok (.ireturn, 1) := by decide +kernel
set_option maxRecDepth 20000 in
theorem ggX12_readPath_X12_readSpot : GoodIn wsX12_readPath wsX12_readSpot := goodIn_r _ [10, 4, 1, 11, 12, 13, 9, 14, 5, 15, 16, 17, 18, 19, 20, 21, 22, 23, 24, 25, 26, 27, 28, 29, 30, 31, 32, 33, 34, 35, 36, 37, 38, 39, 40, 41, 42, 43, 44, 45, 46, 47, 48, 49, 50, 51, 52, 53, 54, 55, 56, 57, 58, 59, 60, 61, 62, 63, 64, 65, 66, 67, 68, 69] rfl (by decide +kernel)
set_option maxRecDepth 20000 in
theorem gX12_readPath_X12_readSpot : GoodIn wsX12_readPath (wsV RX12 335 RX12 yX12_readSpot wsX12_readSpot) := goodIn_app (goodIn_of _ (by decide +kernel)) ggX12_readPath_X12_readSpot
set_option maxRecDepth 20000 in
theorem ggX12_readPath_X12_here : GoodIn wsX12_readPath wsX12_here := goodIn_r _ [14, 1, 5, 15, 30, 31, 32, 33, 34, 35, 36, 37, 38, 39, 40, 41, 42, 43, 44, 45, 46, 47, 48, 49, 50, 51, 52, 53, 54, 55, 56, 57, 58, 59, 60, 61, 62, 63, 64, 65, 66, 67, 68, 69] rfl (by decide +kernel)
set_option maxRecDepth 20000 in
theorem gX12_readPath_X12_here : GoodIn wsX12_readPath (wsV RX12 317 RX12 yX12_here wsX12_here) := goodIn_app (goodIn_of _ (by decide +kernel)) ggX12_readPath_X12_here
theorem dX12_readPath_0 : decode cX12_readPath 0 = .ok (.aload_n 0, 1) := by decide +kernel
theorem dX12_readPath_1 : decode cX12_readPath 1 = .ok (.iconst 0, 1) := by decide +kernel
theorem dX12_readPath_2 : decode cX12_readPath 2 = .ok (.putfield 310, 3) := by decide +kernel
theorem dX12_readPath_5 : decode cX12_readPath 5 = .ok (.aload_n 0, 1) := by decide +kernel
theorem dX12_readPath_6 : decode cX12_readPath 6 = .ok (.iconst 0, 1) := by decide +kernel
theorem dX12_readPath_7 : decode cX12_readPath 7 = .ok (.putfield 332, 3) := by decide +kernel
theorem dX12_readPath_10 : decode cX12_readPath 10 = .ok (.iconst 1, 1) := by decide +kernel
theorem dX12_readPath_11 : decode cX12_readPath 11 = .ok (.istore_n 1, 1) := by decide +kernel
theorem dX12_readPath_12 : decode cX12_readPath 12 = .ok (.iload_n 1, 1) := by decide +kernel
theorem dX12_readPath_13 : decode cX12_readPath 13 = .ok (.ifCond .eq 80, 3) := by decide +kernel
theorem dX12_readPath_16 : decode cX12_readPath 16 = .ok (.aload_n 0, 1) := by decide +kernel
theorem dX12_readPath_17 : decode cX12_readPath 17 = .ok (.invokevirtual 335, 3) := by decide +kernel
theorem dX12_readPath_20 : decode cX12_readPath 20 = .ok (.istore_n 2, 1) := by decide +kernel
theorem dX12_readPath_21 : decode cX12_readPath 21 = .ok (.aload_n 0, 1) := by decide +kernel
theorem dX12_readPath_22 : decode cX12_readPath 22 = .ok (.getfield 87, 3) := by decide +kernel
theorem dX12_readPath_25 : decode cX12_readPath 25 = .ok (.aload_n 0, 1) := by decide +kernel
theorem dX12_readPath_26 : decode cX12_readPath 26 = .ok (.getfield 332, 3) := by decide +kernel
theorem dX12_readPath_29 : decode cX12_readPath 29 = .ok (.iload_n 2, 1) := by decide +kernel
theorem dX12_readPath_30 : decode cX12_readPath 30 = .ok (.iastore, 1) := by decide +kernel
theorem dX12_readPath_31 : decode cX12_readPath 31 = .ok (.aload_n 0, 1) := by decide +kernel
theorem dX12_readPath_32 : decode cX12_readPath 32 = .ok (.dup, 1) := by decide +kernel
theorem dX12_readPath_33 : decode cX12_readPath 33 = .ok (.getfield 332, 3) := by decide +kernel
theorem dX12_readPath_36 : decode cX12_readPath 36 = .ok (.iconst 1, 1) := by decide +kernel
theorem dX12_readPath_37 : decode cX12_readPath 37 = .ok (.iadd, 1) := by decide +kernel
theorem dX12_readPath_38 : decode cX12_readPath 38 = .ok (.putfield 332, 3) := by decide +kernel
theorem dX12_readPath_41 : decode cX12_readPath 41 = .ok (.aload_n 0, 1) := by decide +kernel
theorem dX12_readPath_42 : decode cX12_readPath 42 = .ok (.getfield 313, 3) := by decide +kernel
theorem dX12_readPath_45 : decode cX12_readPath 45 = .ok (.ifCond .ne 25, 3) := by decide +kernel
theorem dX12_readPath_48 : decode cX12_readPath 48 = .ok (.aload_n 0, 1) := by decide +kernel
theorem dX12_readPath_49 : decode cX12_readPath 49 = .ok (.getfield 332, 3) := by decide +kernel
theorem dX12_readPath_52 : decode cX12_readPath 52 = .ok (.bipush 12, 2) := by decide +kernel
theorem dX12_readPath_54 : decode cX12_readPath 54 = .ok (.if_icmp .ge 16, 3) := by decide +kernel
theorem dX12_readPath_57 : decode cX12_readPath 57 = .ok (.aload_n 0, 1) := by decide +kernel
theorem dX12_readPath_58 : decode cX12_readPath 58 = .ok (.invokevirtual 317, 3) := by decide +kernel
theorem dX12_readPath_61 : decode cX12_readPath 61 = .ok (.bipush 32, 2) := by decide +kernel
theorem dX12_readPath_63 : decode cX12_readPath 63 = .ok (.if_icmp .ne 7, 3) := by decide +kernel
theorem dX12_readPath_66 : decode cX12_readPath 66 = .ok (.iconst 1, 1) := by decide +kernel
theorem dX12_readPath_67 : decode cX12_readPath 67 = .ok (.goto 4, 3) := by decide +kernel
theorem dX12_readPath_70 : decode cX12_readPath 70 = .ok (.iconst 0, 1) := by decide +kernel
theorem dX12_readPath_71 : decode cX12_readPath 71 = .ok (.istore_n 1, 1) := by decide +kernel
theorem dX12_readPath_72 : decode cX12_readPath 72 = .ok (.aload_n 0, 1) := by decide +kernel
theorem dX12_readPath_73 : decode cX12_readPath 73 = .ok (.dup, 1) := by decide +kernel
theorem dX12_readPath_74 : decode cX12_readPath 74 = .ok (.getfield 310, 3) := by decide +kernel
theorem dX12_readPath_77 : decode cX12_readPath 77 = .ok (.iload_n 1, 1) := by decide +kernel
theorem dX12_readPath_78 : decode cX12_readPath 78 = .ok (.ifCond .eq 7, 3) := by decide +kernel
theorem dX12_readPath_81 : decode cX12_readPath 81 = .ok (.iconst 1, 1) := by decide +kernel
theorem dX12_readPath_82 : decode cX12_readPath 82 = .ok (.goto 4, 3) := by decide +kernel
theorem dX12_readPath_85 : decode cX12_readPath 85 = .ok (.iconst 0, 1) := by decide +kernel
theorem dX12_readPath_86 : decode cX12_readPath 86 = .ok (.iadd, 1) := by decide +kernel
theorem dX12_readPath_87 : decode cX12_readPath 87 = .ok (.putfield 310, 3) := by decide +kernel
theorem dX12_readPath_90 : decode cX12_readPath 90 = .ok (.goto (-78), 3) := by decide +kernel
theorem dX12_readPath_93 : decode cX12_readPath 93 = .ok (.aload_n 0, 1) := by decide +kernel
theorem dX12_readPath_94 : decode cX12_readPath 94 = .ok (.aload_n 0, 1) := by decide +kernel
theorem dX12_readPath_95 : decode cX12_readPath 95 = .ok (.getfield 313, 3) := by decide +kernel
theorem dX12_readPath_98 : decode cX12_readPath 98 = .ok (.ifCond .ne 14, 3) := by decide +kernel
theorem dX12_readPath_101 : decode cX12_readPath 101 = .ok (.aload_n 0, 1) := by decide +kernel
theorem dX12_readPath_102 : decode cX12_readPath 102 = .ok (.getfield 310, 3) := by decide +kernel
theorem dX12_readPath_105 : decode cX12_readPath 105 = .ok (.aload_n 0, 1) := by decide +kernel
theorem dX12_readPath_106 : decode cX12_readPath 106 = .ok (.getfield 301, 3) := by decide +kernel
theorem dX12_readPath_109 : decode cX12_readPath 109 = .ok (.if_icmp .ge 7, 3) := by decide +kernel
theorem dX12_readPath_112 : decode cX12_readPath 112 = .ok (.iconst 1, 1) := by decide +kernel
theorem dX12_readPath_113 : decode cX12_readPath 113 = .ok (.goto 4, 3) := by decide +kernel
theorem dX12_readPath_116 : decode cX12_readPath 116 = .ok (.iconst 0, 1) := by decide +kernel
theorem dX12_readPath_117 : decode cX12_readPath 117 = .ok (.putfield 313, 3) := by decide +kernel
theorem dX12_readPath_120 : decode cX12_readPath 120 = .ok (.aload_n 0, 1) := by decide +kernel
theorem dX12_readPath_121 : decode cX12_readPath 121 = .ok (.iconst 0, 1) := by decide +kernel
theorem dX12_readPath_122 : decode cX12_readPath 122 = .ok (.putfield 301, 3) := by decide +kernel
theorem dX12_readPath_125 : decode cX12_readPath 125 = .ok (.aload_n 0, 1) := by decide +kernel
theorem dX12_readPath_126 : decode cX12_readPath 126 = .ok (.getfield 313, 3) := by decide +kernel
theorem dX12_readPath_129 : decode cX12_readPath 129 = .ok (.ifCond .ne 7, 3) := by decide +kernel
theorem dX12_readPath_132 : decode cX12_readPath 132 = .ok (.iconst 1, 1) := by decide +kernel
theorem dX12_readPath_133 : decode cX12_readPath 133 = .ok (.goto 4, 3) := by decide +kernel
theorem dX12_readPath_136 : decode cX12_readPath 136 = .ok (.iconst 0, 1) := by decide +kernel
theorem dX12_readPath_137 : decode cX12_readPath 137 = .ok (.ireturn, 1) := by decide +kernel
set_option maxRecDepth 20000 in
theorem ggX12_judgedFrom_X12_nextRest : GoodIn wsX12_judgedFrom wsX12_nextRest := goodIn_r _ [7, 8, 9, 10, 6, 11, 12, 13, 14, 15, 16, 17, 18, 19, 20, 21, 22, 23, 24, 25, 26, 27, 28, 29, 30, 31, 32, 33, 34, 35, 36, 37, 38, 39, 40, 41, 42, 43, 44, 45, 46, 47, 48, 49, 50, 51, 52, 53, 54, 55, 56, 57] rfl (by decide +kernel)
set_option maxRecDepth 20000 in
theorem gX12_judgedFrom_X12_nextRest : GoodIn wsX12_judgedFrom (wsV RX12 153 RX12 yX12_nextRest wsX12_nextRest) := goodIn_app (goodIn_of _ (by decide +kernel)) ggX12_judgedFrom_X12_nextRest
theorem dX12_judgedFrom_0 : decode cX12_judgedFrom 0 = .ok (.iload_n 1, 1) := by decide +kernel
theorem dX12_judgedFrom_1 : decode cX12_judgedFrom 1 = .ok (.istore_n 2, 1) := by decide +kernel
theorem dX12_judgedFrom_2 : decode cX12_judgedFrom 2 = .ok (.iconst 0, 1) := by decide +kernel
theorem dX12_judgedFrom_3 : decode cX12_judgedFrom 3 = .ok (.istore_n 3, 1) := by decide +kernel
theorem dX12_judgedFrom_4 : decode cX12_judgedFrom 4 = .ok (.iload_n 3, 1) := by decide +kernel
theorem dX12_judgedFrom_5 : decode cX12_judgedFrom 5 = .ok (.aload_n 0, 1) := by decide +kernel
theorem dX12_judgedFrom_6 : decode cX12_judgedFrom 6 = .ok (.getfield 332, 3) := by decide +kernel
theorem dX12_judgedFrom_9 : decode cX12_judgedFrom 9 = .ok (.if_icmp .ge 60, 3) := by decide +kernel
theorem dX12_judgedFrom_12 : decode cX12_judgedFrom 12 = .ok (.aload_n 0, 1) := by decide +kernel
theorem dX12_judgedFrom_13 : decode cX12_judgedFrom 13 = .ok (.iload_n 2, 1) := by decide +kernel
theorem dX12_judgedFrom_14 : decode cX12_judgedFrom 14 = .ok (.aload_n 0, 1) := by decide +kernel
theorem dX12_judgedFrom_15 : decode cX12_judgedFrom 15 = .ok (.getfield 87, 3) := by decide +kernel
theorem dX12_judgedFrom_18 : decode cX12_judgedFrom 18 = .ok (.iload_n 3, 1) := by decide +kernel
theorem dX12_judgedFrom_19 : decode cX12_judgedFrom 19 = .ok (.iaload, 1) := by decide +kernel
theorem dX12_judgedFrom_20 : decode cX12_judgedFrom 20 = .ok (.invokevirtual 153, 3) := by decide +kernel
theorem dX12_judgedFrom_23 : decode cX12_judgedFrom 23 = .ok (.istore 4, 2) := by decide +kernel
theorem dX12_judgedFrom_25 : decode cX12_judgedFrom 25 = .ok (.iload 4, 2) := by decide +kernel
theorem dX12_judgedFrom_27 : decode cX12_judgedFrom 27 = .ok (.ifCond .ge 8, 3) := by decide +kernel
theorem dX12_judgedFrom_30 : decode cX12_judgedFrom 30 = .ok (.bipush 100, 2) := by decide +kernel
theorem dX12_judgedFrom_32 : decode cX12_judgedFrom 32 = .ok (.iload_n 3, 1) := by decide +kernel
theorem dX12_judgedFrom_33 : decode cX12_judgedFrom 33 = .ok (.iadd, 1) := by decide +kernel
theorem dX12_judgedFrom_34 : decode cX12_judgedFrom 34 = .ok (.ireturn, 1) := by decide +kernel
theorem dX12_judgedFrom_35 : decode cX12_judgedFrom 35 = .ok (.iload 4, 2) := by decide +kernel
theorem dX12_judgedFrom_37 : decode cX12_judgedFrom 37 = .ok (.ifCond .ne 23, 3) := by decide +kernel
theorem dX12_judgedFrom_40 : decode cX12_judgedFrom 40 = .ok (.iload_n 3, 1) := by decide +kernel
theorem dX12_judgedFrom_41 : decode cX12_judgedFrom 41 = .ok (.aload_n 0, 1) := by decide +kernel
theorem dX12_judgedFrom_42 : decode cX12_judgedFrom 42 = .ok (.getfield 332, 3) := by decide +kernel
theorem dX12_judgedFrom_45 : decode cX12_judgedFrom 45 = .ok (.iconst 1, 1) := by decide +kernel
theorem dX12_judgedFrom_46 : decode cX12_judgedFrom 46 = .ok (.isub, 1) := by decide +kernel
theorem dX12_judgedFrom_47 : decode cX12_judgedFrom 47 = .ok (.if_icmp .ne 7, 3) := by decide +kernel
theorem dX12_judgedFrom_50 : decode cX12_judgedFrom 50 = .ok (.iload_n 3, 1) := by decide +kernel
theorem dX12_judgedFrom_51 : decode cX12_judgedFrom 51 = .ok (.goto 8, 3) := by decide +kernel
theorem dX12_judgedFrom_54 : decode cX12_judgedFrom 54 = .ok (.sipush 200, 3) := by decide +kernel
theorem dX12_judgedFrom_57 : decode cX12_judgedFrom 57 = .ok (.iload_n 3, 1) := by decide +kernel
theorem dX12_judgedFrom_58 : decode cX12_judgedFrom 58 = .ok (.iadd, 1) := by decide +kernel
theorem dX12_judgedFrom_59 : decode cX12_judgedFrom 59 = .ok (.ireturn, 1) := by decide +kernel
theorem dX12_judgedFrom_60 : decode cX12_judgedFrom 60 = .ok (.iload 4, 2) := by decide +kernel
theorem dX12_judgedFrom_62 : decode cX12_judgedFrom 62 = .ok (.istore_n 2, 1) := by decide +kernel
theorem dX12_judgedFrom_63 : decode cX12_judgedFrom 63 = .ok (.iinc 3 1, 3) := by decide +kernel
theorem dX12_judgedFrom_66 : decode cX12_judgedFrom 66 = .ok (.goto (-62), 3) := by decide +kernel
theorem dX12_judgedFrom_69 : decode cX12_judgedFrom 69 = .ok (.sipush 1000, 3) := by decide +kernel
theorem dX12_judgedFrom_72 : decode cX12_judgedFrom 72 = .ok (.iload_n 2, 1) := by decide +kernel
theorem dX12_judgedFrom_73 : decode cX12_judgedFrom 73 = .ok (.iadd, 1) := by decide +kernel
theorem dX12_judgedFrom_74 : decode cX12_judgedFrom 74 = .ok (.ireturn, 1) := by decide +kernel
set_option maxRecDepth 20000 in
theorem ggX12_judge_X12_isRest : GoodIn wsX12_judge wsX12_isRest := goodIn_r _ [6, 7, 8, 9, 5, 10, 11, 12, 13, 14, 60, 61, 62, 63, 64, 65, 66, 67, 68, 69, 70, 71, 72, 73, 74, 75, 76, 77, 78, 79, 80, 81, 82, 83, 84, 85, 86, 87, 88, 89, 90, 91, 92, 93, 94, 95, 96, 97, 98, 99] rfl (by decide +kernel)
set_option maxRecDepth 20000 in
theorem gX12_judge_X12_isRest : GoodIn wsX12_judge (wsV RX12 181 RX12 yX12_isRest wsX12_isRest) := goodIn_app (goodIn_of _ (by decide +kernel)) ggX12_judge_X12_isRest
set_option maxRecDepth 20000 in
theorem ggX12_judge_X12_readPath : GoodIn wsX12_judge wsX12_readPath := goodIn_r _ [18, 1, 19, 20, 21, 22, 23, 24, 25, 5, 26, 27, 28, 29, 30, 31, 32, 33, 34, 35, 36, 37, 38, 39, 40, 41, 42, 12, 13, 14, 60, 61, 62, 63, 64, 65, 66, 67, 68, 69, 70, 71, 72, 73, 74, 75, 76, 77, 78, 79, 80, 81, 82, 83, 84, 85, 86, 87, 88, 89, 90, 91, 92, 93, 94, 95, 96, 97, 98, 99] rfl (by decide +kernel)
set_option maxRecDepth 20000 in
theorem gX12_judge_X12_readPath : GoodIn wsX12_judge (wsV RX12 338 RX12 yX12_readPath wsX12_readPath) := goodIn_app (goodIn_of _ (by decide +kernel)) ggX12_judge_X12_readPath
set_option maxRecDepth 20000 in
theorem ggX12_judge_X12_judgedFrom : GoodIn wsX12_judge wsX12_judgedFrom := goodIn_r _ [46, 19, 20, 47, 48, 49, 5, 50, 11, 51, 52, 53, 54, 55, 56, 57, 58, 59, 60, 61, 62, 63, 64, 65, 66, 67, 68, 69, 70, 71, 72, 73, 74, 75, 76, 77, 78, 79, 80, 81, 82, 83, 84, 85, 86, 87, 88, 89, 90, 91, 92, 93, 94, 95, 96, 97, 98, 99] rfl (by decide +kernel)
set_option maxRecDepth 20000 in
theorem gX12_judge_X12_judgedFrom : GoodIn wsX12_judge (wsV RX12 342 RX12 yX12_judgedFrom wsX12_judgedFrom) := goodIn_app (goodIn_of _ (by decide +kernel)) ggX12_judge_X12_judgedFrom
theorem dX12_judge_0 : decode cX12_judge 0 = .ok (.aload_n 0, 1) := by decide +kernel
theorem dX12_judge_1 : decode cX12_judge 1 = .ok (.iload_n 1, 1) := by decide +kernel
theorem dX12_judge_2 : decode cX12_judge 2 = .ok (.sipush 501, 3) := by decide +kernel
theorem dX12_judge_5 : decode cX12_judge 5 = .ok (.invokevirtual 181, 3) := by decide +kernel
theorem dX12_judge_8 : decode cX12_judge 8 = .ok (.ifCond .ne 6, 3) := by decide +kernel
theorem dX12_judge_11 : decode cX12_judge 11 = .ok (.bipush (-2), 2) := by decide +kernel
theorem dX12_judge_13 : decode cX12_judge 13 = .ok (.ireturn, 1) := by decide +kernel
theorem dX12_judge_14 : decode cX12_judge 14 = .ok (.aload_n 0, 1) := by decide +kernel
theorem dX12_judge_15 : decode cX12_judge 15 = .ok (.invokevirtual 338, 3) := by decide +kernel
theorem dX12_judge_18 : decode cX12_judge 18 = .ok (.ifCond .eq 11, 3) := by decide +kernel
theorem dX12_judge_21 : decode cX12_judge 21 = .ok (.aload_n 0, 1) := by decide +kernel
theorem dX12_judge_22 : decode cX12_judge 22 = .ok (.iload_n 1, 1) := by decide +kernel
theorem dX12_judge_23 : decode cX12_judge 23 = .ok (.invokevirtual 342, 3) := by decide +kernel
theorem dX12_judge_26 : decode cX12_judge 26 = .ok (.goto 10, 3) := by decide +kernel
theorem dX12_judge_29 : decode cX12_judge 29 = .ok (.bipush (-100), 2) := by decide +kernel
theorem dX12_judge_31 : decode cX12_judge 31 = .ok (.aload_n 0, 1) := by decide +kernel
theorem dX12_judge_32 : decode cX12_judge 32 = .ok (.getfield 310, 3) := by decide +kernel
theorem dX12_judge_35 : decode cX12_judge 35 = .ok (.isub, 1) := by decide +kernel
theorem dX12_judge_36 : decode cX12_judge 36 = .ok (.ireturn, 1) := by decide +kernel
set_option maxRecDepth 20000 in
theorem ggX12_play_X12_readPath : GoodIn wsX12_play wsX12_readPath := goodIn_r _ [8, 1, 2, 3, 9, 10, 11, 12, 13, 7, 14, 15, 16, 17, 18, 19, 20, 21, 22, 23, 24, 25, 26, 27, 28, 29, 30, 31, 32, 33, 60, 61, 62, 63, 64, 65, 66, 67, 68, 69, 70, 71, 72, 73, 74, 75, 76, 77, 78, 79, 80, 81, 82, 83, 84, 85, 86, 87, 88, 89, 90, 91, 92, 93, 94, 95, 96, 97, 98, 99] rfl (by decide +kernel)
set_option maxRecDepth 20000 in
theorem gX12_play_X12_readPath : GoodIn wsX12_play (wsV RX12 338 RX12 yX12_readPath wsX12_readPath) := goodIn_app (goodIn_of _ (by decide +kernel)) ggX12_play_X12_readPath
set_option maxRecDepth 20000 in
theorem ggX12_play_X12_fallsUpon : GoodIn wsX12_play wsX12_fallsUpon := goodIn_r _ [37, 38, 39, 40, 41, 7, 42, 43, 44, 45, 46, 47, 48, 49, 50, 51, 52, 53, 54, 55, 56, 57, 58, 59, 60, 61, 62, 63, 64, 65, 66, 67, 68, 69, 70, 71, 72, 73, 74, 75, 76, 77, 78, 79, 80, 81, 82, 83, 84, 85, 86, 87, 88, 89, 90, 91, 92, 93, 94, 95, 96, 97, 98, 99] rfl (by decide +kernel)
set_option maxRecDepth 20000 in
theorem gX12_play_X12_fallsUpon : GoodIn wsX12_play (wsV RX12 291 RX12 yX12_fallsUpon wsX12_fallsUpon) := goodIn_app (goodIn_of _ (by decide +kernel)) ggX12_play_X12_fallsUpon
theorem dX12_play_0 : decode cX12_play 0 = .ok (.aload_n 0, 1) := by decide +kernel
theorem dX12_play_1 : decode cX12_play 1 = .ok (.invokevirtual 338, 3) := by decide +kernel
theorem dX12_play_4 : decode cX12_play 4 = .ok (.ifCond .ne 11, 3) := by decide +kernel
theorem dX12_play_7 : decode cX12_play 7 = .ok (.bipush (-100), 2) := by decide +kernel
theorem dX12_play_9 : decode cX12_play 9 = .ok (.aload_n 0, 1) := by decide +kernel
theorem dX12_play_10 : decode cX12_play 10 = .ok (.getfield 310, 3) := by decide +kernel
theorem dX12_play_13 : decode cX12_play 13 = .ok (.isub, 1) := by decide +kernel
theorem dX12_play_14 : decode cX12_play 14 = .ok (.ireturn, 1) := by decide +kernel
theorem dX12_play_15 : decode cX12_play 15 = .ok (.iconst 0, 1) := by decide +kernel
theorem dX12_play_16 : decode cX12_play 16 = .ok (.istore_n 1, 1) := by decide +kernel
theorem dX12_play_17 : decode cX12_play 17 = .ok (.iconst 0, 1) := by decide +kernel
theorem dX12_play_18 : decode cX12_play 18 = .ok (.istore_n 2, 1) := by decide +kernel
theorem dX12_play_19 : decode cX12_play 19 = .ok (.iload_n 2, 1) := by decide +kernel
theorem dX12_play_20 : decode cX12_play 20 = .ok (.aload_n 0, 1) := by decide +kernel
theorem dX12_play_21 : decode cX12_play 21 = .ok (.getfield 332, 3) := by decide +kernel
theorem dX12_play_24 : decode cX12_play 24 = .ok (.if_icmp .ge 30, 3) := by decide +kernel
theorem dX12_play_27 : decode cX12_play 27 = .ok (.iload_n 1, 1) := by decide +kernel
theorem dX12_play_28 : decode cX12_play 28 = .ok (.aload_n 0, 1) := by decide +kernel
theorem dX12_play_29 : decode cX12_play 29 = .ok (.aload_n 0, 1) := by decide +kernel
theorem dX12_play_30 : decode cX12_play 30 = .ok (.getfield 87, 3) := by decide +kernel
theorem dX12_play_33 : decode cX12_play 33 = .ok (.iload_n 2, 1) := by decide +kernel
theorem dX12_play_34 : decode cX12_play 34 = .ok (.iaload, 1) := by decide +kernel
theorem dX12_play_35 : decode cX12_play 35 = .ok (.invokevirtual 291, 3) := by decide +kernel
theorem dX12_play_38 : decode cX12_play 38 = .ok (.ifCond .ne 7, 3) := by decide +kernel
theorem dX12_play_41 : decode cX12_play 41 = .ok (.iconst 1, 1) := by decide +kernel
theorem dX12_play_42 : decode cX12_play 42 = .ok (.goto 4, 3) := by decide +kernel
theorem dX12_play_45 : decode cX12_play 45 = .ok (.iconst 0, 1) := by decide +kernel
theorem dX12_play_46 : decode cX12_play 46 = .ok (.iadd, 1) := by decide +kernel
theorem dX12_play_47 : decode cX12_play 47 = .ok (.istore_n 1, 1) := by decide +kernel
theorem dX12_play_48 : decode cX12_play 48 = .ok (.iinc 2 1, 3) := by decide +kernel
theorem dX12_play_51 : decode cX12_play 51 = .ok (.goto (-32), 3) := by decide +kernel
theorem dX12_play_54 : decode cX12_play 54 = .ok (.iload_n 1, 1) := by decide +kernel
theorem dX12_play_55 : decode cX12_play 55 = .ok (.ireturn, 1) := by decide +kernel
set_option maxRecDepth 20000 in
theorem ggX12_isRack_X12_in : GoodIn wsX12_isRack wsX12_in := goodIn_r _ [5] rfl (by decide +kernel)
set_option maxRecDepth 20000 in
theorem gX12_isRack_X12_in : GoodIn wsX12_isRack (va_wsS RX12 108 yX12_in wsX12_in) := goodIn_app (goodIn_of _ (by decide +kernel)) ggX12_isRack_X12_in
theorem dX12_isRack_0 : decode cX12_isRack 0 = .ok (.iload_n 0, 1) := by decide +kernel
theorem dX12_isRack_1 : decode cX12_isRack 1 = .ok (.i2l, 1) := by decide +kernel
theorem dX12_isRack_2 : decode cX12_isRack 2 = .ok (.lconst 0, 1) := by decide +kernel
theorem dX12_isRack_3 : decode cX12_isRack 3 = .ok (.ldc2_w 114, 3) := by decide +kernel
theorem dX12_isRack_6 : decode cX12_isRack 6 = .ok (.invokestatic 108, 3) := by decide +kernel
theorem dX12_isRack_9 : decode cX12_isRack 9 = .ok (.ireturn, 1) := by decide +kernel
set_option maxRecDepth 20000 in
theorem ggX12_rack_X12_isRack : GoodIn wsX12_rack wsX12_isRack := goodIn_r _ [9, 10, 11, 12, 8, 13] rfl (by decide +kernel)
set_option maxRecDepth 20000 in
theorem gX12_rack_X12_isRack : GoodIn wsX12_rack (va_wsS RX12 345 yX12_isRack wsX12_isRack) := goodIn_app (goodIn_of _ (by decide +kernel)) ggX12_rack_X12_isRack
set_option maxRecDepth 20000 in
theorem ggX12_rack_X12_in : GoodIn wsX12_rack wsX12_in := goodIn_r _ [13] rfl (by decide +kernel)
set_option maxRecDepth 20000 in
theorem gX12_rack_X12_in : GoodIn wsX12_rack (va_wsS RX12 108 yX12_in wsX12_in) := goodIn_app (goodIn_of _ (by decide +kernel)) ggX12_rack_X12_in
theorem dX12_rack_0 : decode cX12_rack 0 = .ok (.iload_n 1, 1) := by decide +kernel
theorem dX12_rack_1 : decode cX12_rack 1 = .ok (.invokestatic 345, 3) := by decide +kernel
theorem dX12_rack_4 : decode cX12_rack 4 = .ok (.ifCond .eq 15, 3) := by decide +kernel
theorem dX12_rack_7 : decode cX12_rack 7 = .ok (.iload_n 2, 1) := by decide +kernel
theorem dX12_rack_8 : decode cX12_rack 8 = .ok (.i2l, 1) := by decide +kernel
theorem dX12_rack_9 : decode cX12_rack 9 = .ok (.lconst 0, 1) := by decide +kernel
theorem dX12_rack_10 : decode cX12_rack 10 = .ok (.ldc2_w 126, 3) := by decide +kernel
theorem dX12_rack_13 : decode cX12_rack 13 = .ok (.invokestatic 108, 3) := by decide +kernel
theorem dX12_rack_16 : decode cX12_rack 16 = .ok (.ifCond .ne 5, 3) := by decide +kernel
theorem dX12_rack_19 : decode cX12_rack 19 = .ok (.iconst (-1), 1) := by decide +kernel
theorem dX12_rack_20 : decode cX12_rack 20 = .ok (.ireturn, 1) := by decide +kernel
theorem dX12_rack_21 : decode cX12_rack 21 = .ok (.iload_n 3, 1) := by decide +kernel
theorem dX12_rack_22 : decode cX12_rack 22 = .ok (.bipush 20, 2) := by decide +kernel
theorem dX12_rack_24 : decode cX12_rack 24 = .ok (.if_icmp .gt 7, 3) := by decide +kernel
theorem dX12_rack_27 : decode cX12_rack 27 = .ok (.iload_n 3, 1) := by decide +kernel
theorem dX12_rack_28 : decode cX12_rack 28 = .ok (.ifCond .ge 15, 3) := by decide +kernel
theorem dX12_rack_31 : decode cX12_rack 31 = .ok (.iload_n 3, 1) := by decide +kernel
theorem dX12_rack_32 : decode cX12_rack 32 = .ok (.ifCond .ge 8, 3) := by decide +kernel
theorem dX12_rack_35 : decode cX12_rack 35 = .ok (.bipush (-14), 2) := by decide +kernel
theorem dX12_rack_37 : decode cX12_rack 37 = .ok (.goto 5, 3) := by decide +kernel
theorem dX12_rack_40 : decode cX12_rack 40 = .ok (.bipush (-2), 2) := by decide +kernel
theorem dX12_rack_42 : decode cX12_rack 42 = .ok (.ireturn, 1) := by decide +kernel
theorem dX12_rack_43 : decode cX12_rack 43 = .ok (.aload_n 0, 1) := by decide +kernel
theorem dX12_rack_44 : decode cX12_rack 44 = .ok (.getfield 90, 3) := by decide +kernel
theorem dX12_rack_47 : decode cX12_rack 47 = .ok (.iload_n 1, 1) := by decide +kernel
theorem dX12_rack_48 : decode cX12_rack 48 = .ok (.iconst 1, 1) := by decide +kernel
theorem dX12_rack_49 : decode cX12_rack 49 = .ok (.bastore, 1) := by decide +kernel
theorem dX12_rack_50 : decode cX12_rack 50 = .ok (.aload_n 0, 1) := by decide +kernel
theorem dX12_rack_51 : decode cX12_rack 51 = .ok (.getfield 93, 3) := by decide +kernel
theorem dX12_rack_54 : decode cX12_rack 54 = .ok (.iload_n 1, 1) := by decide +kernel
theorem dX12_rack_55 : decode cX12_rack 55 = .ok (.iload_n 2, 1) := by decide +kernel
theorem dX12_rack_56 : decode cX12_rack 56 = .ok (.iastore, 1) := by decide +kernel
theorem dX12_rack_57 : decode cX12_rack 57 = .ok (.aload_n 0, 1) := by decide +kernel
theorem dX12_rack_58 : decode cX12_rack 58 = .ok (.getfield 96, 3) := by decide +kernel
theorem dX12_rack_61 : decode cX12_rack 61 = .ok (.iload_n 1, 1) := by decide +kernel
theorem dX12_rack_62 : decode cX12_rack 62 = .ok (.iload_n 3, 1) := by decide +kernel
theorem dX12_rack_63 : decode cX12_rack 63 = .ok (.iastore, 1) := by decide +kernel
theorem dX12_rack_64 : decode cX12_rack 64 = .ok (.iconst 0, 1) := by decide +kernel
theorem dX12_rack_65 : decode cX12_rack 65 = .ok (.istore 4, 2) := by decide +kernel
theorem dX12_rack_67 : decode cX12_rack 67 = .ok (.iload 4, 2) := by decide +kernel
theorem dX12_rack_69 : decode cX12_rack 69 = .ok (.bipush 20, 2) := by decide +kernel
theorem dX12_rack_71 : decode cX12_rack 71 = .ok (.if_icmp .ge 23, 3) := by decide +kernel
theorem dX12_rack_74 : decode cX12_rack 74 = .ok (.aload_n 0, 1) := by decide +kernel
theorem dX12_rack_75 : decode cX12_rack 75 = .ok (.getfield 99, 3) := by decide +kernel
theorem dX12_rack_78 : decode cX12_rack 78 = .ok (.bipush 20, 2) := by decide +kernel
theorem dX12_rack_80 : decode cX12_rack 80 = .ok (.iload_n 1, 1) := by decide +kernel
theorem dX12_rack_81 : decode cX12_rack 81 = .ok (.imul, 1) := by decide +kernel
theorem dX12_rack_82 : decode cX12_rack 82 = .ok (.iload 4, 2) := by decide +kernel
theorem dX12_rack_84 : decode cX12_rack 84 = .ok (.iadd, 1) := by decide +kernel
theorem dX12_rack_85 : decode cX12_rack 85 = .ok (.bipush (-5), 2) := by decide +kernel
theorem dX12_rack_87 : decode cX12_rack 87 = .ok (.iastore, 1) := by decide +kernel
theorem dX12_rack_88 : decode cX12_rack 88 = .ok (.iinc 4 1, 3) := by decide +kernel
theorem dX12_rack_91 : decode cX12_rack 91 = .ok (.goto (-24), 3) := by decide +kernel
theorem dX12_rack_94 : decode cX12_rack 94 = .ok (.iconst 1, 1) := by decide +kernel
theorem dX12_rack_95 : decode cX12_rack 95 = .ok (.ireturn, 1) := by decide +kernel
set_option maxRecDepth 20000 in
theorem ggX12_lays_X12_isRack : GoodIn wsX12_lays wsX12_isRack := goodIn_r _ [10, 11, 12, 13, 9, 14] rfl (by decide +kernel)
set_option maxRecDepth 20000 in
theorem gX12_lays_X12_isRack : GoodIn wsX12_lays (va_wsS RX12 345 yX12_isRack wsX12_isRack) := goodIn_app (goodIn_of _ (by decide +kernel)) ggX12_lays_X12_isRack
set_option maxRecDepth 20000 in
theorem ggX12_lays_X12_in : GoodIn wsX12_lays wsX12_in := goodIn_r _ [14] rfl (by decide +kernel)
set_option maxRecDepth 20000 in
theorem gX12_lays_X12_in : GoodIn wsX12_lays (va_wsS RX12 108 yX12_in wsX12_in) := goodIn_app (goodIn_of _ (by decide +kernel)) ggX12_lays_X12_in
set_option maxRecDepth 20000 in
theorem ggX12_lays_X12_isUnder : GoodIn wsX12_lays wsX12_isUnder := goodIn_r _ [17, 18, 19, 9, 20] rfl (by decide +kernel)
set_option maxRecDepth 20000 in
theorem gX12_lays_X12_isUnder : GoodIn wsX12_lays (va_wsS RX12 128 yX12_isUnder wsX12_isUnder) := goodIn_app (goodIn_of _ (by decide +kernel)) ggX12_lays_X12_isUnder
theorem dX12_lays_0 : decode cX12_lays 0 = .ok (.iload_n 1, 1) := by decide +kernel
theorem dX12_lays_1 : decode cX12_lays 1 = .ok (.invokestatic 345, 3) := by decide +kernel
theorem dX12_lays_4 : decode cX12_lays 4 = .ok (.ifCond .eq 17, 3) := by decide +kernel
theorem dX12_lays_7 : decode cX12_lays 7 = .ok (.iload_n 3, 1) := by decide +kernel
theorem dX12_lays_8 : decode cX12_lays 8 = .ok (.i2l, 1) := by decide +kernel
theorem dX12_lays_9 : decode cX12_lays 9 = .ok (.ldc2_w 274, 3) := by decide +kernel
theorem dX12_lays_12 : decode cX12_lays 12 = .ok (.ldc2_w 112, 3) := by decide +kernel
theorem dX12_lays_15 : decode cX12_lays 15 = .ok (.invokestatic 108, 3) := by decide +kernel
theorem dX12_lays_18 : decode cX12_lays 18 = .ok (.ifCond .ne 5, 3) := by decide +kernel
theorem dX12_lays_21 : decode cX12_lays 21 = .ok (.iconst (-1), 1) := by decide +kernel
theorem dX12_lays_22 : decode cX12_lays 22 = .ok (.ireturn, 1) := by decide +kernel
theorem dX12_lays_23 : decode cX12_lays 23 = .ok (.aload_n 0, 1) := by decide +kernel
theorem dX12_lays_24 : decode cX12_lays 24 = .ok (.getfield 90, 3) := by decide +kernel
theorem dX12_lays_27 : decode cX12_lays 27 = .ok (.iload_n 1, 1) := by decide +kernel
theorem dX12_lays_28 : decode cX12_lays 28 = .ok (.baload, 1) := by decide +kernel
theorem dX12_lays_29 : decode cX12_lays 29 = .ok (.ifCond .ne 6, 3) := by decide +kernel
theorem dX12_lays_32 : decode cX12_lays 32 = .ok (.bipush (-11), 2) := by decide +kernel
theorem dX12_lays_34 : decode cX12_lays 34 = .ok (.ireturn, 1) := by decide +kernel
theorem dX12_lays_35 : decode cX12_lays 35 = .ok (.iload_n 2, 1) := by decide +kernel
theorem dX12_lays_36 : decode cX12_lays 36 = .ok (.i2l, 1) := by decide +kernel
theorem dX12_lays_37 : decode cX12_lays 37 = .ok (.lconst 0, 1) := by decide +kernel
theorem dX12_lays_38 : decode cX12_lays 38 = .ok (.aload_n 0, 1) := by decide +kernel
theorem dX12_lays_39 : decode cX12_lays 39 = .ok (.getfield 96, 3) := by decide +kernel
theorem dX12_lays_42 : decode cX12_lays 42 = .ok (.iload_n 1, 1) := by decide +kernel
theorem dX12_lays_43 : decode cX12_lays 43 = .ok (.iaload, 1) := by decide +kernel
theorem dX12_lays_44 : decode cX12_lays 44 = .ok (.iconst 1, 1) := by decide +kernel
theorem dX12_lays_45 : decode cX12_lays 45 = .ok (.isub, 1) := by decide +kernel
theorem dX12_lays_46 : decode cX12_lays 46 = .ok (.i2l, 1) := by decide +kernel
theorem dX12_lays_47 : decode cX12_lays 47 = .ok (.invokestatic 108, 3) := by decide +kernel
theorem dX12_lays_50 : decode cX12_lays 50 = .ok (.ifCond .ne 6, 3) := by decide +kernel
theorem dX12_lays_53 : decode cX12_lays 53 = .ok (.bipush (-12), 2) := by decide +kernel
theorem dX12_lays_55 : decode cX12_lays 55 = .ok (.ireturn, 1) := by decide +kernel
theorem dX12_lays_56 : decode cX12_lays 56 = .ok (.iload_n 3, 1) := by decide +kernel
theorem dX12_lays_57 : decode cX12_lays 57 = .ok (.ifCond .lt 19, 3) := by decide +kernel
theorem dX12_lays_60 : decode cX12_lays 60 = .ok (.iload_n 3, 1) := by decide +kernel
theorem dX12_lays_61 : decode cX12_lays 61 = .ok (.aload_n 0, 1) := by decide +kernel
theorem dX12_lays_62 : decode cX12_lays 62 = .ok (.getfield 93, 3) := by decide +kernel
theorem dX12_lays_65 : decode cX12_lays 65 = .ok (.iload_n 1, 1) := by decide +kernel
theorem dX12_lays_66 : decode cX12_lays 66 = .ok (.iaload, 1) := by decide +kernel
theorem dX12_lays_67 : decode cX12_lays 67 = .ok (.invokestatic 128, 3) := by decide +kernel
theorem dX12_lays_70 : decode cX12_lays 70 = .ok (.ifCond .ne 6, 3) := by decide +kernel
theorem dX12_lays_73 : decode cX12_lays 73 = .ok (.bipush (-16), 2) := by decide +kernel
theorem dX12_lays_75 : decode cX12_lays 75 = .ok (.ireturn, 1) := by decide +kernel
theorem dX12_lays_76 : decode cX12_lays 76 = .ok (.aload_n 0, 1) := by decide +kernel
theorem dX12_lays_77 : decode cX12_lays 77 = .ok (.getfield 99, 3) := by decide +kernel
theorem dX12_lays_80 : decode cX12_lays 80 = .ok (.bipush 20, 2) := by decide +kernel
theorem dX12_lays_82 : decode cX12_lays 82 = .ok (.iload_n 1, 1) := by decide +kernel
theorem dX12_lays_83 : decode cX12_lays 83 = .ok (.imul, 1) := by decide +kernel
theorem dX12_lays_84 : decode cX12_lays 84 = .ok (.iload_n 2, 1) := by decide +kernel
theorem dX12_lays_85 : decode cX12_lays 85 = .ok (.iadd, 1) := by decide +kernel
theorem dX12_lays_86 : decode cX12_lays 86 = .ok (.iload_n 3, 1) := by decide +kernel
theorem dX12_lays_87 : decode cX12_lays 87 = .ok (.ifCond .ge 8, 3) := by decide +kernel
theorem dX12_lays_90 : decode cX12_lays 90 = .ok (.bipush (-5), 2) := by decide +kernel
theorem dX12_lays_92 : decode cX12_lays 92 = .ok (.goto 4, 3) := by decide +kernel
theorem dX12_lays_95 : decode cX12_lays 95 = .ok (.iload_n 3, 1) := by decide +kernel
theorem dX12_lays_96 : decode cX12_lays 96 = .ok (.iastore, 1) := by decide +kernel
theorem dX12_lays_97 : decode cX12_lays 97 = .ok (.iconst 1, 1) := by decide +kernel
theorem dX12_lays_98 : decode cX12_lays 98 = .ok (.ireturn, 1) := by decide +kernel
set_option maxRecDepth 20000 in
theorem ggX12_laid_X12_isRack : GoodIn wsX12_laid wsX12_isRack := goodIn_r _ [7, 8, 9, 10, 6, 11] rfl (by decide +kernel)
set_option maxRecDepth 20000 in
theorem gX12_laid_X12_isRack : GoodIn wsX12_laid (va_wsS RX12 345 yX12_isRack wsX12_isRack) := goodIn_app (goodIn_of _ (by decide +kernel)) ggX12_laid_X12_isRack
set_option maxRecDepth 20000 in
theorem ggX12_laid_X12_in : GoodIn wsX12_laid wsX12_in := goodIn_r _ [11] rfl (by decide +kernel)
set_option maxRecDepth 20000 in
theorem gX12_laid_X12_in : GoodIn wsX12_laid (va_wsS RX12 108 yX12_in wsX12_in) := goodIn_app (goodIn_of _ (by decide +kernel)) ggX12_laid_X12_in
theorem dX12_laid_0 : decode cX12_laid 0 = .ok (.iload_n 1, 1) := by decide +kernel
theorem dX12_laid_1 : decode cX12_laid 1 = .ok (.invokestatic 345, 3) := by decide +kernel
theorem dX12_laid_4 : decode cX12_laid 4 = .ok (.ifCond .eq 12, 3) := by decide +kernel
theorem dX12_laid_7 : decode cX12_laid 7 = .ok (.aload_n 0, 1) := by decide +kernel
theorem dX12_laid_8 : decode cX12_laid 8 = .ok (.getfield 90, 3) := by decide +kernel
theorem dX12_laid_11 : decode cX12_laid 11 = .ok (.iload_n 1, 1) := by decide +kernel
theorem dX12_laid_12 : decode cX12_laid 12 = .ok (.baload, 1) := by decide +kernel
theorem dX12_laid_13 : decode cX12_laid 13 = .ok (.ifCond .ne 17, 3) := by decide +kernel
theorem dX12_laid_16 : decode cX12_laid 16 = .ok (.iload_n 1, 1) := by decide +kernel
theorem dX12_laid_17 : decode cX12_laid 17 = .ok (.invokestatic 345, 3) := by decide +kernel
theorem dX12_laid_20 : decode cX12_laid 20 = .ok (.ifCond .eq 8, 3) := by decide +kernel
theorem dX12_laid_23 : decode cX12_laid 23 = .ok (.bipush (-11), 2) := by decide +kernel
theorem dX12_laid_25 : decode cX12_laid 25 = .ok (.goto 4, 3) := by decide +kernel
theorem dX12_laid_28 : decode cX12_laid 28 = .ok (.iconst (-1), 1) := by decide +kernel
theorem dX12_laid_29 : decode cX12_laid 29 = .ok (.ireturn, 1) := by decide +kernel
theorem dX12_laid_30 : decode cX12_laid 30 = .ok (.iload_n 2, 1) := by decide +kernel
theorem dX12_laid_31 : decode cX12_laid 31 = .ok (.i2l, 1) := by decide +kernel
theorem dX12_laid_32 : decode cX12_laid 32 = .ok (.lconst 0, 1) := by decide +kernel
theorem dX12_laid_33 : decode cX12_laid 33 = .ok (.aload_n 0, 1) := by decide +kernel
theorem dX12_laid_34 : decode cX12_laid 34 = .ok (.getfield 96, 3) := by decide +kernel
theorem dX12_laid_37 : decode cX12_laid 37 = .ok (.iload_n 1, 1) := by decide +kernel
theorem dX12_laid_38 : decode cX12_laid 38 = .ok (.iaload, 1) := by decide +kernel
theorem dX12_laid_39 : decode cX12_laid 39 = .ok (.iconst 1, 1) := by decide +kernel
theorem dX12_laid_40 : decode cX12_laid 40 = .ok (.isub, 1) := by decide +kernel
theorem dX12_laid_41 : decode cX12_laid 41 = .ok (.i2l, 1) := by decide +kernel
theorem dX12_laid_42 : decode cX12_laid 42 = .ok (.invokestatic 108, 3) := by decide +kernel
theorem dX12_laid_45 : decode cX12_laid 45 = .ok (.ifCond .eq 17, 3) := by decide +kernel
theorem dX12_laid_48 : decode cX12_laid 48 = .ok (.aload_n 0, 1) := by decide +kernel
theorem dX12_laid_49 : decode cX12_laid 49 = .ok (.getfield 99, 3) := by decide +kernel
theorem dX12_laid_52 : decode cX12_laid 52 = .ok (.bipush 20, 2) := by decide +kernel
theorem dX12_laid_54 : decode cX12_laid 54 = .ok (.iload_n 1, 1) := by decide +kernel
theorem dX12_laid_55 : decode cX12_laid 55 = .ok (.imul, 1) := by decide +kernel
theorem dX12_laid_56 : decode cX12_laid 56 = .ok (.iload_n 2, 1) := by decide +kernel
theorem dX12_laid_57 : decode cX12_laid 57 = .ok (.iadd, 1) := by decide +kernel
theorem dX12_laid_58 : decode cX12_laid 58 = .ok (.iaload, 1) := by decide +kernel
theorem dX12_laid_59 : decode cX12_laid 59 = .ok (.goto 5, 3) := by decide +kernel
theorem dX12_laid_62 : decode cX12_laid 62 = .ok (.bipush (-12), 2) := by decide +kernel
theorem dX12_laid_64 : decode cX12_laid 64 = .ok (.ireturn, 1) := by decide +kernel
set_option maxRecDepth 20000 in
theorem ggX12_like_X12_isRack : GoodIn wsX12_like wsX12_isRack := goodIn_r _ [8, 9, 10, 11, 7, 12] rfl (by decide +kernel)
set_option maxRecDepth 20000 in
theorem gX12_like_X12_isRack : GoodIn wsX12_like (va_wsS RX12 345 yX12_isRack wsX12_isRack) := goodIn_app (goodIn_of _ (by decide +kernel)) ggX12_like_X12_isRack
theorem dX12_like_0 : decode cX12_like 0 = .ok (.iload_n 1, 1) := by decide +kernel
theorem dX12_like_1 : decode cX12_like 1 = .ok (.invokestatic 345, 3) := by decide +kernel
theorem dX12_like_4 : decode cX12_like 4 = .ok (.ifCond .eq 10, 3) := by decide +kernel
theorem dX12_like_7 : decode cX12_like 7 = .ok (.iload_n 2, 1) := by decide +kernel
theorem dX12_like_8 : decode cX12_like 8 = .ok (.invokestatic 345, 3) := by decide +kernel
theorem dX12_like_11 : decode cX12_like 11 = .ok (.ifCond .ne 5, 3) := by decide +kernel
theorem dX12_like_14 : decode cX12_like 14 = .ok (.iconst (-1), 1) := by decide +kernel
theorem dX12_like_15 : decode cX12_like 15 = .ok (.ireturn, 1) := by decide +kernel
theorem dX12_like_16 : decode cX12_like 16 = .ok (.aload_n 0, 1) := by decide +kernel
theorem dX12_like_17 : decode cX12_like 17 = .ok (.getfield 90, 3) := by decide +kernel
theorem dX12_like_20 : decode cX12_like 20 = .ok (.iload_n 2, 1) := by decide +kernel
theorem dX12_like_21 : decode cX12_like 21 = .ok (.baload, 1) := by decide +kernel
theorem dX12_like_22 : decode cX12_like 22 = .ok (.ifCond .ne 6, 3) := by decide +kernel
theorem dX12_like_25 : decode cX12_like 25 = .ok (.bipush (-11), 2) := by decide +kernel
theorem dX12_like_27 : decode cX12_like 27 = .ok (.ireturn, 1) := by decide +kernel
theorem dX12_like_28 : decode cX12_like 28 = .ok (.aload_n 0, 1) := by decide +kernel
theorem dX12_like_29 : decode cX12_like 29 = .ok (.getfield 90, 3) := by decide +kernel
theorem dX12_like_32 : decode cX12_like 32 = .ok (.iload_n 1, 1) := by decide +kernel
theorem dX12_like_33 : decode cX12_like 33 = .ok (.iconst 1, 1) := by decide +kernel
theorem dX12_like_34 : decode cX12_like 34 = .ok (.bastore, 1) := by decide +kernel
theorem dX12_like_35 : decode cX12_like 35 = .ok (.aload_n 0, 1) := by decide +kernel
theorem dX12_like_36 : decode cX12_like 36 = .ok (.getfield 93, 3) := by decide +kernel
theorem dX12_like_39 : decode cX12_like 39 = .ok (.iload_n 1, 1) := by decide +kernel
theorem dX12_like_40 : decode cX12_like 40 = .ok (.aload_n 0, 1) := by decide +kernel
theorem dX12_like_41 : decode cX12_like 41 = .ok (.getfield 93, 3) := by decide +kernel
theorem dX12_like_44 : decode cX12_like 44 = .ok (.iload_n 2, 1) := by decide +kernel
theorem dX12_like_45 : decode cX12_like 45 = .ok (.iaload, 1) := by decide +kernel
theorem dX12_like_46 : decode cX12_like 46 = .ok (.iastore, 1) := by decide +kernel
theorem dX12_like_47 : decode cX12_like 47 = .ok (.aload_n 0, 1) := by decide +kernel
theorem dX12_like_48 : decode cX12_like 48 = .ok (.getfield 96, 3) := by decide +kernel
theorem dX12_like_51 : decode cX12_like 51 = .ok (.iload_n 1, 1) := by decide +kernel
theorem dX12_like_52 : decode cX12_like 52 = .ok (.aload_n 0, 1) := by decide +kernel
theorem dX12_like_53 : decode cX12_like 53 = .ok (.getfield 96, 3) := by decide +kernel
theorem dX12_like_56 : decode cX12_like 56 = .ok (.iload_n 2, 1) := by decide +kernel
theorem dX12_like_57 : decode cX12_like 57 = .ok (.iaload, 1) := by decide +kernel
theorem dX12_like_58 : decode cX12_like 58 = .ok (.iastore, 1) := by decide +kernel
theorem dX12_like_59 : decode cX12_like 59 = .ok (.iconst 0, 1) := by decide +kernel
theorem dX12_like_60 : decode cX12_like 60 = .ok (.istore_n 3, 1) := by decide +kernel
theorem dX12_like_61 : decode cX12_like 61 = .ok (.iload_n 3, 1) := by decide +kernel
theorem dX12_like_62 : decode cX12_like 62 = .ok (.bipush 20, 2) := by decide +kernel
theorem dX12_like_64 : decode cX12_like 64 = .ok (.if_icmp .ge 31, 3) := by decide +kernel
theorem dX12_like_67 : decode cX12_like 67 = .ok (.aload_n 0, 1) := by decide +kernel
theorem dX12_like_68 : decode cX12_like 68 = .ok (.getfield 99, 3) := by decide +kernel
theorem dX12_like_71 : decode cX12_like 71 = .ok (.bipush 20, 2) := by decide +kernel
theorem dX12_like_73 : decode cX12_like 73 = .ok (.iload_n 1, 1) := by decide +kernel
theorem dX12_like_74 : decode cX12_like 74 = .ok (.imul, 1) := by decide +kernel
theorem dX12_like_75 : decode cX12_like 75 = .ok (.iload_n 3, 1) := by decide +kernel
theorem dX12_like_76 : decode cX12_like 76 = .ok (.iadd, 1) := by decide +kernel
theorem dX12_like_77 : decode cX12_like 77 = .ok (.aload_n 0, 1) := by decide +kernel
theorem dX12_like_78 : decode cX12_like 78 = .ok (.getfield 99, 3) := by decide +kernel
theorem dX12_like_81 : decode cX12_like 81 = .ok (.bipush 20, 2) := by decide +kernel
theorem dX12_like_83 : decode cX12_like 83 = .ok (.iload_n 2, 1) := by decide +kernel
theorem dX12_like_84 : decode cX12_like 84 = .ok (.imul, 1) := by decide +kernel
theorem dX12_like_85 : decode cX12_like 85 = .ok (.iload_n 3, 1) := by decide +kernel
theorem dX12_like_86 : decode cX12_like 86 = .ok (.iadd, 1) := by decide +kernel
theorem dX12_like_87 : decode cX12_like 87 = .ok (.iaload, 1) := by decide +kernel
theorem dX12_like_88 : decode cX12_like 88 = .ok (.iastore, 1) := by decide +kernel
theorem dX12_like_89 : decode cX12_like 89 = .ok (.iinc 3 1, 3) := by decide +kernel
theorem dX12_like_92 : decode cX12_like 92 = .ok (.goto (-31), 3) := by decide +kernel
theorem dX12_like_95 : decode cX12_like 95 = .ok (.aload_n 0, 1) := by decide +kernel
theorem dX12_like_96 : decode cX12_like 96 = .ok (.getfield 96, 3) := by decide +kernel
theorem dX12_like_99 : decode cX12_like 99 = .ok (.iload_n 1, 1) := by decide +kernel
theorem dX12_like_100 : decode cX12_like 100 = .ok (.iaload, 1) := by decide +kernel
theorem dX12_like_101 : decode cX12_like 101 = .ok (.ireturn, 1) := by decide +kernel
set_option maxRecDepth 20000 in
theorem ggX12_judged_X12_isRack : GoodIn wsX12_judged wsX12_isRack := goodIn_r _ [9, 10, 11, 12, 8, 13] rfl (by decide +kernel)
set_option maxRecDepth 20000 in
theorem gX12_judged_X12_isRack : GoodIn wsX12_judged (va_wsS RX12 345 yX12_isRack wsX12_isRack) := goodIn_app (goodIn_of _ (by decide +kernel)) ggX12_judged_X12_isRack
set_option maxRecDepth 20000 in
theorem ggX12_judged_X12_isRest : GoodIn wsX12_judged wsX12_isRest := goodIn_r _ [17, 18, 19, 20, 8, 21, 22, 11, 12, 13, 40, 41, 42, 43, 44, 45, 46, 47, 48, 49, 50, 51, 52, 53, 54, 55, 56, 57, 58, 59, 60, 61, 62, 63, 64, 65, 66, 67, 68, 69, 70, 71, 72, 73, 74, 75, 76, 77, 78, 79] rfl (by decide +kernel)
set_option maxRecDepth 20000 in
theorem gX12_judged_X12_isRest : GoodIn wsX12_judged (wsV RX12 181 RX12 yX12_isRest wsX12_isRest) := goodIn_app (goodIn_of _ (by decide +kernel)) ggX12_judged_X12_isRest
set_option maxRecDepth 20000 in
theorem ggX12_judged_X12_in : GoodIn wsX12_judged wsX12_in := goodIn_r _ [13] rfl (by decide +kernel)
set_option maxRecDepth 20000 in
theorem gX12_judged_X12_in : GoodIn wsX12_judged (va_wsS RX12 108 yX12_in wsX12_in) := goodIn_app (goodIn_of _ (by decide +kernel)) ggX12_judged_X12_in
set_option maxRecDepth 20000 in
theorem ggX12_judged_X12_judgedFrom : GoodIn wsX12_judged wsX12_judgedFrom := goodIn_r _ [26, 3, 5, 27, 28, 29, 8, 30, 22, 31, 32, 33, 34, 35, 36, 37, 38, 39, 40, 41, 42, 43, 44, 45, 46, 47, 48, 49, 50, 51, 52, 53, 54, 55, 56, 57, 58, 59, 60, 61, 62, 63, 64, 65, 66, 67, 68, 69, 70, 71, 72, 73, 74, 75, 76, 77, 78, 79] rfl (by decide +kernel)
set_option maxRecDepth 20000 in
theorem gX12_judged_X12_judgedFrom : GoodIn wsX12_judged (wsV RX12 342 RX12 yX12_judgedFrom wsX12_judgedFrom) := goodIn_app (goodIn_of _ (by decide +kernel)) ggX12_judged_X12_judgedFrom
theorem dX12_judged_0 : decode cX12_judged 0 = .ok (.iload_n 1, 1) := by decide +kernel
theorem dX12_judged_1 : decode cX12_judged 1 = .ok (.invokestatic 345, 3) := by decide +kernel
theorem dX12_judged_4 : decode cX12_judged 4 = .ok (.ifCond .ne 5, 3) := by decide +kernel
theorem dX12_judged_7 : decode cX12_judged 7 = .ok (.iconst (-1), 1) := by decide +kernel
theorem dX12_judged_8 : decode cX12_judged 8 = .ok (.ireturn, 1) := by decide +kernel
theorem dX12_judged_9 : decode cX12_judged 9 = .ok (.aload_n 0, 1) := by decide +kernel
theorem dX12_judged_10 : decode cX12_judged 10 = .ok (.iload_n 3, 1) := by decide +kernel
theorem dX12_judged_11 : decode cX12_judged 11 = .ok (.sipush 501, 3) := by decide +kernel
theorem dX12_judged_14 : decode cX12_judged 14 = .ok (.invokevirtual 181, 3) := by decide +kernel
theorem dX12_judged_17 : decode cX12_judged 17 = .ok (.ifCond .ne 6, 3) := by decide +kernel
theorem dX12_judged_20 : decode cX12_judged 20 = .ok (.bipush (-2), 2) := by decide +kernel
theorem dX12_judged_22 : decode cX12_judged 22 = .ok (.ireturn, 1) := by decide +kernel
theorem dX12_judged_23 : decode cX12_judged 23 = .ok (.aload_n 0, 1) := by decide +kernel
theorem dX12_judged_24 : decode cX12_judged 24 = .ok (.getfield 90, 3) := by decide +kernel
theorem dX12_judged_27 : decode cX12_judged 27 = .ok (.iload_n 1, 1) := by decide +kernel
theorem dX12_judged_28 : decode cX12_judged 28 = .ok (.baload, 1) := by decide +kernel
theorem dX12_judged_29 : decode cX12_judged 29 = .ok (.ifCond .ne 6, 3) := by decide +kernel
theorem dX12_judged_32 : decode cX12_judged 32 = .ok (.bipush (-11), 2) := by decide +kernel
theorem dX12_judged_34 : decode cX12_judged 34 = .ok (.ireturn, 1) := by decide +kernel
theorem dX12_judged_35 : decode cX12_judged 35 = .ok (.iload_n 2, 1) := by decide +kernel
theorem dX12_judged_36 : decode cX12_judged 36 = .ok (.i2l, 1) := by decide +kernel
theorem dX12_judged_37 : decode cX12_judged 37 = .ok (.lconst 0, 1) := by decide +kernel
theorem dX12_judged_38 : decode cX12_judged 38 = .ok (.aload_n 0, 1) := by decide +kernel
theorem dX12_judged_39 : decode cX12_judged 39 = .ok (.getfield 96, 3) := by decide +kernel
theorem dX12_judged_42 : decode cX12_judged 42 = .ok (.iload_n 1, 1) := by decide +kernel
theorem dX12_judged_43 : decode cX12_judged 43 = .ok (.iaload, 1) := by decide +kernel
theorem dX12_judged_44 : decode cX12_judged 44 = .ok (.i2l, 1) := by decide +kernel
theorem dX12_judged_45 : decode cX12_judged 45 = .ok (.invokestatic 108, 3) := by decide +kernel
theorem dX12_judged_48 : decode cX12_judged 48 = .ok (.ifCond .ne 6, 3) := by decide +kernel
theorem dX12_judged_51 : decode cX12_judged 51 = .ok (.bipush (-12), 2) := by decide +kernel
theorem dX12_judged_53 : decode cX12_judged 53 = .ok (.ireturn, 1) := by decide +kernel
theorem dX12_judged_54 : decode cX12_judged 54 = .ok (.aload_n 0, 1) := by decide +kernel
theorem dX12_judged_55 : decode cX12_judged 55 = .ok (.iconst 0, 1) := by decide +kernel
theorem dX12_judged_56 : decode cX12_judged 56 = .ok (.putfield 332, 3) := by decide +kernel
theorem dX12_judged_59 : decode cX12_judged 59 = .ok (.iload_n 2, 1) := by decide +kernel
theorem dX12_judged_60 : decode cX12_judged 60 = .ok (.istore 4, 2) := by decide +kernel
theorem dX12_judged_62 : decode cX12_judged 62 = .ok (.iload 4, 2) := by decide +kernel
theorem dX12_judged_64 : decode cX12_judged 64 = .ok (.aload_n 0, 1) := by decide +kernel
theorem dX12_judged_65 : decode cX12_judged 65 = .ok (.getfield 96, 3) := by decide +kernel
theorem dX12_judged_68 : decode cX12_judged 68 = .ok (.iload_n 1, 1) := by decide +kernel
theorem dX12_judged_69 : decode cX12_judged 69 = .ok (.iaload, 1) := by decide +kernel
theorem dX12_judged_70 : decode cX12_judged 70 = .ok (.if_icmp .ge 55, 3) := by decide +kernel
theorem dX12_judged_73 : decode cX12_judged 73 = .ok (.aload_n 0, 1) := by decide +kernel
theorem dX12_judged_74 : decode cX12_judged 74 = .ok (.getfield 99, 3) := by decide +kernel
theorem dX12_judged_77 : decode cX12_judged 77 = .ok (.bipush 20, 2) := by decide +kernel
theorem dX12_judged_79 : decode cX12_judged 79 = .ok (.iload_n 1, 1) := by decide +kernel
theorem dX12_judged_80 : decode cX12_judged 80 = .ok (.imul, 1) := by decide +kernel
theorem dX12_judged_81 : decode cX12_judged 81 = .ok (.iload 4, 2) := by decide +kernel
theorem dX12_judged_83 : decode cX12_judged 83 = .ok (.iadd, 1) := by decide +kernel
theorem dX12_judged_84 : decode cX12_judged 84 = .ok (.iaload, 1) := by decide +kernel
theorem dX12_judged_85 : decode cX12_judged 85 = .ok (.ifCond .lt 34, 3) := by decide +kernel
theorem dX12_judged_88 : decode cX12_judged 88 = .ok (.aload_n 0, 1) := by decide +kernel
theorem dX12_judged_89 : decode cX12_judged 89 = .ok (.getfield 87, 3) := by decide +kernel
theorem dX12_judged_92 : decode cX12_judged 92 = .ok (.aload_n 0, 1) := by decide +kernel
theorem dX12_judged_93 : decode cX12_judged 93 = .ok (.getfield 332, 3) := by decide +kernel
theorem dX12_judged_96 : decode cX12_judged 96 = .ok (.aload_n 0, 1) := by decide +kernel
theorem dX12_judged_97 : decode cX12_judged 97 = .ok (.getfield 99, 3) := by decide +kernel
theorem dX12_judged_100 : decode cX12_judged 100 = .ok (.bipush 20, 2) := by decide +kernel
theorem dX12_judged_102 : decode cX12_judged 102 = .ok (.iload_n 1, 1) := by decide +kernel
theorem dX12_judged_103 : decode cX12_judged 103 = .ok (.imul, 1) := by decide +kernel
theorem dX12_judged_104 : decode cX12_judged 104 = .ok (.iload 4, 2) := by decide +kernel
theorem dX12_judged_106 : decode cX12_judged 106 = .ok (.iadd, 1) := by decide +kernel
theorem dX12_judged_107 : decode cX12_judged 107 = .ok (.iaload, 1) := by decide +kernel
theorem dX12_judged_108 : decode cX12_judged 108 = .ok (.iastore, 1) := by decide +kernel
theorem dX12_judged_109 : decode cX12_judged 109 = .ok (.aload_n 0, 1) := by decide +kernel
theorem dX12_judged_110 : decode cX12_judged 110 = .ok (.dup, 1) := by decide +kernel
theorem dX12_judged_111 : decode cX12_judged 111 = .ok (.getfield 332, 3) := by decide +kernel
theorem dX12_judged_114 : decode cX12_judged 114 = .ok (.iconst 1, 1) := by decide +kernel
theorem dX12_judged_115 : decode cX12_judged 115 = .ok (.iadd, 1) := by decide +kernel
theorem dX12_judged_116 : decode cX12_judged 116 = .ok (.putfield 332, 3) := by decide +kernel
theorem dX12_judged_119 : decode cX12_judged 119 = .ok (.iinc 4 1, 3) := by decide +kernel
theorem dX12_judged_122 : decode cX12_judged 122 = .ok (.goto (-60), 3) := by decide +kernel
theorem dX12_judged_125 : decode cX12_judged 125 = .ok (.aload_n 0, 1) := by decide +kernel
theorem dX12_judged_126 : decode cX12_judged 126 = .ok (.iload_n 3, 1) := by decide +kernel
theorem dX12_judged_127 : decode cX12_judged 127 = .ok (.invokevirtual 342, 3) := by decide +kernel
theorem dX12_judged_130 : decode cX12_judged 130 = .ok (.ireturn, 1) := by decide +kernel
theorem dX12_image_0 : decode cX12_image 0 = .ok (.aload_n 0, 1) := by decide +kernel
theorem dX12_image_1 : decode cX12_image 1 = .ok (.iconst 1, 1) := by decide +kernel
theorem dX12_image_2 : decode cX12_image 2 = .ok (.putfield 348, 3) := by decide +kernel
theorem dX12_image_5 : decode cX12_image 5 = .ok (.iconst 0, 1) := by decide +kernel
theorem dX12_image_6 : decode cX12_image 6 = .ok (.istore_n 1, 1) := by decide +kernel
theorem dX12_image_7 : decode cX12_image 7 = .ok (.iload_n 1, 1) := by decide +kernel
theorem dX12_image_8 : decode cX12_image 8 = .ok (.bipush 19, 2) := by decide +kernel
theorem dX12_image_10 : decode cX12_image 10 = .ok (.if_icmp .ge 21, 3) := by decide +kernel
theorem dX12_image_13 : decode cX12_image 13 = .ok (.aload_n 0, 1) := by decide +kernel
theorem dX12_image_14 : decode cX12_image 14 = .ok (.getfield 16, 3) := by decide +kernel
theorem dX12_image_17 : decode cX12_image 17 = .ok (.iload_n 1, 1) := by decide +kernel
theorem dX12_image_18 : decode cX12_image 18 = .ok (.aload_n 0, 1) := by decide +kernel
theorem dX12_image_19 : decode cX12_image 19 = .ok (.getfield 13, 3) := by decide +kernel
theorem dX12_image_22 : decode cX12_image 22 = .ok (.iload_n 1, 1) := by decide +kernel
theorem dX12_image_23 : decode cX12_image 23 = .ok (.iaload, 1) := by decide +kernel
theorem dX12_image_24 : decode cX12_image 24 = .ok (.iastore, 1) := by decide +kernel
theorem dX12_image_25 : decode cX12_image 25 = .ok (.iinc 1 1, 3) := by decide +kernel
theorem dX12_image_28 : decode cX12_image 28 = .ok (.goto (-21), 3) := by decide +kernel
theorem dX12_image_31 : decode cX12_image 31 = .ok (.aload_n 0, 1) := by decide +kernel
theorem dX12_image_32 : decode cX12_image 32 = .ok (.getfield 13, 3) := by decide +kernel
theorem dX12_image_35 : decode cX12_image 35 = .ok (.bipush 6, 2) := by decide +kernel
theorem dX12_image_37 : decode cX12_image 37 = .ok (.iaload, 1) := by decide +kernel
theorem dX12_image_38 : decode cX12_image 38 = .ok (.aload_n 0, 1) := by decide +kernel
theorem dX12_image_39 : decode cX12_image 39 = .ok (.getfield 13, 3) := by decide +kernel
theorem dX12_image_42 : decode cX12_image 42 = .ok (.bipush 7, 2) := by decide +kernel
theorem dX12_image_44 : decode cX12_image 44 = .ok (.iaload, 1) := by decide +kernel
theorem dX12_image_45 : decode cX12_image 45 = .ok (.iadd, 1) := by decide +kernel
theorem dX12_image_46 : decode cX12_image 46 = .ok (.ireturn, 1) := by decide +kernel
theorem dX12_undo_0 : decode cX12_undo 0 = .ok (.aload_n 0, 1) := by decide +kernel
theorem dX12_undo_1 : decode cX12_undo 1 = .ok (.getfield 348, 3) := by decide +kernel
theorem dX12_undo_4 : decode cX12_undo 4 = .ok (.ifCond .ne 6, 3) := by decide +kernel
theorem dX12_undo_7 : decode cX12_undo 7 = .ok (.bipush (-3), 2) := by decide +kernel
theorem dX12_undo_9 : decode cX12_undo 9 = .ok (.ireturn, 1) := by decide +kernel
theorem dX12_undo_10 : decode cX12_undo 10 = .ok (.iconst 0, 1) := by decide +kernel
theorem dX12_undo_11 : decode cX12_undo 11 = .ok (.istore_n 1, 1) := by decide +kernel
theorem dX12_undo_12 : decode cX12_undo 12 = .ok (.iload_n 1, 1) := by decide +kernel
theorem dX12_undo_13 : decode cX12_undo 13 = .ok (.bipush 19, 2) := by decide +kernel
theorem dX12_undo_15 : decode cX12_undo 15 = .ok (.if_icmp .ge 21, 3) := by decide +kernel
theorem dX12_undo_18 : decode cX12_undo 18 = .ok (.aload_n 0, 1) := by decide +kernel
theorem dX12_undo_19 : decode cX12_undo 19 = .ok (.getfield 13, 3) := by decide +kernel
theorem dX12_undo_22 : decode cX12_undo 22 = .ok (.iload_n 1, 1) := by decide +kernel
theorem dX12_undo_23 : decode cX12_undo 23 = .ok (.aload_n 0, 1) := by decide +kernel
theorem dX12_undo_24 : decode cX12_undo 24 = .ok (.getfield 16, 3) := by decide +kernel
theorem dX12_undo_27 : decode cX12_undo 27 = .ok (.iload_n 1, 1) := by decide +kernel
theorem dX12_undo_28 : decode cX12_undo 28 = .ok (.iaload, 1) := by decide +kernel
theorem dX12_undo_29 : decode cX12_undo 29 = .ok (.iastore, 1) := by decide +kernel
theorem dX12_undo_30 : decode cX12_undo 30 = .ok (.iinc 1 1, 3) := by decide +kernel
theorem dX12_undo_33 : decode cX12_undo 33 = .ok (.goto (-21), 3) := by decide +kernel
theorem dX12_undo_36 : decode cX12_undo 36 = .ok (.aload_n 0, 1) := by decide +kernel
theorem dX12_undo_37 : decode cX12_undo 37 = .ok (.getfield 13, 3) := by decide +kernel
theorem dX12_undo_40 : decode cX12_undo 40 = .ok (.bipush 6, 2) := by decide +kernel
theorem dX12_undo_42 : decode cX12_undo 42 = .ok (.iaload, 1) := by decide +kernel
theorem dX12_undo_43 : decode cX12_undo 43 = .ok (.aload_n 0, 1) := by decide +kernel
theorem dX12_undo_44 : decode cX12_undo 44 = .ok (.getfield 13, 3) := by decide +kernel
theorem dX12_undo_47 : decode cX12_undo 47 = .ok (.bipush 7, 2) := by decide +kernel
theorem dX12_undo_49 : decode cX12_undo 49 = .ok (.iaload, 1) := by decide +kernel
theorem dX12_undo_50 : decode cX12_undo 50 = .ok (.iadd, 1) := by decide +kernel
theorem dX12_undo_51 : decode cX12_undo 51 = .ok (.ireturn, 1) := by decide +kernel
theorem dJxe99ae_isNaN_b9ae7_0 : decode cJxe99ae_isNaN_b9ae7 0 = .ok (.dload_n 0, 1) := by decide +kernel
theorem dJxe99ae_isNaN_b9ae7_1 : decode cJxe99ae_isNaN_b9ae7 1 = .ok (.dload_n 0, 1) := by decide +kernel
theorem dJxe99ae_isNaN_b9ae7_2 : decode cJxe99ae_isNaN_b9ae7 2 = .ok (.dcmp .l, 1) := by decide +kernel
theorem dJxe99ae_isNaN_b9ae7_3 : decode cJxe99ae_isNaN_b9ae7 3 = .ok (.ifCond .eq 7, 3) := by decide +kernel
theorem dJxe99ae_isNaN_b9ae7_6 : decode cJxe99ae_isNaN_b9ae7 6 = .ok (.iconst 1, 1) := by decide +kernel
theorem dJxe99ae_isNaN_b9ae7_7 : decode cJxe99ae_isNaN_b9ae7 7 = .ok (.goto 4, 3) := by decide +kernel
theorem dJxe99ae_isNaN_b9ae7_10 : decode cJxe99ae_isNaN_b9ae7 10 = .ok (.iconst 0, 1) := by decide +kernel
theorem dJxe99ae_isNaN_b9ae7_11 : decode cJxe99ae_isNaN_b9ae7 11 = .ok (.ireturn, 1) := by decide +kernel
set_option maxRecDepth 20000 in
theorem ggJxe99ae_doubleToLongBits_ccdee_Jxe99ae_isNaN_b9ae7 : GoodIn wsJxe99ae_doubleToLongBits_ccdee wsJxe99ae_isNaN_b9ae7 := goodIn_r _ [9] rfl (by decide +kernel)
set_option maxRecDepth 20000 in
theorem gJxe99ae_doubleToLongBits_ccdee_Jxe99ae_isNaN_b9ae7 : GoodIn wsJxe99ae_doubleToLongBits_ccdee (va_wsS RJxe99ae 122 yJxe99ae_isNaN_b9ae7 wsJxe99ae_isNaN_b9ae7) := goodIn_app (goodIn_of _ (by decide +kernel)) ggJxe99ae_doubleToLongBits_ccdee_Jxe99ae_isNaN_b9ae7
theorem dJxe99ae_doubleToLongBits_ccdee_0 : decode cJxe99ae_doubleToLongBits_ccdee 0 = .ok (.dload_n 0, 1) := by decide +kernel
theorem dJxe99ae_doubleToLongBits_ccdee_1 : decode cJxe99ae_doubleToLongBits_ccdee 1 = .ok (.invokestatic 122, 3) := by decide +kernel
theorem dJxe99ae_doubleToLongBits_ccdee_4 : decode cJxe99ae_doubleToLongBits_ccdee 4 = .ok (.ifCond .ne 8, 3) := by decide +kernel
theorem dJxe99ae_doubleToLongBits_ccdee_7 : decode cJxe99ae_doubleToLongBits_ccdee 7 = .ok (.dload_n 0, 1) := by decide +kernel
theorem dJxe99ae_doubleToLongBits_ccdee_8 : decode cJxe99ae_doubleToLongBits_ccdee 8 = .ok (.invokestatic 134, 3) := by decide +kernel
theorem dJxe99ae_doubleToLongBits_ccdee_11 : decode cJxe99ae_doubleToLongBits_ccdee 11 = .ok (.lreturn, 1) := by decide +kernel
theorem dJxe99ae_doubleToLongBits_ccdee_12 : decode cJxe99ae_doubleToLongBits_ccdee 12 = .ok (.ldc2_w 137, 3) := by decide +kernel
theorem dJxe99ae_doubleToLongBits_ccdee_15 : decode cJxe99ae_doubleToLongBits_ccdee 15 = .ok (.lreturn, 1) := by decide +kernel
theorem dJxf58ca_isNaN_12338_0 : decode cJxf58ca_isNaN_12338 0 = .ok (.fload_n 0, 1) := by decide +kernel
theorem dJxf58ca_isNaN_12338_1 : decode cJxf58ca_isNaN_12338 1 = .ok (.fload_n 0, 1) := by decide +kernel
theorem dJxf58ca_isNaN_12338_2 : decode cJxf58ca_isNaN_12338 2 = .ok (.fcmp .l, 1) := by decide +kernel
theorem dJxf58ca_isNaN_12338_3 : decode cJxf58ca_isNaN_12338 3 = .ok (.ifCond .eq 7, 3) := by decide +kernel
theorem dJxf58ca_isNaN_12338_6 : decode cJxf58ca_isNaN_12338 6 = .ok (.iconst 1, 1) := by decide +kernel
theorem dJxf58ca_isNaN_12338_7 : decode cJxf58ca_isNaN_12338 7 = .ok (.goto 4, 3) := by decide +kernel
theorem dJxf58ca_isNaN_12338_10 : decode cJxf58ca_isNaN_12338 10 = .ok (.iconst 0, 1) := by decide +kernel
theorem dJxf58ca_isNaN_12338_11 : decode cJxf58ca_isNaN_12338 11 = .ok (.ireturn, 1) := by decide +kernel
set_option maxRecDepth 20000 in
theorem ggJxf58ca_floatToIntBits_5c35a_Jxf58ca_isNaN_12338 : GoodIn wsJxf58ca_floatToIntBits_5c35a wsJxf58ca_isNaN_12338 := goodIn_r _ [9] rfl (by decide +kernel)
set_option maxRecDepth 20000 in
theorem gJxf58ca_floatToIntBits_5c35a_Jxf58ca_isNaN_12338 : GoodIn wsJxf58ca_floatToIntBits_5c35a (va_wsS RJxf58ca 59 yJxf58ca_isNaN_12338 wsJxf58ca_isNaN_12338) := goodIn_app (goodIn_of _ (by decide +kernel)) ggJxf58ca_floatToIntBits_5c35a_Jxf58ca_isNaN_12338
theorem dJxf58ca_floatToIntBits_5c35a_0 : decode cJxf58ca_floatToIntBits_5c35a 0 = .ok (.fload_n 0, 1) := by decide +kernel
theorem dJxf58ca_floatToIntBits_5c35a_1 : decode cJxf58ca_floatToIntBits_5c35a 1 = .ok (.invokestatic 59, 3) := by decide +kernel
theorem dJxf58ca_floatToIntBits_5c35a_4 : decode cJxf58ca_floatToIntBits_5c35a 4 = .ok (.ifCond .ne 8, 3) := by decide +kernel
theorem dJxf58ca_floatToIntBits_5c35a_7 : decode cJxf58ca_floatToIntBits_5c35a 7 = .ok (.fload_n 0, 1) := by decide +kernel
theorem dJxf58ca_floatToIntBits_5c35a_8 : decode cJxf58ca_floatToIntBits_5c35a 8 = .ok (.invokestatic 74, 3) := by decide +kernel
theorem dJxf58ca_floatToIntBits_5c35a_11 : decode cJxf58ca_floatToIntBits_5c35a 11 = .ok (.ireturn, 1) := by decide +kernel
theorem dJxf58ca_floatToIntBits_5c35a_12 : decode cJxf58ca_floatToIntBits_5c35a 12 = .ok (.ldc 77, 2) := by decide +kernel
theorem dJxf58ca_floatToIntBits_5c35a_14 : decode cJxf58ca_floatToIntBits_5c35a 14 = .ok (.ireturn, 1) := by decide +kernel
theorem dJ9_floorMod_7cf53_0 : decode cJ9_floorMod_7cf53 0 = .ok (.iload_n 0, 1) := by decide +kernel
theorem dJ9_floorMod_7cf53_1 : decode cJ9_floorMod_7cf53 1 = .ok (.iload_n 1, 1) := by decide +kernel
theorem dJ9_floorMod_7cf53_2 : decode cJ9_floorMod_7cf53 2 = .ok (.irem, 1) := by decide +kernel
theorem dJ9_floorMod_7cf53_3 : decode cJ9_floorMod_7cf53 3 = .ok (.istore_n 2, 1) := by decide +kernel
theorem dJ9_floorMod_7cf53_4 : decode cJ9_floorMod_7cf53 4 = .ok (.iload_n 0, 1) := by decide +kernel
theorem dJ9_floorMod_7cf53_5 : decode cJ9_floorMod_7cf53 5 = .ok (.iload_n 1, 1) := by decide +kernel
theorem dJ9_floorMod_7cf53_6 : decode cJ9_floorMod_7cf53 6 = .ok (.ixor, 1) := by decide +kernel
theorem dJ9_floorMod_7cf53_7 : decode cJ9_floorMod_7cf53 7 = .ok (.ifCond .ge 11, 3) := by decide +kernel
theorem dJ9_floorMod_7cf53_10 : decode cJ9_floorMod_7cf53 10 = .ok (.iload_n 2, 1) := by decide +kernel
theorem dJ9_floorMod_7cf53_11 : decode cJ9_floorMod_7cf53 11 = .ok (.ifCond .eq 7, 3) := by decide +kernel
theorem dJ9_floorMod_7cf53_14 : decode cJ9_floorMod_7cf53 14 = .ok (.iload_n 2, 1) := by decide +kernel
theorem dJ9_floorMod_7cf53_15 : decode cJ9_floorMod_7cf53 15 = .ok (.iload_n 1, 1) := by decide +kernel
theorem dJ9_floorMod_7cf53_16 : decode cJ9_floorMod_7cf53 16 = .ok (.iadd, 1) := by decide +kernel
theorem dJ9_floorMod_7cf53_17 : decode cJ9_floorMod_7cf53 17 = .ok (.ireturn, 1) := by decide +kernel
theorem dJ9_floorMod_7cf53_18 : decode cJ9_floorMod_7cf53 18 = .ok (.iload_n 2, 1) := by decide +kernel
theorem dJ9_floorMod_7cf53_19 : decode cJ9_floorMod_7cf53 19 = .ok (.ireturn, 1) := by decide +kernel
theorem dJ7_fill_53178_0 : decode cJ7_fill_53178 0 = .ok (.iconst 0, 1) := by decide +kernel
theorem dJ7_fill_53178_1 : decode cJ7_fill_53178 1 = .ok (.istore_n 2, 1) := by decide +kernel
theorem dJ7_fill_53178_2 : decode cJ7_fill_53178 2 = .ok (.aload_n 0, 1) := by decide +kernel
theorem dJ7_fill_53178_3 : decode cJ7_fill_53178 3 = .ok (.arraylength, 1) := by decide +kernel
theorem dJ7_fill_53178_4 : decode cJ7_fill_53178 4 = .ok (.istore_n 3, 1) := by decide +kernel
theorem dJ7_fill_53178_5 : decode cJ7_fill_53178 5 = .ok (.iload_n 2, 1) := by decide +kernel
theorem dJ7_fill_53178_6 : decode cJ7_fill_53178 6 = .ok (.iload_n 3, 1) := by decide +kernel
theorem dJ7_fill_53178_7 : decode cJ7_fill_53178 7 = .ok (.if_icmp .ge 13, 3) := by decide +kernel
theorem dJ7_fill_53178_10 : decode cJ7_fill_53178 10 = .ok (.aload_n 0, 1) := by decide +kernel
theorem dJ7_fill_53178_11 : decode cJ7_fill_53178 11 = .ok (.iload_n 2, 1) := by decide +kernel
theorem dJ7_fill_53178_12 : decode cJ7_fill_53178 12 = .ok (.iload_n 1, 1) := by decide +kernel
theorem dJ7_fill_53178_13 : decode cJ7_fill_53178 13 = .ok (.iastore, 1) := by decide +kernel
theorem dJ7_fill_53178_14 : decode cJ7_fill_53178 14 = .ok (.iinc 2 1, 3) := by decide +kernel
theorem dJ7_fill_53178_17 : decode cJ7_fill_53178 17 = .ok (.goto (-12), 3) := by decide +kernel
theorem dJ7_fill_53178_20 : decode cJ7_fill_53178 20 = .ok (.return_, 1) := by decide +kernel
theorem dL_law_0 : decode cL_law 0 = .ok (.new 7, 3) := by decide +kernel
theorem dL_law_3 : decode cL_law 3 = .ok (.dup, 1) := by decide +kernel
theorem dL_law_4 : decode cL_law 4 = .ok (.invokespecial 9, 3) := by decide +kernel
theorem dL_law_7 : decode cL_law 7 = .ok (.astore_n 1, 1) := by decide +kernel
theorem dL_law_8 : decode cL_law 8 = .ok (.new 10, 3) := by decide +kernel
theorem dL_law_11 : decode cL_law 11 = .ok (.dup, 1) := by decide +kernel
theorem dL_law_12 : decode cL_law 12 = .ok (.invokespecial 12, 3) := by decide +kernel
theorem dL_law_15 : decode cL_law 15 = .ok (.astore_n 2, 1) := by decide +kernel
theorem dL_law_16 : decode cL_law 16 = .ok (.iconst 0, 1) := by decide +kernel
theorem dL_law_17 : decode cL_law 17 = .ok (.istore_n 3, 1) := by decide +kernel
theorem dL_law_18 : decode cL_law 18 = .ok (.iload_n 3, 1) := by decide +kernel
theorem dL_law_19 : decode cL_law 19 = .ok (.aload_n 0, 1) := by decide +kernel
theorem dL_law_20 : decode cL_law 20 = .ok (.arraylength, 1) := by decide +kernel
theorem dL_law_21 : decode cL_law 21 = .ok (.iconst 5, 1) := by decide +kernel
theorem dL_law_22 : decode cL_law 22 = .ok (.isub, 1) := by decide +kernel
theorem dL_law_23 : decode cL_law 23 = .ok (.if_icmp .gt 1360, 3) := by decide +kernel
theorem dL_law_26 : decode cL_law 26 = .ok (.aload_n 0, 1) := by decide +kernel
theorem dL_law_27 : decode cL_law 27 = .ok (.iload_n 3, 1) := by decide +kernel
theorem dL_law_28 : decode cL_law 28 = .ok (.iaload, 1) := by decide +kernel
theorem dL_law_29 : decode cL_law 29 = .ok (.bipush 63, 2) := by decide +kernel
theorem dL_law_31 : decode cL_law 31 = .ok (.iand, 1) := by decide +kernel
theorem dL_law_32 : decode cL_law 32 = .ok (.tableswitch 1345 0 37 #[168, 201, 234, 277, 330, 353, 386, 420, 453, 486, 519, 563, 606, 650, 693, 726, 759, 792, 835, 868, 891, 914, 937, 960, 983, 1006, 1029, 1052, 1065, 1088, 1101, 1124, 1167, 1210, 1243, 1276, 1319, 1332], 168) := by decide +kernel
theorem dL_law_200 : decode cL_law 200 = .ok (.aload_n 1, 1) := by decide +kernel
theorem dL_law_201 : decode cL_law 201 = .ok (.aload_n 0, 1) := by decide +kernel
theorem dL_law_202 : decode cL_law 202 = .ok (.iload_n 3, 1) := by decide +kernel
theorem dL_law_203 : decode cL_law 203 = .ok (.iconst 1, 1) := by decide +kernel
theorem dL_law_204 : decode cL_law 204 = .ok (.iadd, 1) := by decide +kernel
theorem dL_law_205 : decode cL_law 205 = .ok (.iaload, 1) := by decide +kernel
theorem dL_law_206 : decode cL_law 206 = .ok (.aload_n 0, 1) := by decide +kernel
theorem dL_law_207 : decode cL_law 207 = .ok (.iload_n 3, 1) := by decide +kernel
theorem dL_law_208 : decode cL_law 208 = .ok (.iconst 2, 1) := by decide +kernel
theorem dL_law_209 : decode cL_law 209 = .ok (.iadd, 1) := by decide +kernel
theorem dL_law_210 : decode cL_law 210 = .ok (.iaload, 1) := by decide +kernel
theorem dL_law_211 : decode cL_law 211 = .ok (.invokevirtual 13, 3) := by decide +kernel
theorem dL_law_214 : decode cL_law 214 = .ok (.aload_n 2, 1) := by decide +kernel
theorem dL_law_215 : decode cL_law 215 = .ok (.aload_n 0, 1) := by decide +kernel
theorem dL_law_216 : decode cL_law 216 = .ok (.iload_n 3, 1) := by decide +kernel
theorem dL_law_217 : decode cL_law 217 = .ok (.iconst 1, 1) := by decide +kernel
theorem dL_law_218 : decode cL_law 218 = .ok (.iadd, 1) := by decide +kernel
theorem dL_law_219 : decode cL_law 219 = .ok (.iaload, 1) := by decide +kernel
theorem dL_law_220 : decode cL_law 220 = .ok (.aload_n 0, 1) := by decide +kernel
theorem dL_law_221 : decode cL_law 221 = .ok (.iload_n 3, 1) := by decide +kernel
theorem dL_law_222 : decode cL_law 222 = .ok (.iconst 2, 1) := by decide +kernel
theorem dL_law_223 : decode cL_law 223 = .ok (.iadd, 1) := by decide +kernel
theorem dL_law_224 : decode cL_law 224 = .ok (.iaload, 1) := by decide +kernel
theorem dL_law_225 : decode cL_law 225 = .ok (.invokevirtual 17, 3) := by decide +kernel
theorem dL_law_228 : decode cL_law 228 = .ok (.if_icmp .eq 1149, 3) := by decide +kernel
theorem dL_law_231 : decode cL_law 231 = .ok (.iconst 0, 1) := by decide +kernel
theorem dL_law_232 : decode cL_law 232 = .ok (.ireturn, 1) := by decide +kernel
theorem dL_law_233 : decode cL_law 233 = .ok (.aload_n 1, 1) := by decide +kernel
theorem dL_law_234 : decode cL_law 234 = .ok (.aload_n 0, 1) := by decide +kernel
theorem dL_law_235 : decode cL_law 235 = .ok (.iload_n 3, 1) := by decide +kernel
theorem dL_law_236 : decode cL_law 236 = .ok (.iconst 1, 1) := by decide +kernel
theorem dL_law_237 : decode cL_law 237 = .ok (.iadd, 1) := by decide +kernel
theorem dL_law_238 : decode cL_law 238 = .ok (.iaload, 1) := by decide +kernel
theorem dL_law_239 : decode cL_law 239 = .ok (.aload_n 0, 1) := by decide +kernel
theorem dL_law_240 : decode cL_law 240 = .ok (.iload_n 3, 1) := by decide +kernel
theorem dL_law_241 : decode cL_law 241 = .ok (.iconst 2, 1) := by decide +kernel
theorem dL_law_242 : decode cL_law 242 = .ok (.iadd, 1) := by decide +kernel
theorem dL_law_243 : decode cL_law 243 = .ok (.iaload, 1) := by decide +kernel
theorem dL_law_244 : decode cL_law 244 = .ok (.invokevirtual 18, 3) := by decide +kernel
theorem dL_law_247 : decode cL_law 247 = .ok (.aload_n 2, 1) := by decide +kernel
theorem dL_law_248 : decode cL_law 248 = .ok (.aload_n 0, 1) := by decide +kernel
theorem dL_law_249 : decode cL_law 249 = .ok (.iload_n 3, 1) := by decide +kernel
theorem dL_law_250 : decode cL_law 250 = .ok (.iconst 1, 1) := by decide +kernel
theorem dL_law_251 : decode cL_law 251 = .ok (.iadd, 1) := by decide +kernel
theorem dL_law_252 : decode cL_law 252 = .ok (.iaload, 1) := by decide +kernel
theorem dL_law_253 : decode cL_law 253 = .ok (.aload_n 0, 1) := by decide +kernel
theorem dL_law_254 : decode cL_law 254 = .ok (.iload_n 3, 1) := by decide +kernel
theorem dL_law_255 : decode cL_law 255 = .ok (.iconst 2, 1) := by decide +kernel
theorem dL_law_256 : decode cL_law 256 = .ok (.iadd, 1) := by decide +kernel
theorem dL_law_257 : decode cL_law 257 = .ok (.iaload, 1) := by decide +kernel
theorem dL_law_258 : decode cL_law 258 = .ok (.invokevirtual 21, 3) := by decide +kernel
theorem dL_law_261 : decode cL_law 261 = .ok (.if_icmp .eq 1116, 3) := by decide +kernel
theorem dL_law_264 : decode cL_law 264 = .ok (.iconst 0, 1) := by decide +kernel
theorem dL_law_265 : decode cL_law 265 = .ok (.ireturn, 1) := by decide +kernel
theorem dL_law_266 : decode cL_law 266 = .ok (.aload_n 1, 1) := by decide +kernel
theorem dL_law_267 : decode cL_law 267 = .ok (.aload_n 0, 1) := by decide +kernel
theorem dL_law_268 : decode cL_law 268 = .ok (.iload_n 3, 1) := by decide +kernel
theorem dL_law_269 : decode cL_law 269 = .ok (.iconst 1, 1) := by decide +kernel
theorem dL_law_270 : decode cL_law 270 = .ok (.iadd, 1) := by decide +kernel
theorem dL_law_271 : decode cL_law 271 = .ok (.iaload, 1) := by decide +kernel
theorem dL_law_272 : decode cL_law 272 = .ok (.aload_n 0, 1) := by decide +kernel
theorem dL_law_273 : decode cL_law 273 = .ok (.iload_n 3, 1) := by decide +kernel
theorem dL_law_274 : decode cL_law 274 = .ok (.iconst 2, 1) := by decide +kernel
theorem dL_law_275 : decode cL_law 275 = .ok (.iadd, 1) := by decide +kernel
theorem dL_law_276 : decode cL_law 276 = .ok (.iaload, 1) := by decide +kernel
theorem dL_law_277 : decode cL_law 277 = .ok (.aload_n 0, 1) := by decide +kernel
theorem dL_law_278 : decode cL_law 278 = .ok (.iload_n 3, 1) := by decide +kernel
theorem dL_law_279 : decode cL_law 279 = .ok (.iconst 3, 1) := by decide +kernel
theorem dL_law_280 : decode cL_law 280 = .ok (.iadd, 1) := by decide +kernel
theorem dL_law_281 : decode cL_law 281 = .ok (.iaload, 1) := by decide +kernel
theorem dL_law_282 : decode cL_law 282 = .ok (.invokevirtual 22, 3) := by decide +kernel
theorem dL_law_285 : decode cL_law 285 = .ok (.aload_n 2, 1) := by decide +kernel
theorem dL_law_286 : decode cL_law 286 = .ok (.aload_n 0, 1) := by decide +kernel
theorem dL_law_287 : decode cL_law 287 = .ok (.iload_n 3, 1) := by decide +kernel
theorem dL_law_288 : decode cL_law 288 = .ok (.iconst 1, 1) := by decide +kernel
theorem dL_law_289 : decode cL_law 289 = .ok (.iadd, 1) := by decide +kernel
theorem dL_law_290 : decode cL_law 290 = .ok (.iaload, 1) := by decide +kernel
theorem dL_law_291 : decode cL_law 291 = .ok (.aload_n 0, 1) := by decide +kernel
theorem dL_law_292 : decode cL_law 292 = .ok (.iload_n 3, 1) := by decide +kernel
theorem dL_law_293 : decode cL_law 293 = .ok (.iconst 2, 1) := by decide +kernel
theorem dL_law_294 : decode cL_law 294 = .ok (.iadd, 1) := by decide +kernel
theorem dL_law_295 : decode cL_law 295 = .ok (.iaload, 1) := by decide +kernel
theorem dL_law_296 : decode cL_law 296 = .ok (.aload_n 0, 1) := by decide +kernel
theorem dL_law_297 : decode cL_law 297 = .ok (.iload_n 3, 1) := by decide +kernel
theorem dL_law_298 : decode cL_law 298 = .ok (.iconst 3, 1) := by decide +kernel
theorem dL_law_299 : decode cL_law 299 = .ok (.iadd, 1) := by decide +kernel
theorem dL_law_300 : decode cL_law 300 = .ok (.iaload, 1) := by decide +kernel
theorem dL_law_301 : decode cL_law 301 = .ok (.invokevirtual 26, 3) := by decide +kernel
theorem dL_law_304 : decode cL_law 304 = .ok (.if_icmp .eq 1073, 3) := by decide +kernel
theorem dL_law_307 : decode cL_law 307 = .ok (.iconst 0, 1) := by decide +kernel
theorem dL_law_308 : decode cL_law 308 = .ok (.ireturn, 1) := by decide +kernel
theorem dL_law_309 : decode cL_law 309 = .ok (.aload_n 1, 1) := by decide +kernel
theorem dL_law_310 : decode cL_law 310 = .ok (.aload_n 0, 1) := by decide +kernel
theorem dL_law_311 : decode cL_law 311 = .ok (.iload_n 3, 1) := by decide +kernel
theorem dL_law_312 : decode cL_law 312 = .ok (.iconst 1, 1) := by decide +kernel
theorem dL_law_313 : decode cL_law 313 = .ok (.iadd, 1) := by decide +kernel
theorem dL_law_314 : decode cL_law 314 = .ok (.iaload, 1) := by decide +kernel
theorem dL_law_315 : decode cL_law 315 = .ok (.aload_n 0, 1) := by decide +kernel
theorem dL_law_316 : decode cL_law 316 = .ok (.iload_n 3, 1) := by decide +kernel
theorem dL_law_317 : decode cL_law 317 = .ok (.iconst 2, 1) := by decide +kernel
theorem dL_law_318 : decode cL_law 318 = .ok (.iadd, 1) := by decide +kernel
theorem dL_law_319 : decode cL_law 319 = .ok (.iaload, 1) := by decide +kernel
theorem dL_law_320 : decode cL_law 320 = .ok (.aload_n 0, 1) := by decide +kernel
theorem dL_law_321 : decode cL_law 321 = .ok (.iload_n 3, 1) := by decide +kernel
theorem dL_law_322 : decode cL_law 322 = .ok (.iconst 3, 1) := by decide +kernel
theorem dL_law_323 : decode cL_law 323 = .ok (.iadd, 1) := by decide +kernel
theorem dL_law_324 : decode cL_law 324 = .ok (.iaload, 1) := by decide +kernel
theorem dL_law_325 : decode cL_law 325 = .ok (.aload_n 0, 1) := by decide +kernel
theorem dL_law_326 : decode cL_law 326 = .ok (.iload_n 3, 1) := by decide +kernel
theorem dL_law_327 : decode cL_law 327 = .ok (.iconst 4, 1) := by decide +kernel
theorem dL_law_328 : decode cL_law 328 = .ok (.iadd, 1) := by decide +kernel
theorem dL_law_329 : decode cL_law 329 = .ok (.iaload, 1) := by decide +kernel
theorem dL_law_330 : decode cL_law 330 = .ok (.invokevirtual 27, 3) := by decide +kernel
theorem dL_law_333 : decode cL_law 333 = .ok (.aload_n 2, 1) := by decide +kernel
theorem dL_law_334 : decode cL_law 334 = .ok (.aload_n 0, 1) := by decide +kernel
theorem dL_law_335 : decode cL_law 335 = .ok (.iload_n 3, 1) := by decide +kernel
theorem dL_law_336 : decode cL_law 336 = .ok (.iconst 1, 1) := by decide +kernel
theorem dL_law_337 : decode cL_law 337 = .ok (.iadd, 1) := by decide +kernel
theorem dL_law_338 : decode cL_law 338 = .ok (.iaload, 1) := by decide +kernel
theorem dL_law_339 : decode cL_law 339 = .ok (.aload_n 0, 1) := by decide +kernel
theorem dL_law_340 : decode cL_law 340 = .ok (.iload_n 3, 1) := by decide +kernel
theorem dL_law_341 : decode cL_law 341 = .ok (.iconst 2, 1) := by decide +kernel
theorem dL_law_342 : decode cL_law 342 = .ok (.iadd, 1) := by decide +kernel
theorem dL_law_343 : decode cL_law 343 = .ok (.iaload, 1) := by decide +kernel
theorem dL_law_344 : decode cL_law 344 = .ok (.aload_n 0, 1) := by decide +kernel
theorem dL_law_345 : decode cL_law 345 = .ok (.iload_n 3, 1) := by decide +kernel
theorem dL_law_346 : decode cL_law 346 = .ok (.iconst 3, 1) := by decide +kernel
theorem dL_law_347 : decode cL_law 347 = .ok (.iadd, 1) := by decide +kernel
theorem dL_law_348 : decode cL_law 348 = .ok (.iaload, 1) := by decide +kernel
theorem dL_law_349 : decode cL_law 349 = .ok (.aload_n 0, 1) := by decide +kernel
theorem dL_law_350 : decode cL_law 350 = .ok (.iload_n 3, 1) := by decide +kernel
theorem dL_law_351 : decode cL_law 351 = .ok (.iconst 4, 1) := by decide +kernel
theorem dL_law_352 : decode cL_law 352 = .ok (.iadd, 1) := by decide +kernel
theorem dL_law_353 : decode cL_law 353 = .ok (.iaload, 1) := by decide +kernel
theorem dL_law_354 : decode cL_law 354 = .ok (.invokevirtual 31, 3) := by decide +kernel
theorem dL_law_357 : decode cL_law 357 = .ok (.if_icmp .eq 1020, 3) := by decide +kernel
theorem dL_law_360 : decode cL_law 360 = .ok (.iconst 0, 1) := by decide +kernel
theorem dL_law_361 : decode cL_law 361 = .ok (.ireturn, 1) := by decide +kernel
theorem dL_law_362 : decode cL_law 362 = .ok (.aload_n 1, 1) := by decide +kernel
theorem dL_law_363 : decode cL_law 363 = .ok (.aload_n 0, 1) := by decide +kernel
theorem dL_law_364 : decode cL_law 364 = .ok (.iload_n 3, 1) := by decide +kernel
theorem dL_law_365 : decode cL_law 365 = .ok (.iconst 1, 1) := by decide +kernel
theorem dL_law_366 : decode cL_law 366 = .ok (.iadd, 1) := by decide +kernel
theorem dL_law_367 : decode cL_law 367 = .ok (.iaload, 1) := by decide +kernel
theorem dL_law_368 : decode cL_law 368 = .ok (.invokevirtual 32, 3) := by decide +kernel
theorem dL_law_371 : decode cL_law 371 = .ok (.aload_n 2, 1) := by decide +kernel
theorem dL_law_372 : decode cL_law 372 = .ok (.aload_n 0, 1) := by decide +kernel
theorem dL_law_373 : decode cL_law 373 = .ok (.iload_n 3, 1) := by decide +kernel
theorem dL_law_374 : decode cL_law 374 = .ok (.iconst 1, 1) := by decide +kernel
theorem dL_law_375 : decode cL_law 375 = .ok (.iadd, 1) := by decide +kernel
theorem dL_law_376 : decode cL_law 376 = .ok (.iaload, 1) := by decide +kernel
theorem dL_law_377 : decode cL_law 377 = .ok (.invokevirtual 36, 3) := by decide +kernel
theorem dL_law_380 : decode cL_law 380 = .ok (.if_icmp .eq 997, 3) := by decide +kernel
theorem dL_law_383 : decode cL_law 383 = .ok (.iconst 0, 1) := by decide +kernel
theorem dL_law_384 : decode cL_law 384 = .ok (.ireturn, 1) := by decide +kernel
theorem dL_law_385 : decode cL_law 385 = .ok (.aload_n 1, 1) := by decide +kernel
theorem dL_law_386 : decode cL_law 386 = .ok (.aload_n 0, 1) := by decide +kernel
theorem dL_law_387 : decode cL_law 387 = .ok (.iload_n 3, 1) := by decide +kernel
theorem dL_law_388 : decode cL_law 388 = .ok (.iconst 1, 1) := by decide +kernel
theorem dL_law_389 : decode cL_law 389 = .ok (.iadd, 1) := by decide +kernel
theorem dL_law_390 : decode cL_law 390 = .ok (.iaload, 1) := by decide +kernel
theorem dL_law_391 : decode cL_law 391 = .ok (.aload_n 0, 1) := by decide +kernel
theorem dL_law_392 : decode cL_law 392 = .ok (.iload_n 3, 1) := by decide +kernel
theorem dL_law_393 : decode cL_law 393 = .ok (.iconst 2, 1) := by decide +kernel
theorem dL_law_394 : decode cL_law 394 = .ok (.iadd, 1) := by decide +kernel
theorem dL_law_395 : decode cL_law 395 = .ok (.iaload, 1) := by decide +kernel
theorem dL_law_396 : decode cL_law 396 = .ok (.invokevirtual 37, 3) := by decide +kernel
theorem dL_law_399 : decode cL_law 399 = .ok (.aload_n 2, 1) := by decide +kernel
theorem dL_law_400 : decode cL_law 400 = .ok (.aload_n 0, 1) := by decide +kernel
theorem dL_law_401 : decode cL_law 401 = .ok (.iload_n 3, 1) := by decide +kernel
theorem dL_law_402 : decode cL_law 402 = .ok (.iconst 1, 1) := by decide +kernel
theorem dL_law_403 : decode cL_law 403 = .ok (.iadd, 1) := by decide +kernel
theorem dL_law_404 : decode cL_law 404 = .ok (.iaload, 1) := by decide +kernel
theorem dL_law_405 : decode cL_law 405 = .ok (.aload_n 0, 1) := by decide +kernel
theorem dL_law_406 : decode cL_law 406 = .ok (.iload_n 3, 1) := by decide +kernel
theorem dL_law_407 : decode cL_law 407 = .ok (.iconst 2, 1) := by decide +kernel
theorem dL_law_408 : decode cL_law 408 = .ok (.iadd, 1) := by decide +kernel
theorem dL_law_409 : decode cL_law 409 = .ok (.iaload, 1) := by decide +kernel
theorem dL_law_410 : decode cL_law 410 = .ok (.invokevirtual 40, 3) := by decide +kernel
theorem dL_law_413 : decode cL_law 413 = .ok (.if_icmp .eq 964, 3) := by decide +kernel
theorem dL_law_416 : decode cL_law 416 = .ok (.iconst 0, 1) := by decide +kernel
theorem dL_law_417 : decode cL_law 417 = .ok (.ireturn, 1) := by decide +kernel
theorem dL_law_418 : decode cL_law 418 = .ok (.aload_n 1, 1) := by decide +kernel
theorem dL_law_419 : decode cL_law 419 = .ok (.aload_n 0, 1) := by decide +kernel
theorem dL_law_420 : decode cL_law 420 = .ok (.iload_n 3, 1) := by decide +kernel
theorem dL_law_421 : decode cL_law 421 = .ok (.iconst 1, 1) := by decide +kernel
theorem dL_law_422 : decode cL_law 422 = .ok (.iadd, 1) := by decide +kernel
theorem dL_law_423 : decode cL_law 423 = .ok (.iaload, 1) := by decide +kernel
theorem dL_law_424 : decode cL_law 424 = .ok (.aload_n 0, 1) := by decide +kernel
theorem dL_law_425 : decode cL_law 425 = .ok (.iload_n 3, 1) := by decide +kernel
theorem dL_law_426 : decode cL_law 426 = .ok (.iconst 2, 1) := by decide +kernel
theorem dL_law_427 : decode cL_law 427 = .ok (.iadd, 1) := by decide +kernel
theorem dL_law_428 : decode cL_law 428 = .ok (.iaload, 1) := by decide +kernel
theorem dL_law_429 : decode cL_law 429 = .ok (.invokevirtual 41, 3) := by decide +kernel
theorem dL_law_432 : decode cL_law 432 = .ok (.aload_n 2, 1) := by decide +kernel
theorem dL_law_433 : decode cL_law 433 = .ok (.aload_n 0, 1) := by decide +kernel
theorem dL_law_434 : decode cL_law 434 = .ok (.iload_n 3, 1) := by decide +kernel
theorem dL_law_435 : decode cL_law 435 = .ok (.iconst 1, 1) := by decide +kernel
theorem dL_law_436 : decode cL_law 436 = .ok (.iadd, 1) := by decide +kernel
theorem dL_law_437 : decode cL_law 437 = .ok (.iaload, 1) := by decide +kernel
theorem dL_law_438 : decode cL_law 438 = .ok (.aload_n 0, 1) := by decide +kernel
theorem dL_law_439 : decode cL_law 439 = .ok (.iload_n 3, 1) := by decide +kernel
theorem dL_law_440 : decode cL_law 440 = .ok (.iconst 2, 1) := by decide +kernel
theorem dL_law_441 : decode cL_law 441 = .ok (.iadd, 1) := by decide +kernel
theorem dL_law_442 : decode cL_law 442 = .ok (.iaload, 1) := by decide +kernel
theorem dL_law_443 : decode cL_law 443 = .ok (.invokevirtual 45, 3) := by decide +kernel
theorem dL_law_446 : decode cL_law 446 = .ok (.lcmp, 1) := by decide +kernel
theorem dL_law_447 : decode cL_law 447 = .ok (.ifCond .eq 930, 3) := by decide +kernel
theorem dL_law_450 : decode cL_law 450 = .ok (.iconst 0, 1) := by decide +kernel
theorem dL_law_451 : decode cL_law 451 = .ok (.ireturn, 1) := by decide +kernel
theorem dL_law_452 : decode cL_law 452 = .ok (.aload_n 1, 1) := by decide +kernel
theorem dL_law_453 : decode cL_law 453 = .ok (.aload_n 0, 1) := by decide +kernel
theorem dL_law_454 : decode cL_law 454 = .ok (.iload_n 3, 1) := by decide +kernel
theorem dL_law_455 : decode cL_law 455 = .ok (.iconst 1, 1) := by decide +kernel
theorem dL_law_456 : decode cL_law 456 = .ok (.iadd, 1) := by decide +kernel
theorem dL_law_457 : decode cL_law 457 = .ok (.iaload, 1) := by decide +kernel
theorem dL_law_458 : decode cL_law 458 = .ok (.aload_n 0, 1) := by decide +kernel
theorem dL_law_459 : decode cL_law 459 = .ok (.iload_n 3, 1) := by decide +kernel
theorem dL_law_460 : decode cL_law 460 = .ok (.iconst 2, 1) := by decide +kernel
theorem dL_law_461 : decode cL_law 461 = .ok (.iadd, 1) := by decide +kernel
theorem dL_law_462 : decode cL_law 462 = .ok (.iaload, 1) := by decide +kernel
theorem dL_law_463 : decode cL_law 463 = .ok (.invokevirtual 46, 3) := by decide +kernel
theorem dL_law_466 : decode cL_law 466 = .ok (.aload_n 2, 1) := by decide +kernel
theorem dL_law_467 : decode cL_law 467 = .ok (.aload_n 0, 1) := by decide +kernel
theorem dL_law_468 : decode cL_law 468 = .ok (.iload_n 3, 1) := by decide +kernel
theorem dL_law_469 : decode cL_law 469 = .ok (.iconst 1, 1) := by decide +kernel
theorem dL_law_470 : decode cL_law 470 = .ok (.iadd, 1) := by decide +kernel
theorem dL_law_471 : decode cL_law 471 = .ok (.iaload, 1) := by decide +kernel
theorem dL_law_472 : decode cL_law 472 = .ok (.aload_n 0, 1) := by decide +kernel
theorem dL_law_473 : decode cL_law 473 = .ok (.iload_n 3, 1) := by decide +kernel
theorem dL_law_474 : decode cL_law 474 = .ok (.iconst 2, 1) := by decide +kernel
theorem dL_law_475 : decode cL_law 475 = .ok (.iadd, 1) := by decide +kernel
theorem dL_law_476 : decode cL_law 476 = .ok (.iaload, 1) := by decide +kernel
theorem dL_law_477 : decode cL_law 477 = .ok (.invokevirtual 49, 3) := by decide +kernel
theorem dL_law_480 : decode cL_law 480 = .ok (.if_icmp .eq 897, 3) := by decide +kernel
theorem dL_law_483 : decode cL_law 483 = .ok (.iconst 0, 1) := by decide +kernel
theorem dL_law_484 : decode cL_law 484 = .ok (.ireturn, 1) := by decide +kernel
theorem dL_law_485 : decode cL_law 485 = .ok (.aload_n 1, 1) := by decide +kernel
theorem dL_law_486 : decode cL_law 486 = .ok (.aload_n 0, 1) := by decide +kernel
theorem dL_law_487 : decode cL_law 487 = .ok (.iload_n 3, 1) := by decide +kernel
theorem dL_law_488 : decode cL_law 488 = .ok (.iconst 1, 1) := by decide +kernel
theorem dL_law_489 : decode cL_law 489 = .ok (.iadd, 1) := by decide +kernel
theorem dL_law_490 : decode cL_law 490 = .ok (.iaload, 1) := by decide +kernel
theorem dL_law_491 : decode cL_law 491 = .ok (.aload_n 0, 1) := by decide +kernel
theorem dL_law_492 : decode cL_law 492 = .ok (.iload_n 3, 1) := by decide +kernel
theorem dL_law_493 : decode cL_law 493 = .ok (.iconst 2, 1) := by decide +kernel
theorem dL_law_494 : decode cL_law 494 = .ok (.iadd, 1) := by decide +kernel
theorem dL_law_495 : decode cL_law 495 = .ok (.iaload, 1) := by decide +kernel
theorem dL_law_496 : decode cL_law 496 = .ok (.invokevirtual 50, 3) := by decide +kernel
theorem dL_law_499 : decode cL_law 499 = .ok (.aload_n 2, 1) := by decide +kernel
theorem dL_law_500 : decode cL_law 500 = .ok (.aload_n 0, 1) := by decide +kernel
theorem dL_law_501 : decode cL_law 501 = .ok (.iload_n 3, 1) := by decide +kernel
theorem dL_law_502 : decode cL_law 502 = .ok (.iconst 1, 1) := by decide +kernel
theorem dL_law_503 : decode cL_law 503 = .ok (.iadd, 1) := by decide +kernel
theorem dL_law_504 : decode cL_law 504 = .ok (.iaload, 1) := by decide +kernel
theorem dL_law_505 : decode cL_law 505 = .ok (.aload_n 0, 1) := by decide +kernel
theorem dL_law_506 : decode cL_law 506 = .ok (.iload_n 3, 1) := by decide +kernel
theorem dL_law_507 : decode cL_law 507 = .ok (.iconst 2, 1) := by decide +kernel
theorem dL_law_508 : decode cL_law 508 = .ok (.iadd, 1) := by decide +kernel
theorem dL_law_509 : decode cL_law 509 = .ok (.iaload, 1) := by decide +kernel
theorem dL_law_510 : decode cL_law 510 = .ok (.invokevirtual 53, 3) := by decide +kernel
theorem dL_law_513 : decode cL_law 513 = .ok (.if_icmp .eq 864, 3) := by decide +kernel
theorem dL_law_516 : decode cL_law 516 = .ok (.iconst 0, 1) := by decide +kernel
theorem dL_law_517 : decode cL_law 517 = .ok (.ireturn, 1) := by decide +kernel
theorem dL_law_518 : decode cL_law 518 = .ok (.aload_n 1, 1) := by decide +kernel
theorem dL_law_519 : decode cL_law 519 = .ok (.aload_n 0, 1) := by decide +kernel
theorem dL_law_520 : decode cL_law 520 = .ok (.iload_n 3, 1) := by decide +kernel
theorem dL_law_521 : decode cL_law 521 = .ok (.iconst 1, 1) := by decide +kernel
theorem dL_law_522 : decode cL_law 522 = .ok (.iadd, 1) := by decide +kernel
theorem dL_law_523 : decode cL_law 523 = .ok (.iaload, 1) := by decide +kernel
theorem dL_law_524 : decode cL_law 524 = .ok (.aload_n 0, 1) := by decide +kernel
theorem dL_law_525 : decode cL_law 525 = .ok (.iload_n 3, 1) := by decide +kernel
theorem dL_law_526 : decode cL_law 526 = .ok (.iconst 2, 1) := by decide +kernel
theorem dL_law_527 : decode cL_law 527 = .ok (.iadd, 1) := by decide +kernel
theorem dL_law_528 : decode cL_law 528 = .ok (.iaload, 1) := by decide +kernel
theorem dL_law_529 : decode cL_law 529 = .ok (.invokevirtual 54, 3) := by decide +kernel
theorem dL_law_532 : decode cL_law 532 = .ok (.aload_n 2, 1) := by decide +kernel
theorem dL_law_533 : decode cL_law 533 = .ok (.aload_n 0, 1) := by decide +kernel
theorem dL_law_534 : decode cL_law 534 = .ok (.iload_n 3, 1) := by decide +kernel
theorem dL_law_535 : decode cL_law 535 = .ok (.iconst 1, 1) := by decide +kernel
theorem dL_law_536 : decode cL_law 536 = .ok (.iadd, 1) := by decide +kernel
theorem dL_law_537 : decode cL_law 537 = .ok (.iaload, 1) := by decide +kernel
theorem dL_law_538 : decode cL_law 538 = .ok (.aload_n 0, 1) := by decide +kernel
theorem dL_law_539 : decode cL_law 539 = .ok (.iload_n 3, 1) := by decide +kernel
theorem dL_law_540 : decode cL_law 540 = .ok (.iconst 2, 1) := by decide +kernel
theorem dL_law_541 : decode cL_law 541 = .ok (.iadd, 1) := by decide +kernel
theorem dL_law_542 : decode cL_law 542 = .ok (.iaload, 1) := by decide +kernel
theorem dL_law_543 : decode cL_law 543 = .ok (.invokevirtual 57, 3) := by decide +kernel
theorem dL_law_546 : decode cL_law 546 = .ok (.if_icmp .eq 831, 3) := by decide +kernel
theorem dL_law_549 : decode cL_law 549 = .ok (.iconst 0, 1) := by decide +kernel
theorem dL_law_550 : decode cL_law 550 = .ok (.ireturn, 1) := by decide +kernel
theorem dL_law_551 : decode cL_law 551 = .ok (.aload_n 1, 1) := by decide +kernel
theorem dL_law_552 : decode cL_law 552 = .ok (.aload_n 0, 1) := by decide +kernel
theorem dL_law_553 : decode cL_law 553 = .ok (.iload_n 3, 1) := by decide +kernel
theorem dL_law_554 : decode cL_law 554 = .ok (.iconst 1, 1) := by decide +kernel
theorem dL_law_555 : decode cL_law 555 = .ok (.iadd, 1) := by decide +kernel
theorem dL_law_556 : decode cL_law 556 = .ok (.iaload, 1) := by decide +kernel
theorem dL_law_557 : decode cL_law 557 = .ok (.aload_n 0, 1) := by decide +kernel
theorem dL_law_558 : decode cL_law 558 = .ok (.iload_n 3, 1) := by decide +kernel
theorem dL_law_559 : decode cL_law 559 = .ok (.iconst 2, 1) := by decide +kernel
theorem dL_law_560 : decode cL_law 560 = .ok (.iadd, 1) := by decide +kernel
theorem dL_law_561 : decode cL_law 561 = .ok (.iaload, 1) := by decide +kernel
theorem dL_law_562 : decode cL_law 562 = .ok (.aload_n 0, 1) := by decide +kernel
theorem dL_law_563 : decode cL_law 563 = .ok (.iload_n 3, 1) := by decide +kernel
theorem dL_law_564 : decode cL_law 564 = .ok (.iconst 3, 1) := by decide +kernel
theorem dL_law_565 : decode cL_law 565 = .ok (.iadd, 1) := by decide +kernel
theorem dL_law_566 : decode cL_law 566 = .ok (.iaload, 1) := by decide +kernel
theorem dL_law_567 : decode cL_law 567 = .ok (.invokevirtual 58, 3) := by decide +kernel
theorem dL_law_570 : decode cL_law 570 = .ok (.aload_n 2, 1) := by decide +kernel
theorem dL_law_571 : decode cL_law 571 = .ok (.aload_n 0, 1) := by decide +kernel
theorem dL_law_572 : decode cL_law 572 = .ok (.iload_n 3, 1) := by decide +kernel
theorem dL_law_573 : decode cL_law 573 = .ok (.iconst 1, 1) := by decide +kernel
theorem dL_law_574 : decode cL_law 574 = .ok (.iadd, 1) := by decide +kernel
theorem dL_law_575 : decode cL_law 575 = .ok (.iaload, 1) := by decide +kernel
theorem dL_law_576 : decode cL_law 576 = .ok (.aload_n 0, 1) := by decide +kernel
theorem dL_law_577 : decode cL_law 577 = .ok (.iload_n 3, 1) := by decide +kernel
theorem dL_law_578 : decode cL_law 578 = .ok (.iconst 2, 1) := by decide +kernel
theorem dL_law_579 : decode cL_law 579 = .ok (.iadd, 1) := by decide +kernel
theorem dL_law_580 : decode cL_law 580 = .ok (.iaload, 1) := by decide +kernel
theorem dL_law_581 : decode cL_law 581 = .ok (.aload_n 0, 1) := by decide +kernel
theorem dL_law_582 : decode cL_law 582 = .ok (.iload_n 3, 1) := by decide +kernel
theorem dL_law_583 : decode cL_law 583 = .ok (.iconst 3, 1) := by decide +kernel
theorem dL_law_584 : decode cL_law 584 = .ok (.iadd, 1) := by decide +kernel
theorem dL_law_585 : decode cL_law 585 = .ok (.iaload, 1) := by decide +kernel
theorem dL_law_586 : decode cL_law 586 = .ok (.invokevirtual 62, 3) := by decide +kernel
theorem dL_law_589 : decode cL_law 589 = .ok (.lcmp, 1) := by decide +kernel
theorem dL_law_590 : decode cL_law 590 = .ok (.ifCond .eq 787, 3) := by decide +kernel
theorem dL_law_593 : decode cL_law 593 = .ok (.iconst 0, 1) := by decide +kernel
theorem dL_law_594 : decode cL_law 594 = .ok (.ireturn, 1) := by decide +kernel
theorem dL_law_595 : decode cL_law 595 = .ok (.aload_n 1, 1) := by decide +kernel
theorem dL_law_596 : decode cL_law 596 = .ok (.aload_n 0, 1) := by decide +kernel
theorem dL_law_597 : decode cL_law 597 = .ok (.iload_n 3, 1) := by decide +kernel
theorem dL_law_598 : decode cL_law 598 = .ok (.iconst 1, 1) := by decide +kernel
theorem dL_law_599 : decode cL_law 599 = .ok (.iadd, 1) := by decide +kernel
theorem dL_law_600 : decode cL_law 600 = .ok (.iaload, 1) := by decide +kernel
theorem dL_law_601 : decode cL_law 601 = .ok (.aload_n 0, 1) := by decide +kernel
theorem dL_law_602 : decode cL_law 602 = .ok (.iload_n 3, 1) := by decide +kernel
theorem dL_law_603 : decode cL_law 603 = .ok (.iconst 2, 1) := by decide +kernel
theorem dL_law_604 : decode cL_law 604 = .ok (.iadd, 1) := by decide +kernel
theorem dL_law_605 : decode cL_law 605 = .ok (.iaload, 1) := by decide +kernel
theorem dL_law_606 : decode cL_law 606 = .ok (.aload_n 0, 1) := by decide +kernel
theorem dL_law_607 : decode cL_law 607 = .ok (.iload_n 3, 1) := by decide +kernel
theorem dL_law_608 : decode cL_law 608 = .ok (.iconst 3, 1) := by decide +kernel
theorem dL_law_609 : decode cL_law 609 = .ok (.iadd, 1) := by decide +kernel
theorem dL_law_610 : decode cL_law 610 = .ok (.iaload, 1) := by decide +kernel
theorem dL_law_611 : decode cL_law 611 = .ok (.invokevirtual 63, 3) := by decide +kernel
theorem dL_law_614 : decode cL_law 614 = .ok (.aload_n 2, 1) := by decide +kernel
theorem dL_law_615 : decode cL_law 615 = .ok (.aload_n 0, 1) := by decide +kernel
theorem dL_law_616 : decode cL_law 616 = .ok (.iload_n 3, 1) := by decide +kernel
theorem dL_law_617 : decode cL_law 617 = .ok (.iconst 1, 1) := by decide +kernel
theorem dL_law_618 : decode cL_law 618 = .ok (.iadd, 1) := by decide +kernel
theorem dL_law_619 : decode cL_law 619 = .ok (.iaload, 1) := by decide +kernel
theorem dL_law_620 : decode cL_law 620 = .ok (.aload_n 0, 1) := by decide +kernel
theorem dL_law_621 : decode cL_law 621 = .ok (.iload_n 3, 1) := by decide +kernel
theorem dL_law_622 : decode cL_law 622 = .ok (.iconst 2, 1) := by decide +kernel
theorem dL_law_623 : decode cL_law 623 = .ok (.iadd, 1) := by decide +kernel
theorem dL_law_624 : decode cL_law 624 = .ok (.iaload, 1) := by decide +kernel
theorem dL_law_625 : decode cL_law 625 = .ok (.aload_n 0, 1) := by decide +kernel
theorem dL_law_626 : decode cL_law 626 = .ok (.iload_n 3, 1) := by decide +kernel
theorem dL_law_627 : decode cL_law 627 = .ok (.iconst 3, 1) := by decide +kernel
theorem dL_law_628 : decode cL_law 628 = .ok (.iadd, 1) := by decide +kernel
theorem dL_law_629 : decode cL_law 629 = .ok (.iaload, 1) := by decide +kernel
theorem dL_law_630 : decode cL_law 630 = .ok (.invokevirtual 66, 3) := by decide +kernel
theorem dL_law_633 : decode cL_law 633 = .ok (.if_icmp .eq 744, 3) := by decide +kernel
theorem dL_law_636 : decode cL_law 636 = .ok (.iconst 0, 1) := by decide +kernel
theorem dL_law_637 : decode cL_law 637 = .ok (.ireturn, 1) := by decide +kernel
theorem dL_law_638 : decode cL_law 638 = .ok (.aload_n 1, 1) := by decide +kernel
theorem dL_law_639 : decode cL_law 639 = .ok (.aload_n 0, 1) := by decide +kernel
theorem dL_law_640 : decode cL_law 640 = .ok (.iload_n 3, 1) := by decide +kernel
theorem dL_law_641 : decode cL_law 641 = .ok (.iconst 1, 1) := by decide +kernel
theorem dL_law_642 : decode cL_law 642 = .ok (.iadd, 1) := by decide +kernel
theorem dL_law_643 : decode cL_law 643 = .ok (.iaload, 1) := by decide +kernel
theorem dL_law_644 : decode cL_law 644 = .ok (.aload_n 0, 1) := by decide +kernel
theorem dL_law_645 : decode cL_law 645 = .ok (.iload_n 3, 1) := by decide +kernel
theorem dL_law_646 : decode cL_law 646 = .ok (.iconst 2, 1) := by decide +kernel
theorem dL_law_647 : decode cL_law 647 = .ok (.iadd, 1) := by decide +kernel
theorem dL_law_648 : decode cL_law 648 = .ok (.iaload, 1) := by decide +kernel
theorem dL_law_649 : decode cL_law 649 = .ok (.aload_n 0, 1) := by decide +kernel
theorem dL_law_650 : decode cL_law 650 = .ok (.iload_n 3, 1) := by decide +kernel
theorem dL_law_651 : decode cL_law 651 = .ok (.iconst 3, 1) := by decide +kernel
theorem dL_law_652 : decode cL_law 652 = .ok (.iadd, 1) := by decide +kernel
theorem dL_law_653 : decode cL_law 653 = .ok (.iaload, 1) := by decide +kernel
theorem dL_law_654 : decode cL_law 654 = .ok (.invokevirtual 67, 3) := by decide +kernel
theorem dL_law_657 : decode cL_law 657 = .ok (.aload_n 2, 1) := by decide +kernel
theorem dL_law_658 : decode cL_law 658 = .ok (.aload_n 0, 1) := by decide +kernel
theorem dL_law_659 : decode cL_law 659 = .ok (.iload_n 3, 1) := by decide +kernel
theorem dL_law_660 : decode cL_law 660 = .ok (.iconst 1, 1) := by decide +kernel
theorem dL_law_661 : decode cL_law 661 = .ok (.iadd, 1) := by decide +kernel
theorem dL_law_662 : decode cL_law 662 = .ok (.iaload, 1) := by decide +kernel
theorem dL_law_663 : decode cL_law 663 = .ok (.aload_n 0, 1) := by decide +kernel
theorem dL_law_664 : decode cL_law 664 = .ok (.iload_n 3, 1) := by decide +kernel
theorem dL_law_665 : decode cL_law 665 = .ok (.iconst 2, 1) := by decide +kernel
theorem dL_law_666 : decode cL_law 666 = .ok (.iadd, 1) := by decide +kernel
theorem dL_law_667 : decode cL_law 667 = .ok (.iaload, 1) := by decide +kernel
theorem dL_law_668 : decode cL_law 668 = .ok (.aload_n 0, 1) := by decide +kernel
theorem dL_law_669 : decode cL_law 669 = .ok (.iload_n 3, 1) := by decide +kernel
theorem dL_law_670 : decode cL_law 670 = .ok (.iconst 3, 1) := by decide +kernel
theorem dL_law_671 : decode cL_law 671 = .ok (.iadd, 1) := by decide +kernel
theorem dL_law_672 : decode cL_law 672 = .ok (.iaload, 1) := by decide +kernel
theorem dL_law_673 : decode cL_law 673 = .ok (.invokevirtual 70, 3) := by decide +kernel
theorem dL_law_676 : decode cL_law 676 = .ok (.lcmp, 1) := by decide +kernel
theorem dL_law_677 : decode cL_law 677 = .ok (.ifCond .eq 700, 3) := by decide +kernel
theorem dL_law_680 : decode cL_law 680 = .ok (.iconst 0, 1) := by decide +kernel
theorem dL_law_681 : decode cL_law 681 = .ok (.ireturn, 1) := by decide +kernel
theorem dL_law_682 : decode cL_law 682 = .ok (.aload_n 1, 1) := by decide +kernel
theorem dL_law_683 : decode cL_law 683 = .ok (.aload_n 0, 1) := by decide +kernel
theorem dL_law_684 : decode cL_law 684 = .ok (.iload_n 3, 1) := by decide +kernel
theorem dL_law_685 : decode cL_law 685 = .ok (.iconst 1, 1) := by decide +kernel
theorem dL_law_686 : decode cL_law 686 = .ok (.iadd, 1) := by decide +kernel
theorem dL_law_687 : decode cL_law 687 = .ok (.iaload, 1) := by decide +kernel
theorem dL_law_688 : decode cL_law 688 = .ok (.aload_n 0, 1) := by decide +kernel
theorem dL_law_689 : decode cL_law 689 = .ok (.iload_n 3, 1) := by decide +kernel
theorem dL_law_690 : decode cL_law 690 = .ok (.iconst 2, 1) := by decide +kernel
theorem dL_law_691 : decode cL_law 691 = .ok (.iadd, 1) := by decide +kernel
theorem dL_law_692 : decode cL_law 692 = .ok (.iaload, 1) := by decide +kernel
theorem dL_law_693 : decode cL_law 693 = .ok (.aload_n 0, 1) := by decide +kernel
theorem dL_law_694 : decode cL_law 694 = .ok (.iload_n 3, 1) := by decide +kernel
theorem dL_law_695 : decode cL_law 695 = .ok (.iconst 3, 1) := by decide +kernel
theorem dL_law_696 : decode cL_law 696 = .ok (.iadd, 1) := by decide +kernel
theorem dL_law_697 : decode cL_law 697 = .ok (.iaload, 1) := by decide +kernel
theorem dL_law_698 : decode cL_law 698 = .ok (.invokevirtual 71, 3) := by decide +kernel
theorem dL_law_701 : decode cL_law 701 = .ok (.aload_n 2, 1) := by decide +kernel
theorem dL_law_702 : decode cL_law 702 = .ok (.aload_n 0, 1) := by decide +kernel
theorem dL_law_703 : decode cL_law 703 = .ok (.iload_n 3, 1) := by decide +kernel
theorem dL_law_704 : decode cL_law 704 = .ok (.iconst 1, 1) := by decide +kernel
theorem dL_law_705 : decode cL_law 705 = .ok (.iadd, 1) := by decide +kernel
theorem dL_law_706 : decode cL_law 706 = .ok (.iaload, 1) := by decide +kernel
theorem dL_law_707 : decode cL_law 707 = .ok (.aload_n 0, 1) := by decide +kernel
theorem dL_law_708 : decode cL_law 708 = .ok (.iload_n 3, 1) := by decide +kernel
theorem dL_law_709 : decode cL_law 709 = .ok (.iconst 2, 1) := by decide +kernel
theorem dL_law_710 : decode cL_law 710 = .ok (.iadd, 1) := by decide +kernel
theorem dL_law_711 : decode cL_law 711 = .ok (.iaload, 1) := by decide +kernel
theorem dL_law_712 : decode cL_law 712 = .ok (.aload_n 0, 1) := by decide +kernel
theorem dL_law_713 : decode cL_law 713 = .ok (.iload_n 3, 1) := by decide +kernel
theorem dL_law_714 : decode cL_law 714 = .ok (.iconst 3, 1) := by decide +kernel
theorem dL_law_715 : decode cL_law 715 = .ok (.iadd, 1) := by decide +kernel
theorem dL_law_716 : decode cL_law 716 = .ok (.iaload, 1) := by decide +kernel
theorem dL_law_717 : decode cL_law 717 = .ok (.invokevirtual 74, 3) := by decide +kernel
theorem dL_law_720 : decode cL_law 720 = .ok (.if_icmp .eq 657, 3) := by decide +kernel
theorem dL_law_723 : decode cL_law 723 = .ok (.iconst 0, 1) := by decide +kernel
theorem dL_law_724 : decode cL_law 724 = .ok (.ireturn, 1) := by decide +kernel
theorem dL_law_725 : decode cL_law 725 = .ok (.aload_n 1, 1) := by decide +kernel
theorem dL_law_726 : decode cL_law 726 = .ok (.aload_n 0, 1) := by decide +kernel
theorem dL_law_727 : decode cL_law 727 = .ok (.iload_n 3, 1) := by decide +kernel
theorem dL_law_728 : decode cL_law 728 = .ok (.iconst 1, 1) := by decide +kernel
theorem dL_law_729 : decode cL_law 729 = .ok (.iadd, 1) := by decide +kernel
theorem dL_law_730 : decode cL_law 730 = .ok (.iaload, 1) := by decide +kernel
theorem dL_law_731 : decode cL_law 731 = .ok (.aload_n 0, 1) := by decide +kernel
theorem dL_law_732 : decode cL_law 732 = .ok (.iload_n 3, 1) := by decide +kernel
theorem dL_law_733 : decode cL_law 733 = .ok (.iconst 2, 1) := by decide +kernel
theorem dL_law_734 : decode cL_law 734 = .ok (.iadd, 1) := by decide +kernel
theorem dL_law_735 : decode cL_law 735 = .ok (.iaload, 1) := by decide +kernel
theorem dL_law_736 : decode cL_law 736 = .ok (.invokevirtual 75, 3) := by decide +kernel
theorem dL_law_739 : decode cL_law 739 = .ok (.aload_n 2, 1) := by decide +kernel
theorem dL_law_740 : decode cL_law 740 = .ok (.aload_n 0, 1) := by decide +kernel
theorem dL_law_741 : decode cL_law 741 = .ok (.iload_n 3, 1) := by decide +kernel
theorem dL_law_742 : decode cL_law 742 = .ok (.iconst 1, 1) := by decide +kernel
theorem dL_law_743 : decode cL_law 743 = .ok (.iadd, 1) := by decide +kernel
theorem dL_law_744 : decode cL_law 744 = .ok (.iaload, 1) := by decide +kernel
theorem dL_law_745 : decode cL_law 745 = .ok (.aload_n 0, 1) := by decide +kernel
theorem dL_law_746 : decode cL_law 746 = .ok (.iload_n 3, 1) := by decide +kernel
theorem dL_law_747 : decode cL_law 747 = .ok (.iconst 2, 1) := by decide +kernel
theorem dL_law_748 : decode cL_law 748 = .ok (.iadd, 1) := by decide +kernel
theorem dL_law_749 : decode cL_law 749 = .ok (.iaload, 1) := by decide +kernel
theorem dL_law_750 : decode cL_law 750 = .ok (.invokevirtual 78, 3) := by decide +kernel
theorem dL_law_753 : decode cL_law 753 = .ok (.if_icmp .eq 624, 3) := by decide +kernel
theorem dL_law_756 : decode cL_law 756 = .ok (.iconst 0, 1) := by decide +kernel
theorem dL_law_757 : decode cL_law 757 = .ok (.ireturn, 1) := by decide +kernel
theorem dL_law_758 : decode cL_law 758 = .ok (.aload_n 1, 1) := by decide +kernel
theorem dL_law_759 : decode cL_law 759 = .ok (.aload_n 0, 1) := by decide +kernel
theorem dL_law_760 : decode cL_law 760 = .ok (.iload_n 3, 1) := by decide +kernel
theorem dL_law_761 : decode cL_law 761 = .ok (.iconst 1, 1) := by decide +kernel
theorem dL_law_762 : decode cL_law 762 = .ok (.iadd, 1) := by decide +kernel
theorem dL_law_763 : decode cL_law 763 = .ok (.iaload, 1) := by decide +kernel
theorem dL_law_764 : decode cL_law 764 = .ok (.aload_n 0, 1) := by decide +kernel
theorem dL_law_765 : decode cL_law 765 = .ok (.iload_n 3, 1) := by decide +kernel
theorem dL_law_766 : decode cL_law 766 = .ok (.iconst 2, 1) := by decide +kernel
theorem dL_law_767 : decode cL_law 767 = .ok (.iadd, 1) := by decide +kernel
theorem dL_law_768 : decode cL_law 768 = .ok (.iaload, 1) := by decide +kernel
theorem dL_law_769 : decode cL_law 769 = .ok (.invokevirtual 79, 3) := by decide +kernel
theorem dL_law_772 : decode cL_law 772 = .ok (.aload_n 2, 1) := by decide +kernel
theorem dL_law_773 : decode cL_law 773 = .ok (.aload_n 0, 1) := by decide +kernel
theorem dL_law_774 : decode cL_law 774 = .ok (.iload_n 3, 1) := by decide +kernel
theorem dL_law_775 : decode cL_law 775 = .ok (.iconst 1, 1) := by decide +kernel
theorem dL_law_776 : decode cL_law 776 = .ok (.iadd, 1) := by decide +kernel
theorem dL_law_777 : decode cL_law 777 = .ok (.iaload, 1) := by decide +kernel
theorem dL_law_778 : decode cL_law 778 = .ok (.aload_n 0, 1) := by decide +kernel
theorem dL_law_779 : decode cL_law 779 = .ok (.iload_n 3, 1) := by decide +kernel
theorem dL_law_780 : decode cL_law 780 = .ok (.iconst 2, 1) := by decide +kernel
theorem dL_law_781 : decode cL_law 781 = .ok (.iadd, 1) := by decide +kernel
theorem dL_law_782 : decode cL_law 782 = .ok (.iaload, 1) := by decide +kernel
theorem dL_law_783 : decode cL_law 783 = .ok (.invokevirtual 82, 3) := by decide +kernel
theorem dL_law_786 : decode cL_law 786 = .ok (.if_icmp .eq 591, 3) := by decide +kernel
theorem dL_law_789 : decode cL_law 789 = .ok (.iconst 0, 1) := by decide +kernel
theorem dL_law_790 : decode cL_law 790 = .ok (.ireturn, 1) := by decide +kernel
theorem dL_law_791 : decode cL_law 791 = .ok (.aload_n 1, 1) := by decide +kernel
theorem dL_law_792 : decode cL_law 792 = .ok (.aload_n 0, 1) := by decide +kernel
theorem dL_law_793 : decode cL_law 793 = .ok (.iload_n 3, 1) := by decide +kernel
theorem dL_law_794 : decode cL_law 794 = .ok (.iconst 1, 1) := by decide +kernel
theorem dL_law_795 : decode cL_law 795 = .ok (.iadd, 1) := by decide +kernel
theorem dL_law_796 : decode cL_law 796 = .ok (.iaload, 1) := by decide +kernel
theorem dL_law_797 : decode cL_law 797 = .ok (.aload_n 0, 1) := by decide +kernel
theorem dL_law_798 : decode cL_law 798 = .ok (.iload_n 3, 1) := by decide +kernel
theorem dL_law_799 : decode cL_law 799 = .ok (.iconst 2, 1) := by decide +kernel
theorem dL_law_800 : decode cL_law 800 = .ok (.iadd, 1) := by decide +kernel
theorem dL_law_801 : decode cL_law 801 = .ok (.iaload, 1) := by decide +kernel
theorem dL_law_802 : decode cL_law 802 = .ok (.invokevirtual 83, 3) := by decide +kernel
theorem dL_law_805 : decode cL_law 805 = .ok (.aload_n 2, 1) := by decide +kernel
theorem dL_law_806 : decode cL_law 806 = .ok (.aload_n 0, 1) := by decide +kernel
theorem dL_law_807 : decode cL_law 807 = .ok (.iload_n 3, 1) := by decide +kernel
theorem dL_law_808 : decode cL_law 808 = .ok (.iconst 1, 1) := by decide +kernel
theorem dL_law_809 : decode cL_law 809 = .ok (.iadd, 1) := by decide +kernel
theorem dL_law_810 : decode cL_law 810 = .ok (.iaload, 1) := by decide +kernel
theorem dL_law_811 : decode cL_law 811 = .ok (.aload_n 0, 1) := by decide +kernel
theorem dL_law_812 : decode cL_law 812 = .ok (.iload_n 3, 1) := by decide +kernel
theorem dL_law_813 : decode cL_law 813 = .ok (.iconst 2, 1) := by decide +kernel
theorem dL_law_814 : decode cL_law 814 = .ok (.iadd, 1) := by decide +kernel
theorem dL_law_815 : decode cL_law 815 = .ok (.iaload, 1) := by decide +kernel
theorem dL_law_816 : decode cL_law 816 = .ok (.invokevirtual 86, 3) := by decide +kernel
theorem dL_law_819 : decode cL_law 819 = .ok (.if_icmp .eq 558, 3) := by decide +kernel
theorem dL_law_822 : decode cL_law 822 = .ok (.iconst 0, 1) := by decide +kernel
theorem dL_law_823 : decode cL_law 823 = .ok (.ireturn, 1) := by decide +kernel
theorem dL_law_824 : decode cL_law 824 = .ok (.aload_n 1, 1) := by decide +kernel
theorem dL_law_825 : decode cL_law 825 = .ok (.aload_n 0, 1) := by decide +kernel
theorem dL_law_826 : decode cL_law 826 = .ok (.iload_n 3, 1) := by decide +kernel
theorem dL_law_827 : decode cL_law 827 = .ok (.iconst 1, 1) := by decide +kernel
theorem dL_law_828 : decode cL_law 828 = .ok (.iadd, 1) := by decide +kernel
theorem dL_law_829 : decode cL_law 829 = .ok (.iaload, 1) := by decide +kernel
theorem dL_law_830 : decode cL_law 830 = .ok (.aload_n 0, 1) := by decide +kernel
theorem dL_law_831 : decode cL_law 831 = .ok (.iload_n 3, 1) := by decide +kernel
theorem dL_law_832 : decode cL_law 832 = .ok (.iconst 2, 1) := by decide +kernel
theorem dL_law_833 : decode cL_law 833 = .ok (.iadd, 1) := by decide +kernel
theorem dL_law_834 : decode cL_law 834 = .ok (.iaload, 1) := by decide +kernel
theorem dL_law_835 : decode cL_law 835 = .ok (.aload_n 0, 1) := by decide +kernel
theorem dL_law_836 : decode cL_law 836 = .ok (.iload_n 3, 1) := by decide +kernel
theorem dL_law_837 : decode cL_law 837 = .ok (.iconst 3, 1) := by decide +kernel
theorem dL_law_838 : decode cL_law 838 = .ok (.iadd, 1) := by decide +kernel
theorem dL_law_839 : decode cL_law 839 = .ok (.iaload, 1) := by decide +kernel
theorem dL_law_840 : decode cL_law 840 = .ok (.invokevirtual 87, 3) := by decide +kernel
theorem dL_law_843 : decode cL_law 843 = .ok (.aload_n 2, 1) := by decide +kernel
theorem dL_law_844 : decode cL_law 844 = .ok (.aload_n 0, 1) := by decide +kernel
theorem dL_law_845 : decode cL_law 845 = .ok (.iload_n 3, 1) := by decide +kernel
theorem dL_law_846 : decode cL_law 846 = .ok (.iconst 1, 1) := by decide +kernel
theorem dL_law_847 : decode cL_law 847 = .ok (.iadd, 1) := by decide +kernel
theorem dL_law_848 : decode cL_law 848 = .ok (.iaload, 1) := by decide +kernel
theorem dL_law_849 : decode cL_law 849 = .ok (.aload_n 0, 1) := by decide +kernel
theorem dL_law_850 : decode cL_law 850 = .ok (.iload_n 3, 1) := by decide +kernel
theorem dL_law_851 : decode cL_law 851 = .ok (.iconst 2, 1) := by decide +kernel
theorem dL_law_852 : decode cL_law 852 = .ok (.iadd, 1) := by decide +kernel
theorem dL_law_853 : decode cL_law 853 = .ok (.iaload, 1) := by decide +kernel
theorem dL_law_854 : decode cL_law 854 = .ok (.aload_n 0, 1) := by decide +kernel
theorem dL_law_855 : decode cL_law 855 = .ok (.iload_n 3, 1) := by decide +kernel
theorem dL_law_856 : decode cL_law 856 = .ok (.iconst 3, 1) := by decide +kernel
theorem dL_law_857 : decode cL_law 857 = .ok (.iadd, 1) := by decide +kernel
theorem dL_law_858 : decode cL_law 858 = .ok (.iaload, 1) := by decide +kernel
theorem dL_law_859 : decode cL_law 859 = .ok (.invokevirtual 90, 3) := by decide +kernel
theorem dL_law_862 : decode cL_law 862 = .ok (.if_icmp .eq 515, 3) := by decide +kernel
theorem dL_law_865 : decode cL_law 865 = .ok (.iconst 0, 1) := by decide +kernel
theorem dL_law_866 : decode cL_law 866 = .ok (.ireturn, 1) := by decide +kernel
theorem dL_law_867 : decode cL_law 867 = .ok (.aload_n 1, 1) := by decide +kernel
theorem dL_law_868 : decode cL_law 868 = .ok (.aload_n 0, 1) := by decide +kernel
theorem dL_law_869 : decode cL_law 869 = .ok (.iload_n 3, 1) := by decide +kernel
theorem dL_law_870 : decode cL_law 870 = .ok (.iconst 1, 1) := by decide +kernel
theorem dL_law_871 : decode cL_law 871 = .ok (.iadd, 1) := by decide +kernel
theorem dL_law_872 : decode cL_law 872 = .ok (.iaload, 1) := by decide +kernel
theorem dL_law_873 : decode cL_law 873 = .ok (.aload_n 0, 1) := by decide +kernel
theorem dL_law_874 : decode cL_law 874 = .ok (.iload_n 3, 1) := by decide +kernel
theorem dL_law_875 : decode cL_law 875 = .ok (.iconst 2, 1) := by decide +kernel
theorem dL_law_876 : decode cL_law 876 = .ok (.iadd, 1) := by decide +kernel
theorem dL_law_877 : decode cL_law 877 = .ok (.iaload, 1) := by decide +kernel
theorem dL_law_878 : decode cL_law 878 = .ok (.invokevirtual 91, 3) := by decide +kernel
theorem dL_law_881 : decode cL_law 881 = .ok (.aload_n 2, 1) := by decide +kernel
theorem dL_law_882 : decode cL_law 882 = .ok (.aload_n 0, 1) := by decide +kernel
theorem dL_law_883 : decode cL_law 883 = .ok (.iload_n 3, 1) := by decide +kernel
theorem dL_law_884 : decode cL_law 884 = .ok (.iconst 1, 1) := by decide +kernel
theorem dL_law_885 : decode cL_law 885 = .ok (.iadd, 1) := by decide +kernel
theorem dL_law_886 : decode cL_law 886 = .ok (.iaload, 1) := by decide +kernel
theorem dL_law_887 : decode cL_law 887 = .ok (.aload_n 0, 1) := by decide +kernel
theorem dL_law_888 : decode cL_law 888 = .ok (.iload_n 3, 1) := by decide +kernel
theorem dL_law_889 : decode cL_law 889 = .ok (.iconst 2, 1) := by decide +kernel
theorem dL_law_890 : decode cL_law 890 = .ok (.iadd, 1) := by decide +kernel
theorem dL_law_891 : decode cL_law 891 = .ok (.iaload, 1) := by decide +kernel
theorem dL_law_892 : decode cL_law 892 = .ok (.invokevirtual 94, 3) := by decide +kernel
theorem dL_law_895 : decode cL_law 895 = .ok (.if_icmp .eq 482, 3) := by decide +kernel
theorem dL_law_898 : decode cL_law 898 = .ok (.iconst 0, 1) := by decide +kernel
theorem dL_law_899 : decode cL_law 899 = .ok (.ireturn, 1) := by decide +kernel
theorem dL_law_900 : decode cL_law 900 = .ok (.aload_n 1, 1) := by decide +kernel
theorem dL_law_901 : decode cL_law 901 = .ok (.aload_n 0, 1) := by decide +kernel
theorem dL_law_902 : decode cL_law 902 = .ok (.iload_n 3, 1) := by decide +kernel
theorem dL_law_903 : decode cL_law 903 = .ok (.iconst 1, 1) := by decide +kernel
theorem dL_law_904 : decode cL_law 904 = .ok (.iadd, 1) := by decide +kernel
theorem dL_law_905 : decode cL_law 905 = .ok (.iaload, 1) := by decide +kernel
theorem dL_law_906 : decode cL_law 906 = .ok (.invokevirtual 95, 3) := by decide +kernel
theorem dL_law_909 : decode cL_law 909 = .ok (.aload_n 2, 1) := by decide +kernel
theorem dL_law_910 : decode cL_law 910 = .ok (.aload_n 0, 1) := by decide +kernel
theorem dL_law_911 : decode cL_law 911 = .ok (.iload_n 3, 1) := by decide +kernel
theorem dL_law_912 : decode cL_law 912 = .ok (.iconst 1, 1) := by decide +kernel
theorem dL_law_913 : decode cL_law 913 = .ok (.iadd, 1) := by decide +kernel
theorem dL_law_914 : decode cL_law 914 = .ok (.iaload, 1) := by decide +kernel
theorem dL_law_915 : decode cL_law 915 = .ok (.invokevirtual 98, 3) := by decide +kernel
theorem dL_law_918 : decode cL_law 918 = .ok (.if_icmp .eq 459, 3) := by decide +kernel
theorem dL_law_921 : decode cL_law 921 = .ok (.iconst 0, 1) := by decide +kernel
theorem dL_law_922 : decode cL_law 922 = .ok (.ireturn, 1) := by decide +kernel
theorem dL_law_923 : decode cL_law 923 = .ok (.aload_n 1, 1) := by decide +kernel
theorem dL_law_924 : decode cL_law 924 = .ok (.aload_n 0, 1) := by decide +kernel
theorem dL_law_925 : decode cL_law 925 = .ok (.iload_n 3, 1) := by decide +kernel
theorem dL_law_926 : decode cL_law 926 = .ok (.iconst 1, 1) := by decide +kernel
theorem dL_law_927 : decode cL_law 927 = .ok (.iadd, 1) := by decide +kernel
theorem dL_law_928 : decode cL_law 928 = .ok (.iaload, 1) := by decide +kernel
theorem dL_law_929 : decode cL_law 929 = .ok (.invokevirtual 99, 3) := by decide +kernel
theorem dL_law_932 : decode cL_law 932 = .ok (.aload_n 2, 1) := by decide +kernel
theorem dL_law_933 : decode cL_law 933 = .ok (.aload_n 0, 1) := by decide +kernel
theorem dL_law_934 : decode cL_law 934 = .ok (.iload_n 3, 1) := by decide +kernel
theorem dL_law_935 : decode cL_law 935 = .ok (.iconst 1, 1) := by decide +kernel
theorem dL_law_936 : decode cL_law 936 = .ok (.iadd, 1) := by decide +kernel
theorem dL_law_937 : decode cL_law 937 = .ok (.iaload, 1) := by decide +kernel
theorem dL_law_938 : decode cL_law 938 = .ok (.invokevirtual 102, 3) := by decide +kernel
theorem dL_law_941 : decode cL_law 941 = .ok (.if_icmp .eq 436, 3) := by decide +kernel
theorem dL_law_944 : decode cL_law 944 = .ok (.iconst 0, 1) := by decide +kernel
theorem dL_law_945 : decode cL_law 945 = .ok (.ireturn, 1) := by decide +kernel
theorem dL_law_946 : decode cL_law 946 = .ok (.aload_n 1, 1) := by decide +kernel
theorem dL_law_947 : decode cL_law 947 = .ok (.aload_n 0, 1) := by decide +kernel
theorem dL_law_948 : decode cL_law 948 = .ok (.iload_n 3, 1) := by decide +kernel
theorem dL_law_949 : decode cL_law 949 = .ok (.iconst 1, 1) := by decide +kernel
theorem dL_law_950 : decode cL_law 950 = .ok (.iadd, 1) := by decide +kernel
theorem dL_law_951 : decode cL_law 951 = .ok (.iaload, 1) := by decide +kernel
theorem dL_law_952 : decode cL_law 952 = .ok (.invokevirtual 103, 3) := by decide +kernel
theorem dL_law_955 : decode cL_law 955 = .ok (.aload_n 2, 1) := by decide +kernel
theorem dL_law_956 : decode cL_law 956 = .ok (.aload_n 0, 1) := by decide +kernel
theorem dL_law_957 : decode cL_law 957 = .ok (.iload_n 3, 1) := by decide +kernel
theorem dL_law_958 : decode cL_law 958 = .ok (.iconst 1, 1) := by decide +kernel
theorem dL_law_959 : decode cL_law 959 = .ok (.iadd, 1) := by decide +kernel
theorem dL_law_960 : decode cL_law 960 = .ok (.iaload, 1) := by decide +kernel
theorem dL_law_961 : decode cL_law 961 = .ok (.invokevirtual 106, 3) := by decide +kernel
theorem dL_law_964 : decode cL_law 964 = .ok (.if_icmp .eq 413, 3) := by decide +kernel
theorem dL_law_967 : decode cL_law 967 = .ok (.iconst 0, 1) := by decide +kernel
theorem dL_law_968 : decode cL_law 968 = .ok (.ireturn, 1) := by decide +kernel
theorem dL_law_969 : decode cL_law 969 = .ok (.aload_n 1, 1) := by decide +kernel
theorem dL_law_970 : decode cL_law 970 = .ok (.aload_n 0, 1) := by decide +kernel
theorem dL_law_971 : decode cL_law 971 = .ok (.iload_n 3, 1) := by decide +kernel
theorem dL_law_972 : decode cL_law 972 = .ok (.iconst 1, 1) := by decide +kernel
theorem dL_law_973 : decode cL_law 973 = .ok (.iadd, 1) := by decide +kernel
theorem dL_law_974 : decode cL_law 974 = .ok (.iaload, 1) := by decide +kernel
theorem dL_law_975 : decode cL_law 975 = .ok (.invokevirtual 107, 3) := by decide +kernel
theorem dL_law_978 : decode cL_law 978 = .ok (.aload_n 2, 1) := by decide +kernel
theorem dL_law_979 : decode cL_law 979 = .ok (.aload_n 0, 1) := by decide +kernel
theorem dL_law_980 : decode cL_law 980 = .ok (.iload_n 3, 1) := by decide +kernel
theorem dL_law_981 : decode cL_law 981 = .ok (.iconst 1, 1) := by decide +kernel
theorem dL_law_982 : decode cL_law 982 = .ok (.iadd, 1) := by decide +kernel
theorem dL_law_983 : decode cL_law 983 = .ok (.iaload, 1) := by decide +kernel
theorem dL_law_984 : decode cL_law 984 = .ok (.invokevirtual 110, 3) := by decide +kernel
theorem dL_law_987 : decode cL_law 987 = .ok (.if_icmp .eq 390, 3) := by decide +kernel
theorem dL_law_990 : decode cL_law 990 = .ok (.iconst 0, 1) := by decide +kernel
theorem dL_law_991 : decode cL_law 991 = .ok (.ireturn, 1) := by decide +kernel
theorem dL_law_992 : decode cL_law 992 = .ok (.aload_n 1, 1) := by decide +kernel
theorem dL_law_993 : decode cL_law 993 = .ok (.aload_n 0, 1) := by decide +kernel
theorem dL_law_994 : decode cL_law 994 = .ok (.iload_n 3, 1) := by decide +kernel
theorem dL_law_995 : decode cL_law 995 = .ok (.iconst 1, 1) := by decide +kernel
theorem dL_law_996 : decode cL_law 996 = .ok (.iadd, 1) := by decide +kernel
theorem dL_law_997 : decode cL_law 997 = .ok (.iaload, 1) := by decide +kernel
theorem dL_law_998 : decode cL_law 998 = .ok (.invokevirtual 111, 3) := by decide +kernel
theorem dL_law_1001 : decode cL_law 1001 = .ok (.aload_n 2, 1) := by decide +kernel
theorem dL_law_1002 : decode cL_law 1002 = .ok (.aload_n 0, 1) := by decide +kernel
theorem dL_law_1003 : decode cL_law 1003 = .ok (.iload_n 3, 1) := by decide +kernel
theorem dL_law_1004 : decode cL_law 1004 = .ok (.iconst 1, 1) := by decide +kernel
theorem dL_law_1005 : decode cL_law 1005 = .ok (.iadd, 1) := by decide +kernel
theorem dL_law_1006 : decode cL_law 1006 = .ok (.iaload, 1) := by decide +kernel
theorem dL_law_1007 : decode cL_law 1007 = .ok (.invokevirtual 114, 3) := by decide +kernel
theorem dL_law_1010 : decode cL_law 1010 = .ok (.if_icmp .eq 367, 3) := by decide +kernel
theorem dL_law_1013 : decode cL_law 1013 = .ok (.iconst 0, 1) := by decide +kernel
theorem dL_law_1014 : decode cL_law 1014 = .ok (.ireturn, 1) := by decide +kernel
theorem dL_law_1015 : decode cL_law 1015 = .ok (.aload_n 1, 1) := by decide +kernel
theorem dL_law_1016 : decode cL_law 1016 = .ok (.aload_n 0, 1) := by decide +kernel
theorem dL_law_1017 : decode cL_law 1017 = .ok (.iload_n 3, 1) := by decide +kernel
theorem dL_law_1018 : decode cL_law 1018 = .ok (.iconst 1, 1) := by decide +kernel
theorem dL_law_1019 : decode cL_law 1019 = .ok (.iadd, 1) := by decide +kernel
theorem dL_law_1020 : decode cL_law 1020 = .ok (.iaload, 1) := by decide +kernel
theorem dL_law_1021 : decode cL_law 1021 = .ok (.invokevirtual 115, 3) := by decide +kernel
theorem dL_law_1024 : decode cL_law 1024 = .ok (.aload_n 2, 1) := by decide +kernel
theorem dL_law_1025 : decode cL_law 1025 = .ok (.aload_n 0, 1) := by decide +kernel
theorem dL_law_1026 : decode cL_law 1026 = .ok (.iload_n 3, 1) := by decide +kernel
theorem dL_law_1027 : decode cL_law 1027 = .ok (.iconst 1, 1) := by decide +kernel
theorem dL_law_1028 : decode cL_law 1028 = .ok (.iadd, 1) := by decide +kernel
theorem dL_law_1029 : decode cL_law 1029 = .ok (.iaload, 1) := by decide +kernel
theorem dL_law_1030 : decode cL_law 1030 = .ok (.invokevirtual 118, 3) := by decide +kernel
theorem dL_law_1033 : decode cL_law 1033 = .ok (.if_icmp .eq 344, 3) := by decide +kernel
theorem dL_law_1036 : decode cL_law 1036 = .ok (.iconst 0, 1) := by decide +kernel
theorem dL_law_1037 : decode cL_law 1037 = .ok (.ireturn, 1) := by decide +kernel
theorem dL_law_1038 : decode cL_law 1038 = .ok (.aload_n 1, 1) := by decide +kernel
theorem dL_law_1039 : decode cL_law 1039 = .ok (.aload_n 0, 1) := by decide +kernel
theorem dL_law_1040 : decode cL_law 1040 = .ok (.iload_n 3, 1) := by decide +kernel
theorem dL_law_1041 : decode cL_law 1041 = .ok (.iconst 1, 1) := by decide +kernel
theorem dL_law_1042 : decode cL_law 1042 = .ok (.iadd, 1) := by decide +kernel
theorem dL_law_1043 : decode cL_law 1043 = .ok (.iaload, 1) := by decide +kernel
theorem dL_law_1044 : decode cL_law 1044 = .ok (.invokevirtual 119, 3) := by decide +kernel
theorem dL_law_1047 : decode cL_law 1047 = .ok (.aload_n 2, 1) := by decide +kernel
theorem dL_law_1048 : decode cL_law 1048 = .ok (.aload_n 0, 1) := by decide +kernel
theorem dL_law_1049 : decode cL_law 1049 = .ok (.iload_n 3, 1) := by decide +kernel
theorem dL_law_1050 : decode cL_law 1050 = .ok (.iconst 1, 1) := by decide +kernel
theorem dL_law_1051 : decode cL_law 1051 = .ok (.iadd, 1) := by decide +kernel
theorem dL_law_1052 : decode cL_law 1052 = .ok (.iaload, 1) := by decide +kernel
theorem dL_law_1053 : decode cL_law 1053 = .ok (.invokevirtual 122, 3) := by decide +kernel
theorem dL_law_1056 : decode cL_law 1056 = .ok (.if_icmp .eq 321, 3) := by decide +kernel
theorem dL_law_1059 : decode cL_law 1059 = .ok (.iconst 0, 1) := by decide +kernel
theorem dL_law_1060 : decode cL_law 1060 = .ok (.ireturn, 1) := by decide +kernel
theorem dL_law_1061 : decode cL_law 1061 = .ok (.aload_n 1, 1) := by decide +kernel
theorem dL_law_1062 : decode cL_law 1062 = .ok (.aload_n 0, 1) := by decide +kernel
theorem dL_law_1063 : decode cL_law 1063 = .ok (.iload_n 3, 1) := by decide +kernel
theorem dL_law_1064 : decode cL_law 1064 = .ok (.iconst 1, 1) := by decide +kernel
theorem dL_law_1065 : decode cL_law 1065 = .ok (.iadd, 1) := by decide +kernel
theorem dL_law_1066 : decode cL_law 1066 = .ok (.iaload, 1) := by decide +kernel
theorem dL_law_1067 : decode cL_law 1067 = .ok (.invokevirtual 123, 3) := by decide +kernel
theorem dL_law_1070 : decode cL_law 1070 = .ok (.aload_n 2, 1) := by decide +kernel
theorem dL_law_1071 : decode cL_law 1071 = .ok (.aload_n 0, 1) := by decide +kernel
theorem dL_law_1072 : decode cL_law 1072 = .ok (.iload_n 3, 1) := by decide +kernel
theorem dL_law_1073 : decode cL_law 1073 = .ok (.iconst 1, 1) := by decide +kernel
theorem dL_law_1074 : decode cL_law 1074 = .ok (.iadd, 1) := by decide +kernel
theorem dL_law_1075 : decode cL_law 1075 = .ok (.iaload, 1) := by decide +kernel
theorem dL_law_1076 : decode cL_law 1076 = .ok (.invokevirtual 126, 3) := by decide +kernel
theorem dL_law_1079 : decode cL_law 1079 = .ok (.if_icmp .eq 298, 3) := by decide +kernel
theorem dL_law_1082 : decode cL_law 1082 = .ok (.iconst 0, 1) := by decide +kernel
theorem dL_law_1083 : decode cL_law 1083 = .ok (.ireturn, 1) := by decide +kernel
theorem dL_law_1084 : decode cL_law 1084 = .ok (.aload_n 1, 1) := by decide +kernel
theorem dL_law_1085 : decode cL_law 1085 = .ok (.invokevirtual 127, 3) := by decide +kernel
theorem dL_law_1088 : decode cL_law 1088 = .ok (.aload_n 2, 1) := by decide +kernel
theorem dL_law_1089 : decode cL_law 1089 = .ok (.invokevirtual 131, 3) := by decide +kernel
theorem dL_law_1092 : decode cL_law 1092 = .ok (.if_icmp .eq 285, 3) := by decide +kernel
theorem dL_law_1095 : decode cL_law 1095 = .ok (.iconst 0, 1) := by decide +kernel
theorem dL_law_1096 : decode cL_law 1096 = .ok (.ireturn, 1) := by decide +kernel
theorem dL_law_1097 : decode cL_law 1097 = .ok (.aload_n 1, 1) := by decide +kernel
theorem dL_law_1098 : decode cL_law 1098 = .ok (.aload_n 0, 1) := by decide +kernel
theorem dL_law_1099 : decode cL_law 1099 = .ok (.iload_n 3, 1) := by decide +kernel
theorem dL_law_1100 : decode cL_law 1100 = .ok (.iconst 1, 1) := by decide +kernel
theorem dL_law_1101 : decode cL_law 1101 = .ok (.iadd, 1) := by decide +kernel
theorem dL_law_1102 : decode cL_law 1102 = .ok (.iaload, 1) := by decide +kernel
theorem dL_law_1103 : decode cL_law 1103 = .ok (.invokevirtual 132, 3) := by decide +kernel
theorem dL_law_1106 : decode cL_law 1106 = .ok (.aload_n 2, 1) := by decide +kernel
theorem dL_law_1107 : decode cL_law 1107 = .ok (.aload_n 0, 1) := by decide +kernel
theorem dL_law_1108 : decode cL_law 1108 = .ok (.iload_n 3, 1) := by decide +kernel
theorem dL_law_1109 : decode cL_law 1109 = .ok (.iconst 1, 1) := by decide +kernel
theorem dL_law_1110 : decode cL_law 1110 = .ok (.iadd, 1) := by decide +kernel
theorem dL_law_1111 : decode cL_law 1111 = .ok (.iaload, 1) := by decide +kernel
theorem dL_law_1112 : decode cL_law 1112 = .ok (.invokevirtual 135, 3) := by decide +kernel
theorem dL_law_1115 : decode cL_law 1115 = .ok (.if_icmp .eq 262, 3) := by decide +kernel
theorem dL_law_1118 : decode cL_law 1118 = .ok (.iconst 0, 1) := by decide +kernel
theorem dL_law_1119 : decode cL_law 1119 = .ok (.ireturn, 1) := by decide +kernel
theorem dL_law_1120 : decode cL_law 1120 = .ok (.aload_n 1, 1) := by decide +kernel
theorem dL_law_1121 : decode cL_law 1121 = .ok (.invokevirtual 136, 3) := by decide +kernel
theorem dL_law_1124 : decode cL_law 1124 = .ok (.aload_n 2, 1) := by decide +kernel
theorem dL_law_1125 : decode cL_law 1125 = .ok (.invokevirtual 139, 3) := by decide +kernel
theorem dL_law_1128 : decode cL_law 1128 = .ok (.if_icmp .eq 249, 3) := by decide +kernel
theorem dL_law_1131 : decode cL_law 1131 = .ok (.iconst 0, 1) := by decide +kernel
theorem dL_law_1132 : decode cL_law 1132 = .ok (.ireturn, 1) := by decide +kernel
theorem dL_law_1133 : decode cL_law 1133 = .ok (.aload_n 1, 1) := by decide +kernel
theorem dL_law_1134 : decode cL_law 1134 = .ok (.aload_n 0, 1) := by decide +kernel
theorem dL_law_1135 : decode cL_law 1135 = .ok (.iload_n 3, 1) := by decide +kernel
theorem dL_law_1136 : decode cL_law 1136 = .ok (.iconst 1, 1) := by decide +kernel
theorem dL_law_1137 : decode cL_law 1137 = .ok (.iadd, 1) := by decide +kernel
theorem dL_law_1138 : decode cL_law 1138 = .ok (.iaload, 1) := by decide +kernel
theorem dL_law_1139 : decode cL_law 1139 = .ok (.invokevirtual 140, 3) := by decide +kernel
theorem dL_law_1142 : decode cL_law 1142 = .ok (.aload_n 2, 1) := by decide +kernel
theorem dL_law_1143 : decode cL_law 1143 = .ok (.aload_n 0, 1) := by decide +kernel
theorem dL_law_1144 : decode cL_law 1144 = .ok (.iload_n 3, 1) := by decide +kernel
theorem dL_law_1145 : decode cL_law 1145 = .ok (.iconst 1, 1) := by decide +kernel
theorem dL_law_1146 : decode cL_law 1146 = .ok (.iadd, 1) := by decide +kernel
theorem dL_law_1147 : decode cL_law 1147 = .ok (.iaload, 1) := by decide +kernel
theorem dL_law_1148 : decode cL_law 1148 = .ok (.invokevirtual 143, 3) := by decide +kernel
theorem dL_law_1151 : decode cL_law 1151 = .ok (.if_icmp .eq 226, 3) := by decide +kernel
theorem dL_law_1154 : decode cL_law 1154 = .ok (.iconst 0, 1) := by decide +kernel
theorem dL_law_1155 : decode cL_law 1155 = .ok (.ireturn, 1) := by decide +kernel
theorem dL_law_1156 : decode cL_law 1156 = .ok (.aload_n 1, 1) := by decide +kernel
theorem dL_law_1157 : decode cL_law 1157 = .ok (.aload_n 0, 1) := by decide +kernel
theorem dL_law_1158 : decode cL_law 1158 = .ok (.iload_n 3, 1) := by decide +kernel
theorem dL_law_1159 : decode cL_law 1159 = .ok (.iconst 1, 1) := by decide +kernel
theorem dL_law_1160 : decode cL_law 1160 = .ok (.iadd, 1) := by decide +kernel
theorem dL_law_1161 : decode cL_law 1161 = .ok (.iaload, 1) := by decide +kernel
theorem dL_law_1162 : decode cL_law 1162 = .ok (.aload_n 0, 1) := by decide +kernel
theorem dL_law_1163 : decode cL_law 1163 = .ok (.iload_n 3, 1) := by decide +kernel
theorem dL_law_1164 : decode cL_law 1164 = .ok (.iconst 2, 1) := by decide +kernel
theorem dL_law_1165 : decode cL_law 1165 = .ok (.iadd, 1) := by decide +kernel
theorem dL_law_1166 : decode cL_law 1166 = .ok (.iaload, 1) := by decide +kernel
theorem dL_law_1167 : decode cL_law 1167 = .ok (.aload_n 0, 1) := by decide +kernel
theorem dL_law_1168 : decode cL_law 1168 = .ok (.iload_n 3, 1) := by decide +kernel
theorem dL_law_1169 : decode cL_law 1169 = .ok (.iconst 3, 1) := by decide +kernel
theorem dL_law_1170 : decode cL_law 1170 = .ok (.iadd, 1) := by decide +kernel
theorem dL_law_1171 : decode cL_law 1171 = .ok (.iaload, 1) := by decide +kernel
theorem dL_law_1172 : decode cL_law 1172 = .ok (.invokevirtual 144, 3) := by decide +kernel
theorem dL_law_1175 : decode cL_law 1175 = .ok (.aload_n 2, 1) := by decide +kernel
theorem dL_law_1176 : decode cL_law 1176 = .ok (.aload_n 0, 1) := by decide +kernel
theorem dL_law_1177 : decode cL_law 1177 = .ok (.iload_n 3, 1) := by decide +kernel
theorem dL_law_1178 : decode cL_law 1178 = .ok (.iconst 1, 1) := by decide +kernel
theorem dL_law_1179 : decode cL_law 1179 = .ok (.iadd, 1) := by decide +kernel
theorem dL_law_1180 : decode cL_law 1180 = .ok (.iaload, 1) := by decide +kernel
theorem dL_law_1181 : decode cL_law 1181 = .ok (.aload_n 0, 1) := by decide +kernel
theorem dL_law_1182 : decode cL_law 1182 = .ok (.iload_n 3, 1) := by decide +kernel
theorem dL_law_1183 : decode cL_law 1183 = .ok (.iconst 2, 1) := by decide +kernel
theorem dL_law_1184 : decode cL_law 1184 = .ok (.iadd, 1) := by decide +kernel
theorem dL_law_1185 : decode cL_law 1185 = .ok (.iaload, 1) := by decide +kernel
theorem dL_law_1186 : decode cL_law 1186 = .ok (.aload_n 0, 1) := by decide +kernel
theorem dL_law_1187 : decode cL_law 1187 = .ok (.iload_n 3, 1) := by decide +kernel
theorem dL_law_1188 : decode cL_law 1188 = .ok (.iconst 3, 1) := by decide +kernel
theorem dL_law_1189 : decode cL_law 1189 = .ok (.iadd, 1) := by decide +kernel
theorem dL_law_1190 : decode cL_law 1190 = .ok (.iaload, 1) := by decide +kernel
theorem dL_law_1191 : decode cL_law 1191 = .ok (.invokevirtual 147, 3) := by decide +kernel
theorem dL_law_1194 : decode cL_law 1194 = .ok (.if_icmp .eq 183, 3) := by decide +kernel
theorem dL_law_1197 : decode cL_law 1197 = .ok (.iconst 0, 1) := by decide +kernel
theorem dL_law_1198 : decode cL_law 1198 = .ok (.ireturn, 1) := by decide +kernel
theorem dL_law_1199 : decode cL_law 1199 = .ok (.aload_n 1, 1) := by decide +kernel
theorem dL_law_1200 : decode cL_law 1200 = .ok (.aload_n 0, 1) := by decide +kernel
theorem dL_law_1201 : decode cL_law 1201 = .ok (.iload_n 3, 1) := by decide +kernel
theorem dL_law_1202 : decode cL_law 1202 = .ok (.iconst 1, 1) := by decide +kernel
theorem dL_law_1203 : decode cL_law 1203 = .ok (.iadd, 1) := by decide +kernel
theorem dL_law_1204 : decode cL_law 1204 = .ok (.iaload, 1) := by decide +kernel
theorem dL_law_1205 : decode cL_law 1205 = .ok (.aload_n 0, 1) := by decide +kernel
theorem dL_law_1206 : decode cL_law 1206 = .ok (.iload_n 3, 1) := by decide +kernel
theorem dL_law_1207 : decode cL_law 1207 = .ok (.iconst 2, 1) := by decide +kernel
theorem dL_law_1208 : decode cL_law 1208 = .ok (.iadd, 1) := by decide +kernel
theorem dL_law_1209 : decode cL_law 1209 = .ok (.iaload, 1) := by decide +kernel
theorem dL_law_1210 : decode cL_law 1210 = .ok (.aload_n 0, 1) := by decide +kernel
theorem dL_law_1211 : decode cL_law 1211 = .ok (.iload_n 3, 1) := by decide +kernel
theorem dL_law_1212 : decode cL_law 1212 = .ok (.iconst 3, 1) := by decide +kernel
theorem dL_law_1213 : decode cL_law 1213 = .ok (.iadd, 1) := by decide +kernel
theorem dL_law_1214 : decode cL_law 1214 = .ok (.iaload, 1) := by decide +kernel
theorem dL_law_1215 : decode cL_law 1215 = .ok (.invokevirtual 148, 3) := by decide +kernel
theorem dL_law_1218 : decode cL_law 1218 = .ok (.aload_n 2, 1) := by decide +kernel
theorem dL_law_1219 : decode cL_law 1219 = .ok (.aload_n 0, 1) := by decide +kernel
theorem dL_law_1220 : decode cL_law 1220 = .ok (.iload_n 3, 1) := by decide +kernel
theorem dL_law_1221 : decode cL_law 1221 = .ok (.iconst 1, 1) := by decide +kernel
theorem dL_law_1222 : decode cL_law 1222 = .ok (.iadd, 1) := by decide +kernel
theorem dL_law_1223 : decode cL_law 1223 = .ok (.iaload, 1) := by decide +kernel
theorem dL_law_1224 : decode cL_law 1224 = .ok (.aload_n 0, 1) := by decide +kernel
theorem dL_law_1225 : decode cL_law 1225 = .ok (.iload_n 3, 1) := by decide +kernel
theorem dL_law_1226 : decode cL_law 1226 = .ok (.iconst 2, 1) := by decide +kernel
theorem dL_law_1227 : decode cL_law 1227 = .ok (.iadd, 1) := by decide +kernel
theorem dL_law_1228 : decode cL_law 1228 = .ok (.iaload, 1) := by decide +kernel
theorem dL_law_1229 : decode cL_law 1229 = .ok (.aload_n 0, 1) := by decide +kernel
theorem dL_law_1230 : decode cL_law 1230 = .ok (.iload_n 3, 1) := by decide +kernel
theorem dL_law_1231 : decode cL_law 1231 = .ok (.iconst 3, 1) := by decide +kernel
theorem dL_law_1232 : decode cL_law 1232 = .ok (.iadd, 1) := by decide +kernel
theorem dL_law_1233 : decode cL_law 1233 = .ok (.iaload, 1) := by decide +kernel
theorem dL_law_1234 : decode cL_law 1234 = .ok (.invokevirtual 151, 3) := by decide +kernel
theorem dL_law_1237 : decode cL_law 1237 = .ok (.if_icmp .eq 140, 3) := by decide +kernel
theorem dL_law_1240 : decode cL_law 1240 = .ok (.iconst 0, 1) := by decide +kernel
theorem dL_law_1241 : decode cL_law 1241 = .ok (.ireturn, 1) := by decide +kernel
theorem dL_law_1242 : decode cL_law 1242 = .ok (.aload_n 1, 1) := by decide +kernel
theorem dL_law_1243 : decode cL_law 1243 = .ok (.aload_n 0, 1) := by decide +kernel
theorem dL_law_1244 : decode cL_law 1244 = .ok (.iload_n 3, 1) := by decide +kernel
theorem dL_law_1245 : decode cL_law 1245 = .ok (.iconst 1, 1) := by decide +kernel
theorem dL_law_1246 : decode cL_law 1246 = .ok (.iadd, 1) := by decide +kernel
theorem dL_law_1247 : decode cL_law 1247 = .ok (.iaload, 1) := by decide +kernel
theorem dL_law_1248 : decode cL_law 1248 = .ok (.aload_n 0, 1) := by decide +kernel
theorem dL_law_1249 : decode cL_law 1249 = .ok (.iload_n 3, 1) := by decide +kernel
theorem dL_law_1250 : decode cL_law 1250 = .ok (.iconst 2, 1) := by decide +kernel
theorem dL_law_1251 : decode cL_law 1251 = .ok (.iadd, 1) := by decide +kernel
theorem dL_law_1252 : decode cL_law 1252 = .ok (.iaload, 1) := by decide +kernel
theorem dL_law_1253 : decode cL_law 1253 = .ok (.invokevirtual 152, 3) := by decide +kernel
theorem dL_law_1256 : decode cL_law 1256 = .ok (.aload_n 2, 1) := by decide +kernel
theorem dL_law_1257 : decode cL_law 1257 = .ok (.aload_n 0, 1) := by decide +kernel
theorem dL_law_1258 : decode cL_law 1258 = .ok (.iload_n 3, 1) := by decide +kernel
theorem dL_law_1259 : decode cL_law 1259 = .ok (.iconst 1, 1) := by decide +kernel
theorem dL_law_1260 : decode cL_law 1260 = .ok (.iadd, 1) := by decide +kernel
theorem dL_law_1261 : decode cL_law 1261 = .ok (.iaload, 1) := by decide +kernel
theorem dL_law_1262 : decode cL_law 1262 = .ok (.aload_n 0, 1) := by decide +kernel
theorem dL_law_1263 : decode cL_law 1263 = .ok (.iload_n 3, 1) := by decide +kernel
theorem dL_law_1264 : decode cL_law 1264 = .ok (.iconst 2, 1) := by decide +kernel
theorem dL_law_1265 : decode cL_law 1265 = .ok (.iadd, 1) := by decide +kernel
theorem dL_law_1266 : decode cL_law 1266 = .ok (.iaload, 1) := by decide +kernel
theorem dL_law_1267 : decode cL_law 1267 = .ok (.invokevirtual 155, 3) := by decide +kernel
theorem dL_law_1270 : decode cL_law 1270 = .ok (.if_icmp .eq 107, 3) := by decide +kernel
theorem dL_law_1273 : decode cL_law 1273 = .ok (.iconst 0, 1) := by decide +kernel
theorem dL_law_1274 : decode cL_law 1274 = .ok (.ireturn, 1) := by decide +kernel
theorem dL_law_1275 : decode cL_law 1275 = .ok (.aload_n 1, 1) := by decide +kernel
theorem dL_law_1276 : decode cL_law 1276 = .ok (.aload_n 0, 1) := by decide +kernel
theorem dL_law_1277 : decode cL_law 1277 = .ok (.iload_n 3, 1) := by decide +kernel
theorem dL_law_1278 : decode cL_law 1278 = .ok (.iconst 1, 1) := by decide +kernel
theorem dL_law_1279 : decode cL_law 1279 = .ok (.iadd, 1) := by decide +kernel
theorem dL_law_1280 : decode cL_law 1280 = .ok (.iaload, 1) := by decide +kernel
theorem dL_law_1281 : decode cL_law 1281 = .ok (.aload_n 0, 1) := by decide +kernel
theorem dL_law_1282 : decode cL_law 1282 = .ok (.iload_n 3, 1) := by decide +kernel
theorem dL_law_1283 : decode cL_law 1283 = .ok (.iconst 2, 1) := by decide +kernel
theorem dL_law_1284 : decode cL_law 1284 = .ok (.iadd, 1) := by decide +kernel
theorem dL_law_1285 : decode cL_law 1285 = .ok (.iaload, 1) := by decide +kernel
theorem dL_law_1286 : decode cL_law 1286 = .ok (.invokevirtual 156, 3) := by decide +kernel
theorem dL_law_1289 : decode cL_law 1289 = .ok (.aload_n 2, 1) := by decide +kernel
theorem dL_law_1290 : decode cL_law 1290 = .ok (.aload_n 0, 1) := by decide +kernel
theorem dL_law_1291 : decode cL_law 1291 = .ok (.iload_n 3, 1) := by decide +kernel
theorem dL_law_1292 : decode cL_law 1292 = .ok (.iconst 1, 1) := by decide +kernel
theorem dL_law_1293 : decode cL_law 1293 = .ok (.iadd, 1) := by decide +kernel
theorem dL_law_1294 : decode cL_law 1294 = .ok (.iaload, 1) := by decide +kernel
theorem dL_law_1295 : decode cL_law 1295 = .ok (.aload_n 0, 1) := by decide +kernel
theorem dL_law_1296 : decode cL_law 1296 = .ok (.iload_n 3, 1) := by decide +kernel
theorem dL_law_1297 : decode cL_law 1297 = .ok (.iconst 2, 1) := by decide +kernel
theorem dL_law_1298 : decode cL_law 1298 = .ok (.iadd, 1) := by decide +kernel
theorem dL_law_1299 : decode cL_law 1299 = .ok (.iaload, 1) := by decide +kernel
theorem dL_law_1300 : decode cL_law 1300 = .ok (.invokevirtual 159, 3) := by decide +kernel
theorem dL_law_1303 : decode cL_law 1303 = .ok (.if_icmp .eq 74, 3) := by decide +kernel
theorem dL_law_1306 : decode cL_law 1306 = .ok (.iconst 0, 1) := by decide +kernel
theorem dL_law_1307 : decode cL_law 1307 = .ok (.ireturn, 1) := by decide +kernel
theorem dL_law_1308 : decode cL_law 1308 = .ok (.aload_n 1, 1) := by decide +kernel
theorem dL_law_1309 : decode cL_law 1309 = .ok (.aload_n 0, 1) := by decide +kernel
theorem dL_law_1310 : decode cL_law 1310 = .ok (.iload_n 3, 1) := by decide +kernel
theorem dL_law_1311 : decode cL_law 1311 = .ok (.iconst 1, 1) := by decide +kernel
theorem dL_law_1312 : decode cL_law 1312 = .ok (.iadd, 1) := by decide +kernel
theorem dL_law_1313 : decode cL_law 1313 = .ok (.iaload, 1) := by decide +kernel
theorem dL_law_1314 : decode cL_law 1314 = .ok (.aload_n 0, 1) := by decide +kernel
theorem dL_law_1315 : decode cL_law 1315 = .ok (.iload_n 3, 1) := by decide +kernel
theorem dL_law_1316 : decode cL_law 1316 = .ok (.iconst 2, 1) := by decide +kernel
theorem dL_law_1317 : decode cL_law 1317 = .ok (.iadd, 1) := by decide +kernel
theorem dL_law_1318 : decode cL_law 1318 = .ok (.iaload, 1) := by decide +kernel
theorem dL_law_1319 : decode cL_law 1319 = .ok (.aload_n 0, 1) := by decide +kernel
theorem dL_law_1320 : decode cL_law 1320 = .ok (.iload_n 3, 1) := by decide +kernel
theorem dL_law_1321 : decode cL_law 1321 = .ok (.iconst 3, 1) := by decide +kernel
theorem dL_law_1322 : decode cL_law 1322 = .ok (.iadd, 1) := by decide +kernel
theorem dL_law_1323 : decode cL_law 1323 = .ok (.iaload, 1) := by decide +kernel
theorem dL_law_1324 : decode cL_law 1324 = .ok (.invokevirtual 160, 3) := by decide +kernel
theorem dL_law_1327 : decode cL_law 1327 = .ok (.aload_n 2, 1) := by decide +kernel
theorem dL_law_1328 : decode cL_law 1328 = .ok (.aload_n 0, 1) := by decide +kernel
theorem dL_law_1329 : decode cL_law 1329 = .ok (.iload_n 3, 1) := by decide +kernel
theorem dL_law_1330 : decode cL_law 1330 = .ok (.iconst 1, 1) := by decide +kernel
theorem dL_law_1331 : decode cL_law 1331 = .ok (.iadd, 1) := by decide +kernel
theorem dL_law_1332 : decode cL_law 1332 = .ok (.iaload, 1) := by decide +kernel
theorem dL_law_1333 : decode cL_law 1333 = .ok (.aload_n 0, 1) := by decide +kernel
theorem dL_law_1334 : decode cL_law 1334 = .ok (.iload_n 3, 1) := by decide +kernel
theorem dL_law_1335 : decode cL_law 1335 = .ok (.iconst 2, 1) := by decide +kernel
theorem dL_law_1336 : decode cL_law 1336 = .ok (.iadd, 1) := by decide +kernel
theorem dL_law_1337 : decode cL_law 1337 = .ok (.iaload, 1) := by decide +kernel
theorem dL_law_1338 : decode cL_law 1338 = .ok (.aload_n 0, 1) := by decide +kernel
theorem dL_law_1339 : decode cL_law 1339 = .ok (.iload_n 3, 1) := by decide +kernel
theorem dL_law_1340 : decode cL_law 1340 = .ok (.iconst 3, 1) := by decide +kernel
theorem dL_law_1341 : decode cL_law 1341 = .ok (.iadd, 1) := by decide +kernel
theorem dL_law_1342 : decode cL_law 1342 = .ok (.iaload, 1) := by decide +kernel
theorem dL_law_1343 : decode cL_law 1343 = .ok (.invokevirtual 163, 3) := by decide +kernel
theorem dL_law_1346 : decode cL_law 1346 = .ok (.if_icmp .eq 31, 3) := by decide +kernel
theorem dL_law_1349 : decode cL_law 1349 = .ok (.iconst 0, 1) := by decide +kernel
theorem dL_law_1350 : decode cL_law 1350 = .ok (.ireturn, 1) := by decide +kernel
theorem dL_law_1351 : decode cL_law 1351 = .ok (.aload_n 1, 1) := by decide +kernel
theorem dL_law_1352 : decode cL_law 1352 = .ok (.invokevirtual 164, 3) := by decide +kernel
theorem dL_law_1355 : decode cL_law 1355 = .ok (.aload_n 2, 1) := by decide +kernel
theorem dL_law_1356 : decode cL_law 1356 = .ok (.invokevirtual 167, 3) := by decide +kernel
theorem dL_law_1359 : decode cL_law 1359 = .ok (.if_icmp .eq 18, 3) := by decide +kernel
theorem dL_law_1362 : decode cL_law 1362 = .ok (.iconst 0, 1) := by decide +kernel
theorem dL_law_1363 : decode cL_law 1363 = .ok (.ireturn, 1) := by decide +kernel
theorem dL_law_1364 : decode cL_law 1364 = .ok (.aload_n 1, 1) := by decide +kernel
theorem dL_law_1365 : decode cL_law 1365 = .ok (.invokevirtual 168, 3) := by decide +kernel
theorem dL_law_1368 : decode cL_law 1368 = .ok (.aload_n 2, 1) := by decide +kernel
theorem dL_law_1369 : decode cL_law 1369 = .ok (.invokevirtual 171, 3) := by decide +kernel
theorem dL_law_1372 : decode cL_law 1372 = .ok (.if_icmp .eq 5, 3) := by decide +kernel
theorem dL_law_1375 : decode cL_law 1375 = .ok (.iconst 0, 1) := by decide +kernel
theorem dL_law_1376 : decode cL_law 1376 = .ok (.ireturn, 1) := by decide +kernel
theorem dL_law_1377 : decode cL_law 1377 = .ok (.iinc 3 5, 3) := by decide +kernel
theorem dL_law_1380 : decode cL_law 1380 = .ok (.goto (-1362), 3) := by decide +kernel
theorem dL_law_1383 : decode cL_law 1383 = .ok (.iconst 1, 1) := by decide +kernel
theorem dL_law_1384 : decode cL_law 1384 = .ok (.ireturn, 1) := by decide +kernel
