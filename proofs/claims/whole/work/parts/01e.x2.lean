theorem dX2_init_0 : decode cX2_init 0 = .ok (.aload_n 0, 1) := by decide +kernel
theorem dX2_init_1 : decode cX2_init 1 = .ok (.invokespecial 1, 3) := by decide +kernel
theorem dX2_init_4 : decode cX2_init 4 = .ok (.aload_n 0, 1) := by decide +kernel
theorem dX2_init_5 : decode cX2_init 5 = .ok (.bipush 14, 2) := by decide +kernel
theorem dX2_init_7 : decode cX2_init 7 = .ok (.newarray .int, 2) := by decide +kernel
theorem dX2_init_9 : decode cX2_init 9 = .ok (.putfield 7, 3) := by decide +kernel
theorem dX2_init_12 : decode cX2_init 12 = .ok (.aload_n 0, 1) := by decide +kernel
theorem dX2_init_13 : decode cX2_init 13 = .ok (.bipush 84, 2) := by decide +kernel
theorem dX2_init_15 : decode cX2_init 15 = .ok (.newarray .int, 2) := by decide +kernel
theorem dX2_init_17 : decode cX2_init 17 = .ok (.putfield 13, 3) := by decide +kernel
theorem dX2_init_20 : decode cX2_init 20 = .ok (.aload_n 0, 1) := by decide +kernel
theorem dX2_init_21 : decode cX2_init 21 = .ok (.bipush 14, 2) := by decide +kernel
theorem dX2_init_23 : decode cX2_init 23 = .ok (.newarray .int, 2) := by decide +kernel
theorem dX2_init_25 : decode cX2_init 25 = .ok (.putfield 16, 3) := by decide +kernel
theorem dX2_init_28 : decode cX2_init 28 = .ok (.aload_n 0, 1) := by decide +kernel
theorem dX2_init_29 : decode cX2_init 29 = .ok (.bipush 14, 2) := by decide +kernel
theorem dX2_init_31 : decode cX2_init 31 = .ok (.newarray .boolean, 2) := by decide +kernel
theorem dX2_init_33 : decode cX2_init 33 = .ok (.putfield 19, 3) := by decide +kernel
theorem dX2_init_36 : decode cX2_init 36 = .ok (.aload_n 0, 1) := by decide +kernel
theorem dX2_init_37 : decode cX2_init 37 = .ok (.bipush 14, 2) := by decide +kernel
theorem dX2_init_39 : decode cX2_init 39 = .ok (.newarray .boolean, 2) := by decide +kernel
theorem dX2_init_41 : decode cX2_init 41 = .ok (.putfield 23, 3) := by decide +kernel
theorem dX2_init_44 : decode cX2_init 44 = .ok (.aload_n 0, 1) := by decide +kernel
theorem dX2_init_45 : decode cX2_init 45 = .ok (.bipush 14, 2) := by decide +kernel
theorem dX2_init_47 : decode cX2_init 47 = .ok (.newarray .int, 2) := by decide +kernel
theorem dX2_init_49 : decode cX2_init 49 = .ok (.putfield 26, 3) := by decide +kernel
theorem dX2_init_52 : decode cX2_init 52 = .ok (.aload_n 0, 1) := by decide +kernel
theorem dX2_init_53 : decode cX2_init 53 = .ok (.sipush 420, 3) := by decide +kernel
theorem dX2_init_56 : decode cX2_init 56 = .ok (.newarray .int, 2) := by decide +kernel
theorem dX2_init_58 : decode cX2_init 58 = .ok (.putfield 29, 3) := by decide +kernel
theorem dX2_init_61 : decode cX2_init 61 = .ok (.aload_n 0, 1) := by decide +kernel
theorem dX2_init_62 : decode cX2_init 62 = .ok (.sipush 420, 3) := by decide +kernel
theorem dX2_init_65 : decode cX2_init 65 = .ok (.newarray .int, 2) := by decide +kernel
theorem dX2_init_67 : decode cX2_init 67 = .ok (.putfield 32, 3) := by decide +kernel
theorem dX2_init_70 : decode cX2_init 70 = .ok (.aload_n 0, 1) := by decide +kernel
theorem dX2_init_71 : decode cX2_init 71 = .ok (.sipush 420, 3) := by decide +kernel
theorem dX2_init_74 : decode cX2_init 74 = .ok (.newarray .int, 2) := by decide +kernel
theorem dX2_init_76 : decode cX2_init 76 = .ok (.putfield 35, 3) := by decide +kernel
theorem dX2_init_79 : decode cX2_init 79 = .ok (.aload_n 0, 1) := by decide +kernel
theorem dX2_init_80 : decode cX2_init 80 = .ok (.sipush 420, 3) := by decide +kernel
theorem dX2_init_83 : decode cX2_init 83 = .ok (.newarray .int, 2) := by decide +kernel
theorem dX2_init_85 : decode cX2_init 85 = .ok (.putfield 38, 3) := by decide +kernel
theorem dX2_init_88 : decode cX2_init 88 = .ok (.aload_n 0, 1) := by decide +kernel
theorem dX2_init_89 : decode cX2_init 89 = .ok (.sipush 420, 3) := by decide +kernel
theorem dX2_init_92 : decode cX2_init 92 = .ok (.newarray .int, 2) := by decide +kernel
theorem dX2_init_94 : decode cX2_init 94 = .ok (.putfield 41, 3) := by decide +kernel
theorem dX2_init_97 : decode cX2_init 97 = .ok (.aload_n 0, 1) := by decide +kernel
theorem dX2_init_98 : decode cX2_init 98 = .ok (.sipush 420, 3) := by decide +kernel
theorem dX2_init_101 : decode cX2_init 101 = .ok (.newarray .int, 2) := by decide +kernel
theorem dX2_init_103 : decode cX2_init 103 = .ok (.putfield 44, 3) := by decide +kernel
theorem dX2_init_106 : decode cX2_init 106 = .ok (.aload_n 0, 1) := by decide +kernel
theorem dX2_init_107 : decode cX2_init 107 = .ok (.sipush 420, 3) := by decide +kernel
theorem dX2_init_110 : decode cX2_init 110 = .ok (.newarray .int, 2) := by decide +kernel
theorem dX2_init_112 : decode cX2_init 112 = .ok (.putfield 47, 3) := by decide +kernel
theorem dX2_init_115 : decode cX2_init 115 = .ok (.aload_n 0, 1) := by decide +kernel
theorem dX2_init_116 : decode cX2_init 116 = .ok (.sipush 420, 3) := by decide +kernel
theorem dX2_init_119 : decode cX2_init 119 = .ok (.newarray .int, 2) := by decide +kernel
theorem dX2_init_121 : decode cX2_init 121 = .ok (.putfield 50, 3) := by decide +kernel
theorem dX2_init_124 : decode cX2_init 124 = .ok (.aload_n 0, 1) := by decide +kernel
theorem dX2_init_125 : decode cX2_init 125 = .ok (.sipush 420, 3) := by decide +kernel
theorem dX2_init_128 : decode cX2_init 128 = .ok (.newarray .int, 2) := by decide +kernel
theorem dX2_init_130 : decode cX2_init 130 = .ok (.putfield 53, 3) := by decide +kernel
theorem dX2_init_133 : decode cX2_init 133 = .ok (.aload_n 0, 1) := by decide +kernel
theorem dX2_init_134 : decode cX2_init 134 = .ok (.bipush 12, 2) := by decide +kernel
theorem dX2_init_136 : decode cX2_init 136 = .ok (.newarray .int, 2) := by decide +kernel
theorem dX2_init_138 : decode cX2_init 138 = .ok (.putfield 56, 3) := by decide +kernel
theorem dX2_init_141 : decode cX2_init 141 = .ok (.aload_n 0, 1) := by decide +kernel
theorem dX2_init_142 : decode cX2_init 142 = .ok (.bipush 10, 2) := by decide +kernel
theorem dX2_init_144 : decode cX2_init 144 = .ok (.newarray .int, 2) := by decide +kernel
theorem dX2_init_146 : decode cX2_init 146 = .ok (.putfield 59, 3) := by decide +kernel
theorem dX2_init_149 : decode cX2_init 149 = .ok (.aload_n 0, 1) := by decide +kernel
theorem dX2_init_150 : decode cX2_init 150 = .ok (.bipush 7, 2) := by decide +kernel
theorem dX2_init_152 : decode cX2_init 152 = .ok (.newarray .int, 2) := by decide +kernel
theorem dX2_init_154 : decode cX2_init 154 = .ok (.putfield 62, 3) := by decide +kernel
theorem dX2_init_157 : decode cX2_init 157 = .ok (.aload_n 0, 1) := by decide +kernel
theorem dX2_init_158 : decode cX2_init 158 = .ok (.bipush 14, 2) := by decide +kernel
theorem dX2_init_160 : decode cX2_init 160 = .ok (.newarray .int, 2) := by decide +kernel
theorem dX2_init_162 : decode cX2_init 162 = .ok (.putfield 65, 3) := by decide +kernel
theorem dX2_init_165 : decode cX2_init 165 = .ok (.iconst 0, 1) := by decide +kernel
theorem dX2_init_166 : decode cX2_init 166 = .ok (.istore_n 1, 1) := by decide +kernel
theorem dX2_init_167 : decode cX2_init 167 = .ok (.iload_n 1, 1) := by decide +kernel
theorem dX2_init_168 : decode cX2_init 168 = .ok (.bipush 10, 2) := by decide +kernel
theorem dX2_init_170 : decode cX2_init 170 = .ok (.if_icmp .ge 18, 3) := by decide +kernel
theorem dX2_init_173 : decode cX2_init 173 = .ok (.aload_n 0, 1) := by decide +kernel
theorem dX2_init_174 : decode cX2_init 174 = .ok (.getfield 59, 3) := by decide +kernel
theorem dX2_init_177 : decode cX2_init 177 = .ok (.iload_n 1, 1) := by decide +kernel
theorem dX2_init_178 : decode cX2_init 178 = .ok (.iload_n 1, 1) := by decide +kernel
theorem dX2_init_179 : decode cX2_init 179 = .ok (.iconst 1, 1) := by decide +kernel
theorem dX2_init_180 : decode cX2_init 180 = .ok (.iadd, 1) := by decide +kernel
theorem dX2_init_181 : decode cX2_init 181 = .ok (.iastore, 1) := by decide +kernel
theorem dX2_init_182 : decode cX2_init 182 = .ok (.iinc 1 1, 3) := by decide +kernel
theorem dX2_init_185 : decode cX2_init 185 = .ok (.goto (-18), 3) := by decide +kernel
theorem dX2_init_188 : decode cX2_init 188 = .ok (.return_, 1) := by decide +kernel
theorem dX2_thrown_0 : decode cX2_thrown 0 = .ok (.aload_n 0, 1) := by decide +kernel
theorem dX2_thrown_1 : decode cX2_thrown 1 = .ok (.getfield 68, 3) := by decide +kernel
theorem dX2_thrown_4 : decode cX2_thrown 4 = .ok (.ireturn, 1) := by decide +kernel
theorem dX2_holds_0 : decode cX2_holds 0 = .ok (.aload_n 0, 1) := by decide +kernel
theorem dX2_holds_1 : decode cX2_holds 1 = .ok (.iload_n 1, 1) := by decide +kernel
theorem dX2_holds_2 : decode cX2_holds 2 = .ok (.putfield 68, 3) := by decide +kernel
theorem dX2_holds_5 : decode cX2_holds 5 = .ok (.iload_n 1, 1) := by decide +kernel
theorem dX2_holds_6 : decode cX2_holds 6 = .ok (.ifCond .ne 7, 3) := by decide +kernel
theorem dX2_holds_9 : decode cX2_holds 9 = .ok (.iconst 1, 1) := by decide +kernel
theorem dX2_holds_10 : decode cX2_holds 10 = .ok (.goto 4, 3) := by decide +kernel
theorem dX2_holds_13 : decode cX2_holds 13 = .ok (.iconst 0, 1) := by decide +kernel
theorem dX2_holds_14 : decode cX2_holds 14 = .ok (.ireturn, 1) := by decide +kernel
theorem dX2_isIn_0 : decode cX2_isIn 0 = .ok (.iload_n 0, 1) := by decide +kernel
theorem dX2_isIn_1 : decode cX2_isIn 1 = .ok (.iload_n 1, 1) := by decide +kernel
theorem dX2_isIn_2 : decode cX2_isIn 2 = .ok (.if_icmp .lt 12, 3) := by decide +kernel
theorem dX2_isIn_5 : decode cX2_isIn 5 = .ok (.iload_n 0, 1) := by decide +kernel
theorem dX2_isIn_6 : decode cX2_isIn 6 = .ok (.iload_n 2, 1) := by decide +kernel
theorem dX2_isIn_7 : decode cX2_isIn 7 = .ok (.if_icmp .gt 7, 3) := by decide +kernel
theorem dX2_isIn_10 : decode cX2_isIn 10 = .ok (.iconst 1, 1) := by decide +kernel
theorem dX2_isIn_11 : decode cX2_isIn 11 = .ok (.goto 4, 3) := by decide +kernel
theorem dX2_isIn_14 : decode cX2_isIn 14 = .ok (.iconst 0, 1) := by decide +kernel
theorem dX2_isIn_15 : decode cX2_isIn 15 = .ok (.ireturn, 1) := by decide +kernel
set_option maxRecDepth 20000 in
theorem ggX2_isPallet_X2_isIn : GoodIn wsX2_isPallet wsX2_isIn := goodIn_r _ [5] (by decide +kernel) (by decide +kernel)
set_option maxRecDepth 20000 in
theorem gX2_isPallet_X2_isIn : GoodIn wsX2_isPallet (va_wsS RX2 75 yX2_isIn wsX2_isIn) := goodIn_app (goodIn_of _ (by decide +kernel)) ggX2_isPallet_X2_isIn
theorem dX2_isPallet_0 : decode cX2_isPallet 0 = .ok (.iload_n 1, 1) := by decide +kernel
theorem dX2_isPallet_1 : decode cX2_isPallet 1 = .ok (.iconst 0, 1) := by decide +kernel
theorem dX2_isPallet_2 : decode cX2_isPallet 2 = .ok (.aload_n 0, 1) := by decide +kernel
theorem dX2_isPallet_3 : decode cX2_isPallet 3 = .ok (.getfield 72, 3) := by decide +kernel
theorem dX2_isPallet_6 : decode cX2_isPallet 6 = .ok (.iconst 1, 1) := by decide +kernel
theorem dX2_isPallet_7 : decode cX2_isPallet 7 = .ok (.isub, 1) := by decide +kernel
theorem dX2_isPallet_8 : decode cX2_isPallet 8 = .ok (.invokestatic 75, 3) := by decide +kernel
theorem dX2_isPallet_11 : decode cX2_isPallet 11 = .ok (.ireturn, 1) := by decide +kernel
set_option maxRecDepth 20000 in
theorem ggX2_isGood_X2_isIn : GoodIn wsX2_isGood wsX2_isIn := goodIn_r _ [4] (by decide +kernel) (by decide +kernel)
set_option maxRecDepth 20000 in
theorem gX2_isGood_X2_isIn : GoodIn wsX2_isGood (va_wsS RX2 75 yX2_isIn wsX2_isIn) := goodIn_app (goodIn_of _ (by decide +kernel)) ggX2_isGood_X2_isIn
theorem dX2_isGood_0 : decode cX2_isGood 0 = .ok (.iload_n 0, 1) := by decide +kernel
theorem dX2_isGood_1 : decode cX2_isGood 1 = .ok (.iconst 0, 1) := by decide +kernel
theorem dX2_isGood_2 : decode cX2_isGood 2 = .ok (.iconst 5, 1) := by decide +kernel
theorem dX2_isGood_3 : decode cX2_isGood 3 = .ok (.invokestatic 75, 3) := by decide +kernel
theorem dX2_isGood_6 : decode cX2_isGood 6 = .ok (.ireturn, 1) := by decide +kernel
set_option maxRecDepth 20000 in
theorem ggX2_isEntry_X2_isPallet : GoodIn wsX2_isEntry wsX2_isPallet := goodIn_r _ [6, 7, 8, 9, 5, 10, 11, 12, 13, 14, 15, 16, 17, 18, 19, 20, 21, 22, 23, 24, 25, 26, 27, 28, 29, 30, 31, 32] (by decide +kernel) (by decide +kernel)
set_option maxRecDepth 20000 in
theorem gX2_isEntry_X2_isPallet : GoodIn wsX2_isEntry (wsV RX2 79 RX2 yX2_isPallet wsX2_isPallet) := goodIn_app (goodIn_of _ (by decide +kernel)) ggX2_isEntry_X2_isPallet
set_option maxRecDepth 20000 in
theorem ggX2_isEntry_X2_isIn : GoodIn wsX2_isEntry wsX2_isIn := goodIn_r _ [10] (by decide +kernel) (by decide +kernel)
set_option maxRecDepth 20000 in
theorem gX2_isEntry_X2_isIn : GoodIn wsX2_isEntry (va_wsS RX2 75 yX2_isIn wsX2_isIn) := goodIn_app (goodIn_of _ (by decide +kernel)) ggX2_isEntry_X2_isIn
theorem dX2_isEntry_0 : decode cX2_isEntry 0 = .ok (.aload_n 0, 1) := by decide +kernel
theorem dX2_isEntry_1 : decode cX2_isEntry 1 = .ok (.iload_n 1, 1) := by decide +kernel
theorem dX2_isEntry_2 : decode cX2_isEntry 2 = .ok (.invokevirtual 79, 3) := by decide +kernel
theorem dX2_isEntry_5 : decode cX2_isEntry 5 = .ok (.ifCond .eq 23, 3) := by decide +kernel
theorem dX2_isEntry_8 : decode cX2_isEntry 8 = .ok (.iload_n 2, 1) := by decide +kernel
theorem dX2_isEntry_9 : decode cX2_isEntry 9 = .ok (.iconst 0, 1) := by decide +kernel
theorem dX2_isEntry_10 : decode cX2_isEntry 10 = .ok (.aload_n 0, 1) := by decide +kernel
theorem dX2_isEntry_11 : decode cX2_isEntry 11 = .ok (.getfield 16, 3) := by decide +kernel
theorem dX2_isEntry_14 : decode cX2_isEntry 14 = .ok (.iload_n 1, 1) := by decide +kernel
theorem dX2_isEntry_15 : decode cX2_isEntry 15 = .ok (.iaload, 1) := by decide +kernel
theorem dX2_isEntry_16 : decode cX2_isEntry 16 = .ok (.iconst 1, 1) := by decide +kernel
theorem dX2_isEntry_17 : decode cX2_isEntry 17 = .ok (.isub, 1) := by decide +kernel
theorem dX2_isEntry_18 : decode cX2_isEntry 18 = .ok (.invokestatic 75, 3) := by decide +kernel
theorem dX2_isEntry_21 : decode cX2_isEntry 21 = .ok (.ifCond .eq 7, 3) := by decide +kernel
theorem dX2_isEntry_24 : decode cX2_isEntry 24 = .ok (.iconst 1, 1) := by decide +kernel
theorem dX2_isEntry_25 : decode cX2_isEntry 25 = .ok (.goto 4, 3) := by decide +kernel
theorem dX2_isEntry_28 : decode cX2_isEntry 28 = .ok (.iconst 0, 1) := by decide +kernel
theorem dX2_isEntry_29 : decode cX2_isEntry 29 = .ok (.ireturn, 1) := by decide +kernel
theorem dX2_proofOf_0 : decode cX2_proofOf 0 = .ok (.bipush 30, 2) := by decide +kernel
theorem dX2_proofOf_2 : decode cX2_proofOf 2 = .ok (.iload_n 1, 1) := by decide +kernel
theorem dX2_proofOf_3 : decode cX2_proofOf 3 = .ok (.imul, 1) := by decide +kernel
theorem dX2_proofOf_4 : decode cX2_proofOf 4 = .ok (.iload_n 2, 1) := by decide +kernel
theorem dX2_proofOf_5 : decode cX2_proofOf 5 = .ok (.iadd, 1) := by decide +kernel
theorem dX2_proofOf_6 : decode cX2_proofOf 6 = .ok (.istore_n 3, 1) := by decide +kernel
theorem dX2_proofOf_7 : decode cX2_proofOf 7 = .ok (.iload_n 2, 1) := by decide +kernel
theorem dX2_proofOf_8 : decode cX2_proofOf 8 = .ok (.ifCond .ne 8, 3) := by decide +kernel
theorem dX2_proofOf_11 : decode cX2_proofOf 11 = .ok (.bipush 17, 2) := by decide +kernel
theorem dX2_proofOf_13 : decode cX2_proofOf 13 = .ok (.goto 11, 3) := by decide +kernel
theorem dX2_proofOf_16 : decode cX2_proofOf 16 = .ok (.aload_n 0, 1) := by decide +kernel
theorem dX2_proofOf_17 : decode cX2_proofOf 17 = .ok (.getfield 50, 3) := by decide +kernel
theorem dX2_proofOf_20 : decode cX2_proofOf 20 = .ok (.iload_n 3, 1) := by decide +kernel
theorem dX2_proofOf_21 : decode cX2_proofOf 21 = .ok (.iconst 1, 1) := by decide +kernel
theorem dX2_proofOf_22 : decode cX2_proofOf 22 = .ok (.isub, 1) := by decide +kernel
theorem dX2_proofOf_23 : decode cX2_proofOf 23 = .ok (.iaload, 1) := by decide +kernel
theorem dX2_proofOf_24 : decode cX2_proofOf 24 = .ok (.istore 4, 2) := by decide +kernel
theorem dX2_proofOf_26 : decode cX2_proofOf 26 = .ok (.bipush 31, 2) := by decide +kernel
theorem dX2_proofOf_28 : decode cX2_proofOf 28 = .ok (.iload 4, 2) := by decide +kernel
theorem dX2_proofOf_30 : decode cX2_proofOf 30 = .ok (.imul, 1) := by decide +kernel
theorem dX2_proofOf_31 : decode cX2_proofOf 31 = .ok (.aload_n 0, 1) := by decide +kernel
theorem dX2_proofOf_32 : decode cX2_proofOf 32 = .ok (.getfield 29, 3) := by decide +kernel
theorem dX2_proofOf_35 : decode cX2_proofOf 35 = .ok (.iload_n 3, 1) := by decide +kernel
theorem dX2_proofOf_36 : decode cX2_proofOf 36 = .ok (.iaload, 1) := by decide +kernel
theorem dX2_proofOf_37 : decode cX2_proofOf 37 = .ok (.iadd, 1) := by decide +kernel
theorem dX2_proofOf_38 : decode cX2_proofOf 38 = .ok (.istore 4, 2) := by decide +kernel
theorem dX2_proofOf_40 : decode cX2_proofOf 40 = .ok (.bipush 31, 2) := by decide +kernel
theorem dX2_proofOf_42 : decode cX2_proofOf 42 = .ok (.iload 4, 2) := by decide +kernel
theorem dX2_proofOf_44 : decode cX2_proofOf 44 = .ok (.imul, 1) := by decide +kernel
theorem dX2_proofOf_45 : decode cX2_proofOf 45 = .ok (.aload_n 0, 1) := by decide +kernel
theorem dX2_proofOf_46 : decode cX2_proofOf 46 = .ok (.getfield 32, 3) := by decide +kernel
theorem dX2_proofOf_49 : decode cX2_proofOf 49 = .ok (.iload_n 3, 1) := by decide +kernel
theorem dX2_proofOf_50 : decode cX2_proofOf 50 = .ok (.iaload, 1) := by decide +kernel
theorem dX2_proofOf_51 : decode cX2_proofOf 51 = .ok (.iadd, 1) := by decide +kernel
theorem dX2_proofOf_52 : decode cX2_proofOf 52 = .ok (.istore 4, 2) := by decide +kernel
theorem dX2_proofOf_54 : decode cX2_proofOf 54 = .ok (.bipush 31, 2) := by decide +kernel
theorem dX2_proofOf_56 : decode cX2_proofOf 56 = .ok (.iload 4, 2) := by decide +kernel
theorem dX2_proofOf_58 : decode cX2_proofOf 58 = .ok (.imul, 1) := by decide +kernel
theorem dX2_proofOf_59 : decode cX2_proofOf 59 = .ok (.aload_n 0, 1) := by decide +kernel
theorem dX2_proofOf_60 : decode cX2_proofOf 60 = .ok (.getfield 35, 3) := by decide +kernel
theorem dX2_proofOf_63 : decode cX2_proofOf 63 = .ok (.iload_n 3, 1) := by decide +kernel
theorem dX2_proofOf_64 : decode cX2_proofOf 64 = .ok (.iaload, 1) := by decide +kernel
theorem dX2_proofOf_65 : decode cX2_proofOf 65 = .ok (.iadd, 1) := by decide +kernel
theorem dX2_proofOf_66 : decode cX2_proofOf 66 = .ok (.istore 4, 2) := by decide +kernel
theorem dX2_proofOf_68 : decode cX2_proofOf 68 = .ok (.bipush 31, 2) := by decide +kernel
theorem dX2_proofOf_70 : decode cX2_proofOf 70 = .ok (.iload 4, 2) := by decide +kernel
theorem dX2_proofOf_72 : decode cX2_proofOf 72 = .ok (.imul, 1) := by decide +kernel
theorem dX2_proofOf_73 : decode cX2_proofOf 73 = .ok (.aload_n 0, 1) := by decide +kernel
theorem dX2_proofOf_74 : decode cX2_proofOf 74 = .ok (.getfield 38, 3) := by decide +kernel
theorem dX2_proofOf_77 : decode cX2_proofOf 77 = .ok (.iload_n 3, 1) := by decide +kernel
theorem dX2_proofOf_78 : decode cX2_proofOf 78 = .ok (.iaload, 1) := by decide +kernel
theorem dX2_proofOf_79 : decode cX2_proofOf 79 = .ok (.iadd, 1) := by decide +kernel
theorem dX2_proofOf_80 : decode cX2_proofOf 80 = .ok (.istore 4, 2) := by decide +kernel
theorem dX2_proofOf_82 : decode cX2_proofOf 82 = .ok (.bipush 31, 2) := by decide +kernel
theorem dX2_proofOf_84 : decode cX2_proofOf 84 = .ok (.iload 4, 2) := by decide +kernel
theorem dX2_proofOf_86 : decode cX2_proofOf 86 = .ok (.imul, 1) := by decide +kernel
theorem dX2_proofOf_87 : decode cX2_proofOf 87 = .ok (.aload_n 0, 1) := by decide +kernel
theorem dX2_proofOf_88 : decode cX2_proofOf 88 = .ok (.getfield 41, 3) := by decide +kernel
theorem dX2_proofOf_91 : decode cX2_proofOf 91 = .ok (.iload_n 3, 1) := by decide +kernel
theorem dX2_proofOf_92 : decode cX2_proofOf 92 = .ok (.iaload, 1) := by decide +kernel
theorem dX2_proofOf_93 : decode cX2_proofOf 93 = .ok (.iadd, 1) := by decide +kernel
theorem dX2_proofOf_94 : decode cX2_proofOf 94 = .ok (.istore 4, 2) := by decide +kernel
theorem dX2_proofOf_96 : decode cX2_proofOf 96 = .ok (.bipush 31, 2) := by decide +kernel
theorem dX2_proofOf_98 : decode cX2_proofOf 98 = .ok (.iload 4, 2) := by decide +kernel
theorem dX2_proofOf_100 : decode cX2_proofOf 100 = .ok (.imul, 1) := by decide +kernel
theorem dX2_proofOf_101 : decode cX2_proofOf 101 = .ok (.aload_n 0, 1) := by decide +kernel
theorem dX2_proofOf_102 : decode cX2_proofOf 102 = .ok (.getfield 44, 3) := by decide +kernel
theorem dX2_proofOf_105 : decode cX2_proofOf 105 = .ok (.iload_n 3, 1) := by decide +kernel
theorem dX2_proofOf_106 : decode cX2_proofOf 106 = .ok (.iaload, 1) := by decide +kernel
theorem dX2_proofOf_107 : decode cX2_proofOf 107 = .ok (.iadd, 1) := by decide +kernel
theorem dX2_proofOf_108 : decode cX2_proofOf 108 = .ok (.ireturn, 1) := by decide +kernel
set_option maxRecDepth 20000 in
theorem ggX2_writes_X2_proofOf : GoodIn wsX2_writes wsX2_proofOf := goodIn_r _ [18, 10, 3, 4, 5, 6, 7, 8, 19, 20, 21, 22, 23, 24, 25, 26, 27, 28, 29, 30, 31, 32, 33, 34, 35, 36, 37, 38, 39, 40] (by decide +kernel) (by decide +kernel)
set_option maxRecDepth 20000 in
theorem gX2_writes_X2_proofOf : GoodIn wsX2_writes (wsV RX2 83 RX2 yX2_proofOf wsX2_proofOf) := goodIn_app (goodIn_of _ (by decide +kernel)) ggX2_writes_X2_proofOf
theorem dX2_writes_0 : decode cX2_writes 0 = .ok (.bipush 30, 2) := by decide +kernel
theorem dX2_writes_2 : decode cX2_writes 2 = .ok (.iload_n 1, 1) := by decide +kernel
theorem dX2_writes_3 : decode cX2_writes 3 = .ok (.imul, 1) := by decide +kernel
theorem dX2_writes_4 : decode cX2_writes 4 = .ok (.aload_n 0, 1) := by decide +kernel
theorem dX2_writes_5 : decode cX2_writes 5 = .ok (.getfield 16, 3) := by decide +kernel
theorem dX2_writes_8 : decode cX2_writes 8 = .ok (.iload_n 1, 1) := by decide +kernel
theorem dX2_writes_9 : decode cX2_writes 9 = .ok (.iaload, 1) := by decide +kernel
theorem dX2_writes_10 : decode cX2_writes 10 = .ok (.iadd, 1) := by decide +kernel
theorem dX2_writes_11 : decode cX2_writes 11 = .ok (.istore 7, 2) := by decide +kernel
theorem dX2_writes_13 : decode cX2_writes 13 = .ok (.iload_n 2, 1) := by decide +kernel
theorem dX2_writes_14 : decode cX2_writes 14 = .ok (.bipush 8, 2) := by decide +kernel
theorem dX2_writes_16 : decode cX2_writes 16 = .ok (.if_icmp .eq 9, 3) := by decide +kernel
theorem dX2_writes_19 : decode cX2_writes 19 = .ok (.iload_n 2, 1) := by decide +kernel
theorem dX2_writes_20 : decode cX2_writes 20 = .ok (.bipush 9, 2) := by decide +kernel
theorem dX2_writes_22 : decode cX2_writes 22 = .ok (.if_icmp .ne 8, 3) := by decide +kernel
theorem dX2_writes_25 : decode cX2_writes 25 = .ok (.bipush 6, 2) := by decide +kernel
theorem dX2_writes_27 : decode cX2_writes 27 = .ok (.goto 9, 3) := by decide +kernel
theorem dX2_writes_30 : decode cX2_writes 30 = .ok (.aload_n 0, 1) := by decide +kernel
theorem dX2_writes_31 : decode cX2_writes 31 = .ok (.getfield 7, 3) := by decide +kernel
theorem dX2_writes_34 : decode cX2_writes 34 = .ok (.iload_n 1, 1) := by decide +kernel
theorem dX2_writes_35 : decode cX2_writes 35 = .ok (.iaload, 1) := by decide +kernel
theorem dX2_writes_36 : decode cX2_writes 36 = .ok (.istore 8, 2) := by decide +kernel
theorem dX2_writes_38 : decode cX2_writes 38 = .ok (.aload_n 0, 1) := by decide +kernel
theorem dX2_writes_39 : decode cX2_writes 39 = .ok (.getfield 29, 3) := by decide +kernel
theorem dX2_writes_42 : decode cX2_writes 42 = .ok (.iload 7, 2) := by decide +kernel
theorem dX2_writes_44 : decode cX2_writes 44 = .ok (.iload_n 2, 1) := by decide +kernel
theorem dX2_writes_45 : decode cX2_writes 45 = .ok (.iastore, 1) := by decide +kernel
theorem dX2_writes_46 : decode cX2_writes 46 = .ok (.aload_n 0, 1) := by decide +kernel
theorem dX2_writes_47 : decode cX2_writes 47 = .ok (.getfield 32, 3) := by decide +kernel
theorem dX2_writes_50 : decode cX2_writes 50 = .ok (.iload 7, 2) := by decide +kernel
theorem dX2_writes_52 : decode cX2_writes 52 = .ok (.iload 8, 2) := by decide +kernel
theorem dX2_writes_54 : decode cX2_writes 54 = .ok (.iastore, 1) := by decide +kernel
theorem dX2_writes_55 : decode cX2_writes 55 = .ok (.aload_n 0, 1) := by decide +kernel
theorem dX2_writes_56 : decode cX2_writes 56 = .ok (.getfield 35, 3) := by decide +kernel
theorem dX2_writes_59 : decode cX2_writes 59 = .ok (.iload 7, 2) := by decide +kernel
theorem dX2_writes_61 : decode cX2_writes 61 = .ok (.iload_n 3, 1) := by decide +kernel
theorem dX2_writes_62 : decode cX2_writes 62 = .ok (.iastore, 1) := by decide +kernel
theorem dX2_writes_63 : decode cX2_writes 63 = .ok (.aload_n 0, 1) := by decide +kernel
theorem dX2_writes_64 : decode cX2_writes 64 = .ok (.getfield 38, 3) := by decide +kernel
theorem dX2_writes_67 : decode cX2_writes 67 = .ok (.iload 7, 2) := by decide +kernel
theorem dX2_writes_69 : decode cX2_writes 69 = .ok (.iload 4, 2) := by decide +kernel
theorem dX2_writes_71 : decode cX2_writes 71 = .ok (.iastore, 1) := by decide +kernel
theorem dX2_writes_72 : decode cX2_writes 72 = .ok (.aload_n 0, 1) := by decide +kernel
theorem dX2_writes_73 : decode cX2_writes 73 = .ok (.getfield 41, 3) := by decide +kernel
theorem dX2_writes_76 : decode cX2_writes 76 = .ok (.iload 7, 2) := by decide +kernel
theorem dX2_writes_78 : decode cX2_writes 78 = .ok (.iload 5, 2) := by decide +kernel
theorem dX2_writes_80 : decode cX2_writes 80 = .ok (.iastore, 1) := by decide +kernel
theorem dX2_writes_81 : decode cX2_writes 81 = .ok (.aload_n 0, 1) := by decide +kernel
theorem dX2_writes_82 : decode cX2_writes 82 = .ok (.getfield 44, 3) := by decide +kernel
theorem dX2_writes_85 : decode cX2_writes 85 = .ok (.iload 7, 2) := by decide +kernel
theorem dX2_writes_87 : decode cX2_writes 87 = .ok (.iload 6, 2) := by decide +kernel
theorem dX2_writes_89 : decode cX2_writes 89 = .ok (.iastore, 1) := by decide +kernel
theorem dX2_writes_90 : decode cX2_writes 90 = .ok (.aload_n 0, 1) := by decide +kernel
theorem dX2_writes_91 : decode cX2_writes 91 = .ok (.getfield 47, 3) := by decide +kernel
theorem dX2_writes_94 : decode cX2_writes 94 = .ok (.iload 7, 2) := by decide +kernel
theorem dX2_writes_96 : decode cX2_writes 96 = .ok (.iload 4, 2) := by decide +kernel
theorem dX2_writes_98 : decode cX2_writes 98 = .ok (.iastore, 1) := by decide +kernel
theorem dX2_writes_99 : decode cX2_writes 99 = .ok (.aload_n 0, 1) := by decide +kernel
theorem dX2_writes_100 : decode cX2_writes 100 = .ok (.getfield 50, 3) := by decide +kernel
theorem dX2_writes_103 : decode cX2_writes 103 = .ok (.iload 7, 2) := by decide +kernel
theorem dX2_writes_105 : decode cX2_writes 105 = .ok (.aload_n 0, 1) := by decide +kernel
theorem dX2_writes_106 : decode cX2_writes 106 = .ok (.iload_n 1, 1) := by decide +kernel
theorem dX2_writes_107 : decode cX2_writes 107 = .ok (.aload_n 0, 1) := by decide +kernel
theorem dX2_writes_108 : decode cX2_writes 108 = .ok (.getfield 16, 3) := by decide +kernel
theorem dX2_writes_111 : decode cX2_writes 111 = .ok (.iload_n 1, 1) := by decide +kernel
theorem dX2_writes_112 : decode cX2_writes 112 = .ok (.iaload, 1) := by decide +kernel
theorem dX2_writes_113 : decode cX2_writes 113 = .ok (.invokevirtual 83, 3) := by decide +kernel
theorem dX2_writes_116 : decode cX2_writes 116 = .ok (.iastore, 1) := by decide +kernel
theorem dX2_writes_117 : decode cX2_writes 117 = .ok (.aload_n 0, 1) := by decide +kernel
theorem dX2_writes_118 : decode cX2_writes 118 = .ok (.getfield 53, 3) := by decide +kernel
theorem dX2_writes_121 : decode cX2_writes 121 = .ok (.iload 7, 2) := by decide +kernel
theorem dX2_writes_123 : decode cX2_writes 123 = .ok (.iconst 1, 1) := by decide +kernel
theorem dX2_writes_124 : decode cX2_writes 124 = .ok (.iload 8, 2) := by decide +kernel
theorem dX2_writes_126 : decode cX2_writes 126 = .ok (.ishl, 1) := by decide +kernel
theorem dX2_writes_127 : decode cX2_writes 127 = .ok (.iload_n 2, 1) := by decide +kernel
theorem dX2_writes_128 : decode cX2_writes 128 = .ok (.bipush 7, 2) := by decide +kernel
theorem dX2_writes_130 : decode cX2_writes 130 = .ok (.if_icmp .ne 10, 3) := by decide +kernel
theorem dX2_writes_133 : decode cX2_writes 133 = .ok (.iconst 1, 1) := by decide +kernel
theorem dX2_writes_134 : decode cX2_writes 134 = .ok (.iload 4, 2) := by decide +kernel
theorem dX2_writes_136 : decode cX2_writes 136 = .ok (.ishl, 1) := by decide +kernel
theorem dX2_writes_137 : decode cX2_writes 137 = .ok (.goto 19, 3) := by decide +kernel
theorem dX2_writes_140 : decode cX2_writes 140 = .ok (.iload_n 2, 1) := by decide +kernel
theorem dX2_writes_141 : decode cX2_writes 141 = .ok (.iconst 3, 1) := by decide +kernel
theorem dX2_writes_142 : decode cX2_writes 142 = .ok (.if_icmp .eq 8, 3) := by decide +kernel
theorem dX2_writes_145 : decode cX2_writes 145 = .ok (.iload_n 2, 1) := by decide +kernel
theorem dX2_writes_146 : decode cX2_writes 146 = .ok (.iconst 5, 1) := by decide +kernel
theorem dX2_writes_147 : decode cX2_writes 147 = .ok (.if_icmp .ne 8, 3) := by decide +kernel
theorem dX2_writes_150 : decode cX2_writes 150 = .ok (.bipush 64, 2) := by decide +kernel
theorem dX2_writes_152 : decode cX2_writes 152 = .ok (.goto 4, 3) := by decide +kernel
theorem dX2_writes_155 : decode cX2_writes 155 = .ok (.iconst 0, 1) := by decide +kernel
theorem dX2_writes_156 : decode cX2_writes 156 = .ok (.ior, 1) := by decide +kernel
theorem dX2_writes_157 : decode cX2_writes 157 = .ok (.iastore, 1) := by decide +kernel
theorem dX2_writes_158 : decode cX2_writes 158 = .ok (.aload_n 0, 1) := by decide +kernel
theorem dX2_writes_159 : decode cX2_writes 159 = .ok (.getfield 16, 3) := by decide +kernel
theorem dX2_writes_162 : decode cX2_writes 162 = .ok (.iload_n 1, 1) := by decide +kernel
theorem dX2_writes_163 : decode cX2_writes 163 = .ok (.dup2, 1) := by decide +kernel
theorem dX2_writes_164 : decode cX2_writes 164 = .ok (.iaload, 1) := by decide +kernel
theorem dX2_writes_165 : decode cX2_writes 165 = .ok (.iconst 1, 1) := by decide +kernel
theorem dX2_writes_166 : decode cX2_writes 166 = .ok (.iadd, 1) := by decide +kernel
theorem dX2_writes_167 : decode cX2_writes 167 = .ok (.iastore, 1) := by decide +kernel
theorem dX2_writes_168 : decode cX2_writes 168 = .ok (.aload_n 0, 1) := by decide +kernel
theorem dX2_writes_169 : decode cX2_writes 169 = .ok (.getfield 62, 3) := by decide +kernel
theorem dX2_writes_172 : decode cX2_writes 172 = .ok (.iload 8, 2) := by decide +kernel
theorem dX2_writes_174 : decode cX2_writes 174 = .ok (.dup2, 1) := by decide +kernel
theorem dX2_writes_175 : decode cX2_writes 175 = .ok (.iaload, 1) := by decide +kernel
theorem dX2_writes_176 : decode cX2_writes 176 = .ok (.aload_n 0, 1) := by decide +kernel
theorem dX2_writes_177 : decode cX2_writes 177 = .ok (.getfield 59, 3) := by decide +kernel
theorem dX2_writes_180 : decode cX2_writes 180 = .ok (.iload_n 2, 1) := by decide +kernel
theorem dX2_writes_181 : decode cX2_writes 181 = .ok (.iaload, 1) := by decide +kernel
theorem dX2_writes_182 : decode cX2_writes 182 = .ok (.iadd, 1) := by decide +kernel
theorem dX2_writes_183 : decode cX2_writes 183 = .ok (.iastore, 1) := by decide +kernel
theorem dX2_writes_184 : decode cX2_writes 184 = .ok (.return_, 1) := by decide +kernel
set_option maxRecDepth 20000 in
theorem ggX2_isBroken_X2_proofOf : GoodIn wsX2_isBroken wsX2_proofOf := goodIn_r _ [6, 1, 7, 8, 9, 10, 11, 12, 13, 14, 15, 16, 17, 18, 19, 20, 21, 22, 23, 24, 25, 26, 27, 28, 29, 30, 31, 32, 33, 34] (by decide +kernel) (by decide +kernel)
set_option maxRecDepth 20000 in
theorem gX2_isBroken_X2_proofOf : GoodIn wsX2_isBroken (wsV RX2 83 RX2 yX2_proofOf wsX2_proofOf) := goodIn_app (goodIn_of _ (by decide +kernel)) ggX2_isBroken_X2_proofOf
theorem dX2_isBroken_0 : decode cX2_isBroken 0 = .ok (.aload_n 0, 1) := by decide +kernel
theorem dX2_isBroken_1 : decode cX2_isBroken 1 = .ok (.getfield 50, 3) := by decide +kernel
theorem dX2_isBroken_4 : decode cX2_isBroken 4 = .ok (.bipush 30, 2) := by decide +kernel
theorem dX2_isBroken_6 : decode cX2_isBroken 6 = .ok (.iload_n 1, 1) := by decide +kernel
theorem dX2_isBroken_7 : decode cX2_isBroken 7 = .ok (.imul, 1) := by decide +kernel
theorem dX2_isBroken_8 : decode cX2_isBroken 8 = .ok (.iload_n 2, 1) := by decide +kernel
theorem dX2_isBroken_9 : decode cX2_isBroken 9 = .ok (.iadd, 1) := by decide +kernel
theorem dX2_isBroken_10 : decode cX2_isBroken 10 = .ok (.iaload, 1) := by decide +kernel
theorem dX2_isBroken_11 : decode cX2_isBroken 11 = .ok (.aload_n 0, 1) := by decide +kernel
theorem dX2_isBroken_12 : decode cX2_isBroken 12 = .ok (.iload_n 1, 1) := by decide +kernel
theorem dX2_isBroken_13 : decode cX2_isBroken 13 = .ok (.iload_n 2, 1) := by decide +kernel
theorem dX2_isBroken_14 : decode cX2_isBroken 14 = .ok (.invokevirtual 83, 3) := by decide +kernel
theorem dX2_isBroken_17 : decode cX2_isBroken 17 = .ok (.if_icmp .eq 7, 3) := by decide +kernel
theorem dX2_isBroken_20 : decode cX2_isBroken 20 = .ok (.iconst 1, 1) := by decide +kernel
theorem dX2_isBroken_21 : decode cX2_isBroken 21 = .ok (.goto 4, 3) := by decide +kernel
theorem dX2_isBroken_24 : decode cX2_isBroken 24 = .ok (.iconst 0, 1) := by decide +kernel
theorem dX2_isBroken_25 : decode cX2_isBroken 25 = .ok (.ireturn, 1) := by decide +kernel
set_option maxRecDepth 20000 in
theorem ggX2_firstBroken_X2_isBroken : GoodIn wsX2_firstBroken wsX2_isBroken := goodIn_r _ [6, 7, 8, 9, 10, 5, 11, 12, 13, 14, 15, 16, 17, 18, 19, 20, 21, 22, 23, 24, 25, 26, 27, 28, 29, 30, 31, 32, 33, 34, 35, 36, 37, 38, 39] (by decide +kernel) (by decide +kernel)
set_option maxRecDepth 20000 in
theorem gX2_firstBroken_X2_isBroken : GoodIn wsX2_firstBroken (wsV RX2 87 RX2 yX2_isBroken wsX2_isBroken) := goodIn_app (goodIn_of _ (by decide +kernel)) ggX2_firstBroken_X2_isBroken
theorem dX2_firstBroken_0 : decode cX2_firstBroken 0 = .ok (.iconst 0, 1) := by decide +kernel
theorem dX2_firstBroken_1 : decode cX2_firstBroken 1 = .ok (.istore_n 2, 1) := by decide +kernel
theorem dX2_firstBroken_2 : decode cX2_firstBroken 2 = .ok (.iload_n 2, 1) := by decide +kernel
theorem dX2_firstBroken_3 : decode cX2_firstBroken 3 = .ok (.aload_n 0, 1) := by decide +kernel
theorem dX2_firstBroken_4 : decode cX2_firstBroken 4 = .ok (.getfield 16, 3) := by decide +kernel
theorem dX2_firstBroken_7 : decode cX2_firstBroken 7 = .ok (.iload_n 1, 1) := by decide +kernel
theorem dX2_firstBroken_8 : decode cX2_firstBroken 8 = .ok (.iaload, 1) := by decide +kernel
theorem dX2_firstBroken_9 : decode cX2_firstBroken 9 = .ok (.if_icmp .ge 20, 3) := by decide +kernel
theorem dX2_firstBroken_12 : decode cX2_firstBroken 12 = .ok (.aload_n 0, 1) := by decide +kernel
theorem dX2_firstBroken_13 : decode cX2_firstBroken 13 = .ok (.iload_n 1, 1) := by decide +kernel
theorem dX2_firstBroken_14 : decode cX2_firstBroken 14 = .ok (.iload_n 2, 1) := by decide +kernel
theorem dX2_firstBroken_15 : decode cX2_firstBroken 15 = .ok (.invokevirtual 87, 3) := by decide +kernel
theorem dX2_firstBroken_18 : decode cX2_firstBroken 18 = .ok (.ifCond .eq 5, 3) := by decide +kernel
theorem dX2_firstBroken_21 : decode cX2_firstBroken 21 = .ok (.iload_n 2, 1) := by decide +kernel
theorem dX2_firstBroken_22 : decode cX2_firstBroken 22 = .ok (.ireturn, 1) := by decide +kernel
theorem dX2_firstBroken_23 : decode cX2_firstBroken 23 = .ok (.iinc 2 1, 3) := by decide +kernel
theorem dX2_firstBroken_26 : decode cX2_firstBroken 26 = .ok (.goto (-24), 3) := by decide +kernel
theorem dX2_firstBroken_29 : decode cX2_firstBroken 29 = .ok (.iconst (-1), 1) := by decide +kernel
theorem dX2_firstBroken_30 : decode cX2_firstBroken 30 = .ok (.ireturn, 1) := by decide +kernel
set_option maxRecDepth 20000 in
theorem ggX2_sound_X2_firstBroken : GoodIn wsX2_sound wsX2_firstBroken := goodIn_r _ [8, 1, 9, 10, 11, 7, 12, 13, 14, 15, 16, 17, 2, 18, 19, 20, 3, 21, 22, 23, 24, 25, 26, 27, 28, 29, 30, 31, 32, 33, 34, 35, 36, 37, 38, 39, 40, 41, 42, 43] (by decide +kernel) (by decide +kernel)
set_option maxRecDepth 20000 in
theorem gX2_sound_X2_firstBroken : GoodIn wsX2_sound (wsV RX2 91 RX2 yX2_firstBroken wsX2_firstBroken) := goodIn_app (goodIn_of _ (by decide +kernel)) ggX2_sound_X2_firstBroken
theorem dX2_sound_0 : decode cX2_sound 0 = .ok (.iconst 1, 1) := by decide +kernel
theorem dX2_sound_1 : decode cX2_sound 1 = .ok (.iload_n 1, 1) := by decide +kernel
theorem dX2_sound_2 : decode cX2_sound 2 = .ok (.ishl, 1) := by decide +kernel
theorem dX2_sound_3 : decode cX2_sound 3 = .ok (.istore_n 2, 1) := by decide +kernel
theorem dX2_sound_4 : decode cX2_sound 4 = .ok (.iconst 0, 1) := by decide +kernel
theorem dX2_sound_5 : decode cX2_sound 5 = .ok (.istore_n 3, 1) := by decide +kernel
theorem dX2_sound_6 : decode cX2_sound 6 = .ok (.iload_n 3, 1) := by decide +kernel
theorem dX2_sound_7 : decode cX2_sound 7 = .ok (.iload_n 2, 1) := by decide +kernel
theorem dX2_sound_8 : decode cX2_sound 8 = .ok (.if_icmp .eq 116, 3) := by decide +kernel
theorem dX2_sound_11 : decode cX2_sound 11 = .ok (.iconst 0, 1) := by decide +kernel
theorem dX2_sound_12 : decode cX2_sound 12 = .ok (.istore 4, 2) := by decide +kernel
theorem dX2_sound_14 : decode cX2_sound 14 = .ok (.iload_n 2, 1) := by decide +kernel
theorem dX2_sound_15 : decode cX2_sound 15 = .ok (.iload_n 3, 1) := by decide +kernel
theorem dX2_sound_16 : decode cX2_sound 16 = .ok (.iconst (-1), 1) := by decide +kernel
theorem dX2_sound_17 : decode cX2_sound 17 = .ok (.ixor, 1) := by decide +kernel
theorem dX2_sound_18 : decode cX2_sound 18 = .ok (.iand, 1) := by decide +kernel
theorem dX2_sound_19 : decode cX2_sound 19 = .ok (.iconst 1, 1) := by decide +kernel
theorem dX2_sound_20 : decode cX2_sound 20 = .ok (.iload 4, 2) := by decide +kernel
theorem dX2_sound_22 : decode cX2_sound 22 = .ok (.ishl, 1) := by decide +kernel
theorem dX2_sound_23 : decode cX2_sound 23 = .ok (.iand, 1) := by decide +kernel
theorem dX2_sound_24 : decode cX2_sound 24 = .ok (.ifCond .ne 9, 3) := by decide +kernel
theorem dX2_sound_27 : decode cX2_sound 27 = .ok (.iinc 4 1, 3) := by decide +kernel
theorem dX2_sound_30 : decode cX2_sound 30 = .ok (.goto (-16), 3) := by decide +kernel
theorem dX2_sound_33 : decode cX2_sound 33 = .ok (.iload_n 3, 1) := by decide +kernel
theorem dX2_sound_34 : decode cX2_sound 34 = .ok (.iconst 1, 1) := by decide +kernel
theorem dX2_sound_35 : decode cX2_sound 35 = .ok (.iload 4, 2) := by decide +kernel
theorem dX2_sound_37 : decode cX2_sound 37 = .ok (.ishl, 1) := by decide +kernel
theorem dX2_sound_38 : decode cX2_sound 38 = .ok (.ior, 1) := by decide +kernel
theorem dX2_sound_39 : decode cX2_sound 39 = .ok (.istore_n 3, 1) := by decide +kernel
theorem dX2_sound_40 : decode cX2_sound 40 = .ok (.aload_n 0, 1) := by decide +kernel
theorem dX2_sound_41 : decode cX2_sound 41 = .ok (.iload 4, 2) := by decide +kernel
theorem dX2_sound_43 : decode cX2_sound 43 = .ok (.invokevirtual 91, 3) := by decide +kernel
theorem dX2_sound_46 : decode cX2_sound 46 = .ok (.iconst (-1), 1) := by decide +kernel
theorem dX2_sound_47 : decode cX2_sound 47 = .ok (.if_icmp .eq 5, 3) := by decide +kernel
theorem dX2_sound_50 : decode cX2_sound 50 = .ok (.iconst 0, 1) := by decide +kernel
theorem dX2_sound_51 : decode cX2_sound 51 = .ok (.ireturn, 1) := by decide +kernel
theorem dX2_sound_52 : decode cX2_sound 52 = .ok (.bipush 30, 2) := by decide +kernel
theorem dX2_sound_54 : decode cX2_sound 54 = .ok (.iload 4, 2) := by decide +kernel
theorem dX2_sound_56 : decode cX2_sound 56 = .ok (.imul, 1) := by decide +kernel
theorem dX2_sound_57 : decode cX2_sound 57 = .ok (.istore 5, 2) := by decide +kernel
theorem dX2_sound_59 : decode cX2_sound 59 = .ok (.iload 5, 2) := by decide +kernel
theorem dX2_sound_61 : decode cX2_sound 61 = .ok (.bipush 30, 2) := by decide +kernel
theorem dX2_sound_63 : decode cX2_sound 63 = .ok (.iload 4, 2) := by decide +kernel
theorem dX2_sound_65 : decode cX2_sound 65 = .ok (.imul, 1) := by decide +kernel
theorem dX2_sound_66 : decode cX2_sound 66 = .ok (.aload_n 0, 1) := by decide +kernel
theorem dX2_sound_67 : decode cX2_sound 67 = .ok (.getfield 16, 3) := by decide +kernel
theorem dX2_sound_70 : decode cX2_sound 70 = .ok (.iload 4, 2) := by decide +kernel
theorem dX2_sound_72 : decode cX2_sound 72 = .ok (.iaload, 1) := by decide +kernel
theorem dX2_sound_73 : decode cX2_sound 73 = .ok (.iadd, 1) := by decide +kernel
theorem dX2_sound_74 : decode cX2_sound 74 = .ok (.if_icmp .ge 47, 3) := by decide +kernel
theorem dX2_sound_77 : decode cX2_sound 77 = .ok (.iload_n 2, 1) := by decide +kernel
theorem dX2_sound_78 : decode cX2_sound 78 = .ok (.aload_n 0, 1) := by decide +kernel
theorem dX2_sound_79 : decode cX2_sound 79 = .ok (.getfield 29, 3) := by decide +kernel
theorem dX2_sound_82 : decode cX2_sound 82 = .ok (.iload 5, 2) := by decide +kernel
theorem dX2_sound_84 : decode cX2_sound 84 = .ok (.iaload, 1) := by decide +kernel
theorem dX2_sound_85 : decode cX2_sound 85 = .ok (.iconst 4, 1) := by decide +kernel
theorem dX2_sound_86 : decode cX2_sound 86 = .ok (.if_icmp .eq 14, 3) := by decide +kernel
theorem dX2_sound_89 : decode cX2_sound 89 = .ok (.aload_n 0, 1) := by decide +kernel
theorem dX2_sound_90 : decode cX2_sound 90 = .ok (.getfield 29, 3) := by decide +kernel
theorem dX2_sound_93 : decode cX2_sound 93 = .ok (.iload 5, 2) := by decide +kernel
theorem dX2_sound_95 : decode cX2_sound 95 = .ok (.iaload, 1) := by decide +kernel
theorem dX2_sound_96 : decode cX2_sound 96 = .ok (.iconst 5, 1) := by decide +kernel
theorem dX2_sound_97 : decode cX2_sound 97 = .ok (.if_icmp .ne 15, 3) := by decide +kernel
theorem dX2_sound_100 : decode cX2_sound 100 = .ok (.iconst 1, 1) := by decide +kernel
theorem dX2_sound_101 : decode cX2_sound 101 = .ok (.aload_n 0, 1) := by decide +kernel
theorem dX2_sound_102 : decode cX2_sound 102 = .ok (.getfield 41, 3) := by decide +kernel
theorem dX2_sound_105 : decode cX2_sound 105 = .ok (.iload 5, 2) := by decide +kernel
theorem dX2_sound_107 : decode cX2_sound 107 = .ok (.iaload, 1) := by decide +kernel
theorem dX2_sound_108 : decode cX2_sound 108 = .ok (.ishl, 1) := by decide +kernel
theorem dX2_sound_109 : decode cX2_sound 109 = .ok (.goto 4, 3) := by decide +kernel
theorem dX2_sound_112 : decode cX2_sound 112 = .ok (.iconst 0, 1) := by decide +kernel
theorem dX2_sound_113 : decode cX2_sound 113 = .ok (.ior, 1) := by decide +kernel
theorem dX2_sound_114 : decode cX2_sound 114 = .ok (.istore_n 2, 1) := by decide +kernel
theorem dX2_sound_115 : decode cX2_sound 115 = .ok (.iinc 5 1, 3) := by decide +kernel
theorem dX2_sound_118 : decode cX2_sound 118 = .ok (.goto (-59), 3) := by decide +kernel
theorem dX2_sound_121 : decode cX2_sound 121 = .ok (.goto (-115), 3) := by decide +kernel
theorem dX2_sound_124 : decode cX2_sound 124 = .ok (.iconst 1, 1) := by decide +kernel
theorem dX2_sound_125 : decode cX2_sound 125 = .ok (.ireturn, 1) := by decide +kernel
set_option maxRecDepth 20000 in
theorem ggX2_canWork_X2_sound : GoodIn wsX2_canWork wsX2_sound := goodIn_r _ [8, 3, 9, 10, 11, 12, 13, 7, 14, 15, 16, 17, 18, 19, 20, 21, 22, 23, 24, 25, 26, 27, 28, 29, 30, 31, 32, 33, 34, 35, 36, 37, 38, 39, 40, 41, 42, 43, 44, 45, 46, 47, 48, 49] (by decide +kernel) (by decide +kernel)
set_option maxRecDepth 20000 in
theorem gX2_canWork_X2_sound : GoodIn wsX2_canWork (wsV RX2 95 RX2 yX2_sound wsX2_sound) := goodIn_app (goodIn_of _ (by decide +kernel)) ggX2_canWork_X2_sound
theorem dX2_canWork_0 : decode cX2_canWork 0 = .ok (.aload_n 0, 1) := by decide +kernel
theorem dX2_canWork_1 : decode cX2_canWork 1 = .ok (.getfield 19, 3) := by decide +kernel
theorem dX2_canWork_4 : decode cX2_canWork 4 = .ok (.iload_n 1, 1) := by decide +kernel
theorem dX2_canWork_5 : decode cX2_canWork 5 = .ok (.baload, 1) := by decide +kernel
theorem dX2_canWork_6 : decode cX2_canWork 6 = .ok (.ifCond .ne 35, 3) := by decide +kernel
theorem dX2_canWork_9 : decode cX2_canWork 9 = .ok (.aload_n 0, 1) := by decide +kernel
theorem dX2_canWork_10 : decode cX2_canWork 10 = .ok (.getfield 23, 3) := by decide +kernel
theorem dX2_canWork_13 : decode cX2_canWork 13 = .ok (.iload_n 1, 1) := by decide +kernel
theorem dX2_canWork_14 : decode cX2_canWork 14 = .ok (.baload, 1) := by decide +kernel
theorem dX2_canWork_15 : decode cX2_canWork 15 = .ok (.ifCond .ne 26, 3) := by decide +kernel
theorem dX2_canWork_18 : decode cX2_canWork 18 = .ok (.aload_n 0, 1) := by decide +kernel
theorem dX2_canWork_19 : decode cX2_canWork 19 = .ok (.getfield 16, 3) := by decide +kernel
theorem dX2_canWork_22 : decode cX2_canWork 22 = .ok (.iload_n 1, 1) := by decide +kernel
theorem dX2_canWork_23 : decode cX2_canWork 23 = .ok (.iaload, 1) := by decide +kernel
theorem dX2_canWork_24 : decode cX2_canWork 24 = .ok (.bipush 30, 2) := by decide +kernel
theorem dX2_canWork_26 : decode cX2_canWork 26 = .ok (.if_icmp .ge 15, 3) := by decide +kernel
theorem dX2_canWork_29 : decode cX2_canWork 29 = .ok (.aload_n 0, 1) := by decide +kernel
theorem dX2_canWork_30 : decode cX2_canWork 30 = .ok (.iload_n 1, 1) := by decide +kernel
theorem dX2_canWork_31 : decode cX2_canWork 31 = .ok (.invokevirtual 95, 3) := by decide +kernel
theorem dX2_canWork_34 : decode cX2_canWork 34 = .ok (.ifCond .eq 7, 3) := by decide +kernel
theorem dX2_canWork_37 : decode cX2_canWork 37 = .ok (.iconst 1, 1) := by decide +kernel
theorem dX2_canWork_38 : decode cX2_canWork 38 = .ok (.goto 4, 3) := by decide +kernel
theorem dX2_canWork_41 : decode cX2_canWork 41 = .ok (.iconst 0, 1) := by decide +kernel
theorem dX2_canWork_42 : decode cX2_canWork 42 = .ok (.ireturn, 1) := by decide +kernel
theorem dX2_weight_0 : decode cX2_weight 0 = .ok (.iconst 0, 1) := by decide +kernel
theorem dX2_weight_1 : decode cX2_weight 1 = .ok (.istore_n 2, 1) := by decide +kernel
theorem dX2_weight_2 : decode cX2_weight 2 = .ok (.iconst 0, 1) := by decide +kernel
theorem dX2_weight_3 : decode cX2_weight 3 = .ok (.istore_n 3, 1) := by decide +kernel
theorem dX2_weight_4 : decode cX2_weight 4 = .ok (.iload_n 3, 1) := by decide +kernel
theorem dX2_weight_5 : decode cX2_weight 5 = .ok (.bipush 6, 2) := by decide +kernel
theorem dX2_weight_7 : decode cX2_weight 7 = .ok (.if_icmp .ge 27, 3) := by decide +kernel
theorem dX2_weight_10 : decode cX2_weight 10 = .ok (.iload_n 2, 1) := by decide +kernel
theorem dX2_weight_11 : decode cX2_weight 11 = .ok (.aload_n 0, 1) := by decide +kernel
theorem dX2_weight_12 : decode cX2_weight 12 = .ok (.getfield 13, 3) := by decide +kernel
theorem dX2_weight_15 : decode cX2_weight 15 = .ok (.bipush 6, 2) := by decide +kernel
theorem dX2_weight_17 : decode cX2_weight 17 = .ok (.iload_n 1, 1) := by decide +kernel
theorem dX2_weight_18 : decode cX2_weight 18 = .ok (.imul, 1) := by decide +kernel
theorem dX2_weight_19 : decode cX2_weight 19 = .ok (.iload_n 3, 1) := by decide +kernel
theorem dX2_weight_20 : decode cX2_weight 20 = .ok (.iadd, 1) := by decide +kernel
theorem dX2_weight_21 : decode cX2_weight 21 = .ok (.iaload, 1) := by decide +kernel
theorem dX2_weight_22 : decode cX2_weight 22 = .ok (.iload_n 3, 1) := by decide +kernel
theorem dX2_weight_23 : decode cX2_weight 23 = .ok (.iconst 1, 1) := by decide +kernel
theorem dX2_weight_24 : decode cX2_weight 24 = .ok (.iadd, 1) := by decide +kernel
theorem dX2_weight_25 : decode cX2_weight 25 = .ok (.imul, 1) := by decide +kernel
theorem dX2_weight_26 : decode cX2_weight 26 = .ok (.iadd, 1) := by decide +kernel
theorem dX2_weight_27 : decode cX2_weight 27 = .ok (.istore_n 2, 1) := by decide +kernel
theorem dX2_weight_28 : decode cX2_weight 28 = .ok (.iinc 3 1, 3) := by decide +kernel
theorem dX2_weight_31 : decode cX2_weight 31 = .ok (.goto (-27), 3) := by decide +kernel
theorem dX2_weight_34 : decode cX2_weight 34 = .ok (.iload_n 2, 1) := by decide +kernel
theorem dX2_weight_35 : decode cX2_weight 35 = .ok (.ireturn, 1) := by decide +kernel
set_option maxRecDepth 20000 in
theorem ggX2_hasRoom_X2_weight : GoodIn wsX2_hasRoom wsX2_weight := goodIn_r _ [7, 8, 9, 10, 11, 12, 13, 14, 15, 16, 17, 18, 19, 20, 21, 22, 23, 24, 25, 26, 27, 28, 29, 30] (by decide +kernel) (by decide +kernel)
set_option maxRecDepth 20000 in
theorem gX2_hasRoom_X2_weight : GoodIn wsX2_hasRoom (wsV RX2 98 RX2 yX2_weight wsX2_weight) := goodIn_app (goodIn_of _ (by decide +kernel)) ggX2_hasRoom_X2_weight
theorem dX2_hasRoom_0 : decode cX2_hasRoom 0 = .ok (.iload_n 2, 1) := by decide +kernel
theorem dX2_hasRoom_1 : decode cX2_hasRoom 1 = .ok (.istore_n 3, 1) := by decide +kernel
theorem dX2_hasRoom_2 : decode cX2_hasRoom 2 = .ok (.iconst 0, 1) := by decide +kernel
theorem dX2_hasRoom_3 : decode cX2_hasRoom 3 = .ok (.istore 4, 2) := by decide +kernel
theorem dX2_hasRoom_5 : decode cX2_hasRoom 5 = .ok (.iload 4, 2) := by decide +kernel
theorem dX2_hasRoom_7 : decode cX2_hasRoom 7 = .ok (.aload_n 0, 1) := by decide +kernel
theorem dX2_hasRoom_8 : decode cX2_hasRoom 8 = .ok (.getfield 72, 3) := by decide +kernel
theorem dX2_hasRoom_11 : decode cX2_hasRoom 11 = .ok (.if_icmp .ge 33, 3) := by decide +kernel
theorem dX2_hasRoom_14 : decode cX2_hasRoom 14 = .ok (.iload_n 3, 1) := by decide +kernel
theorem dX2_hasRoom_15 : decode cX2_hasRoom 15 = .ok (.aload_n 0, 1) := by decide +kernel
theorem dX2_hasRoom_16 : decode cX2_hasRoom 16 = .ok (.getfield 7, 3) := by decide +kernel
theorem dX2_hasRoom_19 : decode cX2_hasRoom 19 = .ok (.iload 4, 2) := by decide +kernel
theorem dX2_hasRoom_21 : decode cX2_hasRoom 21 = .ok (.iaload, 1) := by decide +kernel
theorem dX2_hasRoom_22 : decode cX2_hasRoom 22 = .ok (.iload_n 1, 1) := by decide +kernel
theorem dX2_hasRoom_23 : decode cX2_hasRoom 23 = .ok (.if_icmp .ne 12, 3) := by decide +kernel
theorem dX2_hasRoom_26 : decode cX2_hasRoom 26 = .ok (.aload_n 0, 1) := by decide +kernel
theorem dX2_hasRoom_27 : decode cX2_hasRoom 27 = .ok (.iload 4, 2) := by decide +kernel
theorem dX2_hasRoom_29 : decode cX2_hasRoom 29 = .ok (.invokevirtual 98, 3) := by decide +kernel
theorem dX2_hasRoom_32 : decode cX2_hasRoom 32 = .ok (.goto 4, 3) := by decide +kernel
theorem dX2_hasRoom_35 : decode cX2_hasRoom 35 = .ok (.iconst 0, 1) := by decide +kernel
theorem dX2_hasRoom_36 : decode cX2_hasRoom 36 = .ok (.iadd, 1) := by decide +kernel
theorem dX2_hasRoom_37 : decode cX2_hasRoom 37 = .ok (.istore_n 3, 1) := by decide +kernel
theorem dX2_hasRoom_38 : decode cX2_hasRoom 38 = .ok (.iinc 4 1, 3) := by decide +kernel
theorem dX2_hasRoom_41 : decode cX2_hasRoom 41 = .ok (.goto (-36), 3) := by decide +kernel
theorem dX2_hasRoom_44 : decode cX2_hasRoom 44 = .ok (.iload_n 1, 1) := by decide +kernel
theorem dX2_hasRoom_45 : decode cX2_hasRoom 45 = .ok (.iconst 4, 1) := by decide +kernel
theorem dX2_hasRoom_46 : decode cX2_hasRoom 46 = .ok (.if_icmp .lt 10, 3) := by decide +kernel
theorem dX2_hasRoom_49 : decode cX2_hasRoom 49 = .ok (.iload_n 3, 1) := by decide +kernel
theorem dX2_hasRoom_50 : decode cX2_hasRoom 50 = .ok (.sipush 200, 3) := by decide +kernel
theorem dX2_hasRoom_53 : decode cX2_hasRoom 53 = .ok (.if_icmp .gt 7, 3) := by decide +kernel
theorem dX2_hasRoom_56 : decode cX2_hasRoom 56 = .ok (.iconst 1, 1) := by decide +kernel
theorem dX2_hasRoom_57 : decode cX2_hasRoom 57 = .ok (.goto 4, 3) := by decide +kernel
theorem dX2_hasRoom_60 : decode cX2_hasRoom 60 = .ok (.iconst 0, 1) := by decide +kernel
theorem dX2_hasRoom_61 : decode cX2_hasRoom 61 = .ok (.ireturn, 1) := by decide +kernel
theorem dX2_makes_0 : decode cX2_makes 0 = .ok (.aload_n 0, 1) := by decide +kernel
theorem dX2_makes_1 : decode cX2_makes 1 = .ok (.getfield 72, 3) := by decide +kernel
theorem dX2_makes_4 : decode cX2_makes 4 = .ok (.istore_n 2, 1) := by decide +kernel
theorem dX2_makes_5 : decode cX2_makes 5 = .ok (.aload_n 0, 1) := by decide +kernel
theorem dX2_makes_6 : decode cX2_makes 6 = .ok (.getfield 7, 3) := by decide +kernel
theorem dX2_makes_9 : decode cX2_makes 9 = .ok (.iload_n 2, 1) := by decide +kernel
theorem dX2_makes_10 : decode cX2_makes 10 = .ok (.iload_n 1, 1) := by decide +kernel
theorem dX2_makes_11 : decode cX2_makes 11 = .ok (.iastore, 1) := by decide +kernel
theorem dX2_makes_12 : decode cX2_makes 12 = .ok (.aload_n 0, 1) := by decide +kernel
theorem dX2_makes_13 : decode cX2_makes 13 = .ok (.dup, 1) := by decide +kernel
theorem dX2_makes_14 : decode cX2_makes 14 = .ok (.getfield 72, 3) := by decide +kernel
theorem dX2_makes_17 : decode cX2_makes 17 = .ok (.iconst 1, 1) := by decide +kernel
theorem dX2_makes_18 : decode cX2_makes 18 = .ok (.iadd, 1) := by decide +kernel
theorem dX2_makes_19 : decode cX2_makes 19 = .ok (.putfield 72, 3) := by decide +kernel
theorem dX2_makes_22 : decode cX2_makes 22 = .ok (.iload_n 2, 1) := by decide +kernel
theorem dX2_makes_23 : decode cX2_makes 23 = .ok (.ireturn, 1) := by decide +kernel
set_option maxRecDepth 20000 in
theorem ggX2_make_X2_isIn : GoodIn wsX2_make wsX2_isIn := goodIn_r _ [5] (by decide +kernel) (by decide +kernel)
set_option maxRecDepth 20000 in
theorem gX2_make_X2_isIn : GoodIn wsX2_make (va_wsS RX2 75 yX2_isIn wsX2_isIn) := goodIn_app (goodIn_of _ (by decide +kernel)) ggX2_make_X2_isIn
set_option maxRecDepth 20000 in
theorem ggX2_make_X2_holds : GoodIn wsX2_make wsX2_holds := goodIn_r _ [9, 10, 36, 37, 38, 39, 40, 41, 42, 43, 44, 45, 46, 47, 48, 49, 50, 51, 52, 53, 54, 55, 56, 57] (by decide +kernel) (by decide +kernel)
set_option maxRecDepth 20000 in
theorem gX2_make_X2_holds : GoodIn wsX2_make (wsV RX2 101 RX2 yX2_holds wsX2_holds) := goodIn_app (goodIn_of _ (by decide +kernel)) ggX2_make_X2_holds
set_option maxRecDepth 20000 in
theorem ggX2_make_X2_makes : GoodIn wsX2_make wsX2_makes := goodIn_r _ [14, 1, 15, 36, 37, 38, 39, 40, 41, 42, 43, 44, 45, 46, 47, 48, 49, 50, 51, 52, 53, 54, 55, 56, 57] (by decide +kernel) (by decide +kernel)
set_option maxRecDepth 20000 in
theorem gX2_make_X2_makes : GoodIn wsX2_make (wsV RX2 104 RX2 yX2_makes wsX2_makes) := goodIn_app (goodIn_of _ (by decide +kernel)) ggX2_make_X2_makes
set_option maxRecDepth 20000 in
theorem ggX2_make_X2_writes : GoodIn wsX2_make wsX2_writes := goodIn_r _ [19, 20, 15, 21, 22, 23, 24, 25, 26, 27, 28, 29, 30, 31, 32, 33, 34, 4, 35, 36, 37, 38, 39, 40, 41, 42, 43, 44, 45, 46, 47, 48, 49, 50, 51, 52, 53, 54, 55, 56, 57] (by decide +kernel) (by decide +kernel)
set_option maxRecDepth 20000 in
theorem gX2_make_X2_writes : GoodIn wsX2_make (wsV RX2 107 RX2 yX2_writes wsX2_writes) := goodIn_app (goodIn_of _ (by decide +kernel)) ggX2_make_X2_writes
theorem dX2_make_0 : decode cX2_make 0 = .ok (.iload_n 1, 1) := by decide +kernel
theorem dX2_make_1 : decode cX2_make 1 = .ok (.iconst 0, 1) := by decide +kernel
theorem dX2_make_2 : decode cX2_make 2 = .ok (.iconst 3, 1) := by decide +kernel
theorem dX2_make_3 : decode cX2_make 3 = .ok (.invokestatic 75, 3) := by decide +kernel
theorem dX2_make_6 : decode cX2_make 6 = .ok (.istore_n 2, 1) := by decide +kernel
theorem dX2_make_7 : decode cX2_make 7 = .ok (.aload_n 0, 1) := by decide +kernel
theorem dX2_make_8 : decode cX2_make 8 = .ok (.iload_n 2, 1) := by decide +kernel
theorem dX2_make_9 : decode cX2_make 9 = .ok (.ifCond .ne 7, 3) := by decide +kernel
theorem dX2_make_12 : decode cX2_make 12 = .ok (.iconst 1, 1) := by decide +kernel
theorem dX2_make_13 : decode cX2_make 13 = .ok (.goto 17, 3) := by decide +kernel
theorem dX2_make_16 : decode cX2_make 16 = .ok (.aload_n 0, 1) := by decide +kernel
theorem dX2_make_17 : decode cX2_make 17 = .ok (.getfield 72, 3) := by decide +kernel
theorem dX2_make_20 : decode cX2_make 20 = .ok (.bipush 14, 2) := by decide +kernel
theorem dX2_make_22 : decode cX2_make 22 = .ok (.if_icmp .ne 7, 3) := by decide +kernel
theorem dX2_make_25 : decode cX2_make 25 = .ok (.iconst 2, 1) := by decide +kernel
theorem dX2_make_26 : decode cX2_make 26 = .ok (.goto 4, 3) := by decide +kernel
theorem dX2_make_29 : decode cX2_make 29 = .ok (.iconst 0, 1) := by decide +kernel
theorem dX2_make_30 : decode cX2_make 30 = .ok (.invokevirtual 101, 3) := by decide +kernel
theorem dX2_make_33 : decode cX2_make 33 = .ok (.ifCond .ne 5, 3) := by decide +kernel
theorem dX2_make_36 : decode cX2_make 36 = .ok (.iconst 0, 1) := by decide +kernel
theorem dX2_make_37 : decode cX2_make 37 = .ok (.ireturn, 1) := by decide +kernel
theorem dX2_make_38 : decode cX2_make 38 = .ok (.aload_n 0, 1) := by decide +kernel
theorem dX2_make_39 : decode cX2_make 39 = .ok (.iload_n 1, 1) := by decide +kernel
theorem dX2_make_40 : decode cX2_make 40 = .ok (.invokevirtual 104, 3) := by decide +kernel
theorem dX2_make_43 : decode cX2_make 43 = .ok (.istore_n 3, 1) := by decide +kernel
theorem dX2_make_44 : decode cX2_make 44 = .ok (.aload_n 0, 1) := by decide +kernel
theorem dX2_make_45 : decode cX2_make 45 = .ok (.iload_n 3, 1) := by decide +kernel
theorem dX2_make_46 : decode cX2_make 46 = .ok (.iconst 0, 1) := by decide +kernel
theorem dX2_make_47 : decode cX2_make 47 = .ok (.iconst 0, 1) := by decide +kernel
theorem dX2_make_48 : decode cX2_make 48 = .ok (.iconst 0, 1) := by decide +kernel
theorem dX2_make_49 : decode cX2_make 49 = .ok (.iconst 0, 1) := by decide +kernel
theorem dX2_make_50 : decode cX2_make 50 = .ok (.iconst 0, 1) := by decide +kernel
theorem dX2_make_51 : decode cX2_make 51 = .ok (.invokevirtual 107, 3) := by decide +kernel
theorem dX2_make_54 : decode cX2_make 54 = .ok (.iload_n 3, 1) := by decide +kernel
theorem dX2_make_55 : decode cX2_make 55 = .ok (.ireturn, 1) := by decide +kernel
set_option maxRecDepth 20000 in
theorem ggX2_canLoad_X2_canWork : GoodIn wsX2_canLoad wsX2_canWork := goodIn_r _ [7, 8, 9, 10, 11, 12, 13, 6, 14, 15, 16, 17, 18, 19, 20, 21, 22, 23, 24, 25, 26, 27, 28, 29, 30, 31, 32, 33, 46, 47, 48, 49, 50, 51, 52, 53, 54, 55, 56, 57, 58, 59, 60, 61, 62, 63, 64, 65, 66, 67] (by decide +kernel) (by decide +kernel)
set_option maxRecDepth 20000 in
theorem gX2_canLoad_X2_canWork : GoodIn wsX2_canLoad (wsV RX2 111 RX2 yX2_canWork wsX2_canWork) := goodIn_app (goodIn_of _ (by decide +kernel)) ggX2_canLoad_X2_canWork
set_option maxRecDepth 20000 in
theorem ggX2_canLoad_X2_isIn : GoodIn wsX2_canLoad wsX2_isIn := goodIn_r _ [36] (by decide +kernel) (by decide +kernel)
set_option maxRecDepth 20000 in
theorem gX2_canLoad_X2_isIn : GoodIn wsX2_canLoad (va_wsS RX2 75 yX2_isIn wsX2_isIn) := goodIn_app (goodIn_of _ (by decide +kernel)) ggX2_canLoad_X2_isIn
set_option maxRecDepth 20000 in
theorem ggX2_canLoad_X2_hasRoom : GoodIn wsX2_canLoad wsX2_hasRoom := goodIn_r _ [40, 41, 2, 42, 43, 44, 6, 45, 1, 46, 47, 48, 49, 50, 51, 52, 53, 54, 55, 56, 57, 58, 59, 60, 61, 62, 63, 64, 65, 66, 67] (by decide +kernel) (by decide +kernel)
set_option maxRecDepth 20000 in
theorem gX2_canLoad_X2_hasRoom : GoodIn wsX2_canLoad (wsV RX2 114 RX2 yX2_hasRoom wsX2_hasRoom) := goodIn_app (goodIn_of _ (by decide +kernel)) ggX2_canLoad_X2_hasRoom
theorem dX2_canLoad_0 : decode cX2_canLoad 0 = .ok (.aload_n 0, 1) := by decide +kernel
theorem dX2_canLoad_1 : decode cX2_canLoad 1 = .ok (.getfield 13, 3) := by decide +kernel
theorem dX2_canLoad_4 : decode cX2_canLoad 4 = .ok (.bipush 6, 2) := by decide +kernel
theorem dX2_canLoad_6 : decode cX2_canLoad 6 = .ok (.iload_n 1, 1) := by decide +kernel
theorem dX2_canLoad_7 : decode cX2_canLoad 7 = .ok (.imul, 1) := by decide +kernel
theorem dX2_canLoad_8 : decode cX2_canLoad 8 = .ok (.iload_n 2, 1) := by decide +kernel
theorem dX2_canLoad_9 : decode cX2_canLoad 9 = .ok (.iadd, 1) := by decide +kernel
theorem dX2_canLoad_10 : decode cX2_canLoad 10 = .ok (.iaload, 1) := by decide +kernel
theorem dX2_canLoad_11 : decode cX2_canLoad 11 = .ok (.iload_n 3, 1) := by decide +kernel
theorem dX2_canLoad_12 : decode cX2_canLoad 12 = .ok (.iadd, 1) := by decide +kernel
theorem dX2_canLoad_13 : decode cX2_canLoad 13 = .ok (.istore 4, 2) := by decide +kernel
theorem dX2_canLoad_15 : decode cX2_canLoad 15 = .ok (.aload_n 0, 1) := by decide +kernel
theorem dX2_canLoad_16 : decode cX2_canLoad 16 = .ok (.iload_n 1, 1) := by decide +kernel
theorem dX2_canLoad_17 : decode cX2_canLoad 17 = .ok (.invokevirtual 111, 3) := by decide +kernel
theorem dX2_canLoad_20 : decode cX2_canLoad 20 = .ok (.ifCond .eq 41, 3) := by decide +kernel
theorem dX2_canLoad_23 : decode cX2_canLoad 23 = .ok (.iload 4, 2) := by decide +kernel
theorem dX2_canLoad_25 : decode cX2_canLoad 25 = .ok (.iconst 0, 1) := by decide +kernel
theorem dX2_canLoad_26 : decode cX2_canLoad 26 = .ok (.sipush 999, 3) := by decide +kernel
theorem dX2_canLoad_29 : decode cX2_canLoad 29 = .ok (.invokestatic 75, 3) := by decide +kernel
theorem dX2_canLoad_32 : decode cX2_canLoad 32 = .ok (.ifCond .eq 29, 3) := by decide +kernel
theorem dX2_canLoad_35 : decode cX2_canLoad 35 = .ok (.iload_n 3, 1) := by decide +kernel
theorem dX2_canLoad_36 : decode cX2_canLoad 36 = .ok (.ifCond .lt 21, 3) := by decide +kernel
theorem dX2_canLoad_39 : decode cX2_canLoad 39 = .ok (.aload_n 0, 1) := by decide +kernel
theorem dX2_canLoad_40 : decode cX2_canLoad 40 = .ok (.aload_n 0, 1) := by decide +kernel
theorem dX2_canLoad_41 : decode cX2_canLoad 41 = .ok (.getfield 7, 3) := by decide +kernel
theorem dX2_canLoad_44 : decode cX2_canLoad 44 = .ok (.iload_n 1, 1) := by decide +kernel
theorem dX2_canLoad_45 : decode cX2_canLoad 45 = .ok (.iaload, 1) := by decide +kernel
theorem dX2_canLoad_46 : decode cX2_canLoad 46 = .ok (.iload_n 3, 1) := by decide +kernel
theorem dX2_canLoad_47 : decode cX2_canLoad 47 = .ok (.iload_n 2, 1) := by decide +kernel
theorem dX2_canLoad_48 : decode cX2_canLoad 48 = .ok (.iconst 1, 1) := by decide +kernel
theorem dX2_canLoad_49 : decode cX2_canLoad 49 = .ok (.iadd, 1) := by decide +kernel
theorem dX2_canLoad_50 : decode cX2_canLoad 50 = .ok (.imul, 1) := by decide +kernel
theorem dX2_canLoad_51 : decode cX2_canLoad 51 = .ok (.invokevirtual 114, 3) := by decide +kernel
theorem dX2_canLoad_54 : decode cX2_canLoad 54 = .ok (.ifCond .eq 7, 3) := by decide +kernel
theorem dX2_canLoad_57 : decode cX2_canLoad 57 = .ok (.iconst 1, 1) := by decide +kernel
theorem dX2_canLoad_58 : decode cX2_canLoad 58 = .ok (.goto 4, 3) := by decide +kernel
theorem dX2_canLoad_61 : decode cX2_canLoad 61 = .ok (.iconst 0, 1) := by decide +kernel
theorem dX2_canLoad_62 : decode cX2_canLoad 62 = .ok (.ireturn, 1) := by decide +kernel
set_option maxRecDepth 20000 in
theorem ggX2_load_X2_isPallet : GoodIn wsX2_load wsX2_isPallet := goodIn_r _ [6, 7, 8, 9, 5, 10, 70, 71, 72, 73, 74, 75, 76, 77, 78, 79, 80, 81, 82, 83, 84, 85, 86, 87, 88, 89, 90, 91] (by decide +kernel) (by decide +kernel)
set_option maxRecDepth 20000 in
theorem gX2_load_X2_isPallet : GoodIn wsX2_load (wsV RX2 79 RX2 yX2_isPallet wsX2_isPallet) := goodIn_app (goodIn_of _ (by decide +kernel)) ggX2_load_X2_isPallet
set_option maxRecDepth 20000 in
theorem ggX2_load_X2_isGood : GoodIn wsX2_load wsX2_isGood := goodIn_r _ [13, 8, 9, 5, 10] (by decide +kernel) (by decide +kernel)
set_option maxRecDepth 20000 in
theorem gX2_load_X2_isGood : GoodIn wsX2_load (va_wsS RX2 117 yX2_isGood wsX2_isGood) := goodIn_app (goodIn_of _ (by decide +kernel)) ggX2_load_X2_isGood
set_option maxRecDepth 20000 in
theorem ggX2_load_X2_isIn : GoodIn wsX2_load wsX2_isIn := goodIn_r _ [10] (by decide +kernel) (by decide +kernel)
set_option maxRecDepth 20000 in
theorem gX2_load_X2_isIn : GoodIn wsX2_load (va_wsS RX2 75 yX2_isIn wsX2_isIn) := goodIn_app (goodIn_of _ (by decide +kernel)) ggX2_load_X2_isIn
set_option maxRecDepth 20000 in
theorem ggX2_load_X2_canLoad : GoodIn wsX2_load wsX2_canLoad := goodIn_r _ [17, 1, 18, 19, 20, 21, 5, 22, 23, 24, 25, 26, 27, 28, 29, 30, 31, 32, 33, 34, 35, 36, 37, 38, 39, 40, 41, 42, 43, 44, 45, 46, 47, 48, 8, 9, 10, 49, 50, 51, 52, 7, 53, 54, 55, 56, 70, 71, 72, 73, 74, 75, 76, 77, 78, 79, 80, 81, 82, 83, 84, 85, 86, 87, 88, 89, 90, 91] (by decide +kernel) (by decide +kernel)
set_option maxRecDepth 20000 in
theorem gX2_load_X2_canLoad : GoodIn wsX2_load (wsV RX2 120 RX2 yX2_canLoad wsX2_canLoad) := goodIn_app (goodIn_of _ (by decide +kernel)) ggX2_load_X2_canLoad
set_option maxRecDepth 20000 in
theorem ggX2_load_X2_holds : GoodIn wsX2_load wsX2_holds := goodIn_r _ [60, 61, 70, 71, 72, 73, 74, 75, 76, 77, 78, 79, 80, 81, 82, 83, 84, 85, 86, 87, 88, 89, 90, 91] (by decide +kernel) (by decide +kernel)
set_option maxRecDepth 20000 in
theorem gX2_load_X2_holds : GoodIn wsX2_load (wsV RX2 101 RX2 yX2_holds wsX2_holds) := goodIn_app (goodIn_of _ (by decide +kernel)) ggX2_load_X2_holds
set_option maxRecDepth 20000 in
theorem ggX2_load_X2_writes : GoodIn wsX2_load wsX2_writes := goodIn_r _ [65, 25, 18, 30, 45, 46, 47, 31, 48, 66, 40, 67, 68, 69, 41, 42, 43, 5, 44, 70, 71, 72, 73, 74, 75, 76, 77, 78, 79, 80, 81, 82, 83, 84, 85, 86, 87, 88, 89, 90, 91] (by decide +kernel) (by decide +kernel)
set_option maxRecDepth 20000 in
theorem gX2_load_X2_writes : GoodIn wsX2_load (wsV RX2 107 RX2 yX2_writes wsX2_writes) := goodIn_app (goodIn_of _ (by decide +kernel)) ggX2_load_X2_writes
theorem dX2_load_0 : decode cX2_load 0 = .ok (.aload_n 0, 1) := by decide +kernel
theorem dX2_load_1 : decode cX2_load 1 = .ok (.iload_n 1, 1) := by decide +kernel
theorem dX2_load_2 : decode cX2_load 2 = .ok (.invokevirtual 79, 3) := by decide +kernel
theorem dX2_load_5 : decode cX2_load 5 = .ok (.ifCond .eq 14, 3) := by decide +kernel
theorem dX2_load_8 : decode cX2_load 8 = .ok (.iload_n 2, 1) := by decide +kernel
theorem dX2_load_9 : decode cX2_load 9 = .ok (.invokestatic 117, 3) := by decide +kernel
theorem dX2_load_12 : decode cX2_load 12 = .ok (.ifCond .eq 7, 3) := by decide +kernel
theorem dX2_load_15 : decode cX2_load 15 = .ok (.iconst 1, 1) := by decide +kernel
theorem dX2_load_16 : decode cX2_load 16 = .ok (.goto 4, 3) := by decide +kernel
theorem dX2_load_19 : decode cX2_load 19 = .ok (.iconst 0, 1) := by decide +kernel
theorem dX2_load_20 : decode cX2_load 20 = .ok (.istore 4, 2) := by decide +kernel
theorem dX2_load_22 : decode cX2_load 22 = .ok (.aload_n 0, 1) := by decide +kernel
theorem dX2_load_23 : decode cX2_load 23 = .ok (.iload 4, 2) := by decide +kernel
theorem dX2_load_25 : decode cX2_load 25 = .ok (.ifCond .ne 7, 3) := by decide +kernel
theorem dX2_load_28 : decode cX2_load 28 = .ok (.iconst 1, 1) := by decide +kernel
theorem dX2_load_29 : decode cX2_load 29 = .ok (.goto 37, 3) := by decide +kernel
theorem dX2_load_32 : decode cX2_load 32 = .ok (.iload_n 3, 1) := by decide +kernel
theorem dX2_load_33 : decode cX2_load 33 = .ok (.bipush (-99), 2) := by decide +kernel
theorem dX2_load_35 : decode cX2_load 35 = .ok (.bipush 99, 2) := by decide +kernel
theorem dX2_load_37 : decode cX2_load 37 = .ok (.invokestatic 75, 3) := by decide +kernel
theorem dX2_load_40 : decode cX2_load 40 = .ok (.ifCond .eq 7, 3) := by decide +kernel
theorem dX2_load_43 : decode cX2_load 43 = .ok (.iload_n 3, 1) := by decide +kernel
theorem dX2_load_44 : decode cX2_load 44 = .ok (.ifCond .ne 7, 3) := by decide +kernel
theorem dX2_load_47 : decode cX2_load 47 = .ok (.iconst 2, 1) := by decide +kernel
theorem dX2_load_48 : decode cX2_load 48 = .ok (.goto 18, 3) := by decide +kernel
theorem dX2_load_51 : decode cX2_load 51 = .ok (.aload_n 0, 1) := by decide +kernel
theorem dX2_load_52 : decode cX2_load 52 = .ok (.iload_n 1, 1) := by decide +kernel
theorem dX2_load_53 : decode cX2_load 53 = .ok (.iload_n 2, 1) := by decide +kernel
theorem dX2_load_54 : decode cX2_load 54 = .ok (.iload_n 3, 1) := by decide +kernel
theorem dX2_load_55 : decode cX2_load 55 = .ok (.invokevirtual 120, 3) := by decide +kernel
theorem dX2_load_58 : decode cX2_load 58 = .ok (.ifCond .ne 7, 3) := by decide +kernel
theorem dX2_load_61 : decode cX2_load 61 = .ok (.iconst 3, 1) := by decide +kernel
theorem dX2_load_62 : decode cX2_load 62 = .ok (.goto 4, 3) := by decide +kernel
theorem dX2_load_65 : decode cX2_load 65 = .ok (.iconst 0, 1) := by decide +kernel
theorem dX2_load_66 : decode cX2_load 66 = .ok (.invokevirtual 101, 3) := by decide +kernel
theorem dX2_load_69 : decode cX2_load 69 = .ok (.ifCond .ne 5, 3) := by decide +kernel
theorem dX2_load_72 : decode cX2_load 72 = .ok (.iconst 0, 1) := by decide +kernel
theorem dX2_load_73 : decode cX2_load 73 = .ok (.ireturn, 1) := by decide +kernel
theorem dX2_load_74 : decode cX2_load 74 = .ok (.aload_n 0, 1) := by decide +kernel
theorem dX2_load_75 : decode cX2_load 75 = .ok (.getfield 13, 3) := by decide +kernel
theorem dX2_load_78 : decode cX2_load 78 = .ok (.bipush 6, 2) := by decide +kernel
theorem dX2_load_80 : decode cX2_load 80 = .ok (.iload_n 1, 1) := by decide +kernel
theorem dX2_load_81 : decode cX2_load 81 = .ok (.imul, 1) := by decide +kernel
theorem dX2_load_82 : decode cX2_load 82 = .ok (.iload_n 2, 1) := by decide +kernel
theorem dX2_load_83 : decode cX2_load 83 = .ok (.iadd, 1) := by decide +kernel
theorem dX2_load_84 : decode cX2_load 84 = .ok (.dup2, 1) := by decide +kernel
theorem dX2_load_85 : decode cX2_load 85 = .ok (.iaload, 1) := by decide +kernel
theorem dX2_load_86 : decode cX2_load 86 = .ok (.iload_n 3, 1) := by decide +kernel
theorem dX2_load_87 : decode cX2_load 87 = .ok (.iadd, 1) := by decide +kernel
theorem dX2_load_88 : decode cX2_load 88 = .ok (.iastore, 1) := by decide +kernel
theorem dX2_load_89 : decode cX2_load 89 = .ok (.aload_n 0, 1) := by decide +kernel
theorem dX2_load_90 : decode cX2_load 90 = .ok (.iload_n 1, 1) := by decide +kernel
theorem dX2_load_91 : decode cX2_load 91 = .ok (.iload_n 3, 1) := by decide +kernel
theorem dX2_load_92 : decode cX2_load 92 = .ok (.ifCond .le 7, 3) := by decide +kernel
theorem dX2_load_95 : decode cX2_load 95 = .ok (.iconst 1, 1) := by decide +kernel
theorem dX2_load_96 : decode cX2_load 96 = .ok (.goto 4, 3) := by decide +kernel
theorem dX2_load_99 : decode cX2_load 99 = .ok (.iconst 2, 1) := by decide +kernel
theorem dX2_load_100 : decode cX2_load 100 = .ok (.iload_n 2, 1) := by decide +kernel
theorem dX2_load_101 : decode cX2_load 101 = .ok (.iload_n 3, 1) := by decide +kernel
theorem dX2_load_102 : decode cX2_load 102 = .ok (.ifCond .le 7, 3) := by decide +kernel
theorem dX2_load_105 : decode cX2_load 105 = .ok (.iload_n 3, 1) := by decide +kernel
theorem dX2_load_106 : decode cX2_load 106 = .ok (.goto 5, 3) := by decide +kernel
theorem dX2_load_109 : decode cX2_load 109 = .ok (.iload_n 3, 1) := by decide +kernel
theorem dX2_load_110 : decode cX2_load 110 = .ok (.ineg, 1) := by decide +kernel
theorem dX2_load_111 : decode cX2_load 111 = .ok (.iconst 0, 1) := by decide +kernel
theorem dX2_load_112 : decode cX2_load 112 = .ok (.iconst 0, 1) := by decide +kernel
theorem dX2_load_113 : decode cX2_load 113 = .ok (.invokevirtual 107, 3) := by decide +kernel
theorem dX2_load_116 : decode cX2_load 116 = .ok (.aload_n 0, 1) := by decide +kernel
theorem dX2_load_117 : decode cX2_load 117 = .ok (.getfield 13, 3) := by decide +kernel
theorem dX2_load_120 : decode cX2_load 120 = .ok (.bipush 6, 2) := by decide +kernel
theorem dX2_load_122 : decode cX2_load 122 = .ok (.iload_n 1, 1) := by decide +kernel
theorem dX2_load_123 : decode cX2_load 123 = .ok (.imul, 1) := by decide +kernel
theorem dX2_load_124 : decode cX2_load 124 = .ok (.iload_n 2, 1) := by decide +kernel
theorem dX2_load_125 : decode cX2_load 125 = .ok (.iadd, 1) := by decide +kernel
theorem dX2_load_126 : decode cX2_load 126 = .ok (.iaload, 1) := by decide +kernel
theorem dX2_load_127 : decode cX2_load 127 = .ok (.ireturn, 1) := by decide +kernel
set_option maxRecDepth 20000 in
theorem ggX2_part_X2_isPallet : GoodIn wsX2_part wsX2_isPallet := goodIn_r _ [9, 2, 10, 11, 8, 12, 62, 63, 64, 65, 66, 67, 68, 69, 70, 71, 72, 73, 74, 75, 76, 77, 78, 79, 80, 81, 82, 83] (by decide +kernel) (by decide +kernel)
set_option maxRecDepth 20000 in
theorem gX2_part_X2_isPallet : GoodIn wsX2_part (wsV RX2 79 RX2 yX2_isPallet wsX2_isPallet) := goodIn_app (goodIn_of _ (by decide +kernel)) ggX2_part_X2_isPallet
set_option maxRecDepth 20000 in
theorem ggX2_part_X2_isGood : GoodIn wsX2_part wsX2_isGood := goodIn_r _ [15, 10, 11, 8, 12] (by decide +kernel) (by decide +kernel)
set_option maxRecDepth 20000 in
theorem gX2_part_X2_isGood : GoodIn wsX2_part (va_wsS RX2 117 yX2_isGood wsX2_isGood) := goodIn_app (goodIn_of _ (by decide +kernel)) ggX2_part_X2_isGood
set_option maxRecDepth 20000 in
theorem ggX2_part_X2_canWork : GoodIn wsX2_part wsX2_canWork := goodIn_r _ [19, 20, 21, 4, 22, 23, 24, 8, 25, 26, 27, 28, 29, 30, 31, 32, 33, 34, 35, 36, 37, 38, 39, 40, 41, 42, 43, 44, 62, 63, 64, 65, 66, 67, 68, 69, 70, 71, 72, 73, 74, 75, 76, 77, 78, 79, 80, 81, 82, 83] (by decide +kernel) (by decide +kernel)
set_option maxRecDepth 20000 in
theorem gX2_part_X2_canWork : GoodIn wsX2_part (wsV RX2 111 RX2 yX2_canWork wsX2_canWork) := goodIn_app (goodIn_of _ (by decide +kernel)) ggX2_part_X2_canWork
set_option maxRecDepth 20000 in
theorem ggX2_part_X2_isIn : GoodIn wsX2_part wsX2_isIn := goodIn_r _ [12] (by decide +kernel) (by decide +kernel)
set_option maxRecDepth 20000 in
theorem gX2_part_X2_isIn : GoodIn wsX2_part (va_wsS RX2 75 yX2_isIn wsX2_isIn) := goodIn_app (goodIn_of _ (by decide +kernel)) ggX2_part_X2_isIn
set_option maxRecDepth 20000 in
theorem ggX2_part_X2_holds : GoodIn wsX2_part wsX2_holds := goodIn_r _ [48, 49, 62, 63, 64, 65, 66, 67, 68, 69, 70, 71, 72, 73, 74, 75, 76, 77, 78, 79, 80, 81, 82, 83] (by decide +kernel) (by decide +kernel)
set_option maxRecDepth 20000 in
theorem gX2_part_X2_holds : GoodIn wsX2_part (wsV RX2 101 RX2 yX2_holds wsX2_holds) := goodIn_app (goodIn_of _ (by decide +kernel)) ggX2_part_X2_holds
set_option maxRecDepth 20000 in
theorem ggX2_part_X2_makes : GoodIn wsX2_part wsX2_makes := goodIn_r _ [53, 2, 3, 62, 63, 64, 65, 66, 67, 68, 69, 70, 71, 72, 73, 74, 75, 76, 77, 78, 79, 80, 81, 82, 83] (by decide +kernel) (by decide +kernel)
set_option maxRecDepth 20000 in
theorem gX2_part_X2_makes : GoodIn wsX2_part (wsV RX2 104 RX2 yX2_makes wsX2_makes) := goodIn_app (goodIn_of _ (by decide +kernel)) ggX2_part_X2_makes
set_option maxRecDepth 20000 in
theorem ggX2_part_X2_writes : GoodIn wsX2_part wsX2_writes := goodIn_r _ [57, 4, 3, 26, 41, 42, 43, 27, 44, 58, 36, 59, 60, 61, 37, 38, 39, 8, 40, 62, 63, 64, 65, 66, 67, 68, 69, 70, 71, 72, 73, 74, 75, 76, 77, 78, 79, 80, 81, 82, 83] (by decide +kernel) (by decide +kernel)
set_option maxRecDepth 20000 in
theorem gX2_part_X2_writes : GoodIn wsX2_part (wsV RX2 107 RX2 yX2_writes wsX2_writes) := goodIn_app (goodIn_of _ (by decide +kernel)) ggX2_part_X2_writes
theorem dX2_part_0 : decode cX2_part 0 = .ok (.aload_n 0, 1) := by decide +kernel
theorem dX2_part_1 : decode cX2_part 1 = .ok (.iload_n 1, 1) := by decide +kernel
theorem dX2_part_2 : decode cX2_part 2 = .ok (.invokevirtual 79, 3) := by decide +kernel
theorem dX2_part_5 : decode cX2_part 5 = .ok (.ifCond .eq 14, 3) := by decide +kernel
theorem dX2_part_8 : decode cX2_part 8 = .ok (.iload_n 2, 1) := by decide +kernel
theorem dX2_part_9 : decode cX2_part 9 = .ok (.invokestatic 117, 3) := by decide +kernel
theorem dX2_part_12 : decode cX2_part 12 = .ok (.ifCond .eq 7, 3) := by decide +kernel
theorem dX2_part_15 : decode cX2_part 15 = .ok (.iconst 1, 1) := by decide +kernel
theorem dX2_part_16 : decode cX2_part 16 = .ok (.goto 4, 3) := by decide +kernel
theorem dX2_part_19 : decode cX2_part 19 = .ok (.iconst 0, 1) := by decide +kernel
theorem dX2_part_20 : decode cX2_part 20 = .ok (.istore 4, 2) := by decide +kernel
theorem dX2_part_22 : decode cX2_part 22 = .ok (.iload 4, 2) := by decide +kernel
theorem dX2_part_24 : decode cX2_part 24 = .ok (.ifCond .eq 39, 3) := by decide +kernel
theorem dX2_part_27 : decode cX2_part 27 = .ok (.aload_n 0, 1) := by decide +kernel
theorem dX2_part_28 : decode cX2_part 28 = .ok (.getfield 13, 3) := by decide +kernel
theorem dX2_part_31 : decode cX2_part 31 = .ok (.bipush 6, 2) := by decide +kernel
theorem dX2_part_33 : decode cX2_part 33 = .ok (.iload_n 1, 1) := by decide +kernel
theorem dX2_part_34 : decode cX2_part 34 = .ok (.imul, 1) := by decide +kernel
theorem dX2_part_35 : decode cX2_part 35 = .ok (.iload_n 2, 1) := by decide +kernel
theorem dX2_part_36 : decode cX2_part 36 = .ok (.iadd, 1) := by decide +kernel
theorem dX2_part_37 : decode cX2_part 37 = .ok (.iaload, 1) := by decide +kernel
theorem dX2_part_38 : decode cX2_part 38 = .ok (.iload_n 3, 1) := by decide +kernel
theorem dX2_part_39 : decode cX2_part 39 = .ok (.if_icmp .lt 24, 3) := by decide +kernel
theorem dX2_part_42 : decode cX2_part 42 = .ok (.aload_n 0, 1) := by decide +kernel
theorem dX2_part_43 : decode cX2_part 43 = .ok (.getfield 72, 3) := by decide +kernel
theorem dX2_part_46 : decode cX2_part 46 = .ok (.bipush 14, 2) := by decide +kernel
theorem dX2_part_48 : decode cX2_part 48 = .ok (.if_icmp .ge 15, 3) := by decide +kernel
theorem dX2_part_51 : decode cX2_part 51 = .ok (.aload_n 0, 1) := by decide +kernel
theorem dX2_part_52 : decode cX2_part 52 = .ok (.iload_n 1, 1) := by decide +kernel
theorem dX2_part_53 : decode cX2_part 53 = .ok (.invokevirtual 111, 3) := by decide +kernel
theorem dX2_part_56 : decode cX2_part 56 = .ok (.ifCond .eq 7, 3) := by decide +kernel
theorem dX2_part_59 : decode cX2_part 59 = .ok (.iconst 1, 1) := by decide +kernel
theorem dX2_part_60 : decode cX2_part 60 = .ok (.goto 4, 3) := by decide +kernel
theorem dX2_part_63 : decode cX2_part 63 = .ok (.iconst 0, 1) := by decide +kernel
theorem dX2_part_64 : decode cX2_part 64 = .ok (.istore 5, 2) := by decide +kernel
theorem dX2_part_66 : decode cX2_part 66 = .ok (.aload_n 0, 1) := by decide +kernel
theorem dX2_part_67 : decode cX2_part 67 = .ok (.iload 4, 2) := by decide +kernel
theorem dX2_part_69 : decode cX2_part 69 = .ok (.ifCond .ne 7, 3) := by decide +kernel
theorem dX2_part_72 : decode cX2_part 72 = .ok (.iconst 1, 1) := by decide +kernel
theorem dX2_part_73 : decode cX2_part 73 = .ok (.goto 27, 3) := by decide +kernel
theorem dX2_part_76 : decode cX2_part 76 = .ok (.iload_n 3, 1) := by decide +kernel
theorem dX2_part_77 : decode cX2_part 77 = .ok (.iconst 1, 1) := by decide +kernel
theorem dX2_part_78 : decode cX2_part 78 = .ok (.bipush 99, 2) := by decide +kernel
theorem dX2_part_80 : decode cX2_part 80 = .ok (.invokestatic 75, 3) := by decide +kernel
theorem dX2_part_83 : decode cX2_part 83 = .ok (.ifCond .ne 7, 3) := by decide +kernel
theorem dX2_part_86 : decode cX2_part 86 = .ok (.iconst 2, 1) := by decide +kernel
theorem dX2_part_87 : decode cX2_part 87 = .ok (.goto 13, 3) := by decide +kernel
theorem dX2_part_90 : decode cX2_part 90 = .ok (.iload 5, 2) := by decide +kernel
theorem dX2_part_92 : decode cX2_part 92 = .ok (.ifCond .ne 7, 3) := by decide +kernel
theorem dX2_part_95 : decode cX2_part 95 = .ok (.iconst 3, 1) := by decide +kernel
theorem dX2_part_96 : decode cX2_part 96 = .ok (.goto 4, 3) := by decide +kernel
theorem dX2_part_99 : decode cX2_part 99 = .ok (.iconst 0, 1) := by decide +kernel
theorem dX2_part_100 : decode cX2_part 100 = .ok (.invokevirtual 101, 3) := by decide +kernel
theorem dX2_part_103 : decode cX2_part 103 = .ok (.ifCond .ne 5, 3) := by decide +kernel
theorem dX2_part_106 : decode cX2_part 106 = .ok (.iconst 0, 1) := by decide +kernel
theorem dX2_part_107 : decode cX2_part 107 = .ok (.ireturn, 1) := by decide +kernel
theorem dX2_part_108 : decode cX2_part 108 = .ok (.aload_n 0, 1) := by decide +kernel
theorem dX2_part_109 : decode cX2_part 109 = .ok (.aload_n 0, 1) := by decide +kernel
theorem dX2_part_110 : decode cX2_part 110 = .ok (.getfield 7, 3) := by decide +kernel
theorem dX2_part_113 : decode cX2_part 113 = .ok (.iload_n 1, 1) := by decide +kernel
theorem dX2_part_114 : decode cX2_part 114 = .ok (.iaload, 1) := by decide +kernel
theorem dX2_part_115 : decode cX2_part 115 = .ok (.invokevirtual 104, 3) := by decide +kernel
theorem dX2_part_118 : decode cX2_part 118 = .ok (.istore 6, 2) := by decide +kernel
theorem dX2_part_120 : decode cX2_part 120 = .ok (.aload_n 0, 1) := by decide +kernel
theorem dX2_part_121 : decode cX2_part 121 = .ok (.getfield 13, 3) := by decide +kernel
theorem dX2_part_124 : decode cX2_part 124 = .ok (.bipush 6, 2) := by decide +kernel
theorem dX2_part_126 : decode cX2_part 126 = .ok (.iload_n 1, 1) := by decide +kernel
theorem dX2_part_127 : decode cX2_part 127 = .ok (.imul, 1) := by decide +kernel
theorem dX2_part_128 : decode cX2_part 128 = .ok (.iload_n 2, 1) := by decide +kernel
theorem dX2_part_129 : decode cX2_part 129 = .ok (.iadd, 1) := by decide +kernel
theorem dX2_part_130 : decode cX2_part 130 = .ok (.dup2, 1) := by decide +kernel
theorem dX2_part_131 : decode cX2_part 131 = .ok (.iaload, 1) := by decide +kernel
theorem dX2_part_132 : decode cX2_part 132 = .ok (.iload_n 3, 1) := by decide +kernel
theorem dX2_part_133 : decode cX2_part 133 = .ok (.isub, 1) := by decide +kernel
theorem dX2_part_134 : decode cX2_part 134 = .ok (.iastore, 1) := by decide +kernel
theorem dX2_part_135 : decode cX2_part 135 = .ok (.aload_n 0, 1) := by decide +kernel
theorem dX2_part_136 : decode cX2_part 136 = .ok (.getfield 13, 3) := by decide +kernel
theorem dX2_part_139 : decode cX2_part 139 = .ok (.bipush 6, 2) := by decide +kernel
theorem dX2_part_141 : decode cX2_part 141 = .ok (.iload 6, 2) := by decide +kernel
theorem dX2_part_143 : decode cX2_part 143 = .ok (.imul, 1) := by decide +kernel
theorem dX2_part_144 : decode cX2_part 144 = .ok (.iload_n 2, 1) := by decide +kernel
theorem dX2_part_145 : decode cX2_part 145 = .ok (.iadd, 1) := by decide +kernel
theorem dX2_part_146 : decode cX2_part 146 = .ok (.iload_n 3, 1) := by decide +kernel
theorem dX2_part_147 : decode cX2_part 147 = .ok (.iastore, 1) := by decide +kernel
theorem dX2_part_148 : decode cX2_part 148 = .ok (.aload_n 0, 1) := by decide +kernel
theorem dX2_part_149 : decode cX2_part 149 = .ok (.iload_n 1, 1) := by decide +kernel
theorem dX2_part_150 : decode cX2_part 150 = .ok (.iconst 3, 1) := by decide +kernel
theorem dX2_part_151 : decode cX2_part 151 = .ok (.iload_n 2, 1) := by decide +kernel
theorem dX2_part_152 : decode cX2_part 152 = .ok (.iload_n 3, 1) := by decide +kernel
theorem dX2_part_153 : decode cX2_part 153 = .ok (.iload 6, 2) := by decide +kernel
theorem dX2_part_155 : decode cX2_part 155 = .ok (.iconst 0, 1) := by decide +kernel
theorem dX2_part_156 : decode cX2_part 156 = .ok (.invokevirtual 107, 3) := by decide +kernel
theorem dX2_part_159 : decode cX2_part 159 = .ok (.aload_n 0, 1) := by decide +kernel
theorem dX2_part_160 : decode cX2_part 160 = .ok (.iload 6, 2) := by decide +kernel
theorem dX2_part_162 : decode cX2_part 162 = .ok (.iconst 4, 1) := by decide +kernel
theorem dX2_part_163 : decode cX2_part 163 = .ok (.iload_n 2, 1) := by decide +kernel
theorem dX2_part_164 : decode cX2_part 164 = .ok (.iload_n 3, 1) := by decide +kernel
theorem dX2_part_165 : decode cX2_part 165 = .ok (.iload_n 1, 1) := by decide +kernel
theorem dX2_part_166 : decode cX2_part 166 = .ok (.aload_n 0, 1) := by decide +kernel
theorem dX2_part_167 : decode cX2_part 167 = .ok (.getfield 16, 3) := by decide +kernel
theorem dX2_part_170 : decode cX2_part 170 = .ok (.iload_n 1, 1) := by decide +kernel
theorem dX2_part_171 : decode cX2_part 171 = .ok (.iaload, 1) := by decide +kernel
theorem dX2_part_172 : decode cX2_part 172 = .ok (.iconst 1, 1) := by decide +kernel
theorem dX2_part_173 : decode cX2_part 173 = .ok (.isub, 1) := by decide +kernel
theorem dX2_part_174 : decode cX2_part 174 = .ok (.invokevirtual 107, 3) := by decide +kernel
theorem dX2_part_177 : decode cX2_part 177 = .ok (.iload 6, 2) := by decide +kernel
theorem dX2_part_179 : decode cX2_part 179 = .ok (.ireturn, 1) := by decide +kernel
set_option maxRecDepth 20000 in
theorem ggX2_canJoin_X2_canWork : GoodIn wsX2_canJoin wsX2_canWork := goodIn_r _ [7, 8, 9, 10, 11, 12, 13, 6, 14, 15, 16, 17, 18, 19, 20, 21, 22, 23, 24, 25, 26, 27, 28, 29, 30, 31, 32, 33, 34, 35, 36, 37, 38, 39, 40, 41, 42, 43, 44, 45, 46, 47, 48, 49, 50, 51, 52, 53, 54, 55] (by decide +kernel) (by decide +kernel)
set_option maxRecDepth 20000 in
theorem gX2_canJoin_X2_canWork : GoodIn wsX2_canJoin (wsV RX2 111 RX2 yX2_canWork wsX2_canWork) := goodIn_app (goodIn_of _ (by decide +kernel)) ggX2_canJoin_X2_canWork
theorem dX2_canJoin_0 : decode cX2_canJoin 0 = .ok (.aload_n 0, 1) := by decide +kernel
theorem dX2_canJoin_1 : decode cX2_canJoin 1 = .ok (.getfield 7, 3) := by decide +kernel
theorem dX2_canJoin_4 : decode cX2_canJoin 4 = .ok (.iload_n 1, 1) := by decide +kernel
theorem dX2_canJoin_5 : decode cX2_canJoin 5 = .ok (.iaload, 1) := by decide +kernel
theorem dX2_canJoin_6 : decode cX2_canJoin 6 = .ok (.aload_n 0, 1) := by decide +kernel
theorem dX2_canJoin_7 : decode cX2_canJoin 7 = .ok (.getfield 7, 3) := by decide +kernel
theorem dX2_canJoin_10 : decode cX2_canJoin 10 = .ok (.iload_n 2, 1) := by decide +kernel
theorem dX2_canJoin_11 : decode cX2_canJoin 11 = .ok (.iaload, 1) := by decide +kernel
theorem dX2_canJoin_12 : decode cX2_canJoin 12 = .ok (.if_icmp .ne 23, 3) := by decide +kernel
theorem dX2_canJoin_15 : decode cX2_canJoin 15 = .ok (.aload_n 0, 1) := by decide +kernel
theorem dX2_canJoin_16 : decode cX2_canJoin 16 = .ok (.iload_n 1, 1) := by decide +kernel
theorem dX2_canJoin_17 : decode cX2_canJoin 17 = .ok (.invokevirtual 111, 3) := by decide +kernel
theorem dX2_canJoin_20 : decode cX2_canJoin 20 = .ok (.ifCond .eq 15, 3) := by decide +kernel
theorem dX2_canJoin_23 : decode cX2_canJoin 23 = .ok (.aload_n 0, 1) := by decide +kernel
theorem dX2_canJoin_24 : decode cX2_canJoin 24 = .ok (.iload_n 2, 1) := by decide +kernel
theorem dX2_canJoin_25 : decode cX2_canJoin 25 = .ok (.invokevirtual 111, 3) := by decide +kernel
theorem dX2_canJoin_28 : decode cX2_canJoin 28 = .ok (.ifCond .eq 7, 3) := by decide +kernel
theorem dX2_canJoin_31 : decode cX2_canJoin 31 = .ok (.iconst 1, 1) := by decide +kernel
theorem dX2_canJoin_32 : decode cX2_canJoin 32 = .ok (.goto 4, 3) := by decide +kernel
theorem dX2_canJoin_35 : decode cX2_canJoin 35 = .ok (.iconst 0, 1) := by decide +kernel
theorem dX2_canJoin_36 : decode cX2_canJoin 36 = .ok (.istore_n 3, 1) := by decide +kernel
theorem dX2_canJoin_37 : decode cX2_canJoin 37 = .ok (.iconst 0, 1) := by decide +kernel
theorem dX2_canJoin_38 : decode cX2_canJoin 38 = .ok (.istore 4, 2) := by decide +kernel
theorem dX2_canJoin_40 : decode cX2_canJoin 40 = .ok (.iload 4, 2) := by decide +kernel
theorem dX2_canJoin_42 : decode cX2_canJoin 42 = .ok (.bipush 6, 2) := by decide +kernel
theorem dX2_canJoin_44 : decode cX2_canJoin 44 = .ok (.if_icmp .ge 50, 3) := by decide +kernel
theorem dX2_canJoin_47 : decode cX2_canJoin 47 = .ok (.iload_n 3, 1) := by decide +kernel
theorem dX2_canJoin_48 : decode cX2_canJoin 48 = .ok (.ifCond .eq 38, 3) := by decide +kernel
theorem dX2_canJoin_51 : decode cX2_canJoin 51 = .ok (.aload_n 0, 1) := by decide +kernel
theorem dX2_canJoin_52 : decode cX2_canJoin 52 = .ok (.getfield 13, 3) := by decide +kernel
theorem dX2_canJoin_55 : decode cX2_canJoin 55 = .ok (.bipush 6, 2) := by decide +kernel
theorem dX2_canJoin_57 : decode cX2_canJoin 57 = .ok (.iload_n 1, 1) := by decide +kernel
theorem dX2_canJoin_58 : decode cX2_canJoin 58 = .ok (.imul, 1) := by decide +kernel
theorem dX2_canJoin_59 : decode cX2_canJoin 59 = .ok (.iload 4, 2) := by decide +kernel
theorem dX2_canJoin_61 : decode cX2_canJoin 61 = .ok (.iadd, 1) := by decide +kernel
theorem dX2_canJoin_62 : decode cX2_canJoin 62 = .ok (.iaload, 1) := by decide +kernel
theorem dX2_canJoin_63 : decode cX2_canJoin 63 = .ok (.aload_n 0, 1) := by decide +kernel
theorem dX2_canJoin_64 : decode cX2_canJoin 64 = .ok (.getfield 13, 3) := by decide +kernel
theorem dX2_canJoin_67 : decode cX2_canJoin 67 = .ok (.bipush 6, 2) := by decide +kernel
theorem dX2_canJoin_69 : decode cX2_canJoin 69 = .ok (.iload_n 2, 1) := by decide +kernel
theorem dX2_canJoin_70 : decode cX2_canJoin 70 = .ok (.imul, 1) := by decide +kernel
theorem dX2_canJoin_71 : decode cX2_canJoin 71 = .ok (.iload 4, 2) := by decide +kernel
theorem dX2_canJoin_73 : decode cX2_canJoin 73 = .ok (.iadd, 1) := by decide +kernel
theorem dX2_canJoin_74 : decode cX2_canJoin 74 = .ok (.iaload, 1) := by decide +kernel
theorem dX2_canJoin_75 : decode cX2_canJoin 75 = .ok (.iadd, 1) := by decide +kernel
theorem dX2_canJoin_76 : decode cX2_canJoin 76 = .ok (.sipush 999, 3) := by decide +kernel
theorem dX2_canJoin_79 : decode cX2_canJoin 79 = .ok (.if_icmp .gt 7, 3) := by decide +kernel
theorem dX2_canJoin_82 : decode cX2_canJoin 82 = .ok (.iconst 1, 1) := by decide +kernel
theorem dX2_canJoin_83 : decode cX2_canJoin 83 = .ok (.goto 4, 3) := by decide +kernel
theorem dX2_canJoin_86 : decode cX2_canJoin 86 = .ok (.iconst 0, 1) := by decide +kernel
theorem dX2_canJoin_87 : decode cX2_canJoin 87 = .ok (.istore_n 3, 1) := by decide +kernel
theorem dX2_canJoin_88 : decode cX2_canJoin 88 = .ok (.iinc 4 1, 3) := by decide +kernel
theorem dX2_canJoin_91 : decode cX2_canJoin 91 = .ok (.goto (-51), 3) := by decide +kernel
theorem dX2_canJoin_94 : decode cX2_canJoin 94 = .ok (.iload_n 3, 1) := by decide +kernel
theorem dX2_canJoin_95 : decode cX2_canJoin 95 = .ok (.ireturn, 1) := by decide +kernel
set_option maxRecDepth 20000 in
theorem ggX2_join_X2_isPallet : GoodIn wsX2_join wsX2_isPallet := goodIn_r _ [10, 11, 12, 13, 9, 14, 61, 62, 63, 64, 65, 66, 67, 68, 69, 70, 71, 72, 73, 74, 75, 76, 77, 78, 79, 80, 81, 82] (by decide +kernel) (by decide +kernel)
set_option maxRecDepth 20000 in
theorem gX2_join_X2_isPallet : GoodIn wsX2_join (wsV RX2 79 RX2 yX2_isPallet wsX2_isPallet) := goodIn_app (goodIn_of _ (by decide +kernel)) ggX2_join_X2_isPallet
set_option maxRecDepth 20000 in
theorem ggX2_join_X2_canJoin : GoodIn wsX2_join wsX2_canJoin := goodIn_r _ [18, 19, 1, 20, 21, 22, 9, 23, 24, 3, 2, 25, 26, 27, 28, 29, 30, 31, 32, 33, 34, 35, 36, 37, 38, 39, 40, 41, 42, 43, 44, 45, 46, 47, 61, 62, 63, 64, 65, 66, 67, 68, 69, 70, 71, 72, 73, 74, 75, 76, 77, 78, 79, 80, 81, 82] (by decide +kernel) (by decide +kernel)
set_option maxRecDepth 20000 in
theorem gX2_join_X2_canJoin : GoodIn wsX2_join (wsV RX2 123 RX2 yX2_canJoin wsX2_canJoin) := goodIn_app (goodIn_of _ (by decide +kernel)) ggX2_join_X2_canJoin
set_option maxRecDepth 20000 in
theorem ggX2_join_X2_holds : GoodIn wsX2_join wsX2_holds := goodIn_r _ [51, 52, 61, 62, 63, 64, 65, 66, 67, 68, 69, 70, 71, 72, 73, 74, 75, 76, 77, 78, 79, 80, 81, 82] (by decide +kernel) (by decide +kernel)
set_option maxRecDepth 20000 in
theorem gX2_join_X2_holds : GoodIn wsX2_join (wsV RX2 101 RX2 yX2_holds wsX2_holds) := goodIn_app (goodIn_of _ (by decide +kernel)) ggX2_join_X2_holds
set_option maxRecDepth 20000 in
theorem ggX2_join_X2_writes : GoodIn wsX2_join wsX2_writes := goodIn_r _ [56, 2, 19, 29, 44, 45, 46, 30, 47, 57, 39, 58, 59, 60, 40, 41, 42, 9, 43, 61, 62, 63, 64, 65, 66, 67, 68, 69, 70, 71, 72, 73, 74, 75, 76, 77, 78, 79, 80, 81, 82] (by decide +kernel) (by decide +kernel)
set_option maxRecDepth 20000 in
theorem gX2_join_X2_writes : GoodIn wsX2_join (wsV RX2 107 RX2 yX2_writes wsX2_writes) := goodIn_app (goodIn_of _ (by decide +kernel)) ggX2_join_X2_writes
theorem dX2_join_0 : decode cX2_join 0 = .ok (.aload_n 0, 1) := by decide +kernel
theorem dX2_join_1 : decode cX2_join 1 = .ok (.iload_n 1, 1) := by decide +kernel
theorem dX2_join_2 : decode cX2_join 2 = .ok (.invokevirtual 79, 3) := by decide +kernel
theorem dX2_join_5 : decode cX2_join 5 = .ok (.ifCond .eq 15, 3) := by decide +kernel
theorem dX2_join_8 : decode cX2_join 8 = .ok (.aload_n 0, 1) := by decide +kernel
theorem dX2_join_9 : decode cX2_join 9 = .ok (.iload_n 2, 1) := by decide +kernel
theorem dX2_join_10 : decode cX2_join 10 = .ok (.invokevirtual 79, 3) := by decide +kernel
theorem dX2_join_13 : decode cX2_join 13 = .ok (.ifCond .eq 7, 3) := by decide +kernel
theorem dX2_join_16 : decode cX2_join 16 = .ok (.iconst 1, 1) := by decide +kernel
theorem dX2_join_17 : decode cX2_join 17 = .ok (.goto 4, 3) := by decide +kernel
theorem dX2_join_20 : decode cX2_join 20 = .ok (.iconst 0, 1) := by decide +kernel
theorem dX2_join_21 : decode cX2_join 21 = .ok (.istore_n 3, 1) := by decide +kernel
theorem dX2_join_22 : decode cX2_join 22 = .ok (.aload_n 0, 1) := by decide +kernel
theorem dX2_join_23 : decode cX2_join 23 = .ok (.iload_n 3, 1) := by decide +kernel
theorem dX2_join_24 : decode cX2_join 24 = .ok (.ifCond .ne 7, 3) := by decide +kernel
theorem dX2_join_27 : decode cX2_join 27 = .ok (.iconst 1, 1) := by decide +kernel
theorem dX2_join_28 : decode cX2_join 28 = .ok (.goto 26, 3) := by decide +kernel
theorem dX2_join_31 : decode cX2_join 31 = .ok (.iload_n 1, 1) := by decide +kernel
theorem dX2_join_32 : decode cX2_join 32 = .ok (.iload_n 2, 1) := by decide +kernel
theorem dX2_join_33 : decode cX2_join 33 = .ok (.if_icmp .ne 7, 3) := by decide +kernel
theorem dX2_join_36 : decode cX2_join 36 = .ok (.iconst 2, 1) := by decide +kernel
theorem dX2_join_37 : decode cX2_join 37 = .ok (.goto 17, 3) := by decide +kernel
theorem dX2_join_40 : decode cX2_join 40 = .ok (.aload_n 0, 1) := by decide +kernel
theorem dX2_join_41 : decode cX2_join 41 = .ok (.iload_n 1, 1) := by decide +kernel
theorem dX2_join_42 : decode cX2_join 42 = .ok (.iload_n 2, 1) := by decide +kernel
theorem dX2_join_43 : decode cX2_join 43 = .ok (.invokevirtual 123, 3) := by decide +kernel
theorem dX2_join_46 : decode cX2_join 46 = .ok (.ifCond .ne 7, 3) := by decide +kernel
theorem dX2_join_49 : decode cX2_join 49 = .ok (.iconst 3, 1) := by decide +kernel
theorem dX2_join_50 : decode cX2_join 50 = .ok (.goto 4, 3) := by decide +kernel
theorem dX2_join_53 : decode cX2_join 53 = .ok (.iconst 0, 1) := by decide +kernel
theorem dX2_join_54 : decode cX2_join 54 = .ok (.invokevirtual 101, 3) := by decide +kernel
theorem dX2_join_57 : decode cX2_join 57 = .ok (.ifCond .ne 5, 3) := by decide +kernel
theorem dX2_join_60 : decode cX2_join 60 = .ok (.iconst 0, 1) := by decide +kernel
theorem dX2_join_61 : decode cX2_join 61 = .ok (.ireturn, 1) := by decide +kernel
theorem dX2_join_62 : decode cX2_join 62 = .ok (.iconst 0, 1) := by decide +kernel
theorem dX2_join_63 : decode cX2_join 63 = .ok (.istore 4, 2) := by decide +kernel
theorem dX2_join_65 : decode cX2_join 65 = .ok (.iconst 0, 1) := by decide +kernel
theorem dX2_join_66 : decode cX2_join 66 = .ok (.istore 5, 2) := by decide +kernel
theorem dX2_join_68 : decode cX2_join 68 = .ok (.iload 5, 2) := by decide +kernel
theorem dX2_join_70 : decode cX2_join 70 = .ok (.bipush 6, 2) := by decide +kernel
theorem dX2_join_72 : decode cX2_join 72 = .ok (.if_icmp .ge 66, 3) := by decide +kernel
theorem dX2_join_75 : decode cX2_join 75 = .ok (.aload_n 0, 1) := by decide +kernel
theorem dX2_join_76 : decode cX2_join 76 = .ok (.getfield 13, 3) := by decide +kernel
theorem dX2_join_79 : decode cX2_join 79 = .ok (.bipush 6, 2) := by decide +kernel
theorem dX2_join_81 : decode cX2_join 81 = .ok (.iload_n 2, 1) := by decide +kernel
theorem dX2_join_82 : decode cX2_join 82 = .ok (.imul, 1) := by decide +kernel
theorem dX2_join_83 : decode cX2_join 83 = .ok (.iload 5, 2) := by decide +kernel
theorem dX2_join_85 : decode cX2_join 85 = .ok (.iadd, 1) := by decide +kernel
theorem dX2_join_86 : decode cX2_join 86 = .ok (.dup2, 1) := by decide +kernel
theorem dX2_join_87 : decode cX2_join 87 = .ok (.iaload, 1) := by decide +kernel
theorem dX2_join_88 : decode cX2_join 88 = .ok (.aload_n 0, 1) := by decide +kernel
theorem dX2_join_89 : decode cX2_join 89 = .ok (.getfield 13, 3) := by decide +kernel
theorem dX2_join_92 : decode cX2_join 92 = .ok (.bipush 6, 2) := by decide +kernel
theorem dX2_join_94 : decode cX2_join 94 = .ok (.iload_n 1, 1) := by decide +kernel
theorem dX2_join_95 : decode cX2_join 95 = .ok (.imul, 1) := by decide +kernel
theorem dX2_join_96 : decode cX2_join 96 = .ok (.iload 5, 2) := by decide +kernel
theorem dX2_join_98 : decode cX2_join 98 = .ok (.iadd, 1) := by decide +kernel
theorem dX2_join_99 : decode cX2_join 99 = .ok (.iaload, 1) := by decide +kernel
theorem dX2_join_100 : decode cX2_join 100 = .ok (.iadd, 1) := by decide +kernel
theorem dX2_join_101 : decode cX2_join 101 = .ok (.iastore, 1) := by decide +kernel
theorem dX2_join_102 : decode cX2_join 102 = .ok (.aload_n 0, 1) := by decide +kernel
theorem dX2_join_103 : decode cX2_join 103 = .ok (.getfield 13, 3) := by decide +kernel
theorem dX2_join_106 : decode cX2_join 106 = .ok (.bipush 6, 2) := by decide +kernel
theorem dX2_join_108 : decode cX2_join 108 = .ok (.iload_n 1, 1) := by decide +kernel
theorem dX2_join_109 : decode cX2_join 109 = .ok (.imul, 1) := by decide +kernel
theorem dX2_join_110 : decode cX2_join 110 = .ok (.iload 5, 2) := by decide +kernel
theorem dX2_join_112 : decode cX2_join 112 = .ok (.iadd, 1) := by decide +kernel
theorem dX2_join_113 : decode cX2_join 113 = .ok (.iconst 0, 1) := by decide +kernel
theorem dX2_join_114 : decode cX2_join 114 = .ok (.iastore, 1) := by decide +kernel
theorem dX2_join_115 : decode cX2_join 115 = .ok (.iload 4, 2) := by decide +kernel
theorem dX2_join_117 : decode cX2_join 117 = .ok (.aload_n 0, 1) := by decide +kernel
theorem dX2_join_118 : decode cX2_join 118 = .ok (.getfield 13, 3) := by decide +kernel
theorem dX2_join_121 : decode cX2_join 121 = .ok (.bipush 6, 2) := by decide +kernel
theorem dX2_join_123 : decode cX2_join 123 = .ok (.iload_n 2, 1) := by decide +kernel
theorem dX2_join_124 : decode cX2_join 124 = .ok (.imul, 1) := by decide +kernel
theorem dX2_join_125 : decode cX2_join 125 = .ok (.iload 5, 2) := by decide +kernel
theorem dX2_join_127 : decode cX2_join 127 = .ok (.iadd, 1) := by decide +kernel
theorem dX2_join_128 : decode cX2_join 128 = .ok (.iaload, 1) := by decide +kernel
theorem dX2_join_129 : decode cX2_join 129 = .ok (.iadd, 1) := by decide +kernel
theorem dX2_join_130 : decode cX2_join 130 = .ok (.istore 4, 2) := by decide +kernel
theorem dX2_join_132 : decode cX2_join 132 = .ok (.iinc 5 1, 3) := by decide +kernel
theorem dX2_join_135 : decode cX2_join 135 = .ok (.goto (-67), 3) := by decide +kernel
theorem dX2_join_138 : decode cX2_join 138 = .ok (.aload_n 0, 1) := by decide +kernel
theorem dX2_join_139 : decode cX2_join 139 = .ok (.getfield 16, 3) := by decide +kernel
theorem dX2_join_142 : decode cX2_join 142 = .ok (.iload_n 1, 1) := by decide +kernel
theorem dX2_join_143 : decode cX2_join 143 = .ok (.iaload, 1) := by decide +kernel
theorem dX2_join_144 : decode cX2_join 144 = .ok (.istore 5, 2) := by decide +kernel
theorem dX2_join_146 : decode cX2_join 146 = .ok (.aload_n 0, 1) := by decide +kernel
theorem dX2_join_147 : decode cX2_join 147 = .ok (.getfield 16, 3) := by decide +kernel
theorem dX2_join_150 : decode cX2_join 150 = .ok (.iload_n 2, 1) := by decide +kernel
theorem dX2_join_151 : decode cX2_join 151 = .ok (.iaload, 1) := by decide +kernel
theorem dX2_join_152 : decode cX2_join 152 = .ok (.istore 6, 2) := by decide +kernel
theorem dX2_join_154 : decode cX2_join 154 = .ok (.aload_n 0, 1) := by decide +kernel
theorem dX2_join_155 : decode cX2_join 155 = .ok (.iload_n 2, 1) := by decide +kernel
theorem dX2_join_156 : decode cX2_join 156 = .ok (.iconst 5, 1) := by decide +kernel
theorem dX2_join_157 : decode cX2_join 157 = .ok (.iconst 0, 1) := by decide +kernel
theorem dX2_join_158 : decode cX2_join 158 = .ok (.iconst 0, 1) := by decide +kernel
theorem dX2_join_159 : decode cX2_join 159 = .ok (.iload_n 1, 1) := by decide +kernel
theorem dX2_join_160 : decode cX2_join 160 = .ok (.iload 5, 2) := by decide +kernel
theorem dX2_join_162 : decode cX2_join 162 = .ok (.invokevirtual 107, 3) := by decide +kernel
theorem dX2_join_165 : decode cX2_join 165 = .ok (.aload_n 0, 1) := by decide +kernel
theorem dX2_join_166 : decode cX2_join 166 = .ok (.iload_n 1, 1) := by decide +kernel
theorem dX2_join_167 : decode cX2_join 167 = .ok (.bipush 6, 2) := by decide +kernel
theorem dX2_join_169 : decode cX2_join 169 = .ok (.iconst 0, 1) := by decide +kernel
theorem dX2_join_170 : decode cX2_join 170 = .ok (.iconst 0, 1) := by decide +kernel
theorem dX2_join_171 : decode cX2_join 171 = .ok (.iload_n 2, 1) := by decide +kernel
theorem dX2_join_172 : decode cX2_join 172 = .ok (.iload 6, 2) := by decide +kernel
theorem dX2_join_174 : decode cX2_join 174 = .ok (.invokevirtual 107, 3) := by decide +kernel
theorem dX2_join_177 : decode cX2_join 177 = .ok (.aload_n 0, 1) := by decide +kernel
theorem dX2_join_178 : decode cX2_join 178 = .ok (.getfield 23, 3) := by decide +kernel
theorem dX2_join_181 : decode cX2_join 181 = .ok (.iload_n 1, 1) := by decide +kernel
theorem dX2_join_182 : decode cX2_join 182 = .ok (.iconst 1, 1) := by decide +kernel
theorem dX2_join_183 : decode cX2_join 183 = .ok (.bastore, 1) := by decide +kernel
theorem dX2_join_184 : decode cX2_join 184 = .ok (.aload_n 0, 1) := by decide +kernel
theorem dX2_join_185 : decode cX2_join 185 = .ok (.getfield 26, 3) := by decide +kernel
theorem dX2_join_188 : decode cX2_join 188 = .ok (.aload_n 0, 1) := by decide +kernel
theorem dX2_join_189 : decode cX2_join 189 = .ok (.getfield 126, 3) := by decide +kernel
theorem dX2_join_192 : decode cX2_join 192 = .ok (.iload_n 1, 1) := by decide +kernel
theorem dX2_join_193 : decode cX2_join 193 = .ok (.iastore, 1) := by decide +kernel
theorem dX2_join_194 : decode cX2_join 194 = .ok (.aload_n 0, 1) := by decide +kernel
theorem dX2_join_195 : decode cX2_join 195 = .ok (.dup, 1) := by decide +kernel
theorem dX2_join_196 : decode cX2_join 196 = .ok (.getfield 126, 3) := by decide +kernel
theorem dX2_join_199 : decode cX2_join 199 = .ok (.iconst 1, 1) := by decide +kernel
theorem dX2_join_200 : decode cX2_join 200 = .ok (.iadd, 1) := by decide +kernel
theorem dX2_join_201 : decode cX2_join 201 = .ok (.putfield 126, 3) := by decide +kernel
theorem dX2_join_204 : decode cX2_join 204 = .ok (.iload 4, 2) := by decide +kernel
theorem dX2_join_206 : decode cX2_join 206 = .ok (.ireturn, 1) := by decide +kernel
set_option maxRecDepth 20000 in
theorem ggX2_move_X2_isPallet : GoodIn wsX2_move wsX2_isPallet := goodIn_r _ [6, 7, 8, 9, 5, 10, 63, 64, 65, 66, 67, 68, 69, 70, 71, 72, 73, 74, 75, 76, 77, 78, 79, 80, 81, 82, 83, 84] (by decide +kernel) (by decide +kernel)
set_option maxRecDepth 20000 in
theorem gX2_move_X2_isPallet : GoodIn wsX2_move (wsV RX2 79 RX2 yX2_isPallet wsX2_isPallet) := goodIn_app (goodIn_of _ (by decide +kernel)) ggX2_move_X2_isPallet
set_option maxRecDepth 20000 in
theorem ggX2_move_X2_isIn : GoodIn wsX2_move wsX2_isIn := goodIn_r _ [10] (by decide +kernel) (by decide +kernel)
set_option maxRecDepth 20000 in
theorem gX2_move_X2_isIn : GoodIn wsX2_move (va_wsS RX2 75 yX2_isIn wsX2_isIn) := goodIn_app (goodIn_of _ (by decide +kernel)) ggX2_move_X2_isIn
set_option maxRecDepth 20000 in
theorem ggX2_move_X2_canWork : GoodIn wsX2_move wsX2_canWork := goodIn_r _ [14, 15, 16, 17, 18, 19, 20, 5, 21, 22, 23, 24, 25, 26, 27, 28, 29, 30, 31, 32, 33, 34, 35, 36, 37, 38, 39, 40, 63, 64, 65, 66, 67, 68, 69, 70, 71, 72, 73, 74, 75, 76, 77, 78, 79, 80, 81, 82, 83, 84] (by decide +kernel) (by decide +kernel)
set_option maxRecDepth 20000 in
theorem gX2_move_X2_canWork : GoodIn wsX2_move (wsV RX2 111 RX2 yX2_canWork wsX2_canWork) := goodIn_app (goodIn_of _ (by decide +kernel)) ggX2_move_X2_canWork
set_option maxRecDepth 20000 in
theorem ggX2_move_X2_weight : GoodIn wsX2_move wsX2_weight := goodIn_r _ [44, 45, 63, 64, 65, 66, 67, 68, 69, 70, 71, 72, 73, 74, 75, 76, 77, 78, 79, 80, 81, 82, 83, 84] (by decide +kernel) (by decide +kernel)
set_option maxRecDepth 20000 in
theorem gX2_move_X2_weight : GoodIn wsX2_move (wsV RX2 98 RX2 yX2_weight wsX2_weight) := goodIn_app (goodIn_of _ (by decide +kernel)) ggX2_move_X2_weight
set_option maxRecDepth 20000 in
theorem ggX2_move_X2_hasRoom : GoodIn wsX2_move wsX2_hasRoom := goodIn_r _ [49, 7, 1, 41, 42, 43, 5, 44, 45, 63, 64, 65, 66, 67, 68, 69, 70, 71, 72, 73, 74, 75, 76, 77, 78, 79, 80, 81, 82, 83, 84] (by decide +kernel) (by decide +kernel)
set_option maxRecDepth 20000 in
theorem gX2_move_X2_hasRoom : GoodIn wsX2_move (wsV RX2 114 RX2 yX2_hasRoom wsX2_hasRoom) := goodIn_app (goodIn_of _ (by decide +kernel)) ggX2_move_X2_hasRoom
set_option maxRecDepth 20000 in
theorem ggX2_move_X2_holds : GoodIn wsX2_move wsX2_holds := goodIn_r _ [53, 54, 63, 64, 65, 66, 67, 68, 69, 70, 71, 72, 73, 74, 75, 76, 77, 78, 79, 80, 81, 82, 83, 84] (by decide +kernel) (by decide +kernel)
set_option maxRecDepth 20000 in
theorem gX2_move_X2_holds : GoodIn wsX2_move (wsV RX2 101 RX2 yX2_holds wsX2_holds) := goodIn_app (goodIn_of _ (by decide +kernel)) ggX2_move_X2_holds
set_option maxRecDepth 20000 in
theorem ggX2_move_X2_writes : GoodIn wsX2_move wsX2_writes := goodIn_r _ [58, 17, 1, 22, 37, 38, 39, 23, 40, 59, 32, 60, 61, 62, 33, 34, 35, 5, 36, 63, 64, 65, 66, 67, 68, 69, 70, 71, 72, 73, 74, 75, 76, 77, 78, 79, 80, 81, 82, 83, 84] (by decide +kernel) (by decide +kernel)
set_option maxRecDepth 20000 in
theorem gX2_move_X2_writes : GoodIn wsX2_move (wsV RX2 107 RX2 yX2_writes wsX2_writes) := goodIn_app (goodIn_of _ (by decide +kernel)) ggX2_move_X2_writes
theorem dX2_move_0 : decode cX2_move 0 = .ok (.aload_n 0, 1) := by decide +kernel
theorem dX2_move_1 : decode cX2_move 1 = .ok (.iload_n 1, 1) := by decide +kernel
theorem dX2_move_2 : decode cX2_move 2 = .ok (.invokevirtual 79, 3) := by decide +kernel
theorem dX2_move_5 : decode cX2_move 5 = .ok (.ifCond .eq 16, 3) := by decide +kernel
theorem dX2_move_8 : decode cX2_move 8 = .ok (.iload_n 2, 1) := by decide +kernel
theorem dX2_move_9 : decode cX2_move 9 = .ok (.iconst 0, 1) := by decide +kernel
theorem dX2_move_10 : decode cX2_move 10 = .ok (.iconst 5, 1) := by decide +kernel
theorem dX2_move_11 : decode cX2_move 11 = .ok (.invokestatic 75, 3) := by decide +kernel
theorem dX2_move_14 : decode cX2_move 14 = .ok (.ifCond .eq 7, 3) := by decide +kernel
theorem dX2_move_17 : decode cX2_move 17 = .ok (.iconst 1, 1) := by decide +kernel
theorem dX2_move_18 : decode cX2_move 18 = .ok (.goto 4, 3) := by decide +kernel
theorem dX2_move_21 : decode cX2_move 21 = .ok (.iconst 0, 1) := by decide +kernel
theorem dX2_move_22 : decode cX2_move 22 = .ok (.istore_n 3, 1) := by decide +kernel
theorem dX2_move_23 : decode cX2_move 23 = .ok (.iload_n 3, 1) := by decide +kernel
theorem dX2_move_24 : decode cX2_move 24 = .ok (.ifCond .eq 56, 3) := by decide +kernel
theorem dX2_move_27 : decode cX2_move 27 = .ok (.aload_n 0, 1) := by decide +kernel
theorem dX2_move_28 : decode cX2_move 28 = .ok (.getfield 7, 3) := by decide +kernel
theorem dX2_move_31 : decode cX2_move 31 = .ok (.iload_n 1, 1) := by decide +kernel
theorem dX2_move_32 : decode cX2_move 32 = .ok (.iaload, 1) := by decide +kernel
theorem dX2_move_33 : decode cX2_move 33 = .ok (.iconst 4, 1) := by decide +kernel
theorem dX2_move_34 : decode cX2_move 34 = .ok (.if_icmp .ge 7, 3) := by decide +kernel
theorem dX2_move_37 : decode cX2_move 37 = .ok (.iconst 1, 1) := by decide +kernel
theorem dX2_move_38 : decode cX2_move 38 = .ok (.goto 4, 3) := by decide +kernel
theorem dX2_move_41 : decode cX2_move 41 = .ok (.iconst 0, 1) := by decide +kernel
theorem dX2_move_42 : decode cX2_move 42 = .ok (.iload_n 2, 1) := by decide +kernel
theorem dX2_move_43 : decode cX2_move 43 = .ok (.iconst 4, 1) := by decide +kernel
theorem dX2_move_44 : decode cX2_move 44 = .ok (.if_icmp .ge 7, 3) := by decide +kernel
theorem dX2_move_47 : decode cX2_move 47 = .ok (.iconst 1, 1) := by decide +kernel
theorem dX2_move_48 : decode cX2_move 48 = .ok (.goto 4, 3) := by decide +kernel
theorem dX2_move_51 : decode cX2_move 51 = .ok (.iconst 0, 1) := by decide +kernel
theorem dX2_move_52 : decode cX2_move 52 = .ok (.if_icmp .eq 28, 3) := by decide +kernel
theorem dX2_move_55 : decode cX2_move 55 = .ok (.aload_n 0, 1) := by decide +kernel
theorem dX2_move_56 : decode cX2_move 56 = .ok (.iload_n 1, 1) := by decide +kernel
theorem dX2_move_57 : decode cX2_move 57 = .ok (.invokevirtual 111, 3) := by decide +kernel
theorem dX2_move_60 : decode cX2_move 60 = .ok (.ifCond .eq 20, 3) := by decide +kernel
theorem dX2_move_63 : decode cX2_move 63 = .ok (.aload_n 0, 1) := by decide +kernel
theorem dX2_move_64 : decode cX2_move 64 = .ok (.iload_n 2, 1) := by decide +kernel
theorem dX2_move_65 : decode cX2_move 65 = .ok (.aload_n 0, 1) := by decide +kernel
theorem dX2_move_66 : decode cX2_move 66 = .ok (.iload_n 1, 1) := by decide +kernel
theorem dX2_move_67 : decode cX2_move 67 = .ok (.invokevirtual 98, 3) := by decide +kernel
theorem dX2_move_70 : decode cX2_move 70 = .ok (.invokevirtual 114, 3) := by decide +kernel
theorem dX2_move_73 : decode cX2_move 73 = .ok (.ifCond .eq 7, 3) := by decide +kernel
theorem dX2_move_76 : decode cX2_move 76 = .ok (.iconst 1, 1) := by decide +kernel
theorem dX2_move_77 : decode cX2_move 77 = .ok (.goto 4, 3) := by decide +kernel
theorem dX2_move_80 : decode cX2_move 80 = .ok (.iconst 0, 1) := by decide +kernel
theorem dX2_move_81 : decode cX2_move 81 = .ok (.istore 4, 2) := by decide +kernel
theorem dX2_move_83 : decode cX2_move 83 = .ok (.aload_n 0, 1) := by decide +kernel
theorem dX2_move_84 : decode cX2_move 84 = .ok (.iload_n 3, 1) := by decide +kernel
theorem dX2_move_85 : decode cX2_move 85 = .ok (.ifCond .ne 7, 3) := by decide +kernel
theorem dX2_move_88 : decode cX2_move 88 = .ok (.iconst 1, 1) := by decide +kernel
theorem dX2_move_89 : decode cX2_move 89 = .ok (.goto 13, 3) := by decide +kernel
theorem dX2_move_92 : decode cX2_move 92 = .ok (.iload 4, 2) := by decide +kernel
theorem dX2_move_94 : decode cX2_move 94 = .ok (.ifCond .ne 7, 3) := by decide +kernel
theorem dX2_move_97 : decode cX2_move 97 = .ok (.iconst 2, 1) := by decide +kernel
theorem dX2_move_98 : decode cX2_move 98 = .ok (.goto 4, 3) := by decide +kernel
theorem dX2_move_101 : decode cX2_move 101 = .ok (.iconst 0, 1) := by decide +kernel
theorem dX2_move_102 : decode cX2_move 102 = .ok (.invokevirtual 101, 3) := by decide +kernel
theorem dX2_move_105 : decode cX2_move 105 = .ok (.ifCond .ne 5, 3) := by decide +kernel
theorem dX2_move_108 : decode cX2_move 108 = .ok (.iconst 0, 1) := by decide +kernel
theorem dX2_move_109 : decode cX2_move 109 = .ok (.ireturn, 1) := by decide +kernel
theorem dX2_move_110 : decode cX2_move 110 = .ok (.aload_n 0, 1) := by decide +kernel
theorem dX2_move_111 : decode cX2_move 111 = .ok (.iload_n 1, 1) := by decide +kernel
theorem dX2_move_112 : decode cX2_move 112 = .ok (.bipush 7, 2) := by decide +kernel
theorem dX2_move_114 : decode cX2_move 114 = .ok (.iconst 0, 1) := by decide +kernel
theorem dX2_move_115 : decode cX2_move 115 = .ok (.iload_n 2, 1) := by decide +kernel
theorem dX2_move_116 : decode cX2_move 116 = .ok (.iconst 0, 1) := by decide +kernel
theorem dX2_move_117 : decode cX2_move 117 = .ok (.iconst 0, 1) := by decide +kernel
theorem dX2_move_118 : decode cX2_move 118 = .ok (.invokevirtual 107, 3) := by decide +kernel
theorem dX2_move_121 : decode cX2_move 121 = .ok (.aload_n 0, 1) := by decide +kernel
theorem dX2_move_122 : decode cX2_move 122 = .ok (.getfield 7, 3) := by decide +kernel
theorem dX2_move_125 : decode cX2_move 125 = .ok (.iload_n 1, 1) := by decide +kernel
theorem dX2_move_126 : decode cX2_move 126 = .ok (.iload_n 2, 1) := by decide +kernel
theorem dX2_move_127 : decode cX2_move 127 = .ok (.iastore, 1) := by decide +kernel
theorem dX2_move_128 : decode cX2_move 128 = .ok (.aload_n 0, 1) := by decide +kernel
theorem dX2_move_129 : decode cX2_move 129 = .ok (.iload_n 1, 1) := by decide +kernel
theorem dX2_move_130 : decode cX2_move 130 = .ok (.invokevirtual 98, 3) := by decide +kernel
theorem dX2_move_133 : decode cX2_move 133 = .ok (.ireturn, 1) := by decide +kernel
set_option maxRecDepth 20000 in
theorem ggX2_hold_X2_isPallet : GoodIn wsX2_hold wsX2_isPallet := goodIn_r _ [8, 9, 10, 11, 7, 12, 38, 39, 40, 41, 42, 43, 44, 45, 46, 47, 48, 49, 50, 51, 52, 53, 54, 55, 56, 57, 58, 59] (by decide +kernel) (by decide +kernel)
set_option maxRecDepth 20000 in
theorem gX2_hold_X2_isPallet : GoodIn wsX2_hold (wsV RX2 79 RX2 yX2_isPallet wsX2_isPallet) := goodIn_app (goodIn_of _ (by decide +kernel)) ggX2_hold_X2_isPallet
set_option maxRecDepth 20000 in
theorem ggX2_hold_X2_holds : GoodIn wsX2_hold wsX2_holds := goodIn_r _ [16, 17, 38, 39, 40, 41, 42, 43, 44, 45, 46, 47, 48, 49, 50, 51, 52, 53, 54, 55, 56, 57, 58, 59] (by decide +kernel) (by decide +kernel)
set_option maxRecDepth 20000 in
theorem gX2_hold_X2_holds : GoodIn wsX2_hold (wsV RX2 101 RX2 yX2_holds wsX2_holds) := goodIn_app (goodIn_of _ (by decide +kernel)) ggX2_hold_X2_holds
set_option maxRecDepth 20000 in
theorem ggX2_hold_X2_writes : GoodIn wsX2_hold wsX2_writes := goodIn_r _ [21, 2, 22, 23, 24, 25, 26, 27, 28, 29, 30, 31, 32, 33, 34, 35, 36, 7, 37, 38, 39, 40, 41, 42, 43, 44, 45, 46, 47, 48, 49, 50, 51, 52, 53, 54, 55, 56, 57, 58, 59] (by decide +kernel) (by decide +kernel)
set_option maxRecDepth 20000 in
theorem gX2_hold_X2_writes : GoodIn wsX2_hold (wsV RX2 107 RX2 yX2_writes wsX2_writes) := goodIn_app (goodIn_of _ (by decide +kernel)) ggX2_hold_X2_writes
theorem dX2_hold_0 : decode cX2_hold 0 = .ok (.aload_n 0, 1) := by decide +kernel
theorem dX2_hold_1 : decode cX2_hold 1 = .ok (.iload_n 1, 1) := by decide +kernel
theorem dX2_hold_2 : decode cX2_hold 2 = .ok (.invokevirtual 79, 3) := by decide +kernel
theorem dX2_hold_5 : decode cX2_hold 5 = .ok (.istore_n 2, 1) := by decide +kernel
theorem dX2_hold_6 : decode cX2_hold 6 = .ok (.aload_n 0, 1) := by decide +kernel
theorem dX2_hold_7 : decode cX2_hold 7 = .ok (.iload_n 2, 1) := by decide +kernel
theorem dX2_hold_8 : decode cX2_hold 8 = .ok (.ifCond .ne 7, 3) := by decide +kernel
theorem dX2_hold_11 : decode cX2_hold 11 = .ok (.iconst 1, 1) := by decide +kernel
theorem dX2_hold_12 : decode cX2_hold 12 = .ok (.goto 28, 3) := by decide +kernel
theorem dX2_hold_15 : decode cX2_hold 15 = .ok (.aload_n 0, 1) := by decide +kernel
theorem dX2_hold_16 : decode cX2_hold 16 = .ok (.getfield 23, 3) := by decide +kernel
theorem dX2_hold_19 : decode cX2_hold 19 = .ok (.iload_n 1, 1) := by decide +kernel
theorem dX2_hold_20 : decode cX2_hold 20 = .ok (.baload, 1) := by decide +kernel
theorem dX2_hold_21 : decode cX2_hold 21 = .ok (.ifCond .ne 14, 3) := by decide +kernel
theorem dX2_hold_24 : decode cX2_hold 24 = .ok (.aload_n 0, 1) := by decide +kernel
theorem dX2_hold_25 : decode cX2_hold 25 = .ok (.getfield 16, 3) := by decide +kernel
theorem dX2_hold_28 : decode cX2_hold 28 = .ok (.iload_n 1, 1) := by decide +kernel
theorem dX2_hold_29 : decode cX2_hold 29 = .ok (.iaload, 1) := by decide +kernel
theorem dX2_hold_30 : decode cX2_hold 30 = .ok (.bipush 30, 2) := by decide +kernel
theorem dX2_hold_32 : decode cX2_hold 32 = .ok (.if_icmp .ne 7, 3) := by decide +kernel
theorem dX2_hold_35 : decode cX2_hold 35 = .ok (.iconst 2, 1) := by decide +kernel
theorem dX2_hold_36 : decode cX2_hold 36 = .ok (.goto 4, 3) := by decide +kernel
theorem dX2_hold_39 : decode cX2_hold 39 = .ok (.iconst 0, 1) := by decide +kernel
theorem dX2_hold_40 : decode cX2_hold 40 = .ok (.invokevirtual 101, 3) := by decide +kernel
theorem dX2_hold_43 : decode cX2_hold 43 = .ok (.ifCond .ne 5, 3) := by decide +kernel
theorem dX2_hold_46 : decode cX2_hold 46 = .ok (.iconst 0, 1) := by decide +kernel
theorem dX2_hold_47 : decode cX2_hold 47 = .ok (.ireturn, 1) := by decide +kernel
theorem dX2_hold_48 : decode cX2_hold 48 = .ok (.aload_n 0, 1) := by decide +kernel
theorem dX2_hold_49 : decode cX2_hold 49 = .ok (.getfield 19, 3) := by decide +kernel
theorem dX2_hold_52 : decode cX2_hold 52 = .ok (.iload_n 1, 1) := by decide +kernel
theorem dX2_hold_53 : decode cX2_hold 53 = .ok (.aload_n 0, 1) := by decide +kernel
theorem dX2_hold_54 : decode cX2_hold 54 = .ok (.getfield 19, 3) := by decide +kernel
theorem dX2_hold_57 : decode cX2_hold 57 = .ok (.iload_n 1, 1) := by decide +kernel
theorem dX2_hold_58 : decode cX2_hold 58 = .ok (.baload, 1) := by decide +kernel
theorem dX2_hold_59 : decode cX2_hold 59 = .ok (.ifCond .ne 7, 3) := by decide +kernel
theorem dX2_hold_62 : decode cX2_hold 62 = .ok (.iconst 1, 1) := by decide +kernel
theorem dX2_hold_63 : decode cX2_hold 63 = .ok (.goto 4, 3) := by decide +kernel
theorem dX2_hold_66 : decode cX2_hold 66 = .ok (.iconst 0, 1) := by decide +kernel
theorem dX2_hold_67 : decode cX2_hold 67 = .ok (.bastore, 1) := by decide +kernel
theorem dX2_hold_68 : decode cX2_hold 68 = .ok (.aload_n 0, 1) := by decide +kernel
theorem dX2_hold_69 : decode cX2_hold 69 = .ok (.iload_n 1, 1) := by decide +kernel
theorem dX2_hold_70 : decode cX2_hold 70 = .ok (.aload_n 0, 1) := by decide +kernel
theorem dX2_hold_71 : decode cX2_hold 71 = .ok (.getfield 19, 3) := by decide +kernel
theorem dX2_hold_74 : decode cX2_hold 74 = .ok (.iload_n 1, 1) := by decide +kernel
theorem dX2_hold_75 : decode cX2_hold 75 = .ok (.baload, 1) := by decide +kernel
theorem dX2_hold_76 : decode cX2_hold 76 = .ok (.ifCond .eq 8, 3) := by decide +kernel
theorem dX2_hold_79 : decode cX2_hold 79 = .ok (.bipush 8, 2) := by decide +kernel
theorem dX2_hold_81 : decode cX2_hold 81 = .ok (.goto 5, 3) := by decide +kernel
theorem dX2_hold_84 : decode cX2_hold 84 = .ok (.bipush 9, 2) := by decide +kernel
theorem dX2_hold_86 : decode cX2_hold 86 = .ok (.iconst 0, 1) := by decide +kernel
theorem dX2_hold_87 : decode cX2_hold 87 = .ok (.iconst 0, 1) := by decide +kernel
theorem dX2_hold_88 : decode cX2_hold 88 = .ok (.iconst 0, 1) := by decide +kernel
theorem dX2_hold_89 : decode cX2_hold 89 = .ok (.iconst 0, 1) := by decide +kernel
theorem dX2_hold_90 : decode cX2_hold 90 = .ok (.invokevirtual 107, 3) := by decide +kernel
theorem dX2_hold_93 : decode cX2_hold 93 = .ok (.aload_n 0, 1) := by decide +kernel
theorem dX2_hold_94 : decode cX2_hold 94 = .ok (.getfield 19, 3) := by decide +kernel
theorem dX2_hold_97 : decode cX2_hold 97 = .ok (.iload_n 1, 1) := by decide +kernel
theorem dX2_hold_98 : decode cX2_hold 98 = .ok (.baload, 1) := by decide +kernel
theorem dX2_hold_99 : decode cX2_hold 99 = .ok (.ireturn, 1) := by decide +kernel
set_option maxRecDepth 20000 in
theorem ggX2_spoil_X2_isEntry : GoodIn wsX2_spoil wsX2_isEntry := goodIn_r _ [6, 7, 8, 9, 10, 5, 11, 12, 13, 14, 15, 21, 22, 23, 24, 25, 26, 27, 28, 29, 30, 31, 32, 33, 34, 35, 36, 37, 38, 39, 40, 41, 42] (by decide +kernel) (by decide +kernel)
set_option maxRecDepth 20000 in
theorem gX2_spoil_X2_isEntry : GoodIn wsX2_spoil (wsV RX2 129 RX2 yX2_isEntry wsX2_isEntry) := goodIn_app (goodIn_of _ (by decide +kernel)) ggX2_spoil_X2_isEntry
set_option maxRecDepth 20000 in
theorem ggX2_spoil_X2_isIn : GoodIn wsX2_spoil wsX2_isIn := goodIn_r _ [15] (by decide +kernel) (by decide +kernel)
set_option maxRecDepth 20000 in
theorem gX2_spoil_X2_isIn : GoodIn wsX2_spoil (va_wsS RX2 75 yX2_isIn wsX2_isIn) := goodIn_app (goodIn_of _ (by decide +kernel)) ggX2_spoil_X2_isIn
set_option maxRecDepth 20000 in
theorem ggX2_spoil_X2_holds : GoodIn wsX2_spoil wsX2_holds := goodIn_r _ [19, 20, 21, 22, 23, 24, 25, 26, 27, 28, 29, 30, 31, 32, 33, 34, 35, 36, 37, 38, 39, 40, 41, 42] (by decide +kernel) (by decide +kernel)
set_option maxRecDepth 20000 in
theorem gX2_spoil_X2_holds : GoodIn wsX2_spoil (wsV RX2 101 RX2 yX2_holds wsX2_holds) := goodIn_app (goodIn_of _ (by decide +kernel)) ggX2_spoil_X2_holds
theorem dX2_spoil_0 : decode cX2_spoil 0 = .ok (.aload_n 0, 1) := by decide +kernel
theorem dX2_spoil_1 : decode cX2_spoil 1 = .ok (.iload_n 1, 1) := by decide +kernel
theorem dX2_spoil_2 : decode cX2_spoil 2 = .ok (.iload_n 2, 1) := by decide +kernel
theorem dX2_spoil_3 : decode cX2_spoil 3 = .ok (.invokevirtual 129, 3) := by decide +kernel
theorem dX2_spoil_6 : decode cX2_spoil 6 = .ok (.istore 4, 2) := by decide +kernel
theorem dX2_spoil_8 : decode cX2_spoil 8 = .ok (.aload_n 0, 1) := by decide +kernel
theorem dX2_spoil_9 : decode cX2_spoil 9 = .ok (.iload 4, 2) := by decide +kernel
theorem dX2_spoil_11 : decode cX2_spoil 11 = .ok (.ifCond .ne 7, 3) := by decide +kernel
theorem dX2_spoil_14 : decode cX2_spoil 14 = .ok (.iconst 1, 1) := by decide +kernel
theorem dX2_spoil_15 : decode cX2_spoil 15 = .ok (.goto 21, 3) := by decide +kernel
theorem dX2_spoil_18 : decode cX2_spoil 18 = .ok (.iload_n 3, 1) := by decide +kernel
theorem dX2_spoil_19 : decode cX2_spoil 19 = .ok (.sipush (-999), 3) := by decide +kernel
theorem dX2_spoil_22 : decode cX2_spoil 22 = .ok (.sipush 999, 3) := by decide +kernel
theorem dX2_spoil_25 : decode cX2_spoil 25 = .ok (.invokestatic 75, 3) := by decide +kernel
theorem dX2_spoil_28 : decode cX2_spoil 28 = .ok (.ifCond .ne 7, 3) := by decide +kernel
theorem dX2_spoil_31 : decode cX2_spoil 31 = .ok (.iconst 2, 1) := by decide +kernel
theorem dX2_spoil_32 : decode cX2_spoil 32 = .ok (.goto 4, 3) := by decide +kernel
theorem dX2_spoil_35 : decode cX2_spoil 35 = .ok (.iconst 0, 1) := by decide +kernel
theorem dX2_spoil_36 : decode cX2_spoil 36 = .ok (.invokevirtual 101, 3) := by decide +kernel
theorem dX2_spoil_39 : decode cX2_spoil 39 = .ok (.ifCond .ne 5, 3) := by decide +kernel
theorem dX2_spoil_42 : decode cX2_spoil 42 = .ok (.iconst 0, 1) := by decide +kernel
theorem dX2_spoil_43 : decode cX2_spoil 43 = .ok (.ireturn, 1) := by decide +kernel
theorem dX2_spoil_44 : decode cX2_spoil 44 = .ok (.bipush 30, 2) := by decide +kernel
theorem dX2_spoil_46 : decode cX2_spoil 46 = .ok (.iload_n 1, 1) := by decide +kernel
theorem dX2_spoil_47 : decode cX2_spoil 47 = .ok (.imul, 1) := by decide +kernel
theorem dX2_spoil_48 : decode cX2_spoil 48 = .ok (.iload_n 2, 1) := by decide +kernel
theorem dX2_spoil_49 : decode cX2_spoil 49 = .ok (.iadd, 1) := by decide +kernel
theorem dX2_spoil_50 : decode cX2_spoil 50 = .ok (.istore 5, 2) := by decide +kernel
theorem dX2_spoil_52 : decode cX2_spoil 52 = .ok (.aload_n 0, 1) := by decide +kernel
theorem dX2_spoil_53 : decode cX2_spoil 53 = .ok (.getfield 38, 3) := by decide +kernel
theorem dX2_spoil_56 : decode cX2_spoil 56 = .ok (.iload 5, 2) := by decide +kernel
theorem dX2_spoil_58 : decode cX2_spoil 58 = .ok (.iaload, 1) := by decide +kernel
theorem dX2_spoil_59 : decode cX2_spoil 59 = .ok (.istore 6, 2) := by decide +kernel
theorem dX2_spoil_61 : decode cX2_spoil 61 = .ok (.aload_n 0, 1) := by decide +kernel
theorem dX2_spoil_62 : decode cX2_spoil 62 = .ok (.getfield 38, 3) := by decide +kernel
theorem dX2_spoil_65 : decode cX2_spoil 65 = .ok (.iload 5, 2) := by decide +kernel
theorem dX2_spoil_67 : decode cX2_spoil 67 = .ok (.iload_n 3, 1) := by decide +kernel
theorem dX2_spoil_68 : decode cX2_spoil 68 = .ok (.iastore, 1) := by decide +kernel
theorem dX2_spoil_69 : decode cX2_spoil 69 = .ok (.iload 6, 2) := by decide +kernel
theorem dX2_spoil_71 : decode cX2_spoil 71 = .ok (.ireturn, 1) := by decide +kernel
set_option maxRecDepth 20000 in
theorem ggX2_lose_X2_isIn : GoodIn wsX2_lose wsX2_isIn := goodIn_r _ [6] (by decide +kernel) (by decide +kernel)
set_option maxRecDepth 20000 in
theorem gX2_lose_X2_isIn : GoodIn wsX2_lose (va_wsS RX2 75 yX2_isIn wsX2_isIn) := goodIn_app (goodIn_of _ (by decide +kernel)) ggX2_lose_X2_isIn
set_option maxRecDepth 20000 in
theorem ggX2_lose_X2_holds : GoodIn wsX2_lose wsX2_holds := goodIn_r _ [10, 11, 12, 13, 14, 15, 16, 17, 18, 19, 20, 21, 22, 23, 24, 25, 26, 27, 28, 29, 30, 31, 32, 33] (by decide +kernel) (by decide +kernel)
set_option maxRecDepth 20000 in
theorem gX2_lose_X2_holds : GoodIn wsX2_lose (wsV RX2 101 RX2 yX2_holds wsX2_holds) := goodIn_app (goodIn_of _ (by decide +kernel)) ggX2_lose_X2_holds
theorem dX2_lose_0 : decode cX2_lose 0 = .ok (.aload_n 0, 1) := by decide +kernel
theorem dX2_lose_1 : decode cX2_lose 1 = .ok (.iload_n 1, 1) := by decide +kernel
theorem dX2_lose_2 : decode cX2_lose 2 = .ok (.iconst 0, 1) := by decide +kernel
theorem dX2_lose_3 : decode cX2_lose 3 = .ok (.bipush 6, 2) := by decide +kernel
theorem dX2_lose_5 : decode cX2_lose 5 = .ok (.invokestatic 75, 3) := by decide +kernel
theorem dX2_lose_8 : decode cX2_lose 8 = .ok (.ifCond .eq 7, 3) := by decide +kernel
theorem dX2_lose_11 : decode cX2_lose 11 = .ok (.iconst 0, 1) := by decide +kernel
theorem dX2_lose_12 : decode cX2_lose 12 = .ok (.goto 4, 3) := by decide +kernel
theorem dX2_lose_15 : decode cX2_lose 15 = .ok (.iconst 1, 1) := by decide +kernel
theorem dX2_lose_16 : decode cX2_lose 16 = .ok (.invokevirtual 101, 3) := by decide +kernel
theorem dX2_lose_19 : decode cX2_lose 19 = .ok (.ifCond .ne 5, 3) := by decide +kernel
theorem dX2_lose_22 : decode cX2_lose 22 = .ok (.iconst 0, 1) := by decide +kernel
theorem dX2_lose_23 : decode cX2_lose 23 = .ok (.ireturn, 1) := by decide +kernel
theorem dX2_lose_24 : decode cX2_lose 24 = .ok (.iconst 0, 1) := by decide +kernel
theorem dX2_lose_25 : decode cX2_lose 25 = .ok (.istore_n 2, 1) := by decide +kernel
theorem dX2_lose_26 : decode cX2_lose 26 = .ok (.iconst 0, 1) := by decide +kernel
theorem dX2_lose_27 : decode cX2_lose 27 = .ok (.istore_n 3, 1) := by decide +kernel
theorem dX2_lose_28 : decode cX2_lose 28 = .ok (.iload_n 3, 1) := by decide +kernel
theorem dX2_lose_29 : decode cX2_lose 29 = .ok (.bipush 30, 2) := by decide +kernel
theorem dX2_lose_31 : decode cX2_lose 31 = .ok (.aload_n 0, 1) := by decide +kernel
theorem dX2_lose_32 : decode cX2_lose 32 = .ok (.getfield 72, 3) := by decide +kernel
theorem dX2_lose_35 : decode cX2_lose 35 = .ok (.imul, 1) := by decide +kernel
theorem dX2_lose_36 : decode cX2_lose 36 = .ok (.if_icmp .ge 36, 3) := by decide +kernel
theorem dX2_lose_39 : decode cX2_lose 39 = .ok (.iload_n 2, 1) := by decide +kernel
theorem dX2_lose_40 : decode cX2_lose 40 = .ok (.aload_n 0, 1) := by decide +kernel
theorem dX2_lose_41 : decode cX2_lose 41 = .ok (.getfield 53, 3) := by decide +kernel
theorem dX2_lose_44 : decode cX2_lose 44 = .ok (.iload_n 3, 1) := by decide +kernel
theorem dX2_lose_45 : decode cX2_lose 45 = .ok (.iaload, 1) := by decide +kernel
theorem dX2_lose_46 : decode cX2_lose 46 = .ok (.iload_n 1, 1) := by decide +kernel
theorem dX2_lose_47 : decode cX2_lose 47 = .ok (.ishr, 1) := by decide +kernel
theorem dX2_lose_48 : decode cX2_lose 48 = .ok (.iconst 1, 1) := by decide +kernel
theorem dX2_lose_49 : decode cX2_lose 49 = .ok (.iand, 1) := by decide +kernel
theorem dX2_lose_50 : decode cX2_lose 50 = .ok (.iadd, 1) := by decide +kernel
theorem dX2_lose_51 : decode cX2_lose 51 = .ok (.istore_n 2, 1) := by decide +kernel
theorem dX2_lose_52 : decode cX2_lose 52 = .ok (.aload_n 0, 1) := by decide +kernel
theorem dX2_lose_53 : decode cX2_lose 53 = .ok (.getfield 53, 3) := by decide +kernel
theorem dX2_lose_56 : decode cX2_lose 56 = .ok (.iload_n 3, 1) := by decide +kernel
theorem dX2_lose_57 : decode cX2_lose 57 = .ok (.dup2, 1) := by decide +kernel
theorem dX2_lose_58 : decode cX2_lose 58 = .ok (.iaload, 1) := by decide +kernel
theorem dX2_lose_59 : decode cX2_lose 59 = .ok (.iconst 1, 1) := by decide +kernel
theorem dX2_lose_60 : decode cX2_lose 60 = .ok (.iload_n 1, 1) := by decide +kernel
theorem dX2_lose_61 : decode cX2_lose 61 = .ok (.ishl, 1) := by decide +kernel
theorem dX2_lose_62 : decode cX2_lose 62 = .ok (.iconst (-1), 1) := by decide +kernel
theorem dX2_lose_63 : decode cX2_lose 63 = .ok (.ixor, 1) := by decide +kernel
theorem dX2_lose_64 : decode cX2_lose 64 = .ok (.iand, 1) := by decide +kernel
theorem dX2_lose_65 : decode cX2_lose 65 = .ok (.iastore, 1) := by decide +kernel
theorem dX2_lose_66 : decode cX2_lose 66 = .ok (.iinc 3 1, 3) := by decide +kernel
theorem dX2_lose_69 : decode cX2_lose 69 = .ok (.goto (-41), 3) := by decide +kernel
theorem dX2_lose_72 : decode cX2_lose 72 = .ok (.iload_n 2, 1) := by decide +kernel
theorem dX2_lose_73 : decode cX2_lose 73 = .ok (.ireturn, 1) := by decide +kernel
set_option maxRecDepth 20000 in
theorem ggX2_repair_X2_isEntry : GoodIn wsX2_repair wsX2_isEntry := goodIn_r _ [10, 11, 12, 13, 14, 9, 15, 16, 17, 18, 19, 39, 40, 41, 42, 43, 44, 45, 46, 47, 48, 49, 50, 51, 52, 53, 54, 55, 56, 57, 58, 59, 60] (by decide +kernel) (by decide +kernel)
set_option maxRecDepth 20000 in
theorem gX2_repair_X2_isEntry : GoodIn wsX2_repair (wsV RX2 129 RX2 yX2_isEntry wsX2_isEntry) := goodIn_app (goodIn_of _ (by decide +kernel)) ggX2_repair_X2_isEntry
set_option maxRecDepth 20000 in
theorem ggX2_repair_X2_isBroken : GoodIn wsX2_repair wsX2_isBroken := goodIn_r _ [23, 24, 25, 26, 27, 9, 28, 29, 30, 31, 2, 32, 33, 39, 40, 41, 42, 43, 44, 45, 46, 47, 48, 49, 50, 51, 52, 53, 54, 55, 56, 57, 58, 59, 60] (by decide +kernel) (by decide +kernel)
set_option maxRecDepth 20000 in
theorem gX2_repair_X2_isBroken : GoodIn wsX2_repair (wsV RX2 87 RX2 yX2_isBroken wsX2_isBroken) := goodIn_app (goodIn_of _ (by decide +kernel)) ggX2_repair_X2_isBroken
set_option maxRecDepth 20000 in
theorem ggX2_repair_X2_holds : GoodIn wsX2_repair wsX2_holds := goodIn_r _ [37, 38, 39, 40, 41, 42, 43, 44, 45, 46, 47, 48, 49, 50, 51, 52, 53, 54, 55, 56, 57, 58, 59, 60] (by decide +kernel) (by decide +kernel)
set_option maxRecDepth 20000 in
theorem gX2_repair_X2_holds : GoodIn wsX2_repair (wsV RX2 101 RX2 yX2_holds wsX2_holds) := goodIn_app (goodIn_of _ (by decide +kernel)) ggX2_repair_X2_holds
theorem dX2_repair_0 : decode cX2_repair 0 = .ok (.aload_n 0, 1) := by decide +kernel
theorem dX2_repair_1 : decode cX2_repair 1 = .ok (.iload_n 1, 1) := by decide +kernel
theorem dX2_repair_2 : decode cX2_repair 2 = .ok (.iload_n 2, 1) := by decide +kernel
theorem dX2_repair_3 : decode cX2_repair 3 = .ok (.invokevirtual 129, 3) := by decide +kernel
theorem dX2_repair_6 : decode cX2_repair 6 = .ok (.istore_n 3, 1) := by decide +kernel
theorem dX2_repair_7 : decode cX2_repair 7 = .ok (.iload_n 3, 1) := by decide +kernel
theorem dX2_repair_8 : decode cX2_repair 8 = .ok (.ifCond .eq 12, 3) := by decide +kernel
theorem dX2_repair_11 : decode cX2_repair 11 = .ok (.bipush 30, 2) := by decide +kernel
theorem dX2_repair_13 : decode cX2_repair 13 = .ok (.iload_n 1, 1) := by decide +kernel
theorem dX2_repair_14 : decode cX2_repair 14 = .ok (.imul, 1) := by decide +kernel
theorem dX2_repair_15 : decode cX2_repair 15 = .ok (.iload_n 2, 1) := by decide +kernel
theorem dX2_repair_16 : decode cX2_repair 16 = .ok (.iadd, 1) := by decide +kernel
theorem dX2_repair_17 : decode cX2_repair 17 = .ok (.goto 4, 3) := by decide +kernel
theorem dX2_repair_20 : decode cX2_repair 20 = .ok (.iconst 0, 1) := by decide +kernel
theorem dX2_repair_21 : decode cX2_repair 21 = .ok (.istore 4, 2) := by decide +kernel
theorem dX2_repair_23 : decode cX2_repair 23 = .ok (.aload_n 0, 1) := by decide +kernel
theorem dX2_repair_24 : decode cX2_repair 24 = .ok (.iload_n 3, 1) := by decide +kernel
theorem dX2_repair_25 : decode cX2_repair 25 = .ok (.ifCond .ne 7, 3) := by decide +kernel
theorem dX2_repair_28 : decode cX2_repair 28 = .ok (.iconst 1, 1) := by decide +kernel
theorem dX2_repair_29 : decode cX2_repair 29 = .ok (.goto 27, 3) := by decide +kernel
theorem dX2_repair_32 : decode cX2_repair 32 = .ok (.aload_n 0, 1) := by decide +kernel
theorem dX2_repair_33 : decode cX2_repair 33 = .ok (.iload_n 1, 1) := by decide +kernel
theorem dX2_repair_34 : decode cX2_repair 34 = .ok (.iload_n 2, 1) := by decide +kernel
theorem dX2_repair_35 : decode cX2_repair 35 = .ok (.invokevirtual 87, 3) := by decide +kernel
theorem dX2_repair_38 : decode cX2_repair 38 = .ok (.ifCond .eq 13, 3) := by decide +kernel
theorem dX2_repair_41 : decode cX2_repair 41 = .ok (.aload_n 0, 1) := by decide +kernel
theorem dX2_repair_42 : decode cX2_repair 42 = .ok (.getfield 53, 3) := by decide +kernel
theorem dX2_repair_45 : decode cX2_repair 45 = .ok (.iload 4, 2) := by decide +kernel
theorem dX2_repair_47 : decode cX2_repair 47 = .ok (.iaload, 1) := by decide +kernel
theorem dX2_repair_48 : decode cX2_repair 48 = .ok (.ifCond .ne 7, 3) := by decide +kernel
theorem dX2_repair_51 : decode cX2_repair 51 = .ok (.iconst 2, 1) := by decide +kernel
theorem dX2_repair_52 : decode cX2_repair 52 = .ok (.goto 4, 3) := by decide +kernel
theorem dX2_repair_55 : decode cX2_repair 55 = .ok (.iconst 0, 1) := by decide +kernel
theorem dX2_repair_56 : decode cX2_repair 56 = .ok (.invokevirtual 101, 3) := by decide +kernel
theorem dX2_repair_59 : decode cX2_repair 59 = .ok (.ifCond .ne 5, 3) := by decide +kernel
theorem dX2_repair_62 : decode cX2_repair 62 = .ok (.iconst 0, 1) := by decide +kernel
theorem dX2_repair_63 : decode cX2_repair 63 = .ok (.ireturn, 1) := by decide +kernel
theorem dX2_repair_64 : decode cX2_repair 64 = .ok (.aload_n 0, 1) := by decide +kernel
theorem dX2_repair_65 : decode cX2_repair 65 = .ok (.getfield 38, 3) := by decide +kernel
theorem dX2_repair_68 : decode cX2_repair 68 = .ok (.iload 4, 2) := by decide +kernel
theorem dX2_repair_70 : decode cX2_repair 70 = .ok (.aload_n 0, 1) := by decide +kernel
theorem dX2_repair_71 : decode cX2_repair 71 = .ok (.getfield 47, 3) := by decide +kernel
theorem dX2_repair_74 : decode cX2_repair 74 = .ok (.iload 4, 2) := by decide +kernel
theorem dX2_repair_76 : decode cX2_repair 76 = .ok (.iaload, 1) := by decide +kernel
theorem dX2_repair_77 : decode cX2_repair 77 = .ok (.iastore, 1) := by decide +kernel
theorem dX2_repair_78 : decode cX2_repair 78 = .ok (.aload_n 0, 1) := by decide +kernel
theorem dX2_repair_79 : decode cX2_repair 79 = .ok (.getfield 62, 3) := by decide +kernel
theorem dX2_repair_82 : decode cX2_repair 82 = .ok (.aload_n 0, 1) := by decide +kernel
theorem dX2_repair_83 : decode cX2_repair 83 = .ok (.getfield 7, 3) := by decide +kernel
theorem dX2_repair_86 : decode cX2_repair 86 = .ok (.iload_n 1, 1) := by decide +kernel
theorem dX2_repair_87 : decode cX2_repair 87 = .ok (.iaload, 1) := by decide +kernel
theorem dX2_repair_88 : decode cX2_repair 88 = .ok (.dup2, 1) := by decide +kernel
theorem dX2_repair_89 : decode cX2_repair 89 = .ok (.iaload, 1) := by decide +kernel
theorem dX2_repair_90 : decode cX2_repair 90 = .ok (.iconst 5, 1) := by decide +kernel
theorem dX2_repair_91 : decode cX2_repair 91 = .ok (.iadd, 1) := by decide +kernel
theorem dX2_repair_92 : decode cX2_repair 92 = .ok (.iastore, 1) := by decide +kernel
theorem dX2_repair_93 : decode cX2_repair 93 = .ok (.iconst 0, 1) := by decide +kernel
theorem dX2_repair_94 : decode cX2_repair 94 = .ok (.istore 5, 2) := by decide +kernel
theorem dX2_repair_96 : decode cX2_repair 96 = .ok (.aload_n 0, 1) := by decide +kernel
theorem dX2_repair_97 : decode cX2_repair 97 = .ok (.getfield 53, 3) := by decide +kernel
theorem dX2_repair_100 : decode cX2_repair 100 = .ok (.iload 4, 2) := by decide +kernel
theorem dX2_repair_102 : decode cX2_repair 102 = .ok (.iaload, 1) := by decide +kernel
theorem dX2_repair_103 : decode cX2_repair 103 = .ok (.iload 5, 2) := by decide +kernel
theorem dX2_repair_105 : decode cX2_repair 105 = .ok (.ishr, 1) := by decide +kernel
theorem dX2_repair_106 : decode cX2_repair 106 = .ok (.iconst 1, 1) := by decide +kernel
theorem dX2_repair_107 : decode cX2_repair 107 = .ok (.iand, 1) := by decide +kernel
theorem dX2_repair_108 : decode cX2_repair 108 = .ok (.ifCond .ne 9, 3) := by decide +kernel
theorem dX2_repair_111 : decode cX2_repair 111 = .ok (.iinc 5 1, 3) := by decide +kernel
theorem dX2_repair_114 : decode cX2_repair 114 = .ok (.goto (-18), 3) := by decide +kernel
theorem dX2_repair_117 : decode cX2_repair 117 = .ok (.iload 5, 2) := by decide +kernel
theorem dX2_repair_119 : decode cX2_repair 119 = .ok (.ireturn, 1) := by decide +kernel
set_option maxRecDepth 20000 in
theorem ggX2_broken_X2_isPallet : GoodIn wsX2_broken wsX2_isPallet := goodIn_r _ [5, 6, 7, 8, 4, 9, 35, 36, 37, 38, 39, 40, 41, 42, 43, 44, 45, 46, 47, 48, 49, 50, 51, 52, 53, 54, 55, 56] (by decide +kernel) (by decide +kernel)
set_option maxRecDepth 20000 in
theorem gX2_broken_X2_isPallet : GoodIn wsX2_broken (wsV RX2 79 RX2 yX2_isPallet wsX2_isPallet) := goodIn_app (goodIn_of _ (by decide +kernel)) ggX2_broken_X2_isPallet
set_option maxRecDepth 20000 in
theorem ggX2_broken_X2_holds : GoodIn wsX2_broken wsX2_holds := goodIn_r _ [13, 14, 35, 36, 37, 38, 39, 40, 41, 42, 43, 44, 45, 46, 47, 48, 49, 50, 51, 52, 53, 54, 55, 56] (by decide +kernel) (by decide +kernel)
set_option maxRecDepth 20000 in
theorem gX2_broken_X2_holds : GoodIn wsX2_broken (wsV RX2 101 RX2 yX2_holds wsX2_holds) := goodIn_app (goodIn_of _ (by decide +kernel)) ggX2_broken_X2_holds
set_option maxRecDepth 20000 in
theorem ggX2_broken_X2_firstBroken : GoodIn wsX2_broken wsX2_firstBroken := goodIn_r _ [18, 19, 20, 21, 22, 4, 23, 24, 25, 26, 27, 28, 29, 30, 31, 32, 33, 34, 35, 36, 37, 38, 39, 40, 41, 42, 43, 44, 45, 46, 47, 48, 49, 50, 51, 52, 53, 54, 55, 56] (by decide +kernel) (by decide +kernel)
set_option maxRecDepth 20000 in
theorem gX2_broken_X2_firstBroken : GoodIn wsX2_broken (wsV RX2 91 RX2 yX2_firstBroken wsX2_firstBroken) := goodIn_app (goodIn_of _ (by decide +kernel)) ggX2_broken_X2_firstBroken
theorem dX2_broken_0 : decode cX2_broken 0 = .ok (.aload_n 0, 1) := by decide +kernel
theorem dX2_broken_1 : decode cX2_broken 1 = .ok (.aload_n 0, 1) := by decide +kernel
theorem dX2_broken_2 : decode cX2_broken 2 = .ok (.iload_n 1, 1) := by decide +kernel
theorem dX2_broken_3 : decode cX2_broken 3 = .ok (.invokevirtual 79, 3) := by decide +kernel
theorem dX2_broken_6 : decode cX2_broken 6 = .ok (.ifCond .eq 7, 3) := by decide +kernel
theorem dX2_broken_9 : decode cX2_broken 9 = .ok (.iconst 0, 1) := by decide +kernel
theorem dX2_broken_10 : decode cX2_broken 10 = .ok (.goto 4, 3) := by decide +kernel
theorem dX2_broken_13 : decode cX2_broken 13 = .ok (.iconst 1, 1) := by decide +kernel
theorem dX2_broken_14 : decode cX2_broken 14 = .ok (.invokevirtual 101, 3) := by decide +kernel
theorem dX2_broken_17 : decode cX2_broken 17 = .ok (.ifCond .eq 11, 3) := by decide +kernel
theorem dX2_broken_20 : decode cX2_broken 20 = .ok (.aload_n 0, 1) := by decide +kernel
theorem dX2_broken_21 : decode cX2_broken 21 = .ok (.iload_n 1, 1) := by decide +kernel
theorem dX2_broken_22 : decode cX2_broken 22 = .ok (.invokevirtual 91, 3) := by decide +kernel
theorem dX2_broken_25 : decode cX2_broken 25 = .ok (.goto 4, 3) := by decide +kernel
theorem dX2_broken_28 : decode cX2_broken 28 = .ok (.iconst 0, 1) := by decide +kernel
theorem dX2_broken_29 : decode cX2_broken 29 = .ok (.ireturn, 1) := by decide +kernel
set_option maxRecDepth 20000 in
theorem ggX2_isSound_X2_isPallet : GoodIn wsX2_isSound wsX2_isPallet := goodIn_r _ [5, 6, 7, 8, 4, 9, 39, 40, 41, 42, 43, 44, 45, 46, 47, 48, 49, 50, 51, 52, 53, 54, 55, 56, 57, 58, 59, 60] (by decide +kernel) (by decide +kernel)
set_option maxRecDepth 20000 in
theorem gX2_isSound_X2_isPallet : GoodIn wsX2_isSound (wsV RX2 79 RX2 yX2_isPallet wsX2_isPallet) := goodIn_app (goodIn_of _ (by decide +kernel)) ggX2_isSound_X2_isPallet
set_option maxRecDepth 20000 in
theorem ggX2_isSound_X2_holds : GoodIn wsX2_isSound wsX2_holds := goodIn_r _ [13, 14, 39, 40, 41, 42, 43, 44, 45, 46, 47, 48, 49, 50, 51, 52, 53, 54, 55, 56, 57, 58, 59, 60] (by decide +kernel) (by decide +kernel)
set_option maxRecDepth 20000 in
theorem gX2_isSound_X2_holds : GoodIn wsX2_isSound (wsV RX2 101 RX2 yX2_holds wsX2_holds) := goodIn_app (goodIn_of _ (by decide +kernel)) ggX2_isSound_X2_holds
set_option maxRecDepth 20000 in
theorem ggX2_isSound_X2_sound : GoodIn wsX2_isSound wsX2_sound := goodIn_r _ [18, 19, 20, 21, 22, 23, 24, 4, 25, 26, 27, 28, 29, 30, 31, 32, 33, 34, 35, 36, 37, 38, 39, 40, 41, 42, 43, 44, 45, 46, 47, 48, 49, 50, 51, 52, 53, 54, 55, 56, 57, 58, 59, 60] (by decide +kernel) (by decide +kernel)
set_option maxRecDepth 20000 in
theorem gX2_isSound_X2_sound : GoodIn wsX2_isSound (wsV RX2 95 RX2 yX2_sound wsX2_sound) := goodIn_app (goodIn_of _ (by decide +kernel)) ggX2_isSound_X2_sound
theorem dX2_isSound_0 : decode cX2_isSound 0 = .ok (.aload_n 0, 1) := by decide +kernel
theorem dX2_isSound_1 : decode cX2_isSound 1 = .ok (.aload_n 0, 1) := by decide +kernel
theorem dX2_isSound_2 : decode cX2_isSound 2 = .ok (.iload_n 1, 1) := by decide +kernel
theorem dX2_isSound_3 : decode cX2_isSound 3 = .ok (.invokevirtual 79, 3) := by decide +kernel
theorem dX2_isSound_6 : decode cX2_isSound 6 = .ok (.ifCond .eq 7, 3) := by decide +kernel
theorem dX2_isSound_9 : decode cX2_isSound 9 = .ok (.iconst 0, 1) := by decide +kernel
theorem dX2_isSound_10 : decode cX2_isSound 10 = .ok (.goto 4, 3) := by decide +kernel
theorem dX2_isSound_13 : decode cX2_isSound 13 = .ok (.iconst 1, 1) := by decide +kernel
theorem dX2_isSound_14 : decode cX2_isSound 14 = .ok (.invokevirtual 101, 3) := by decide +kernel
theorem dX2_isSound_17 : decode cX2_isSound 17 = .ok (.ifCond .eq 15, 3) := by decide +kernel
theorem dX2_isSound_20 : decode cX2_isSound 20 = .ok (.aload_n 0, 1) := by decide +kernel
theorem dX2_isSound_21 : decode cX2_isSound 21 = .ok (.iload_n 1, 1) := by decide +kernel
theorem dX2_isSound_22 : decode cX2_isSound 22 = .ok (.invokevirtual 95, 3) := by decide +kernel
theorem dX2_isSound_25 : decode cX2_isSound 25 = .ok (.ifCond .eq 7, 3) := by decide +kernel
theorem dX2_isSound_28 : decode cX2_isSound 28 = .ok (.iconst 1, 1) := by decide +kernel
theorem dX2_isSound_29 : decode cX2_isSound 29 = .ok (.goto 4, 3) := by decide +kernel
theorem dX2_isSound_32 : decode cX2_isSound 32 = .ok (.iconst 0, 1) := by decide +kernel
theorem dX2_isSound_33 : decode cX2_isSound 33 = .ok (.ireturn, 1) := by decide +kernel
set_option maxRecDepth 20000 in
theorem ggX2_pallet_X2_isPallet : GoodIn wsX2_pallet wsX2_isPallet := goodIn_r _ [9, 10, 11, 12, 8, 13, 24, 25, 26, 27, 28, 29, 30, 31, 32, 33, 34, 35, 36, 37, 38, 39, 40, 41, 42, 43, 44, 45] (by decide +kernel) (by decide +kernel)
set_option maxRecDepth 20000 in
theorem gX2_pallet_X2_isPallet : GoodIn wsX2_pallet (wsV RX2 79 RX2 yX2_isPallet wsX2_isPallet) := goodIn_app (goodIn_of _ (by decide +kernel)) ggX2_pallet_X2_isPallet
set_option maxRecDepth 20000 in
theorem ggX2_pallet_X2_isIn : GoodIn wsX2_pallet wsX2_isIn := goodIn_r _ [13] (by decide +kernel) (by decide +kernel)
set_option maxRecDepth 20000 in
theorem gX2_pallet_X2_isIn : GoodIn wsX2_pallet (va_wsS RX2 75 yX2_isIn wsX2_isIn) := goodIn_app (goodIn_of _ (by decide +kernel)) ggX2_pallet_X2_isIn
set_option maxRecDepth 20000 in
theorem ggX2_pallet_X2_holds : GoodIn wsX2_pallet wsX2_holds := goodIn_r _ [17, 18, 24, 25, 26, 27, 28, 29, 30, 31, 32, 33, 34, 35, 36, 37, 38, 39, 40, 41, 42, 43, 44, 45] (by decide +kernel) (by decide +kernel)
set_option maxRecDepth 20000 in
theorem gX2_pallet_X2_holds : GoodIn wsX2_pallet (wsV RX2 101 RX2 yX2_holds wsX2_holds) := goodIn_app (goodIn_of _ (by decide +kernel)) ggX2_pallet_X2_holds
set_option maxRecDepth 20000 in
theorem ggX2_pallet_X2_weight : GoodIn wsX2_pallet wsX2_weight := goodIn_r _ [22, 23, 24, 25, 26, 27, 28, 29, 30, 31, 32, 33, 34, 35, 36, 37, 38, 39, 40, 41, 42, 43, 44, 45] (by decide +kernel) (by decide +kernel)
set_option maxRecDepth 20000 in
theorem gX2_pallet_X2_weight : GoodIn wsX2_pallet (wsV RX2 98 RX2 yX2_weight wsX2_weight) := goodIn_app (goodIn_of _ (by decide +kernel)) ggX2_pallet_X2_weight
theorem dX2_pallet_0 : decode cX2_pallet 0 = .ok (.aload_n 0, 1) := by decide +kernel
theorem dX2_pallet_1 : decode cX2_pallet 1 = .ok (.iload_n 1, 1) := by decide +kernel
theorem dX2_pallet_2 : decode cX2_pallet 2 = .ok (.invokevirtual 79, 3) := by decide +kernel
theorem dX2_pallet_5 : decode cX2_pallet 5 = .ok (.istore_n 3, 1) := by decide +kernel
theorem dX2_pallet_6 : decode cX2_pallet 6 = .ok (.aload_n 0, 1) := by decide +kernel
theorem dX2_pallet_7 : decode cX2_pallet 7 = .ok (.iload_n 3, 1) := by decide +kernel
theorem dX2_pallet_8 : decode cX2_pallet 8 = .ok (.ifCond .ne 7, 3) := by decide +kernel
theorem dX2_pallet_11 : decode cX2_pallet 11 = .ok (.iconst 1, 1) := by decide +kernel
theorem dX2_pallet_12 : decode cX2_pallet 12 = .ok (.goto 17, 3) := by decide +kernel
theorem dX2_pallet_15 : decode cX2_pallet 15 = .ok (.iload_n 2, 1) := by decide +kernel
theorem dX2_pallet_16 : decode cX2_pallet 16 = .ok (.iconst 0, 1) := by decide +kernel
theorem dX2_pallet_17 : decode cX2_pallet 17 = .ok (.iconst 4, 1) := by decide +kernel
theorem dX2_pallet_18 : decode cX2_pallet 18 = .ok (.invokestatic 75, 3) := by decide +kernel
theorem dX2_pallet_21 : decode cX2_pallet 21 = .ok (.ifCond .ne 7, 3) := by decide +kernel
theorem dX2_pallet_24 : decode cX2_pallet 24 = .ok (.iconst 2, 1) := by decide +kernel
theorem dX2_pallet_25 : decode cX2_pallet 25 = .ok (.goto 4, 3) := by decide +kernel
theorem dX2_pallet_28 : decode cX2_pallet 28 = .ok (.iconst 0, 1) := by decide +kernel
theorem dX2_pallet_29 : decode cX2_pallet 29 = .ok (.invokevirtual 101, 3) := by decide +kernel
theorem dX2_pallet_32 : decode cX2_pallet 32 = .ok (.ifCond .ne 5, 3) := by decide +kernel
theorem dX2_pallet_35 : decode cX2_pallet 35 = .ok (.iconst 0, 1) := by decide +kernel
theorem dX2_pallet_36 : decode cX2_pallet 36 = .ok (.ireturn, 1) := by decide +kernel
theorem dX2_pallet_37 : decode cX2_pallet 37 = .ok (.iload_n 2, 1) := by decide +kernel
theorem dX2_pallet_38 : decode cX2_pallet 38 = .ok (.ifCond .ne 12, 3) := by decide +kernel
theorem dX2_pallet_41 : decode cX2_pallet 41 = .ok (.aload_n 0, 1) := by decide +kernel
theorem dX2_pallet_42 : decode cX2_pallet 42 = .ok (.getfield 7, 3) := by decide +kernel
theorem dX2_pallet_45 : decode cX2_pallet 45 = .ok (.iload_n 1, 1) := by decide +kernel
theorem dX2_pallet_46 : decode cX2_pallet 46 = .ok (.iaload, 1) := by decide +kernel
theorem dX2_pallet_47 : decode cX2_pallet 47 = .ok (.goto 61, 3) := by decide +kernel
theorem dX2_pallet_50 : decode cX2_pallet 50 = .ok (.iload_n 2, 1) := by decide +kernel
theorem dX2_pallet_51 : decode cX2_pallet 51 = .ok (.iconst 1, 1) := by decide +kernel
theorem dX2_pallet_52 : decode cX2_pallet 52 = .ok (.if_icmp .ne 12, 3) := by decide +kernel
theorem dX2_pallet_55 : decode cX2_pallet 55 = .ok (.aload_n 0, 1) := by decide +kernel
theorem dX2_pallet_56 : decode cX2_pallet 56 = .ok (.getfield 16, 3) := by decide +kernel
theorem dX2_pallet_59 : decode cX2_pallet 59 = .ok (.iload_n 1, 1) := by decide +kernel
theorem dX2_pallet_60 : decode cX2_pallet 60 = .ok (.iaload, 1) := by decide +kernel
theorem dX2_pallet_61 : decode cX2_pallet 61 = .ok (.goto 47, 3) := by decide +kernel
theorem dX2_pallet_64 : decode cX2_pallet 64 = .ok (.iload_n 2, 1) := by decide +kernel
theorem dX2_pallet_65 : decode cX2_pallet 65 = .ok (.iconst 2, 1) := by decide +kernel
theorem dX2_pallet_66 : decode cX2_pallet 66 = .ok (.if_icmp .ne 11, 3) := by decide +kernel
theorem dX2_pallet_69 : decode cX2_pallet 69 = .ok (.aload_n 0, 1) := by decide +kernel
theorem dX2_pallet_70 : decode cX2_pallet 70 = .ok (.iload_n 1, 1) := by decide +kernel
theorem dX2_pallet_71 : decode cX2_pallet 71 = .ok (.invokevirtual 98, 3) := by decide +kernel
theorem dX2_pallet_74 : decode cX2_pallet 74 = .ok (.goto 34, 3) := by decide +kernel
theorem dX2_pallet_77 : decode cX2_pallet 77 = .ok (.iload_n 2, 1) := by decide +kernel
theorem dX2_pallet_78 : decode cX2_pallet 78 = .ok (.iconst 3, 1) := by decide +kernel
theorem dX2_pallet_79 : decode cX2_pallet 79 = .ok (.if_icmp .ne 15, 3) := by decide +kernel
theorem dX2_pallet_82 : decode cX2_pallet 82 = .ok (.aload_n 0, 1) := by decide +kernel
theorem dX2_pallet_83 : decode cX2_pallet 83 = .ok (.getfield 19, 3) := by decide +kernel
theorem dX2_pallet_86 : decode cX2_pallet 86 = .ok (.iload_n 1, 1) := by decide +kernel
theorem dX2_pallet_87 : decode cX2_pallet 87 = .ok (.baload, 1) := by decide +kernel
theorem dX2_pallet_88 : decode cX2_pallet 88 = .ok (.ifCond .eq 19, 3) := by decide +kernel
theorem dX2_pallet_91 : decode cX2_pallet 91 = .ok (.goto 12, 3) := by decide +kernel
theorem dX2_pallet_94 : decode cX2_pallet 94 = .ok (.aload_n 0, 1) := by decide +kernel
theorem dX2_pallet_95 : decode cX2_pallet 95 = .ok (.getfield 23, 3) := by decide +kernel
theorem dX2_pallet_98 : decode cX2_pallet 98 = .ok (.iload_n 1, 1) := by decide +kernel
theorem dX2_pallet_99 : decode cX2_pallet 99 = .ok (.baload, 1) := by decide +kernel
theorem dX2_pallet_100 : decode cX2_pallet 100 = .ok (.ifCond .eq 7, 3) := by decide +kernel
theorem dX2_pallet_103 : decode cX2_pallet 103 = .ok (.iconst 1, 1) := by decide +kernel
theorem dX2_pallet_104 : decode cX2_pallet 104 = .ok (.goto 4, 3) := by decide +kernel
theorem dX2_pallet_107 : decode cX2_pallet 107 = .ok (.iconst 0, 1) := by decide +kernel
theorem dX2_pallet_108 : decode cX2_pallet 108 = .ok (.ireturn, 1) := by decide +kernel
set_option maxRecDepth 20000 in
theorem ggX2_entry_X2_isEntry : GoodIn wsX2_entry wsX2_isEntry := goodIn_r _ [13, 14, 15, 16, 17, 12, 18, 19, 20, 21, 22, 28, 29, 30, 31, 32, 33, 34, 35, 36, 37, 38, 39, 40, 41, 42, 43, 44, 45, 46, 47, 48, 49] (by decide +kernel) (by decide +kernel)
set_option maxRecDepth 20000 in
theorem gX2_entry_X2_isEntry : GoodIn wsX2_entry (wsV RX2 129 RX2 yX2_isEntry wsX2_isEntry) := goodIn_app (goodIn_of _ (by decide +kernel)) ggX2_entry_X2_isEntry
set_option maxRecDepth 20000 in
theorem ggX2_entry_X2_isIn : GoodIn wsX2_entry wsX2_isIn := goodIn_r _ [22] (by decide +kernel) (by decide +kernel)
set_option maxRecDepth 20000 in
theorem gX2_entry_X2_isIn : GoodIn wsX2_entry (va_wsS RX2 75 yX2_isIn wsX2_isIn) := goodIn_app (goodIn_of _ (by decide +kernel)) ggX2_entry_X2_isIn
set_option maxRecDepth 20000 in
theorem ggX2_entry_X2_holds : GoodIn wsX2_entry wsX2_holds := goodIn_r _ [26, 27, 28, 29, 30, 31, 32, 33, 34, 35, 36, 37, 38, 39, 40, 41, 42, 43, 44, 45, 46, 47, 48, 49] (by decide +kernel) (by decide +kernel)
set_option maxRecDepth 20000 in
theorem gX2_entry_X2_holds : GoodIn wsX2_entry (wsV RX2 101 RX2 yX2_holds wsX2_holds) := goodIn_app (goodIn_of _ (by decide +kernel)) ggX2_entry_X2_holds
theorem dX2_entry_0 : decode cX2_entry 0 = .ok (.aload_n 0, 1) := by decide +kernel
theorem dX2_entry_1 : decode cX2_entry 1 = .ok (.iload_n 1, 1) := by decide +kernel
theorem dX2_entry_2 : decode cX2_entry 2 = .ok (.iload_n 2, 1) := by decide +kernel
theorem dX2_entry_3 : decode cX2_entry 3 = .ok (.invokevirtual 129, 3) := by decide +kernel
theorem dX2_entry_6 : decode cX2_entry 6 = .ok (.istore 4, 2) := by decide +kernel
theorem dX2_entry_8 : decode cX2_entry 8 = .ok (.aload_n 0, 1) := by decide +kernel
theorem dX2_entry_9 : decode cX2_entry 9 = .ok (.iload 4, 2) := by decide +kernel
theorem dX2_entry_11 : decode cX2_entry 11 = .ok (.ifCond .ne 7, 3) := by decide +kernel
theorem dX2_entry_14 : decode cX2_entry 14 = .ok (.iconst 1, 1) := by decide +kernel
theorem dX2_entry_15 : decode cX2_entry 15 = .ok (.goto 18, 3) := by decide +kernel
theorem dX2_entry_18 : decode cX2_entry 18 = .ok (.iload_n 3, 1) := by decide +kernel
theorem dX2_entry_19 : decode cX2_entry 19 = .ok (.iconst 0, 1) := by decide +kernel
theorem dX2_entry_20 : decode cX2_entry 20 = .ok (.bipush 7, 2) := by decide +kernel
theorem dX2_entry_22 : decode cX2_entry 22 = .ok (.invokestatic 75, 3) := by decide +kernel
theorem dX2_entry_25 : decode cX2_entry 25 = .ok (.ifCond .ne 7, 3) := by decide +kernel
theorem dX2_entry_28 : decode cX2_entry 28 = .ok (.iconst 2, 1) := by decide +kernel
theorem dX2_entry_29 : decode cX2_entry 29 = .ok (.goto 4, 3) := by decide +kernel
theorem dX2_entry_32 : decode cX2_entry 32 = .ok (.iconst 0, 1) := by decide +kernel
theorem dX2_entry_33 : decode cX2_entry 33 = .ok (.invokevirtual 101, 3) := by decide +kernel
theorem dX2_entry_36 : decode cX2_entry 36 = .ok (.ifCond .ne 5, 3) := by decide +kernel
theorem dX2_entry_39 : decode cX2_entry 39 = .ok (.iconst 0, 1) := by decide +kernel
theorem dX2_entry_40 : decode cX2_entry 40 = .ok (.ireturn, 1) := by decide +kernel
theorem dX2_entry_41 : decode cX2_entry 41 = .ok (.bipush 30, 2) := by decide +kernel
theorem dX2_entry_43 : decode cX2_entry 43 = .ok (.iload_n 1, 1) := by decide +kernel
theorem dX2_entry_44 : decode cX2_entry 44 = .ok (.imul, 1) := by decide +kernel
theorem dX2_entry_45 : decode cX2_entry 45 = .ok (.iload_n 2, 1) := by decide +kernel
theorem dX2_entry_46 : decode cX2_entry 46 = .ok (.iadd, 1) := by decide +kernel
theorem dX2_entry_47 : decode cX2_entry 47 = .ok (.istore 5, 2) := by decide +kernel
theorem dX2_entry_49 : decode cX2_entry 49 = .ok (.iload_n 3, 1) := by decide +kernel
theorem dX2_entry_50 : decode cX2_entry 50 = .ok (.tableswitch 98 0 6 #[42, 50, 58, 66, 74, 82, 90], 42) := by decide +kernel
theorem dX2_entry_92 : decode cX2_entry 92 = .ok (.aload_n 0, 1) := by decide +kernel
theorem dX2_entry_93 : decode cX2_entry 93 = .ok (.getfield 29, 3) := by decide +kernel
theorem dX2_entry_96 : decode cX2_entry 96 = .ok (.iload 5, 2) := by decide +kernel
theorem dX2_entry_98 : decode cX2_entry 98 = .ok (.iaload, 1) := by decide +kernel
theorem dX2_entry_99 : decode cX2_entry 99 = .ok (.ireturn, 1) := by decide +kernel
theorem dX2_entry_100 : decode cX2_entry 100 = .ok (.aload_n 0, 1) := by decide +kernel
theorem dX2_entry_101 : decode cX2_entry 101 = .ok (.getfield 32, 3) := by decide +kernel
theorem dX2_entry_104 : decode cX2_entry 104 = .ok (.iload 5, 2) := by decide +kernel
theorem dX2_entry_106 : decode cX2_entry 106 = .ok (.iaload, 1) := by decide +kernel
theorem dX2_entry_107 : decode cX2_entry 107 = .ok (.ireturn, 1) := by decide +kernel
theorem dX2_entry_108 : decode cX2_entry 108 = .ok (.aload_n 0, 1) := by decide +kernel
theorem dX2_entry_109 : decode cX2_entry 109 = .ok (.getfield 35, 3) := by decide +kernel
theorem dX2_entry_112 : decode cX2_entry 112 = .ok (.iload 5, 2) := by decide +kernel
theorem dX2_entry_114 : decode cX2_entry 114 = .ok (.iaload, 1) := by decide +kernel
theorem dX2_entry_115 : decode cX2_entry 115 = .ok (.ireturn, 1) := by decide +kernel
theorem dX2_entry_116 : decode cX2_entry 116 = .ok (.aload_n 0, 1) := by decide +kernel
theorem dX2_entry_117 : decode cX2_entry 117 = .ok (.getfield 38, 3) := by decide +kernel
theorem dX2_entry_120 : decode cX2_entry 120 = .ok (.iload 5, 2) := by decide +kernel
theorem dX2_entry_122 : decode cX2_entry 122 = .ok (.iaload, 1) := by decide +kernel
theorem dX2_entry_123 : decode cX2_entry 123 = .ok (.ireturn, 1) := by decide +kernel
theorem dX2_entry_124 : decode cX2_entry 124 = .ok (.aload_n 0, 1) := by decide +kernel
theorem dX2_entry_125 : decode cX2_entry 125 = .ok (.getfield 41, 3) := by decide +kernel
theorem dX2_entry_128 : decode cX2_entry 128 = .ok (.iload 5, 2) := by decide +kernel
theorem dX2_entry_130 : decode cX2_entry 130 = .ok (.iaload, 1) := by decide +kernel
theorem dX2_entry_131 : decode cX2_entry 131 = .ok (.ireturn, 1) := by decide +kernel
theorem dX2_entry_132 : decode cX2_entry 132 = .ok (.aload_n 0, 1) := by decide +kernel
theorem dX2_entry_133 : decode cX2_entry 133 = .ok (.getfield 44, 3) := by decide +kernel
theorem dX2_entry_136 : decode cX2_entry 136 = .ok (.iload 5, 2) := by decide +kernel
theorem dX2_entry_138 : decode cX2_entry 138 = .ok (.iaload, 1) := by decide +kernel
theorem dX2_entry_139 : decode cX2_entry 139 = .ok (.ireturn, 1) := by decide +kernel
theorem dX2_entry_140 : decode cX2_entry 140 = .ok (.aload_n 0, 1) := by decide +kernel
theorem dX2_entry_141 : decode cX2_entry 141 = .ok (.getfield 50, 3) := by decide +kernel
theorem dX2_entry_144 : decode cX2_entry 144 = .ok (.iload 5, 2) := by decide +kernel
theorem dX2_entry_146 : decode cX2_entry 146 = .ok (.iaload, 1) := by decide +kernel
theorem dX2_entry_147 : decode cX2_entry 147 = .ok (.ireturn, 1) := by decide +kernel
theorem dX2_entry_148 : decode cX2_entry 148 = .ok (.aload_n 0, 1) := by decide +kernel
theorem dX2_entry_149 : decode cX2_entry 149 = .ok (.getfield 53, 3) := by decide +kernel
theorem dX2_entry_152 : decode cX2_entry 152 = .ok (.iload 5, 2) := by decide +kernel
theorem dX2_entry_154 : decode cX2_entry 154 = .ok (.iaload, 1) := by decide +kernel
theorem dX2_entry_155 : decode cX2_entry 155 = .ok (.ireturn, 1) := by decide +kernel
set_option maxRecDepth 20000 in
theorem ggX2_contents_X2_isPallet : GoodIn wsX2_contents wsX2_isPallet := goodIn_r _ [6, 7, 8, 9, 5, 10, 19, 20, 21, 22, 23, 24, 25, 26, 27, 28, 29, 30, 31, 32, 33, 34, 35, 36, 37, 38, 39, 40] (by decide +kernel) (by decide +kernel)
set_option maxRecDepth 20000 in
theorem gX2_contents_X2_isPallet : GoodIn wsX2_contents (wsV RX2 79 RX2 yX2_isPallet wsX2_isPallet) := goodIn_app (goodIn_of _ (by decide +kernel)) ggX2_contents_X2_isPallet
set_option maxRecDepth 20000 in
theorem ggX2_contents_X2_isGood : GoodIn wsX2_contents wsX2_isGood := goodIn_r _ [13, 8, 9, 5, 10] (by decide +kernel) (by decide +kernel)
set_option maxRecDepth 20000 in
theorem gX2_contents_X2_isGood : GoodIn wsX2_contents (va_wsS RX2 117 yX2_isGood wsX2_isGood) := goodIn_app (goodIn_of _ (by decide +kernel)) ggX2_contents_X2_isGood
set_option maxRecDepth 20000 in
theorem ggX2_contents_X2_holds : GoodIn wsX2_contents wsX2_holds := goodIn_r _ [17, 18, 19, 20, 21, 22, 23, 24, 25, 26, 27, 28, 29, 30, 31, 32, 33, 34, 35, 36, 37, 38, 39, 40] (by decide +kernel) (by decide +kernel)
set_option maxRecDepth 20000 in
theorem gX2_contents_X2_holds : GoodIn wsX2_contents (wsV RX2 101 RX2 yX2_holds wsX2_holds) := goodIn_app (goodIn_of _ (by decide +kernel)) ggX2_contents_X2_holds
theorem dX2_contents_0 : decode cX2_contents 0 = .ok (.aload_n 0, 1) := by decide +kernel
theorem dX2_contents_1 : decode cX2_contents 1 = .ok (.aload_n 0, 1) := by decide +kernel
theorem dX2_contents_2 : decode cX2_contents 2 = .ok (.iload_n 1, 1) := by decide +kernel
theorem dX2_contents_3 : decode cX2_contents 3 = .ok (.invokevirtual 79, 3) := by decide +kernel
theorem dX2_contents_6 : decode cX2_contents 6 = .ok (.ifCond .eq 14, 3) := by decide +kernel
theorem dX2_contents_9 : decode cX2_contents 9 = .ok (.iload_n 2, 1) := by decide +kernel
theorem dX2_contents_10 : decode cX2_contents 10 = .ok (.invokestatic 117, 3) := by decide +kernel
theorem dX2_contents_13 : decode cX2_contents 13 = .ok (.ifCond .eq 7, 3) := by decide +kernel
theorem dX2_contents_16 : decode cX2_contents 16 = .ok (.iconst 0, 1) := by decide +kernel
theorem dX2_contents_17 : decode cX2_contents 17 = .ok (.goto 4, 3) := by decide +kernel
theorem dX2_contents_20 : decode cX2_contents 20 = .ok (.iconst 1, 1) := by decide +kernel
theorem dX2_contents_21 : decode cX2_contents 21 = .ok (.invokevirtual 101, 3) := by decide +kernel
theorem dX2_contents_24 : decode cX2_contents 24 = .ok (.ifCond .eq 17, 3) := by decide +kernel
theorem dX2_contents_27 : decode cX2_contents 27 = .ok (.aload_n 0, 1) := by decide +kernel
theorem dX2_contents_28 : decode cX2_contents 28 = .ok (.getfield 13, 3) := by decide +kernel
theorem dX2_contents_31 : decode cX2_contents 31 = .ok (.bipush 6, 2) := by decide +kernel
theorem dX2_contents_33 : decode cX2_contents 33 = .ok (.iload_n 1, 1) := by decide +kernel
theorem dX2_contents_34 : decode cX2_contents 34 = .ok (.imul, 1) := by decide +kernel
theorem dX2_contents_35 : decode cX2_contents 35 = .ok (.iload_n 2, 1) := by decide +kernel
theorem dX2_contents_36 : decode cX2_contents 36 = .ok (.iadd, 1) := by decide +kernel
theorem dX2_contents_37 : decode cX2_contents 37 = .ok (.iaload, 1) := by decide +kernel
theorem dX2_contents_38 : decode cX2_contents 38 = .ok (.goto 4, 3) := by decide +kernel
theorem dX2_contents_41 : decode cX2_contents 41 = .ok (.iconst 0, 1) := by decide +kernel
theorem dX2_contents_42 : decode cX2_contents 42 = .ok (.ireturn, 1) := by decide +kernel
theorem dX2_papers_0 : decode cX2_papers 0 = .ok (.iconst 0, 1) := by decide +kernel
theorem dX2_papers_1 : decode cX2_papers 1 = .ok (.istore_n 3, 1) := by decide +kernel
theorem dX2_papers_2 : decode cX2_papers 2 = .ok (.bipush 30, 2) := by decide +kernel
theorem dX2_papers_4 : decode cX2_papers 4 = .ok (.iload_n 1, 1) := by decide +kernel
theorem dX2_papers_5 : decode cX2_papers 5 = .ok (.imul, 1) := by decide +kernel
theorem dX2_papers_6 : decode cX2_papers 6 = .ok (.istore 4, 2) := by decide +kernel
theorem dX2_papers_8 : decode cX2_papers 8 = .ok (.iload 4, 2) := by decide +kernel
theorem dX2_papers_10 : decode cX2_papers 10 = .ok (.bipush 30, 2) := by decide +kernel
theorem dX2_papers_12 : decode cX2_papers 12 = .ok (.iload_n 1, 1) := by decide +kernel
theorem dX2_papers_13 : decode cX2_papers 13 = .ok (.imul, 1) := by decide +kernel
theorem dX2_papers_14 : decode cX2_papers 14 = .ok (.aload_n 0, 1) := by decide +kernel
theorem dX2_papers_15 : decode cX2_papers 15 = .ok (.getfield 16, 3) := by decide +kernel
theorem dX2_papers_18 : decode cX2_papers 18 = .ok (.iload_n 1, 1) := by decide +kernel
theorem dX2_papers_19 : decode cX2_papers 19 = .ok (.iaload, 1) := by decide +kernel
theorem dX2_papers_20 : decode cX2_papers 20 = .ok (.iadd, 1) := by decide +kernel
theorem dX2_papers_21 : decode cX2_papers 21 = .ok (.if_icmp .ge 122, 3) := by decide +kernel
theorem dX2_papers_24 : decode cX2_papers 24 = .ok (.aload_n 0, 1) := by decide +kernel
theorem dX2_papers_25 : decode cX2_papers 25 = .ok (.getfield 29, 3) := by decide +kernel
theorem dX2_papers_28 : decode cX2_papers 28 = .ok (.iload 4, 2) := by decide +kernel
theorem dX2_papers_30 : decode cX2_papers 30 = .ok (.iaload, 1) := by decide +kernel
theorem dX2_papers_31 : decode cX2_papers 31 = .ok (.iconst 1, 1) := by decide +kernel
theorem dX2_papers_32 : decode cX2_papers 32 = .ok (.if_icmp .eq 14, 3) := by decide +kernel
theorem dX2_papers_35 : decode cX2_papers 35 = .ok (.aload_n 0, 1) := by decide +kernel
theorem dX2_papers_36 : decode cX2_papers 36 = .ok (.getfield 29, 3) := by decide +kernel
theorem dX2_papers_39 : decode cX2_papers 39 = .ok (.iload 4, 2) := by decide +kernel
theorem dX2_papers_41 : decode cX2_papers 41 = .ok (.iaload, 1) := by decide +kernel
theorem dX2_papers_42 : decode cX2_papers 42 = .ok (.iconst 4, 1) := by decide +kernel
theorem dX2_papers_43 : decode cX2_papers 43 = .ok (.if_icmp .ne 7, 3) := by decide +kernel
theorem dX2_papers_46 : decode cX2_papers 46 = .ok (.iconst 1, 1) := by decide +kernel
theorem dX2_papers_47 : decode cX2_papers 47 = .ok (.goto 30, 3) := by decide +kernel
theorem dX2_papers_50 : decode cX2_papers 50 = .ok (.aload_n 0, 1) := by decide +kernel
theorem dX2_papers_51 : decode cX2_papers 51 = .ok (.getfield 29, 3) := by decide +kernel
theorem dX2_papers_54 : decode cX2_papers 54 = .ok (.iload 4, 2) := by decide +kernel
theorem dX2_papers_56 : decode cX2_papers 56 = .ok (.iaload, 1) := by decide +kernel
theorem dX2_papers_57 : decode cX2_papers 57 = .ok (.iconst 2, 1) := by decide +kernel
theorem dX2_papers_58 : decode cX2_papers 58 = .ok (.if_icmp .eq 14, 3) := by decide +kernel
theorem dX2_papers_61 : decode cX2_papers 61 = .ok (.aload_n 0, 1) := by decide +kernel
theorem dX2_papers_62 : decode cX2_papers 62 = .ok (.getfield 29, 3) := by decide +kernel
theorem dX2_papers_65 : decode cX2_papers 65 = .ok (.iload 4, 2) := by decide +kernel
theorem dX2_papers_67 : decode cX2_papers 67 = .ok (.iaload, 1) := by decide +kernel
theorem dX2_papers_68 : decode cX2_papers 68 = .ok (.iconst 3, 1) := by decide +kernel
theorem dX2_papers_69 : decode cX2_papers 69 = .ok (.if_icmp .ne 7, 3) := by decide +kernel
theorem dX2_papers_72 : decode cX2_papers 72 = .ok (.iconst (-1), 1) := by decide +kernel
theorem dX2_papers_73 : decode cX2_papers 73 = .ok (.goto 4, 3) := by decide +kernel
theorem dX2_papers_76 : decode cX2_papers 76 = .ok (.iconst 0, 1) := by decide +kernel
theorem dX2_papers_77 : decode cX2_papers 77 = .ok (.istore 5, 2) := by decide +kernel
theorem dX2_papers_79 : decode cX2_papers 79 = .ok (.iload_n 3, 1) := by decide +kernel
theorem dX2_papers_80 : decode cX2_papers 80 = .ok (.aload_n 0, 1) := by decide +kernel
theorem dX2_papers_81 : decode cX2_papers 81 = .ok (.getfield 35, 3) := by decide +kernel
theorem dX2_papers_84 : decode cX2_papers 84 = .ok (.iload 4, 2) := by decide +kernel
theorem dX2_papers_86 : decode cX2_papers 86 = .ok (.iaload, 1) := by decide +kernel
theorem dX2_papers_87 : decode cX2_papers 87 = .ok (.iload_n 2, 1) := by decide +kernel
theorem dX2_papers_88 : decode cX2_papers 88 = .ok (.if_icmp .ne 16, 3) := by decide +kernel
theorem dX2_papers_91 : decode cX2_papers 91 = .ok (.iload 5, 2) := by decide +kernel
theorem dX2_papers_93 : decode cX2_papers 93 = .ok (.aload_n 0, 1) := by decide +kernel
theorem dX2_papers_94 : decode cX2_papers 94 = .ok (.getfield 38, 3) := by decide +kernel
theorem dX2_papers_97 : decode cX2_papers 97 = .ok (.iload 4, 2) := by decide +kernel
theorem dX2_papers_99 : decode cX2_papers 99 = .ok (.iaload, 1) := by decide +kernel
theorem dX2_papers_100 : decode cX2_papers 100 = .ok (.imul, 1) := by decide +kernel
theorem dX2_papers_101 : decode cX2_papers 101 = .ok (.goto 4, 3) := by decide +kernel
theorem dX2_papers_104 : decode cX2_papers 104 = .ok (.iconst 0, 1) := by decide +kernel
theorem dX2_papers_105 : decode cX2_papers 105 = .ok (.iadd, 1) := by decide +kernel
theorem dX2_papers_106 : decode cX2_papers 106 = .ok (.istore_n 3, 1) := by decide +kernel
theorem dX2_papers_107 : decode cX2_papers 107 = .ok (.iload_n 3, 1) := by decide +kernel
theorem dX2_papers_108 : decode cX2_papers 108 = .ok (.aload_n 0, 1) := by decide +kernel
theorem dX2_papers_109 : decode cX2_papers 109 = .ok (.getfield 29, 3) := by decide +kernel
theorem dX2_papers_112 : decode cX2_papers 112 = .ok (.iload 4, 2) := by decide +kernel
theorem dX2_papers_114 : decode cX2_papers 114 = .ok (.iaload, 1) := by decide +kernel
theorem dX2_papers_115 : decode cX2_papers 115 = .ok (.iconst 5, 1) := by decide +kernel
theorem dX2_papers_116 : decode cX2_papers 116 = .ok (.if_icmp .ne 18, 3) := by decide +kernel
theorem dX2_papers_119 : decode cX2_papers 119 = .ok (.aload_n 0, 1) := by decide +kernel
theorem dX2_papers_120 : decode cX2_papers 120 = .ok (.getfield 65, 3) := by decide +kernel
theorem dX2_papers_123 : decode cX2_papers 123 = .ok (.aload_n 0, 1) := by decide +kernel
theorem dX2_papers_124 : decode cX2_papers 124 = .ok (.getfield 41, 3) := by decide +kernel
theorem dX2_papers_127 : decode cX2_papers 127 = .ok (.iload 4, 2) := by decide +kernel
theorem dX2_papers_129 : decode cX2_papers 129 = .ok (.iaload, 1) := by decide +kernel
theorem dX2_papers_130 : decode cX2_papers 130 = .ok (.iaload, 1) := by decide +kernel
theorem dX2_papers_131 : decode cX2_papers 131 = .ok (.goto 4, 3) := by decide +kernel
theorem dX2_papers_134 : decode cX2_papers 134 = .ok (.iconst 0, 1) := by decide +kernel
theorem dX2_papers_135 : decode cX2_papers 135 = .ok (.iadd, 1) := by decide +kernel
theorem dX2_papers_136 : decode cX2_papers 136 = .ok (.istore_n 3, 1) := by decide +kernel
theorem dX2_papers_137 : decode cX2_papers 137 = .ok (.iinc 4 1, 3) := by decide +kernel
theorem dX2_papers_140 : decode cX2_papers 140 = .ok (.goto (-132), 3) := by decide +kernel
theorem dX2_papers_143 : decode cX2_papers 143 = .ok (.iload_n 3, 1) := by decide +kernel
theorem dX2_papers_144 : decode cX2_papers 144 = .ok (.ireturn, 1) := by decide +kernel
set_option maxRecDepth 20000 in
theorem ggX2_tells_X2_papers : GoodIn wsX2_tells wsX2_papers := goodIn_r _ [8, 9, 10, 11, 12, 2, 13, 14, 15, 16, 17, 18, 19, 20, 21, 22, 23, 24, 25, 26, 27, 28, 29, 30, 31, 32, 33, 34, 35] (by decide +kernel) (by decide +kernel)
set_option maxRecDepth 20000 in
theorem gX2_tells_X2_papers : GoodIn wsX2_tells (wsV RX2 132 RX2 yX2_papers wsX2_papers) := goodIn_app (goodIn_of _ (by decide +kernel)) ggX2_tells_X2_papers
theorem dX2_tells_0 : decode cX2_tells 0 = .ok (.iconst 0, 1) := by decide +kernel
theorem dX2_tells_1 : decode cX2_tells 1 = .ok (.istore_n 2, 1) := by decide +kernel
theorem dX2_tells_2 : decode cX2_tells 2 = .ok (.iload_n 2, 1) := by decide +kernel
theorem dX2_tells_3 : decode cX2_tells 3 = .ok (.aload_n 0, 1) := by decide +kernel
theorem dX2_tells_4 : decode cX2_tells 4 = .ok (.getfield 126, 3) := by decide +kernel
theorem dX2_tells_7 : decode cX2_tells 7 = .ok (.if_icmp .ge 31, 3) := by decide +kernel
theorem dX2_tells_10 : decode cX2_tells 10 = .ok (.aload_n 0, 1) := by decide +kernel
theorem dX2_tells_11 : decode cX2_tells 11 = .ok (.getfield 65, 3) := by decide +kernel
theorem dX2_tells_14 : decode cX2_tells 14 = .ok (.aload_n 0, 1) := by decide +kernel
theorem dX2_tells_15 : decode cX2_tells 15 = .ok (.getfield 26, 3) := by decide +kernel
theorem dX2_tells_18 : decode cX2_tells 18 = .ok (.iload_n 2, 1) := by decide +kernel
theorem dX2_tells_19 : decode cX2_tells 19 = .ok (.iaload, 1) := by decide +kernel
theorem dX2_tells_20 : decode cX2_tells 20 = .ok (.aload_n 0, 1) := by decide +kernel
theorem dX2_tells_21 : decode cX2_tells 21 = .ok (.aload_n 0, 1) := by decide +kernel
theorem dX2_tells_22 : decode cX2_tells 22 = .ok (.getfield 26, 3) := by decide +kernel
theorem dX2_tells_25 : decode cX2_tells 25 = .ok (.iload_n 2, 1) := by decide +kernel
theorem dX2_tells_26 : decode cX2_tells 26 = .ok (.iaload, 1) := by decide +kernel
theorem dX2_tells_27 : decode cX2_tells 27 = .ok (.iload_n 1, 1) := by decide +kernel
theorem dX2_tells_28 : decode cX2_tells 28 = .ok (.invokevirtual 132, 3) := by decide +kernel
theorem dX2_tells_31 : decode cX2_tells 31 = .ok (.iastore, 1) := by decide +kernel
theorem dX2_tells_32 : decode cX2_tells 32 = .ok (.iinc 2 1, 3) := by decide +kernel
theorem dX2_tells_35 : decode cX2_tells 35 = .ok (.goto (-33), 3) := by decide +kernel
theorem dX2_tells_38 : decode cX2_tells 38 = .ok (.return_, 1) := by decide +kernel
set_option maxRecDepth 20000 in
theorem ggX2_anew_X2_tells : GoodIn wsX2_anew wsX2_tells := goodIn_r _ [6, 7, 8, 9, 10, 11, 12, 5, 13, 14, 15, 16, 17, 18, 19, 20, 21, 22, 23, 24, 25, 26, 27, 28, 29, 30, 31, 32, 33, 34, 35, 36, 37, 38, 39, 40] (by decide +kernel) (by decide +kernel)
set_option maxRecDepth 20000 in
theorem gX2_anew_X2_tells : GoodIn wsX2_anew (wsV RX2 135 RX2 yX2_tells wsX2_tells) := goodIn_app (goodIn_of _ (by decide +kernel)) ggX2_anew_X2_tells
set_option maxRecDepth 20000 in
theorem ggX2_anew_X2_papers : GoodIn wsX2_anew wsX2_papers := goodIn_r _ [13, 14, 15, 16, 17, 8, 18, 19, 20, 21, 22, 23, 24, 25, 26, 27, 28, 29, 30, 31, 32, 33, 34, 35, 36, 37, 38, 39, 40] (by decide +kernel) (by decide +kernel)
set_option maxRecDepth 20000 in
theorem gX2_anew_X2_papers : GoodIn wsX2_anew (wsV RX2 132 RX2 yX2_papers wsX2_papers) := goodIn_app (goodIn_of _ (by decide +kernel)) ggX2_anew_X2_papers
theorem dX2_anew_0 : decode cX2_anew 0 = .ok (.aload_n 0, 1) := by decide +kernel
theorem dX2_anew_1 : decode cX2_anew 1 = .ok (.iload_n 2, 1) := by decide +kernel
theorem dX2_anew_2 : decode cX2_anew 2 = .ok (.invokevirtual 135, 3) := by decide +kernel
theorem dX2_anew_5 : decode cX2_anew 5 = .ok (.aload_n 0, 1) := by decide +kernel
theorem dX2_anew_6 : decode cX2_anew 6 = .ok (.getfield 23, 3) := by decide +kernel
theorem dX2_anew_9 : decode cX2_anew 9 = .ok (.iload_n 1, 1) := by decide +kernel
theorem dX2_anew_10 : decode cX2_anew 10 = .ok (.baload, 1) := by decide +kernel
theorem dX2_anew_11 : decode cX2_anew 11 = .ok (.ifCond .eq 7, 3) := by decide +kernel
theorem dX2_anew_14 : decode cX2_anew 14 = .ok (.iconst 0, 1) := by decide +kernel
theorem dX2_anew_15 : decode cX2_anew 15 = .ok (.goto 9, 3) := by decide +kernel
theorem dX2_anew_18 : decode cX2_anew 18 = .ok (.aload_n 0, 1) := by decide +kernel
theorem dX2_anew_19 : decode cX2_anew 19 = .ok (.iload_n 1, 1) := by decide +kernel
theorem dX2_anew_20 : decode cX2_anew 20 = .ok (.iload_n 2, 1) := by decide +kernel
theorem dX2_anew_21 : decode cX2_anew 21 = .ok (.invokevirtual 132, 3) := by decide +kernel
theorem dX2_anew_24 : decode cX2_anew 24 = .ok (.ireturn, 1) := by decide +kernel
set_option maxRecDepth 20000 in
theorem ggX2_contentsAnew_X2_isPallet : GoodIn wsX2_contentsAnew wsX2_isPallet := goodIn_r _ [5, 6, 7, 8, 4, 9, 39, 40, 41, 42, 43, 44, 45, 46, 47, 48, 49, 50, 51, 52, 53, 54, 55, 56, 57, 58, 59, 60] (by decide +kernel) (by decide +kernel)
set_option maxRecDepth 20000 in
theorem gX2_contentsAnew_X2_isPallet : GoodIn wsX2_contentsAnew (wsV RX2 79 RX2 yX2_isPallet wsX2_isPallet) := goodIn_app (goodIn_of _ (by decide +kernel)) ggX2_contentsAnew_X2_isPallet
set_option maxRecDepth 20000 in
theorem ggX2_contentsAnew_X2_isGood : GoodIn wsX2_contentsAnew wsX2_isGood := goodIn_r _ [12, 7, 8, 4, 9] (by decide +kernel) (by decide +kernel)
set_option maxRecDepth 20000 in
theorem gX2_contentsAnew_X2_isGood : GoodIn wsX2_contentsAnew (va_wsS RX2 117 yX2_isGood wsX2_isGood) := goodIn_app (goodIn_of _ (by decide +kernel)) ggX2_contentsAnew_X2_isGood
set_option maxRecDepth 20000 in
theorem ggX2_contentsAnew_X2_holds : GoodIn wsX2_contentsAnew wsX2_holds := goodIn_r _ [16, 17, 39, 40, 41, 42, 43, 44, 45, 46, 47, 48, 49, 50, 51, 52, 53, 54, 55, 56, 57, 58, 59, 60] (by decide +kernel) (by decide +kernel)
set_option maxRecDepth 20000 in
theorem gX2_contentsAnew_X2_holds : GoodIn wsX2_contentsAnew (wsV RX2 101 RX2 yX2_holds wsX2_holds) := goodIn_app (goodIn_of _ (by decide +kernel)) ggX2_contentsAnew_X2_holds
set_option maxRecDepth 20000 in
theorem ggX2_contentsAnew_X2_anew : GoodIn wsX2_contentsAnew wsX2_anew := goodIn_r _ [21, 22, 23, 24, 25, 4, 26, 27, 28, 29, 30, 31, 32, 33, 34, 35, 36, 37, 38, 39, 40, 41, 42, 43, 44, 45, 46, 47, 48, 49, 50, 51, 52, 53, 54, 55, 56, 57, 58, 59, 60] (by decide +kernel) (by decide +kernel)
set_option maxRecDepth 20000 in
theorem gX2_contentsAnew_X2_anew : GoodIn wsX2_contentsAnew (wsV RX2 139 RX2 yX2_anew wsX2_anew) := goodIn_app (goodIn_of _ (by decide +kernel)) ggX2_contentsAnew_X2_anew
theorem dX2_contentsAnew_0 : decode cX2_contentsAnew 0 = .ok (.aload_n 0, 1) := by decide +kernel
theorem dX2_contentsAnew_1 : decode cX2_contentsAnew 1 = .ok (.aload_n 0, 1) := by decide +kernel
theorem dX2_contentsAnew_2 : decode cX2_contentsAnew 2 = .ok (.iload_n 1, 1) := by decide +kernel
theorem dX2_contentsAnew_3 : decode cX2_contentsAnew 3 = .ok (.invokevirtual 79, 3) := by decide +kernel
theorem dX2_contentsAnew_6 : decode cX2_contentsAnew 6 = .ok (.ifCond .eq 14, 3) := by decide +kernel
theorem dX2_contentsAnew_9 : decode cX2_contentsAnew 9 = .ok (.iload_n 2, 1) := by decide +kernel
theorem dX2_contentsAnew_10 : decode cX2_contentsAnew 10 = .ok (.invokestatic 117, 3) := by decide +kernel
theorem dX2_contentsAnew_13 : decode cX2_contentsAnew 13 = .ok (.ifCond .eq 7, 3) := by decide +kernel
theorem dX2_contentsAnew_16 : decode cX2_contentsAnew 16 = .ok (.iconst 0, 1) := by decide +kernel
theorem dX2_contentsAnew_17 : decode cX2_contentsAnew 17 = .ok (.goto 4, 3) := by decide +kernel
theorem dX2_contentsAnew_20 : decode cX2_contentsAnew 20 = .ok (.iconst 1, 1) := by decide +kernel
theorem dX2_contentsAnew_21 : decode cX2_contentsAnew 21 = .ok (.invokevirtual 101, 3) := by decide +kernel
theorem dX2_contentsAnew_24 : decode cX2_contentsAnew 24 = .ok (.ifCond .eq 12, 3) := by decide +kernel
theorem dX2_contentsAnew_27 : decode cX2_contentsAnew 27 = .ok (.aload_n 0, 1) := by decide +kernel
theorem dX2_contentsAnew_28 : decode cX2_contentsAnew 28 = .ok (.iload_n 1, 1) := by decide +kernel
theorem dX2_contentsAnew_29 : decode cX2_contentsAnew 29 = .ok (.iload_n 2, 1) := by decide +kernel
theorem dX2_contentsAnew_30 : decode cX2_contentsAnew 30 = .ok (.invokevirtual 139, 3) := by decide +kernel
theorem dX2_contentsAnew_33 : decode cX2_contentsAnew 33 = .ok (.goto 4, 3) := by decide +kernel
theorem dX2_contentsAnew_36 : decode cX2_contentsAnew 36 = .ok (.iconst 0, 1) := by decide +kernel
theorem dX2_contentsAnew_37 : decode cX2_contentsAnew 37 = .ok (.ireturn, 1) := by decide +kernel
set_option maxRecDepth 20000 in
theorem ggX2_isTruck_X2_isIn : GoodIn wsX2_isTruck wsX2_isIn := goodIn_r _ [4] (by decide +kernel) (by decide +kernel)
set_option maxRecDepth 20000 in
theorem gX2_isTruck_X2_isIn : GoodIn wsX2_isTruck (va_wsS RX2 75 yX2_isIn wsX2_isIn) := goodIn_app (goodIn_of _ (by decide +kernel)) ggX2_isTruck_X2_isIn
theorem dX2_isTruck_0 : decode cX2_isTruck 0 = .ok (.iload_n 0, 1) := by decide +kernel
theorem dX2_isTruck_1 : decode cX2_isTruck 1 = .ok (.iconst 4, 1) := by decide +kernel
theorem dX2_isTruck_2 : decode cX2_isTruck 2 = .ok (.iconst 5, 1) := by decide +kernel
theorem dX2_isTruck_3 : decode cX2_isTruck 3 = .ok (.invokestatic 75, 3) := by decide +kernel
theorem dX2_isTruck_6 : decode cX2_isTruck 6 = .ok (.ireturn, 1) := by decide +kernel
set_option maxRecDepth 20000 in
theorem ggX2_declare_X2_isTruck : GoodIn wsX2_declare wsX2_isTruck := goodIn_r _ [5, 6, 7, 4, 8] (by decide +kernel) (by decide +kernel)
set_option maxRecDepth 20000 in
theorem gX2_declare_X2_isTruck : GoodIn wsX2_declare (va_wsS RX2 142 yX2_isTruck wsX2_isTruck) := goodIn_app (goodIn_of _ (by decide +kernel)) ggX2_declare_X2_isTruck
set_option maxRecDepth 20000 in
theorem ggX2_declare_X2_isGood : GoodIn wsX2_declare wsX2_isGood := goodIn_r _ [11, 6, 7, 4, 8] (by decide +kernel) (by decide +kernel)
set_option maxRecDepth 20000 in
theorem gX2_declare_X2_isGood : GoodIn wsX2_declare (va_wsS RX2 117 yX2_isGood wsX2_isGood) := goodIn_app (goodIn_of _ (by decide +kernel)) ggX2_declare_X2_isGood
set_option maxRecDepth 20000 in
theorem ggX2_declare_X2_isIn : GoodIn wsX2_declare wsX2_isIn := goodIn_r _ [8] (by decide +kernel) (by decide +kernel)
set_option maxRecDepth 20000 in
theorem gX2_declare_X2_isIn : GoodIn wsX2_declare (va_wsS RX2 75 yX2_isIn wsX2_isIn) := goodIn_app (goodIn_of _ (by decide +kernel)) ggX2_declare_X2_isIn
set_option maxRecDepth 20000 in
theorem ggX2_declare_X2_holds : GoodIn wsX2_declare wsX2_holds := goodIn_r _ [15, 16, 17, 18, 19, 20, 21, 22, 23, 24, 25, 26, 27, 28, 29, 30, 31, 32, 33, 34, 35, 36, 37, 38] (by decide +kernel) (by decide +kernel)
set_option maxRecDepth 20000 in
theorem gX2_declare_X2_holds : GoodIn wsX2_declare (wsV RX2 101 RX2 yX2_holds wsX2_holds) := goodIn_app (goodIn_of _ (by decide +kernel)) ggX2_declare_X2_holds
theorem dX2_declare_0 : decode cX2_declare 0 = .ok (.iload_n 1, 1) := by decide +kernel
theorem dX2_declare_1 : decode cX2_declare 1 = .ok (.invokestatic 142, 3) := by decide +kernel
theorem dX2_declare_4 : decode cX2_declare 4 = .ok (.ifCond .eq 14, 3) := by decide +kernel
theorem dX2_declare_7 : decode cX2_declare 7 = .ok (.iload_n 2, 1) := by decide +kernel
theorem dX2_declare_8 : decode cX2_declare 8 = .ok (.invokestatic 117, 3) := by decide +kernel
theorem dX2_declare_11 : decode cX2_declare 11 = .ok (.ifCond .eq 7, 3) := by decide +kernel
theorem dX2_declare_14 : decode cX2_declare 14 = .ok (.iconst 1, 1) := by decide +kernel
theorem dX2_declare_15 : decode cX2_declare 15 = .ok (.goto 4, 3) := by decide +kernel
theorem dX2_declare_18 : decode cX2_declare 18 = .ok (.iconst 0, 1) := by decide +kernel
theorem dX2_declare_19 : decode cX2_declare 19 = .ok (.istore 4, 2) := by decide +kernel
theorem dX2_declare_21 : decode cX2_declare 21 = .ok (.aload_n 0, 1) := by decide +kernel
theorem dX2_declare_22 : decode cX2_declare 22 = .ok (.iload 4, 2) := by decide +kernel
theorem dX2_declare_24 : decode cX2_declare 24 = .ok (.ifCond .ne 7, 3) := by decide +kernel
theorem dX2_declare_27 : decode cX2_declare 27 = .ok (.iconst 1, 1) := by decide +kernel
theorem dX2_declare_28 : decode cX2_declare 28 = .ok (.goto 19, 3) := by decide +kernel
theorem dX2_declare_31 : decode cX2_declare 31 = .ok (.iload_n 3, 1) := by decide +kernel
theorem dX2_declare_32 : decode cX2_declare 32 = .ok (.iconst 0, 1) := by decide +kernel
theorem dX2_declare_33 : decode cX2_declare 33 = .ok (.sipush 9999, 3) := by decide +kernel
theorem dX2_declare_36 : decode cX2_declare 36 = .ok (.invokestatic 75, 3) := by decide +kernel
theorem dX2_declare_39 : decode cX2_declare 39 = .ok (.ifCond .ne 7, 3) := by decide +kernel
theorem dX2_declare_42 : decode cX2_declare 42 = .ok (.iconst 2, 1) := by decide +kernel
theorem dX2_declare_43 : decode cX2_declare 43 = .ok (.goto 4, 3) := by decide +kernel
theorem dX2_declare_46 : decode cX2_declare 46 = .ok (.iconst 0, 1) := by decide +kernel
theorem dX2_declare_47 : decode cX2_declare 47 = .ok (.invokevirtual 101, 3) := by decide +kernel
theorem dX2_declare_50 : decode cX2_declare 50 = .ok (.ifCond .ne 5, 3) := by decide +kernel
theorem dX2_declare_53 : decode cX2_declare 53 = .ok (.iconst 0, 1) := by decide +kernel
theorem dX2_declare_54 : decode cX2_declare 54 = .ok (.ireturn, 1) := by decide +kernel
theorem dX2_declare_55 : decode cX2_declare 55 = .ok (.bipush 6, 2) := by decide +kernel
theorem dX2_declare_57 : decode cX2_declare 57 = .ok (.iload_n 1, 1) := by decide +kernel
theorem dX2_declare_58 : decode cX2_declare 58 = .ok (.iconst 4, 1) := by decide +kernel
theorem dX2_declare_59 : decode cX2_declare 59 = .ok (.isub, 1) := by decide +kernel
theorem dX2_declare_60 : decode cX2_declare 60 = .ok (.imul, 1) := by decide +kernel
theorem dX2_declare_61 : decode cX2_declare 61 = .ok (.iload_n 2, 1) := by decide +kernel
theorem dX2_declare_62 : decode cX2_declare 62 = .ok (.iadd, 1) := by decide +kernel
theorem dX2_declare_63 : decode cX2_declare 63 = .ok (.istore 5, 2) := by decide +kernel
theorem dX2_declare_65 : decode cX2_declare 65 = .ok (.aload_n 0, 1) := by decide +kernel
theorem dX2_declare_66 : decode cX2_declare 66 = .ok (.getfield 56, 3) := by decide +kernel
theorem dX2_declare_69 : decode cX2_declare 69 = .ok (.iload 5, 2) := by decide +kernel
theorem dX2_declare_71 : decode cX2_declare 71 = .ok (.iaload, 1) := by decide +kernel
theorem dX2_declare_72 : decode cX2_declare 72 = .ok (.istore 6, 2) := by decide +kernel
theorem dX2_declare_74 : decode cX2_declare 74 = .ok (.aload_n 0, 1) := by decide +kernel
theorem dX2_declare_75 : decode cX2_declare 75 = .ok (.getfield 56, 3) := by decide +kernel
theorem dX2_declare_78 : decode cX2_declare 78 = .ok (.iload 5, 2) := by decide +kernel
theorem dX2_declare_80 : decode cX2_declare 80 = .ok (.iload_n 3, 1) := by decide +kernel
theorem dX2_declare_81 : decode cX2_declare 81 = .ok (.iastore, 1) := by decide +kernel
theorem dX2_declare_82 : decode cX2_declare 82 = .ok (.iload 6, 2) := by decide +kernel
theorem dX2_declare_84 : decode cX2_declare 84 = .ok (.ireturn, 1) := by decide +kernel
set_option maxRecDepth 20000 in
theorem ggX2_mismatchOf_X2_anew : GoodIn wsX2_mismatchOf wsX2_anew := goodIn_r _ [8, 9, 10, 11, 12, 7, 13, 14, 15, 16, 17, 18, 19, 20, 21, 22, 23, 24, 25, 26, 27, 28, 29, 30, 31, 32, 33, 34, 35, 36, 37, 38, 39, 40, 41, 42, 43, 44, 45, 46, 47] (by decide +kernel) (by decide +kernel)
set_option maxRecDepth 20000 in
theorem gX2_mismatchOf_X2_anew : GoodIn wsX2_mismatchOf (wsV RX2 139 RX2 yX2_anew wsX2_anew) := goodIn_app (goodIn_of _ (by decide +kernel)) ggX2_mismatchOf_X2_anew
theorem dX2_mismatchOf_0 : decode cX2_mismatchOf 0 = .ok (.iconst 0, 1) := by decide +kernel
theorem dX2_mismatchOf_1 : decode cX2_mismatchOf 1 = .ok (.istore_n 2, 1) := by decide +kernel
theorem dX2_mismatchOf_2 : decode cX2_mismatchOf 2 = .ok (.iconst 0, 1) := by decide +kernel
theorem dX2_mismatchOf_3 : decode cX2_mismatchOf 3 = .ok (.istore_n 3, 1) := by decide +kernel
theorem dX2_mismatchOf_4 : decode cX2_mismatchOf 4 = .ok (.iload_n 3, 1) := by decide +kernel
theorem dX2_mismatchOf_5 : decode cX2_mismatchOf 5 = .ok (.bipush 6, 2) := by decide +kernel
theorem dX2_mismatchOf_7 : decode cX2_mismatchOf 7 = .ok (.if_icmp .ge 85, 3) := by decide +kernel
theorem dX2_mismatchOf_10 : decode cX2_mismatchOf 10 = .ok (.aload_n 0, 1) := by decide +kernel
theorem dX2_mismatchOf_11 : decode cX2_mismatchOf 11 = .ok (.getfield 56, 3) := by decide +kernel
theorem dX2_mismatchOf_14 : decode cX2_mismatchOf 14 = .ok (.bipush 6, 2) := by decide +kernel
theorem dX2_mismatchOf_16 : decode cX2_mismatchOf 16 = .ok (.iload_n 1, 1) := by decide +kernel
theorem dX2_mismatchOf_17 : decode cX2_mismatchOf 17 = .ok (.iconst 4, 1) := by decide +kernel
theorem dX2_mismatchOf_18 : decode cX2_mismatchOf 18 = .ok (.isub, 1) := by decide +kernel
theorem dX2_mismatchOf_19 : decode cX2_mismatchOf 19 = .ok (.imul, 1) := by decide +kernel
theorem dX2_mismatchOf_20 : decode cX2_mismatchOf 20 = .ok (.iload_n 3, 1) := by decide +kernel
theorem dX2_mismatchOf_21 : decode cX2_mismatchOf 21 = .ok (.iadd, 1) := by decide +kernel
theorem dX2_mismatchOf_22 : decode cX2_mismatchOf 22 = .ok (.iaload, 1) := by decide +kernel
theorem dX2_mismatchOf_23 : decode cX2_mismatchOf 23 = .ok (.istore 4, 2) := by decide +kernel
theorem dX2_mismatchOf_25 : decode cX2_mismatchOf 25 = .ok (.iconst 0, 1) := by decide +kernel
theorem dX2_mismatchOf_26 : decode cX2_mismatchOf 26 = .ok (.istore 5, 2) := by decide +kernel
theorem dX2_mismatchOf_28 : decode cX2_mismatchOf 28 = .ok (.iload 5, 2) := by decide +kernel
theorem dX2_mismatchOf_30 : decode cX2_mismatchOf 30 = .ok (.aload_n 0, 1) := by decide +kernel
theorem dX2_mismatchOf_31 : decode cX2_mismatchOf 31 = .ok (.getfield 72, 3) := by decide +kernel
theorem dX2_mismatchOf_34 : decode cX2_mismatchOf 34 = .ok (.if_icmp .ge 36, 3) := by decide +kernel
theorem dX2_mismatchOf_37 : decode cX2_mismatchOf 37 = .ok (.iload 4, 2) := by decide +kernel
theorem dX2_mismatchOf_39 : decode cX2_mismatchOf 39 = .ok (.aload_n 0, 1) := by decide +kernel
theorem dX2_mismatchOf_40 : decode cX2_mismatchOf 40 = .ok (.getfield 7, 3) := by decide +kernel
theorem dX2_mismatchOf_43 : decode cX2_mismatchOf 43 = .ok (.iload 5, 2) := by decide +kernel
theorem dX2_mismatchOf_45 : decode cX2_mismatchOf 45 = .ok (.iaload, 1) := by decide +kernel
theorem dX2_mismatchOf_46 : decode cX2_mismatchOf 46 = .ok (.iload_n 1, 1) := by decide +kernel
theorem dX2_mismatchOf_47 : decode cX2_mismatchOf 47 = .ok (.if_icmp .ne 13, 3) := by decide +kernel
theorem dX2_mismatchOf_50 : decode cX2_mismatchOf 50 = .ok (.aload_n 0, 1) := by decide +kernel
theorem dX2_mismatchOf_51 : decode cX2_mismatchOf 51 = .ok (.iload 5, 2) := by decide +kernel
theorem dX2_mismatchOf_53 : decode cX2_mismatchOf 53 = .ok (.iload_n 3, 1) := by decide +kernel
theorem dX2_mismatchOf_54 : decode cX2_mismatchOf 54 = .ok (.invokevirtual 139, 3) := by decide +kernel
theorem dX2_mismatchOf_57 : decode cX2_mismatchOf 57 = .ok (.goto 4, 3) := by decide +kernel
theorem dX2_mismatchOf_60 : decode cX2_mismatchOf 60 = .ok (.iconst 0, 1) := by decide +kernel
theorem dX2_mismatchOf_61 : decode cX2_mismatchOf 61 = .ok (.isub, 1) := by decide +kernel
theorem dX2_mismatchOf_62 : decode cX2_mismatchOf 62 = .ok (.istore 4, 2) := by decide +kernel
theorem dX2_mismatchOf_64 : decode cX2_mismatchOf 64 = .ok (.iinc 5 1, 3) := by decide +kernel
theorem dX2_mismatchOf_67 : decode cX2_mismatchOf 67 = .ok (.goto (-39), 3) := by decide +kernel
theorem dX2_mismatchOf_70 : decode cX2_mismatchOf 70 = .ok (.iload_n 2, 1) := by decide +kernel
theorem dX2_mismatchOf_71 : decode cX2_mismatchOf 71 = .ok (.iload 4, 2) := by decide +kernel
theorem dX2_mismatchOf_73 : decode cX2_mismatchOf 73 = .ok (.ifCond .ge 9, 3) := by decide +kernel
theorem dX2_mismatchOf_76 : decode cX2_mismatchOf 76 = .ok (.iload 4, 2) := by decide +kernel
theorem dX2_mismatchOf_78 : decode cX2_mismatchOf 78 = .ok (.ineg, 1) := by decide +kernel
theorem dX2_mismatchOf_79 : decode cX2_mismatchOf 79 = .ok (.goto 5, 3) := by decide +kernel
theorem dX2_mismatchOf_82 : decode cX2_mismatchOf 82 = .ok (.iload 4, 2) := by decide +kernel
theorem dX2_mismatchOf_84 : decode cX2_mismatchOf 84 = .ok (.iadd, 1) := by decide +kernel
theorem dX2_mismatchOf_85 : decode cX2_mismatchOf 85 = .ok (.istore_n 2, 1) := by decide +kernel
theorem dX2_mismatchOf_86 : decode cX2_mismatchOf 86 = .ok (.iinc 3 1, 3) := by decide +kernel
theorem dX2_mismatchOf_89 : decode cX2_mismatchOf 89 = .ok (.goto (-85), 3) := by decide +kernel
theorem dX2_mismatchOf_92 : decode cX2_mismatchOf 92 = .ok (.iload_n 2, 1) := by decide +kernel
theorem dX2_mismatchOf_93 : decode cX2_mismatchOf 93 = .ok (.ireturn, 1) := by decide +kernel
set_option maxRecDepth 20000 in
theorem ggX2_mismatch_X2_isTruck : GoodIn wsX2_mismatch wsX2_isTruck := goodIn_r _ [4, 5, 6, 3, 7] (by decide +kernel) (by decide +kernel)
set_option maxRecDepth 20000 in
theorem gX2_mismatch_X2_isTruck : GoodIn wsX2_mismatch (va_wsS RX2 142 yX2_isTruck wsX2_isTruck) := goodIn_app (goodIn_of _ (by decide +kernel)) ggX2_mismatch_X2_isTruck
set_option maxRecDepth 20000 in
theorem ggX2_mismatch_X2_holds : GoodIn wsX2_mismatch wsX2_holds := goodIn_r _ [11, 12, 41, 42, 43, 44, 45, 46, 47, 48, 49, 50, 51, 52, 53, 54, 55, 56, 57, 58, 59, 60, 61, 62] (by decide +kernel) (by decide +kernel)
set_option maxRecDepth 20000 in
theorem gX2_mismatch_X2_holds : GoodIn wsX2_mismatch (wsV RX2 101 RX2 yX2_holds wsX2_holds) := goodIn_app (goodIn_of _ (by decide +kernel)) ggX2_mismatch_X2_holds
set_option maxRecDepth 20000 in
theorem ggX2_mismatch_X2_mismatchOf : GoodIn wsX2_mismatch wsX2_mismatchOf := goodIn_r _ [16, 17, 18, 19, 20, 21, 22, 3, 23, 24, 25, 26, 27, 28, 29, 30, 31, 32, 33, 34, 35, 36, 37, 38, 39, 40, 41, 42, 43, 44, 45, 46, 47, 48, 49, 50, 51, 52, 53, 54, 55, 56, 57, 58, 59, 60, 61, 62] (by decide +kernel) (by decide +kernel)
set_option maxRecDepth 20000 in
theorem gX2_mismatch_X2_mismatchOf : GoodIn wsX2_mismatch (wsV RX2 145 RX2 yX2_mismatchOf wsX2_mismatchOf) := goodIn_app (goodIn_of _ (by decide +kernel)) ggX2_mismatch_X2_mismatchOf
theorem dX2_mismatch_0 : decode cX2_mismatch 0 = .ok (.aload_n 0, 1) := by decide +kernel
theorem dX2_mismatch_1 : decode cX2_mismatch 1 = .ok (.iload_n 1, 1) := by decide +kernel
theorem dX2_mismatch_2 : decode cX2_mismatch 2 = .ok (.invokestatic 142, 3) := by decide +kernel
theorem dX2_mismatch_5 : decode cX2_mismatch 5 = .ok (.ifCond .eq 7, 3) := by decide +kernel
theorem dX2_mismatch_8 : decode cX2_mismatch 8 = .ok (.iconst 0, 1) := by decide +kernel
theorem dX2_mismatch_9 : decode cX2_mismatch 9 = .ok (.goto 4, 3) := by decide +kernel
theorem dX2_mismatch_12 : decode cX2_mismatch 12 = .ok (.iconst 1, 1) := by decide +kernel
theorem dX2_mismatch_13 : decode cX2_mismatch 13 = .ok (.invokevirtual 101, 3) := by decide +kernel
theorem dX2_mismatch_16 : decode cX2_mismatch 16 = .ok (.ifCond .eq 11, 3) := by decide +kernel
theorem dX2_mismatch_19 : decode cX2_mismatch 19 = .ok (.aload_n 0, 1) := by decide +kernel
theorem dX2_mismatch_20 : decode cX2_mismatch 20 = .ok (.iload_n 1, 1) := by decide +kernel
theorem dX2_mismatch_21 : decode cX2_mismatch 21 = .ok (.invokevirtual 145, 3) := by decide +kernel
theorem dX2_mismatch_24 : decode cX2_mismatch 24 = .ok (.goto 4, 3) := by decide +kernel
theorem dX2_mismatch_27 : decode cX2_mismatch 27 = .ok (.iconst 0, 1) := by decide +kernel
theorem dX2_mismatch_28 : decode cX2_mismatch 28 = .ok (.ireturn, 1) := by decide +kernel
set_option maxRecDepth 20000 in
theorem ggX2_fee_X2_isIn : GoodIn wsX2_fee wsX2_isIn := goodIn_r _ [5] (by decide +kernel) (by decide +kernel)
set_option maxRecDepth 20000 in
theorem gX2_fee_X2_isIn : GoodIn wsX2_fee (va_wsS RX2 75 yX2_isIn wsX2_isIn) := goodIn_app (goodIn_of _ (by decide +kernel)) ggX2_fee_X2_isIn
set_option maxRecDepth 20000 in
theorem ggX2_fee_X2_holds : GoodIn wsX2_fee wsX2_holds := goodIn_r _ [9, 10, 11, 12, 13, 14, 15, 16, 17, 18, 19, 20, 21, 22, 23, 24, 25, 26, 27, 28, 29, 30, 31, 32] (by decide +kernel) (by decide +kernel)
set_option maxRecDepth 20000 in
theorem gX2_fee_X2_holds : GoodIn wsX2_fee (wsV RX2 101 RX2 yX2_holds wsX2_holds) := goodIn_app (goodIn_of _ (by decide +kernel)) ggX2_fee_X2_holds
theorem dX2_fee_0 : decode cX2_fee 0 = .ok (.aload_n 0, 1) := by decide +kernel
theorem dX2_fee_1 : decode cX2_fee 1 = .ok (.iload_n 1, 1) := by decide +kernel
theorem dX2_fee_2 : decode cX2_fee 2 = .ok (.iconst 0, 1) := by decide +kernel
theorem dX2_fee_3 : decode cX2_fee 3 = .ok (.bipush 9, 2) := by decide +kernel
theorem dX2_fee_5 : decode cX2_fee 5 = .ok (.invokestatic 75, 3) := by decide +kernel
theorem dX2_fee_8 : decode cX2_fee 8 = .ok (.ifCond .eq 17, 3) := by decide +kernel
theorem dX2_fee_11 : decode cX2_fee 11 = .ok (.iload_n 2, 1) := by decide +kernel
theorem dX2_fee_12 : decode cX2_fee 12 = .ok (.iconst 0, 1) := by decide +kernel
theorem dX2_fee_13 : decode cX2_fee 13 = .ok (.bipush 99, 2) := by decide +kernel
theorem dX2_fee_15 : decode cX2_fee 15 = .ok (.invokestatic 75, 3) := by decide +kernel
theorem dX2_fee_18 : decode cX2_fee 18 = .ok (.ifCond .eq 7, 3) := by decide +kernel
theorem dX2_fee_21 : decode cX2_fee 21 = .ok (.iconst 0, 1) := by decide +kernel
theorem dX2_fee_22 : decode cX2_fee 22 = .ok (.goto 4, 3) := by decide +kernel
theorem dX2_fee_25 : decode cX2_fee 25 = .ok (.iconst 1, 1) := by decide +kernel
theorem dX2_fee_26 : decode cX2_fee 26 = .ok (.invokevirtual 101, 3) := by decide +kernel
theorem dX2_fee_29 : decode cX2_fee 29 = .ok (.ifCond .ne 5, 3) := by decide +kernel
theorem dX2_fee_32 : decode cX2_fee 32 = .ok (.iconst 0, 1) := by decide +kernel
theorem dX2_fee_33 : decode cX2_fee 33 = .ok (.ireturn, 1) := by decide +kernel
theorem dX2_fee_34 : decode cX2_fee 34 = .ok (.aload_n 0, 1) := by decide +kernel
theorem dX2_fee_35 : decode cX2_fee 35 = .ok (.getfield 59, 3) := by decide +kernel
theorem dX2_fee_38 : decode cX2_fee 38 = .ok (.iload_n 1, 1) := by decide +kernel
theorem dX2_fee_39 : decode cX2_fee 39 = .ok (.iaload, 1) := by decide +kernel
theorem dX2_fee_40 : decode cX2_fee 40 = .ok (.istore_n 3, 1) := by decide +kernel
theorem dX2_fee_41 : decode cX2_fee 41 = .ok (.aload_n 0, 1) := by decide +kernel
theorem dX2_fee_42 : decode cX2_fee 42 = .ok (.getfield 59, 3) := by decide +kernel
theorem dX2_fee_45 : decode cX2_fee 45 = .ok (.iload_n 1, 1) := by decide +kernel
theorem dX2_fee_46 : decode cX2_fee 46 = .ok (.iload_n 2, 1) := by decide +kernel
theorem dX2_fee_47 : decode cX2_fee 47 = .ok (.iastore, 1) := by decide +kernel
theorem dX2_fee_48 : decode cX2_fee 48 = .ok (.iload_n 3, 1) := by decide +kernel
theorem dX2_fee_49 : decode cX2_fee 49 = .ok (.ireturn, 1) := by decide +kernel
set_option maxRecDepth 20000 in
theorem ggX2_owed_X2_isIn : GoodIn wsX2_owed wsX2_isIn := goodIn_r _ [5] (by decide +kernel) (by decide +kernel)
set_option maxRecDepth 20000 in
theorem gX2_owed_X2_isIn : GoodIn wsX2_owed (va_wsS RX2 75 yX2_isIn wsX2_isIn) := goodIn_app (goodIn_of _ (by decide +kernel)) ggX2_owed_X2_isIn
set_option maxRecDepth 20000 in
theorem ggX2_owed_X2_holds : GoodIn wsX2_owed wsX2_holds := goodIn_r _ [9, 10, 11, 12, 13, 14, 15, 16, 17, 18, 19, 20, 21, 22, 23, 24, 25, 26, 27, 28, 29, 30, 31, 32] (by decide +kernel) (by decide +kernel)
set_option maxRecDepth 20000 in
theorem gX2_owed_X2_holds : GoodIn wsX2_owed (wsV RX2 101 RX2 yX2_holds wsX2_holds) := goodIn_app (goodIn_of _ (by decide +kernel)) ggX2_owed_X2_holds
theorem dX2_owed_0 : decode cX2_owed 0 = .ok (.aload_n 0, 1) := by decide +kernel
theorem dX2_owed_1 : decode cX2_owed 1 = .ok (.iload_n 1, 1) := by decide +kernel
theorem dX2_owed_2 : decode cX2_owed 2 = .ok (.iconst 0, 1) := by decide +kernel
theorem dX2_owed_3 : decode cX2_owed 3 = .ok (.bipush 6, 2) := by decide +kernel
theorem dX2_owed_5 : decode cX2_owed 5 = .ok (.invokestatic 75, 3) := by decide +kernel
theorem dX2_owed_8 : decode cX2_owed 8 = .ok (.ifCond .eq 7, 3) := by decide +kernel
theorem dX2_owed_11 : decode cX2_owed 11 = .ok (.iconst 0, 1) := by decide +kernel
theorem dX2_owed_12 : decode cX2_owed 12 = .ok (.goto 4, 3) := by decide +kernel
theorem dX2_owed_15 : decode cX2_owed 15 = .ok (.iconst 1, 1) := by decide +kernel
theorem dX2_owed_16 : decode cX2_owed 16 = .ok (.invokevirtual 101, 3) := by decide +kernel
theorem dX2_owed_19 : decode cX2_owed 19 = .ok (.ifCond .eq 12, 3) := by decide +kernel
theorem dX2_owed_22 : decode cX2_owed 22 = .ok (.aload_n 0, 1) := by decide +kernel
theorem dX2_owed_23 : decode cX2_owed 23 = .ok (.getfield 62, 3) := by decide +kernel
theorem dX2_owed_26 : decode cX2_owed 26 = .ok (.iload_n 1, 1) := by decide +kernel
theorem dX2_owed_27 : decode cX2_owed 27 = .ok (.iaload, 1) := by decide +kernel
theorem dX2_owed_28 : decode cX2_owed 28 = .ok (.goto 4, 3) := by decide +kernel
theorem dX2_owed_31 : decode cX2_owed 31 = .ok (.iconst 0, 1) := by decide +kernel
theorem dX2_owed_32 : decode cX2_owed 32 = .ok (.ireturn, 1) := by decide +kernel
