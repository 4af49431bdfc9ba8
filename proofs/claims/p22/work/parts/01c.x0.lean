set_option maxRecDepth 20000 in
theorem ggX0_lastKind_X0_number : GoodIn wsX0_lastKind wsX0_number := goodIn_r _ [6, 7, 8, 9, 5, 10, 11, 12, 13, 14, 15] (by decide +kernel) (by decide +kernel)
set_option maxRecDepth 20000 in
theorem gX0_lastKind_X0_number : GoodIn wsX0_lastKind (wsV RX0 27 RX0 yX0_number wsX0_number) := goodIn_app (goodIn_of _ (by decide +kernel)) ggX0_lastKind_X0_number
theorem dX0_lastKind_0 : decode cX0_lastKind 0 = .ok (.aload_n 0, 1) := by decide +kernel
theorem dX0_lastKind_1 : decode cX0_lastKind 1 = .ok (.getfield 9, 3) := by decide +kernel
theorem dX0_lastKind_4 : decode cX0_lastKind 4 = .ok (.iload_n 1, 1) := by decide +kernel
theorem dX0_lastKind_5 : decode cX0_lastKind 5 = .ok (.iaload, 1) := by decide +kernel
theorem dX0_lastKind_6 : decode cX0_lastKind 6 = .ok (.istore_n 2, 1) := by decide +kernel
theorem dX0_lastKind_7 : decode cX0_lastKind 7 = .ok (.iload_n 2, 1) := by decide +kernel
theorem dX0_lastKind_8 : decode cX0_lastKind 8 = .ok (.ifCond .le 15, 3) := by decide +kernel
theorem dX0_lastKind_11 : decode cX0_lastKind 11 = .ok (.aload_n 0, 1) := by decide +kernel
theorem dX0_lastKind_12 : decode cX0_lastKind 12 = .ok (.iload_n 1, 1) := by decide +kernel
theorem dX0_lastKind_13 : decode cX0_lastKind 13 = .ok (.iload_n 2, 1) := by decide +kernel
theorem dX0_lastKind_14 : decode cX0_lastKind 14 = .ok (.iconst 1, 1) := by decide +kernel
theorem dX0_lastKind_15 : decode cX0_lastKind 15 = .ok (.isub, 1) := by decide +kernel
theorem dX0_lastKind_16 : decode cX0_lastKind 16 = .ok (.iconst 0, 1) := by decide +kernel
theorem dX0_lastKind_17 : decode cX0_lastKind 17 = .ok (.invokevirtual 27, 3) := by decide +kernel
theorem dX0_lastKind_20 : decode cX0_lastKind 20 = .ok (.goto 4, 3) := by decide +kernel
theorem dX0_lastKind_23 : decode cX0_lastKind 23 = .ok (.iconst (-1), 1) := by decide +kernel
theorem dX0_lastKind_24 : decode cX0_lastKind 24 = .ok (.ireturn, 1) := by decide +kernel
set_option maxRecDepth 20000 in
theorem ggX0_number_X0_row : GoodIn wsX0_number wsX0_row := goodIn_r _ [5] (by decide +kernel) (by decide +kernel)
set_option maxRecDepth 20000 in
theorem gX0_number_X0_row : GoodIn wsX0_number (va_wsS RX0 31 yX0_row wsX0_row) := goodIn_app (goodIn_of _ (by decide +kernel)) ggX0_number_X0_row
theorem dX0_number_0 : decode cX0_number 0 = .ok (.aload_n 0, 1) := by decide +kernel
theorem dX0_number_1 : decode cX0_number 1 = .ok (.getfield 15, 3) := by decide +kernel
theorem dX0_number_4 : decode cX0_number 4 = .ok (.iload_n 1, 1) := by decide +kernel
theorem dX0_number_5 : decode cX0_number 5 = .ok (.iload_n 2, 1) := by decide +kernel
theorem dX0_number_6 : decode cX0_number 6 = .ok (.invokestatic 31, 3) := by decide +kernel
theorem dX0_number_9 : decode cX0_number 9 = .ok (.bipush 6, 2) := by decide +kernel
theorem dX0_number_11 : decode cX0_number 11 = .ok (.imul, 1) := by decide +kernel
theorem dX0_number_12 : decode cX0_number 12 = .ok (.iload_n 3, 1) := by decide +kernel
theorem dX0_number_13 : decode cX0_number 13 = .ok (.iadd, 1) := by decide +kernel
theorem dX0_number_14 : decode cX0_number 14 = .ok (.iaload, 1) := by decide +kernel
theorem dX0_number_15 : decode cX0_number 15 = .ok (.ireturn, 1) := by decide +kernel
set_option maxRecDepth 20000 in
theorem ggX0_proof_X0_row : GoodIn wsX0_proof wsX0_row := goodIn_r _ [5] (by decide +kernel) (by decide +kernel)
set_option maxRecDepth 20000 in
theorem gX0_proof_X0_row : GoodIn wsX0_proof (va_wsS RX0 31 yX0_row wsX0_row) := goodIn_app (goodIn_of _ (by decide +kernel)) ggX0_proof_X0_row
theorem dX0_proof_0 : decode cX0_proof 0 = .ok (.aload_n 0, 1) := by decide +kernel
theorem dX0_proof_1 : decode cX0_proof 1 = .ok (.getfield 18, 3) := by decide +kernel
theorem dX0_proof_4 : decode cX0_proof 4 = .ok (.iload_n 1, 1) := by decide +kernel
theorem dX0_proof_5 : decode cX0_proof 5 = .ok (.iload_n 2, 1) := by decide +kernel
theorem dX0_proof_6 : decode cX0_proof 6 = .ok (.invokestatic 31, 3) := by decide +kernel
theorem dX0_proof_9 : decode cX0_proof 9 = .ok (.iaload, 1) := by decide +kernel
theorem dX0_proof_10 : decode cX0_proof 10 = .ok (.ireturn, 1) := by decide +kernel
set_option maxRecDepth 20000 in
theorem ggX0_copies_X0_row : GoodIn wsX0_copies wsX0_row := goodIn_r _ [5] (by decide +kernel) (by decide +kernel)
set_option maxRecDepth 20000 in
theorem gX0_copies_X0_row : GoodIn wsX0_copies (va_wsS RX0 31 yX0_row wsX0_row) := goodIn_app (goodIn_of _ (by decide +kernel)) ggX0_copies_X0_row
theorem dX0_copies_0 : decode cX0_copies 0 = .ok (.aload_n 0, 1) := by decide +kernel
theorem dX0_copies_1 : decode cX0_copies 1 = .ok (.getfield 21, 3) := by decide +kernel
theorem dX0_copies_4 : decode cX0_copies 4 = .ok (.iload_n 1, 1) := by decide +kernel
theorem dX0_copies_5 : decode cX0_copies 5 = .ok (.iload_n 2, 1) := by decide +kernel
theorem dX0_copies_6 : decode cX0_copies 6 = .ok (.invokestatic 31, 3) := by decide +kernel
theorem dX0_copies_9 : decode cX0_copies 9 = .ok (.iaload, 1) := by decide +kernel
theorem dX0_copies_10 : decode cX0_copies 10 = .ok (.ireturn, 1) := by decide +kernel
set_option maxRecDepth 20000 in
theorem ggX0_add_X0_row : GoodIn wsX0_add wsX0_row := goodIn_r _ [9] (by decide +kernel) (by decide +kernel)
set_option maxRecDepth 20000 in
theorem gX0_add_X0_row : GoodIn wsX0_add (va_wsS RX0 31 yX0_row wsX0_row) := goodIn_app (goodIn_of _ (by decide +kernel)) ggX0_add_X0_row
set_option maxRecDepth 20000 in
theorem ggX0_add_X0_proofMade : GoodIn wsX0_add wsX0_proofMade := goodIn_r _ [13, 3, 2, 6, 7, 8, 9, 17, 18, 19, 20, 21] (by decide +kernel) (by decide +kernel)
set_option maxRecDepth 20000 in
theorem gX0_add_X0_proofMade : GoodIn wsX0_add (wsV RX0 35 RX0 yX0_proofMade wsX0_proofMade) := goodIn_app (goodIn_of _ (by decide +kernel)) ggX0_add_X0_proofMade
set_option maxRecDepth 20000 in
theorem ggX0_add_X0_witnesses : GoodIn wsX0_add wsX0_witnesses := goodIn_r _ [16] (by decide +kernel) (by decide +kernel)
set_option maxRecDepth 20000 in
theorem gX0_add_X0_witnesses : GoodIn wsX0_add (va_wsS RX0 38 yX0_witnesses wsX0_witnesses) := goodIn_app (goodIn_of _ (by decide +kernel)) ggX0_add_X0_witnesses
theorem dX0_add_0 : decode cX0_add 0 = .ok (.aload_n 0, 1) := by decide +kernel
theorem dX0_add_1 : decode cX0_add 1 = .ok (.getfield 9, 3) := by decide +kernel
theorem dX0_add_4 : decode cX0_add 4 = .ok (.iload_n 1, 1) := by decide +kernel
theorem dX0_add_5 : decode cX0_add 5 = .ok (.iaload, 1) := by decide +kernel
theorem dX0_add_6 : decode cX0_add 6 = .ok (.istore 8, 2) := by decide +kernel
theorem dX0_add_8 : decode cX0_add 8 = .ok (.iload_n 1, 1) := by decide +kernel
theorem dX0_add_9 : decode cX0_add 9 = .ok (.iload 8, 2) := by decide +kernel
theorem dX0_add_11 : decode cX0_add 11 = .ok (.invokestatic 31, 3) := by decide +kernel
theorem dX0_add_14 : decode cX0_add 14 = .ok (.istore 9, 2) := by decide +kernel
theorem dX0_add_16 : decode cX0_add 16 = .ok (.aload_n 0, 1) := by decide +kernel
theorem dX0_add_17 : decode cX0_add 17 = .ok (.getfield 15, 3) := by decide +kernel
theorem dX0_add_20 : decode cX0_add 20 = .ok (.iload 9, 2) := by decide +kernel
theorem dX0_add_22 : decode cX0_add 22 = .ok (.bipush 6, 2) := by decide +kernel
theorem dX0_add_24 : decode cX0_add 24 = .ok (.imul, 1) := by decide +kernel
theorem dX0_add_25 : decode cX0_add 25 = .ok (.iconst 0, 1) := by decide +kernel
theorem dX0_add_26 : decode cX0_add 26 = .ok (.iadd, 1) := by decide +kernel
theorem dX0_add_27 : decode cX0_add 27 = .ok (.iload_n 2, 1) := by decide +kernel
theorem dX0_add_28 : decode cX0_add 28 = .ok (.iastore, 1) := by decide +kernel
theorem dX0_add_29 : decode cX0_add 29 = .ok (.aload_n 0, 1) := by decide +kernel
theorem dX0_add_30 : decode cX0_add 30 = .ok (.getfield 15, 3) := by decide +kernel
theorem dX0_add_33 : decode cX0_add 33 = .ok (.iload 9, 2) := by decide +kernel
theorem dX0_add_35 : decode cX0_add 35 = .ok (.bipush 6, 2) := by decide +kernel
theorem dX0_add_37 : decode cX0_add 37 = .ok (.imul, 1) := by decide +kernel
theorem dX0_add_38 : decode cX0_add 38 = .ok (.iconst 1, 1) := by decide +kernel
theorem dX0_add_39 : decode cX0_add 39 = .ok (.iadd, 1) := by decide +kernel
theorem dX0_add_40 : decode cX0_add 40 = .ok (.iload_n 3, 1) := by decide +kernel
theorem dX0_add_41 : decode cX0_add 41 = .ok (.iastore, 1) := by decide +kernel
theorem dX0_add_42 : decode cX0_add 42 = .ok (.aload_n 0, 1) := by decide +kernel
theorem dX0_add_43 : decode cX0_add 43 = .ok (.getfield 15, 3) := by decide +kernel
theorem dX0_add_46 : decode cX0_add 46 = .ok (.iload 9, 2) := by decide +kernel
theorem dX0_add_48 : decode cX0_add 48 = .ok (.bipush 6, 2) := by decide +kernel
theorem dX0_add_50 : decode cX0_add 50 = .ok (.imul, 1) := by decide +kernel
theorem dX0_add_51 : decode cX0_add 51 = .ok (.iconst 2, 1) := by decide +kernel
theorem dX0_add_52 : decode cX0_add 52 = .ok (.iadd, 1) := by decide +kernel
theorem dX0_add_53 : decode cX0_add 53 = .ok (.iload 4, 2) := by decide +kernel
theorem dX0_add_55 : decode cX0_add 55 = .ok (.iastore, 1) := by decide +kernel
theorem dX0_add_56 : decode cX0_add 56 = .ok (.aload_n 0, 1) := by decide +kernel
theorem dX0_add_57 : decode cX0_add 57 = .ok (.getfield 15, 3) := by decide +kernel
theorem dX0_add_60 : decode cX0_add 60 = .ok (.iload 9, 2) := by decide +kernel
theorem dX0_add_62 : decode cX0_add 62 = .ok (.bipush 6, 2) := by decide +kernel
theorem dX0_add_64 : decode cX0_add 64 = .ok (.imul, 1) := by decide +kernel
theorem dX0_add_65 : decode cX0_add 65 = .ok (.iconst 3, 1) := by decide +kernel
theorem dX0_add_66 : decode cX0_add 66 = .ok (.iadd, 1) := by decide +kernel
theorem dX0_add_67 : decode cX0_add 67 = .ok (.iload 5, 2) := by decide +kernel
theorem dX0_add_69 : decode cX0_add 69 = .ok (.iastore, 1) := by decide +kernel
theorem dX0_add_70 : decode cX0_add 70 = .ok (.aload_n 0, 1) := by decide +kernel
theorem dX0_add_71 : decode cX0_add 71 = .ok (.getfield 15, 3) := by decide +kernel
theorem dX0_add_74 : decode cX0_add 74 = .ok (.iload 9, 2) := by decide +kernel
theorem dX0_add_76 : decode cX0_add 76 = .ok (.bipush 6, 2) := by decide +kernel
theorem dX0_add_78 : decode cX0_add 78 = .ok (.imul, 1) := by decide +kernel
theorem dX0_add_79 : decode cX0_add 79 = .ok (.iconst 4, 1) := by decide +kernel
theorem dX0_add_80 : decode cX0_add 80 = .ok (.iadd, 1) := by decide +kernel
theorem dX0_add_81 : decode cX0_add 81 = .ok (.iload 6, 2) := by decide +kernel
theorem dX0_add_83 : decode cX0_add 83 = .ok (.iastore, 1) := by decide +kernel
theorem dX0_add_84 : decode cX0_add 84 = .ok (.aload_n 0, 1) := by decide +kernel
theorem dX0_add_85 : decode cX0_add 85 = .ok (.getfield 15, 3) := by decide +kernel
theorem dX0_add_88 : decode cX0_add 88 = .ok (.iload 9, 2) := by decide +kernel
theorem dX0_add_90 : decode cX0_add 90 = .ok (.bipush 6, 2) := by decide +kernel
theorem dX0_add_92 : decode cX0_add 92 = .ok (.imul, 1) := by decide +kernel
theorem dX0_add_93 : decode cX0_add 93 = .ok (.iconst 5, 1) := by decide +kernel
theorem dX0_add_94 : decode cX0_add 94 = .ok (.iadd, 1) := by decide +kernel
theorem dX0_add_95 : decode cX0_add 95 = .ok (.iload 7, 2) := by decide +kernel
theorem dX0_add_97 : decode cX0_add 97 = .ok (.iastore, 1) := by decide +kernel
theorem dX0_add_98 : decode cX0_add 98 = .ok (.aload_n 0, 1) := by decide +kernel
theorem dX0_add_99 : decode cX0_add 99 = .ok (.getfield 18, 3) := by decide +kernel
theorem dX0_add_102 : decode cX0_add 102 = .ok (.iload 9, 2) := by decide +kernel
theorem dX0_add_104 : decode cX0_add 104 = .ok (.aload_n 0, 1) := by decide +kernel
theorem dX0_add_105 : decode cX0_add 105 = .ok (.iload_n 1, 1) := by decide +kernel
theorem dX0_add_106 : decode cX0_add 106 = .ok (.iload 8, 2) := by decide +kernel
theorem dX0_add_108 : decode cX0_add 108 = .ok (.invokevirtual 35, 3) := by decide +kernel
theorem dX0_add_111 : decode cX0_add 111 = .ok (.iastore, 1) := by decide +kernel
theorem dX0_add_112 : decode cX0_add 112 = .ok (.aload_n 0, 1) := by decide +kernel
theorem dX0_add_113 : decode cX0_add 113 = .ok (.getfield 21, 3) := by decide +kernel
theorem dX0_add_116 : decode cX0_add 116 = .ok (.iload 9, 2) := by decide +kernel
theorem dX0_add_118 : decode cX0_add 118 = .ok (.iload_n 2, 1) := by decide +kernel
theorem dX0_add_119 : decode cX0_add 119 = .ok (.iload_n 3, 1) := by decide +kernel
theorem dX0_add_120 : decode cX0_add 120 = .ok (.iload 5, 2) := by decide +kernel
theorem dX0_add_122 : decode cX0_add 122 = .ok (.invokestatic 38, 3) := by decide +kernel
theorem dX0_add_125 : decode cX0_add 125 = .ok (.iastore, 1) := by decide +kernel
theorem dX0_add_126 : decode cX0_add 126 = .ok (.aload_n 0, 1) := by decide +kernel
theorem dX0_add_127 : decode cX0_add 127 = .ok (.getfield 24, 3) := by decide +kernel
theorem dX0_add_130 : decode cX0_add 130 = .ok (.iload 9, 2) := by decide +kernel
theorem dX0_add_132 : decode cX0_add 132 = .ok (.iload 5, 2) := by decide +kernel
theorem dX0_add_134 : decode cX0_add 134 = .ok (.iastore, 1) := by decide +kernel
theorem dX0_add_135 : decode cX0_add 135 = .ok (.aload_n 0, 1) := by decide +kernel
theorem dX0_add_136 : decode cX0_add 136 = .ok (.getfield 9, 3) := by decide +kernel
theorem dX0_add_139 : decode cX0_add 139 = .ok (.iload_n 1, 1) := by decide +kernel
theorem dX0_add_140 : decode cX0_add 140 = .ok (.iload 8, 2) := by decide +kernel
theorem dX0_add_142 : decode cX0_add 142 = .ok (.iconst 1, 1) := by decide +kernel
theorem dX0_add_143 : decode cX0_add 143 = .ok (.iadd, 1) := by decide +kernel
theorem dX0_add_144 : decode cX0_add 144 = .ok (.iastore, 1) := by decide +kernel
theorem dX0_add_145 : decode cX0_add 145 = .ok (.return_, 1) := by decide +kernel
set_option maxRecDepth 20000 in
theorem ggX0_putAmount_X0_row : GoodIn wsX0_putAmount wsX0_row := goodIn_r _ [5] (by decide +kernel) (by decide +kernel)
set_option maxRecDepth 20000 in
theorem gX0_putAmount_X0_row : GoodIn wsX0_putAmount (va_wsS RX0 31 yX0_row wsX0_row) := goodIn_app (goodIn_of _ (by decide +kernel)) ggX0_putAmount_X0_row
theorem dX0_putAmount_0 : decode cX0_putAmount 0 = .ok (.aload_n 0, 1) := by decide +kernel
theorem dX0_putAmount_1 : decode cX0_putAmount 1 = .ok (.getfield 15, 3) := by decide +kernel
theorem dX0_putAmount_4 : decode cX0_putAmount 4 = .ok (.iload_n 1, 1) := by decide +kernel
theorem dX0_putAmount_5 : decode cX0_putAmount 5 = .ok (.iload_n 2, 1) := by decide +kernel
theorem dX0_putAmount_6 : decode cX0_putAmount 6 = .ok (.invokestatic 31, 3) := by decide +kernel
theorem dX0_putAmount_9 : decode cX0_putAmount 9 = .ok (.bipush 6, 2) := by decide +kernel
theorem dX0_putAmount_11 : decode cX0_putAmount 11 = .ok (.imul, 1) := by decide +kernel
theorem dX0_putAmount_12 : decode cX0_putAmount 12 = .ok (.iconst 3, 1) := by decide +kernel
theorem dX0_putAmount_13 : decode cX0_putAmount 13 = .ok (.iadd, 1) := by decide +kernel
theorem dX0_putAmount_14 : decode cX0_putAmount 14 = .ok (.iload_n 3, 1) := by decide +kernel
theorem dX0_putAmount_15 : decode cX0_putAmount 15 = .ok (.iastore, 1) := by decide +kernel
theorem dX0_putAmount_16 : decode cX0_putAmount 16 = .ok (.return_, 1) := by decide +kernel
set_option maxRecDepth 20000 in
theorem ggX0_putAmountBack_X0_row : GoodIn wsX0_putAmountBack wsX0_row := goodIn_r _ [5] (by decide +kernel) (by decide +kernel)
set_option maxRecDepth 20000 in
theorem gX0_putAmountBack_X0_row : GoodIn wsX0_putAmountBack (va_wsS RX0 31 yX0_row wsX0_row) := goodIn_app (goodIn_of _ (by decide +kernel)) ggX0_putAmountBack_X0_row
set_option maxRecDepth 20000 in
theorem ggX0_putAmountBack_X0_putAmount : GoodIn wsX0_putAmountBack wsX0_putAmount := goodIn_r _ [9, 10, 2, 3, 4, 5, 11, 12, 13, 14, 15] (by decide +kernel) (by decide +kernel)
set_option maxRecDepth 20000 in
theorem gX0_putAmountBack_X0_putAmount : GoodIn wsX0_putAmountBack (wsV RX0 41 RX0 yX0_putAmount wsX0_putAmount) := goodIn_app (goodIn_of _ (by decide +kernel)) ggX0_putAmountBack_X0_putAmount
theorem dX0_putAmountBack_0 : decode cX0_putAmountBack 0 = .ok (.aload_n 0, 1) := by decide +kernel
theorem dX0_putAmountBack_1 : decode cX0_putAmountBack 1 = .ok (.iload_n 1, 1) := by decide +kernel
theorem dX0_putAmountBack_2 : decode cX0_putAmountBack 2 = .ok (.iload_n 2, 1) := by decide +kernel
theorem dX0_putAmountBack_3 : decode cX0_putAmountBack 3 = .ok (.aload_n 0, 1) := by decide +kernel
theorem dX0_putAmountBack_4 : decode cX0_putAmountBack 4 = .ok (.getfield 24, 3) := by decide +kernel
theorem dX0_putAmountBack_7 : decode cX0_putAmountBack 7 = .ok (.iload_n 1, 1) := by decide +kernel
theorem dX0_putAmountBack_8 : decode cX0_putAmountBack 8 = .ok (.iload_n 2, 1) := by decide +kernel
theorem dX0_putAmountBack_9 : decode cX0_putAmountBack 9 = .ok (.invokestatic 31, 3) := by decide +kernel
theorem dX0_putAmountBack_12 : decode cX0_putAmountBack 12 = .ok (.iaload, 1) := by decide +kernel
theorem dX0_putAmountBack_13 : decode cX0_putAmountBack 13 = .ok (.invokevirtual 41, 3) := by decide +kernel
theorem dX0_putAmountBack_16 : decode cX0_putAmountBack 16 = .ok (.return_, 1) := by decide +kernel
set_option maxRecDepth 20000 in
theorem ggX0_isBroken_X0_proof : GoodIn wsX0_isBroken wsX0_proof := goodIn_r _ [5, 6, 7, 8, 4, 9, 15, 16, 17, 18, 19] (by decide +kernel) (by decide +kernel)
set_option maxRecDepth 20000 in
theorem gX0_isBroken_X0_proof : GoodIn wsX0_isBroken (wsV RX0 49 RX0 yX0_proof wsX0_proof) := goodIn_app (goodIn_of _ (by decide +kernel)) ggX0_isBroken_X0_proof
set_option maxRecDepth 20000 in
theorem ggX0_isBroken_X0_proofMade : GoodIn wsX0_isBroken wsX0_proofMade := goodIn_r _ [13, 6, 14, 7, 8, 4, 9, 15, 16, 17, 18, 19] (by decide +kernel) (by decide +kernel)
set_option maxRecDepth 20000 in
theorem gX0_isBroken_X0_proofMade : GoodIn wsX0_isBroken (wsV RX0 35 RX0 yX0_proofMade wsX0_proofMade) := goodIn_app (goodIn_of _ (by decide +kernel)) ggX0_isBroken_X0_proofMade
theorem dX0_isBroken_0 : decode cX0_isBroken 0 = .ok (.aload_n 0, 1) := by decide +kernel
theorem dX0_isBroken_1 : decode cX0_isBroken 1 = .ok (.iload_n 1, 1) := by decide +kernel
theorem dX0_isBroken_2 : decode cX0_isBroken 2 = .ok (.iload_n 2, 1) := by decide +kernel
theorem dX0_isBroken_3 : decode cX0_isBroken 3 = .ok (.invokevirtual 49, 3) := by decide +kernel
theorem dX0_isBroken_6 : decode cX0_isBroken 6 = .ok (.aload_n 0, 1) := by decide +kernel
theorem dX0_isBroken_7 : decode cX0_isBroken 7 = .ok (.iload_n 1, 1) := by decide +kernel
theorem dX0_isBroken_8 : decode cX0_isBroken 8 = .ok (.iload_n 2, 1) := by decide +kernel
theorem dX0_isBroken_9 : decode cX0_isBroken 9 = .ok (.invokevirtual 35, 3) := by decide +kernel
theorem dX0_isBroken_12 : decode cX0_isBroken 12 = .ok (.if_icmp .eq 7, 3) := by decide +kernel
theorem dX0_isBroken_15 : decode cX0_isBroken 15 = .ok (.iconst 1, 1) := by decide +kernel
theorem dX0_isBroken_16 : decode cX0_isBroken 16 = .ok (.goto 4, 3) := by decide +kernel
theorem dX0_isBroken_19 : decode cX0_isBroken 19 = .ok (.iconst 0, 1) := by decide +kernel
theorem dX0_isBroken_20 : decode cX0_isBroken 20 = .ok (.ireturn, 1) := by decide +kernel
set_option maxRecDepth 20000 in
theorem ggX0_firstBroken_X0_isBroken : GoodIn wsX0_firstBroken wsX0_isBroken := goodIn_r _ [6, 7, 8, 9, 5, 10, 11, 12, 13, 14, 15, 16, 17, 18, 19, 20, 21, 22, 23, 24] (by decide +kernel) (by decide +kernel)
set_option maxRecDepth 20000 in
theorem gX0_firstBroken_X0_isBroken : GoodIn wsX0_firstBroken (wsV RX0 52 RX0 yX0_isBroken wsX0_isBroken) := goodIn_app (goodIn_of _ (by decide +kernel)) ggX0_firstBroken_X0_isBroken
theorem dX0_firstBroken_0 : decode cX0_firstBroken 0 = .ok (.iconst 0, 1) := by decide +kernel
theorem dX0_firstBroken_1 : decode cX0_firstBroken 1 = .ok (.istore_n 2, 1) := by decide +kernel
theorem dX0_firstBroken_2 : decode cX0_firstBroken 2 = .ok (.iload_n 2, 1) := by decide +kernel
theorem dX0_firstBroken_3 : decode cX0_firstBroken 3 = .ok (.aload_n 0, 1) := by decide +kernel
theorem dX0_firstBroken_4 : decode cX0_firstBroken 4 = .ok (.getfield 9, 3) := by decide +kernel
theorem dX0_firstBroken_7 : decode cX0_firstBroken 7 = .ok (.iload_n 1, 1) := by decide +kernel
theorem dX0_firstBroken_8 : decode cX0_firstBroken 8 = .ok (.iaload, 1) := by decide +kernel
theorem dX0_firstBroken_9 : decode cX0_firstBroken 9 = .ok (.if_icmp .ge 20, 3) := by decide +kernel
theorem dX0_firstBroken_12 : decode cX0_firstBroken 12 = .ok (.aload_n 0, 1) := by decide +kernel
theorem dX0_firstBroken_13 : decode cX0_firstBroken 13 = .ok (.iload_n 1, 1) := by decide +kernel
theorem dX0_firstBroken_14 : decode cX0_firstBroken 14 = .ok (.iload_n 2, 1) := by decide +kernel
theorem dX0_firstBroken_15 : decode cX0_firstBroken 15 = .ok (.invokevirtual 52, 3) := by decide +kernel
theorem dX0_firstBroken_18 : decode cX0_firstBroken 18 = .ok (.ifCond .eq 5, 3) := by decide +kernel
theorem dX0_firstBroken_21 : decode cX0_firstBroken 21 = .ok (.iload_n 2, 1) := by decide +kernel
theorem dX0_firstBroken_22 : decode cX0_firstBroken 22 = .ok (.ireturn, 1) := by decide +kernel
theorem dX0_firstBroken_23 : decode cX0_firstBroken 23 = .ok (.iinc 2 1, 3) := by decide +kernel
theorem dX0_firstBroken_26 : decode cX0_firstBroken 26 = .ok (.goto (-24), 3) := by decide +kernel
theorem dX0_firstBroken_29 : decode cX0_firstBroken 29 = .ok (.iconst (-1), 1) := by decide +kernel
theorem dX0_firstBroken_30 : decode cX0_firstBroken 30 = .ok (.ireturn, 1) := by decide +kernel
set_option maxRecDepth 20000 in
theorem ggX0_reach_X1_isIn : GoodIn wsX0_reach wsX1_isIn := goodIn_r _ [3] (by decide +kernel) (by decide +kernel)
set_option maxRecDepth 20000 in
theorem gX0_reach_X1_isIn_n45 : GoodIn wsX0_reach (wsX1_isIn) := ggX0_reach_X1_isIn
set_option maxRecDepth 20000 in
theorem ggX0_reach_X0_toldPallets : GoodIn wsX0_reach wsX0_toldPallets := goodIn_r _ [8, 9, 10, 11, 12, 7, 13, 14, 15, 16, 17, 18, 19, 20, 21, 22] (by decide +kernel) (by decide +kernel)
set_option maxRecDepth 20000 in
theorem gX0_reach_X0_toldPallets : GoodIn wsX0_reach (wsV RX0 55 RX0 yX0_toldPallets wsX0_toldPallets) := goodIn_app (goodIn_of _ (by decide +kernel)) ggX0_reach_X0_toldPallets
theorem dX0_reach_0 : decode cX0_reach 0 = .ok (.iconst 1, 1) := by decide +kernel
theorem dX0_reach_1 : decode cX0_reach 1 = .ok (.iload_n 1, 1) := by decide +kernel
theorem dX0_reach_2 : decode cX0_reach 2 = .ok (.ishl, 1) := by decide +kernel
theorem dX0_reach_3 : decode cX0_reach 3 = .ok (.istore_n 3, 1) := by decide +kernel
theorem dX0_reach_4 : decode cX0_reach 4 = .ok (.iconst 0, 1) := by decide +kernel
theorem dX0_reach_5 : decode cX0_reach 5 = .ok (.istore 4, 2) := by decide +kernel
theorem dX0_reach_7 : decode cX0_reach 7 = .ok (.iconst 0, 1) := by decide +kernel
theorem dX0_reach_8 : decode cX0_reach 8 = .ok (.istore 5, 2) := by decide +kernel
theorem dX0_reach_10 : decode cX0_reach 10 = .ok (.iload 5, 2) := by decide +kernel
theorem dX0_reach_12 : decode cX0_reach 12 = .ok (.bipush 14, 2) := by decide +kernel
theorem dX0_reach_14 : decode cX0_reach 14 = .ok (.if_icmp .ge 69, 3) := by decide +kernel
theorem dX0_reach_17 : decode cX0_reach 17 = .ok (.iload 4, 2) := by decide +kernel
theorem dX0_reach_19 : decode cX0_reach 19 = .ok (.iload_n 3, 1) := by decide +kernel
theorem dX0_reach_20 : decode cX0_reach 20 = .ok (.if_icmp .eq 63, 3) := by decide +kernel
theorem dX0_reach_23 : decode cX0_reach 23 = .ok (.iconst 0, 1) := by decide +kernel
theorem dX0_reach_24 : decode cX0_reach 24 = .ok (.istore 6, 2) := by decide +kernel
theorem dX0_reach_26 : decode cX0_reach 26 = .ok (.iload 6, 2) := by decide +kernel
theorem dX0_reach_28 : decode cX0_reach 28 = .ok (.bipush 14, 2) := by decide +kernel
theorem dX0_reach_30 : decode cX0_reach 30 = .ok (.if_icmp .ge 47, 3) := by decide +kernel
theorem dX0_reach_33 : decode cX0_reach 33 = .ok (.iload_n 3, 1) := by decide +kernel
theorem dX0_reach_34 : decode cX0_reach 34 = .ok (.iload 6, 2) := by decide +kernel
theorem dX0_reach_36 : decode cX0_reach 36 = .ok (.invokestatic 45, 3) := by decide +kernel
theorem dX0_reach_39 : decode cX0_reach 39 = .ok (.ifCond .eq 32, 3) := by decide +kernel
theorem dX0_reach_42 : decode cX0_reach 42 = .ok (.iload 4, 2) := by decide +kernel
theorem dX0_reach_44 : decode cX0_reach 44 = .ok (.iload 6, 2) := by decide +kernel
theorem dX0_reach_46 : decode cX0_reach 46 = .ok (.invokestatic 45, 3) := by decide +kernel
theorem dX0_reach_49 : decode cX0_reach 49 = .ok (.ifCond .ne 22, 3) := by decide +kernel
theorem dX0_reach_52 : decode cX0_reach 52 = .ok (.iload 4, 2) := by decide +kernel
theorem dX0_reach_54 : decode cX0_reach 54 = .ok (.iconst 1, 1) := by decide +kernel
theorem dX0_reach_55 : decode cX0_reach 55 = .ok (.iload 6, 2) := by decide +kernel
theorem dX0_reach_57 : decode cX0_reach 57 = .ok (.ishl, 1) := by decide +kernel
theorem dX0_reach_58 : decode cX0_reach 58 = .ok (.ior, 1) := by decide +kernel
theorem dX0_reach_59 : decode cX0_reach 59 = .ok (.istore 4, 2) := by decide +kernel
theorem dX0_reach_61 : decode cX0_reach 61 = .ok (.iload_n 3, 1) := by decide +kernel
theorem dX0_reach_62 : decode cX0_reach 62 = .ok (.aload_n 0, 1) := by decide +kernel
theorem dX0_reach_63 : decode cX0_reach 63 = .ok (.iload 6, 2) := by decide +kernel
theorem dX0_reach_65 : decode cX0_reach 65 = .ok (.iload_n 2, 1) := by decide +kernel
theorem dX0_reach_66 : decode cX0_reach 66 = .ok (.invokevirtual 55, 3) := by decide +kernel
theorem dX0_reach_69 : decode cX0_reach 69 = .ok (.ior, 1) := by decide +kernel
theorem dX0_reach_70 : decode cX0_reach 70 = .ok (.istore_n 3, 1) := by decide +kernel
theorem dX0_reach_71 : decode cX0_reach 71 = .ok (.iinc 6 1, 3) := by decide +kernel
theorem dX0_reach_74 : decode cX0_reach 74 = .ok (.goto (-48), 3) := by decide +kernel
theorem dX0_reach_77 : decode cX0_reach 77 = .ok (.iinc 5 1, 3) := by decide +kernel
theorem dX0_reach_80 : decode cX0_reach 80 = .ok (.goto (-70), 3) := by decide +kernel
theorem dX0_reach_83 : decode cX0_reach 83 = .ok (.iload_n 3, 1) := by decide +kernel
theorem dX0_reach_84 : decode cX0_reach 84 = .ok (.ireturn, 1) := by decide +kernel
set_option maxRecDepth 20000 in
theorem ggX0_toldByOwnEntries_X0_number : GoodIn wsX0_toldByOwnEntries wsX0_number := goodIn_r _ [6, 7, 8, 9, 5, 10, 14, 15, 16, 17, 18] (by decide +kernel) (by decide +kernel)
set_option maxRecDepth 20000 in
theorem gX0_toldByOwnEntries_X0_number : GoodIn wsX0_toldByOwnEntries (wsV RX0 27 RX0 yX0_number wsX0_number) := goodIn_app (goodIn_of _ (by decide +kernel)) ggX0_toldByOwnEntries_X0_number
set_option maxRecDepth 20000 in
theorem ggX0_toldByOwnEntries_X0_sign : GoodIn wsX0_toldByOwnEntries wsX0_sign := goodIn_r _ [13] (by decide +kernel) (by decide +kernel)
set_option maxRecDepth 20000 in
theorem gX0_toldByOwnEntries_X0_sign : GoodIn wsX0_toldByOwnEntries (va_wsS RX0 59 yX0_sign wsX0_sign) := goodIn_app (goodIn_of _ (by decide +kernel)) ggX0_toldByOwnEntries_X0_sign
theorem dX0_toldByOwnEntries_0 : decode cX0_toldByOwnEntries 0 = .ok (.iconst 0, 1) := by decide +kernel
theorem dX0_toldByOwnEntries_1 : decode cX0_toldByOwnEntries 1 = .ok (.istore_n 3, 1) := by decide +kernel
theorem dX0_toldByOwnEntries_2 : decode cX0_toldByOwnEntries 2 = .ok (.iconst 0, 1) := by decide +kernel
theorem dX0_toldByOwnEntries_3 : decode cX0_toldByOwnEntries 3 = .ok (.istore 4, 2) := by decide +kernel
theorem dX0_toldByOwnEntries_5 : decode cX0_toldByOwnEntries 5 = .ok (.iload 4, 2) := by decide +kernel
theorem dX0_toldByOwnEntries_7 : decode cX0_toldByOwnEntries 7 = .ok (.aload_n 0, 1) := by decide +kernel
theorem dX0_toldByOwnEntries_8 : decode cX0_toldByOwnEntries 8 = .ok (.getfield 9, 3) := by decide +kernel
theorem dX0_toldByOwnEntries_11 : decode cX0_toldByOwnEntries 11 = .ok (.iload_n 1, 1) := by decide +kernel
theorem dX0_toldByOwnEntries_12 : decode cX0_toldByOwnEntries 12 = .ok (.iaload, 1) := by decide +kernel
theorem dX0_toldByOwnEntries_13 : decode cX0_toldByOwnEntries 13 = .ok (.if_icmp .ge 44, 3) := by decide +kernel
theorem dX0_toldByOwnEntries_16 : decode cX0_toldByOwnEntries 16 = .ok (.aload_n 0, 1) := by decide +kernel
theorem dX0_toldByOwnEntries_17 : decode cX0_toldByOwnEntries 17 = .ok (.iload_n 1, 1) := by decide +kernel
theorem dX0_toldByOwnEntries_18 : decode cX0_toldByOwnEntries 18 = .ok (.iload 4, 2) := by decide +kernel
theorem dX0_toldByOwnEntries_20 : decode cX0_toldByOwnEntries 20 = .ok (.iconst 2, 1) := by decide +kernel
theorem dX0_toldByOwnEntries_21 : decode cX0_toldByOwnEntries 21 = .ok (.invokevirtual 27, 3) := by decide +kernel
theorem dX0_toldByOwnEntries_24 : decode cX0_toldByOwnEntries 24 = .ok (.iload_n 2, 1) := by decide +kernel
theorem dX0_toldByOwnEntries_25 : decode cX0_toldByOwnEntries 25 = .ok (.if_icmp .ne 26, 3) := by decide +kernel
theorem dX0_toldByOwnEntries_28 : decode cX0_toldByOwnEntries 28 = .ok (.iload_n 3, 1) := by decide +kernel
theorem dX0_toldByOwnEntries_29 : decode cX0_toldByOwnEntries 29 = .ok (.aload_n 0, 1) := by decide +kernel
theorem dX0_toldByOwnEntries_30 : decode cX0_toldByOwnEntries 30 = .ok (.iload_n 1, 1) := by decide +kernel
theorem dX0_toldByOwnEntries_31 : decode cX0_toldByOwnEntries 31 = .ok (.iload 4, 2) := by decide +kernel
theorem dX0_toldByOwnEntries_33 : decode cX0_toldByOwnEntries 33 = .ok (.iconst 0, 1) := by decide +kernel
theorem dX0_toldByOwnEntries_34 : decode cX0_toldByOwnEntries 34 = .ok (.invokevirtual 27, 3) := by decide +kernel
theorem dX0_toldByOwnEntries_37 : decode cX0_toldByOwnEntries 37 = .ok (.invokestatic 59, 3) := by decide +kernel
theorem dX0_toldByOwnEntries_40 : decode cX0_toldByOwnEntries 40 = .ok (.aload_n 0, 1) := by decide +kernel
theorem dX0_toldByOwnEntries_41 : decode cX0_toldByOwnEntries 41 = .ok (.iload_n 1, 1) := by decide +kernel
theorem dX0_toldByOwnEntries_42 : decode cX0_toldByOwnEntries 42 = .ok (.iload 4, 2) := by decide +kernel
theorem dX0_toldByOwnEntries_44 : decode cX0_toldByOwnEntries 44 = .ok (.iconst 3, 1) := by decide +kernel
theorem dX0_toldByOwnEntries_45 : decode cX0_toldByOwnEntries 45 = .ok (.invokevirtual 27, 3) := by decide +kernel
theorem dX0_toldByOwnEntries_48 : decode cX0_toldByOwnEntries 48 = .ok (.imul, 1) := by decide +kernel
theorem dX0_toldByOwnEntries_49 : decode cX0_toldByOwnEntries 49 = .ok (.iadd, 1) := by decide +kernel
theorem dX0_toldByOwnEntries_50 : decode cX0_toldByOwnEntries 50 = .ok (.istore_n 3, 1) := by decide +kernel
theorem dX0_toldByOwnEntries_51 : decode cX0_toldByOwnEntries 51 = .ok (.iinc 4 1, 3) := by decide +kernel
theorem dX0_toldByOwnEntries_54 : decode cX0_toldByOwnEntries 54 = .ok (.goto (-49), 3) := by decide +kernel
theorem dX0_toldByOwnEntries_57 : decode cX0_toldByOwnEntries 57 = .ok (.iload_n 3, 1) := by decide +kernel
theorem dX0_toldByOwnEntries_58 : decode cX0_toldByOwnEntries 58 = .ok (.ireturn, 1) := by decide +kernel
theorem dX0_row_0 : decode cX0_row 0 = .ok (.iload_n 0, 1) := by decide +kernel
theorem dX0_row_1 : decode cX0_row 1 = .ok (.bipush 30, 2) := by decide +kernel
theorem dX0_row_3 : decode cX0_row 3 = .ok (.imul, 1) := by decide +kernel
theorem dX0_row_4 : decode cX0_row 4 = .ok (.iload_n 1, 1) := by decide +kernel
theorem dX0_row_5 : decode cX0_row 5 = .ok (.iadd, 1) := by decide +kernel
theorem dX0_row_6 : decode cX0_row 6 = .ok (.ireturn, 1) := by decide +kernel
set_option maxRecDepth 20000 in
theorem ggX0_proofMade_X0_row : GoodIn wsX0_proofMade wsX0_row := goodIn_r _ [6] (by decide +kernel) (by decide +kernel)
set_option maxRecDepth 20000 in
theorem gX0_proofMade_X0_row : GoodIn wsX0_proofMade (va_wsS RX0 31 yX0_row wsX0_row) := goodIn_app (goodIn_of _ (by decide +kernel)) ggX0_proofMade_X0_row
theorem dX0_proofMade_0 : decode cX0_proofMade 0 = .ok (.iload_n 1, 1) := by decide +kernel
theorem dX0_proofMade_1 : decode cX0_proofMade 1 = .ok (.iload_n 2, 1) := by decide +kernel
theorem dX0_proofMade_2 : decode cX0_proofMade 2 = .ok (.invokestatic 31, 3) := by decide +kernel
theorem dX0_proofMade_5 : decode cX0_proofMade 5 = .ok (.istore_n 3, 1) := by decide +kernel
theorem dX0_proofMade_6 : decode cX0_proofMade 6 = .ok (.iload_n 2, 1) := by decide +kernel
theorem dX0_proofMade_7 : decode cX0_proofMade 7 = .ok (.ifCond .ne 8, 3) := by decide +kernel
theorem dX0_proofMade_10 : decode cX0_proofMade 10 = .ok (.bipush 17, 2) := by decide +kernel
theorem dX0_proofMade_12 : decode cX0_proofMade 12 = .ok (.goto 11, 3) := by decide +kernel
theorem dX0_proofMade_15 : decode cX0_proofMade 15 = .ok (.aload_n 0, 1) := by decide +kernel
theorem dX0_proofMade_16 : decode cX0_proofMade 16 = .ok (.getfield 18, 3) := by decide +kernel
theorem dX0_proofMade_19 : decode cX0_proofMade 19 = .ok (.iload_n 3, 1) := by decide +kernel
theorem dX0_proofMade_20 : decode cX0_proofMade 20 = .ok (.iconst 1, 1) := by decide +kernel
theorem dX0_proofMade_21 : decode cX0_proofMade 21 = .ok (.isub, 1) := by decide +kernel
theorem dX0_proofMade_22 : decode cX0_proofMade 22 = .ok (.iaload, 1) := by decide +kernel
theorem dX0_proofMade_23 : decode cX0_proofMade 23 = .ok (.istore 4, 2) := by decide +kernel
theorem dX0_proofMade_25 : decode cX0_proofMade 25 = .ok (.iconst 0, 1) := by decide +kernel
theorem dX0_proofMade_26 : decode cX0_proofMade 26 = .ok (.istore 5, 2) := by decide +kernel
theorem dX0_proofMade_28 : decode cX0_proofMade 28 = .ok (.iload 5, 2) := by decide +kernel
theorem dX0_proofMade_30 : decode cX0_proofMade 30 = .ok (.bipush 6, 2) := by decide +kernel
theorem dX0_proofMade_32 : decode cX0_proofMade 32 = .ok (.if_icmp .ge 29, 3) := by decide +kernel
theorem dX0_proofMade_35 : decode cX0_proofMade 35 = .ok (.bipush 31, 2) := by decide +kernel
theorem dX0_proofMade_37 : decode cX0_proofMade 37 = .ok (.iload 4, 2) := by decide +kernel
theorem dX0_proofMade_39 : decode cX0_proofMade 39 = .ok (.imul, 1) := by decide +kernel
theorem dX0_proofMade_40 : decode cX0_proofMade 40 = .ok (.aload_n 0, 1) := by decide +kernel
theorem dX0_proofMade_41 : decode cX0_proofMade 41 = .ok (.getfield 15, 3) := by decide +kernel
theorem dX0_proofMade_44 : decode cX0_proofMade 44 = .ok (.iload_n 3, 1) := by decide +kernel
theorem dX0_proofMade_45 : decode cX0_proofMade 45 = .ok (.bipush 6, 2) := by decide +kernel
theorem dX0_proofMade_47 : decode cX0_proofMade 47 = .ok (.imul, 1) := by decide +kernel
theorem dX0_proofMade_48 : decode cX0_proofMade 48 = .ok (.iload 5, 2) := by decide +kernel
theorem dX0_proofMade_50 : decode cX0_proofMade 50 = .ok (.iadd, 1) := by decide +kernel
theorem dX0_proofMade_51 : decode cX0_proofMade 51 = .ok (.iaload, 1) := by decide +kernel
theorem dX0_proofMade_52 : decode cX0_proofMade 52 = .ok (.iadd, 1) := by decide +kernel
theorem dX0_proofMade_53 : decode cX0_proofMade 53 = .ok (.istore 4, 2) := by decide +kernel
theorem dX0_proofMade_55 : decode cX0_proofMade 55 = .ok (.iinc 5 1, 3) := by decide +kernel
theorem dX0_proofMade_58 : decode cX0_proofMade 58 = .ok (.goto (-30), 3) := by decide +kernel
theorem dX0_proofMade_61 : decode cX0_proofMade 61 = .ok (.iload 4, 2) := by decide +kernel
theorem dX0_proofMade_63 : decode cX0_proofMade 63 = .ok (.ireturn, 1) := by decide +kernel
theorem dX0_witnesses_0 : decode cX0_witnesses 0 = .ok (.iconst 1, 1) := by decide +kernel
theorem dX0_witnesses_1 : decode cX0_witnesses 1 = .ok (.iload_n 1, 1) := by decide +kernel
theorem dX0_witnesses_2 : decode cX0_witnesses 2 = .ok (.ishl, 1) := by decide +kernel
theorem dX0_witnesses_3 : decode cX0_witnesses 3 = .ok (.istore_n 3, 1) := by decide +kernel
theorem dX0_witnesses_4 : decode cX0_witnesses 4 = .ok (.iload_n 0, 1) := by decide +kernel
theorem dX0_witnesses_5 : decode cX0_witnesses 5 = .ok (.bipush 7, 2) := by decide +kernel
theorem dX0_witnesses_7 : decode cX0_witnesses 7 = .ok (.if_icmp .ne 9, 3) := by decide +kernel
theorem dX0_witnesses_10 : decode cX0_witnesses 10 = .ok (.iload_n 3, 1) := by decide +kernel
theorem dX0_witnesses_11 : decode cX0_witnesses 11 = .ok (.iconst 1, 1) := by decide +kernel
theorem dX0_witnesses_12 : decode cX0_witnesses 12 = .ok (.iload_n 2, 1) := by decide +kernel
theorem dX0_witnesses_13 : decode cX0_witnesses 13 = .ok (.ishl, 1) := by decide +kernel
theorem dX0_witnesses_14 : decode cX0_witnesses 14 = .ok (.ior, 1) := by decide +kernel
theorem dX0_witnesses_15 : decode cX0_witnesses 15 = .ok (.istore_n 3, 1) := by decide +kernel
theorem dX0_witnesses_16 : decode cX0_witnesses 16 = .ok (.iload_n 0, 1) := by decide +kernel
theorem dX0_witnesses_17 : decode cX0_witnesses 17 = .ok (.iconst 5, 1) := by decide +kernel
theorem dX0_witnesses_18 : decode cX0_witnesses 18 = .ok (.if_icmp .eq 8, 3) := by decide +kernel
theorem dX0_witnesses_21 : decode cX0_witnesses 21 = .ok (.iload_n 0, 1) := by decide +kernel
theorem dX0_witnesses_22 : decode cX0_witnesses 22 = .ok (.iconst 3, 1) := by decide +kernel
theorem dX0_witnesses_23 : decode cX0_witnesses 23 = .ok (.if_icmp .ne 8, 3) := by decide +kernel
theorem dX0_witnesses_26 : decode cX0_witnesses 26 = .ok (.iload_n 3, 1) := by decide +kernel
theorem dX0_witnesses_27 : decode cX0_witnesses 27 = .ok (.bipush 64, 2) := by decide +kernel
theorem dX0_witnesses_29 : decode cX0_witnesses 29 = .ok (.ior, 1) := by decide +kernel
theorem dX0_witnesses_30 : decode cX0_witnesses 30 = .ok (.istore_n 3, 1) := by decide +kernel
theorem dX0_witnesses_31 : decode cX0_witnesses 31 = .ok (.iload_n 3, 1) := by decide +kernel
theorem dX0_witnesses_32 : decode cX0_witnesses 32 = .ok (.ireturn, 1) := by decide +kernel
set_option maxRecDepth 20000 in
theorem ggX0_toldPallets_X0_number : GoodIn wsX0_toldPallets wsX0_number := goodIn_r _ [6, 7, 8, 9, 5, 10, 11, 12, 13, 14, 15] (by decide +kernel) (by decide +kernel)
set_option maxRecDepth 20000 in
theorem gX0_toldPallets_X0_number : GoodIn wsX0_toldPallets (wsV RX0 27 RX0 yX0_number wsX0_number) := goodIn_app (goodIn_of _ (by decide +kernel)) ggX0_toldPallets_X0_number
theorem dX0_toldPallets_0 : decode cX0_toldPallets 0 = .ok (.iconst 0, 1) := by decide +kernel
theorem dX0_toldPallets_1 : decode cX0_toldPallets 1 = .ok (.istore_n 3, 1) := by decide +kernel
theorem dX0_toldPallets_2 : decode cX0_toldPallets 2 = .ok (.iconst 0, 1) := by decide +kernel
theorem dX0_toldPallets_3 : decode cX0_toldPallets 3 = .ok (.istore 4, 2) := by decide +kernel
theorem dX0_toldPallets_5 : decode cX0_toldPallets 5 = .ok (.iload 4, 2) := by decide +kernel
theorem dX0_toldPallets_7 : decode cX0_toldPallets 7 = .ok (.aload_n 0, 1) := by decide +kernel
theorem dX0_toldPallets_8 : decode cX0_toldPallets 8 = .ok (.getfield 9, 3) := by decide +kernel
theorem dX0_toldPallets_11 : decode cX0_toldPallets 11 = .ok (.iload_n 1, 1) := by decide +kernel
theorem dX0_toldPallets_12 : decode cX0_toldPallets 12 = .ok (.iaload, 1) := by decide +kernel
theorem dX0_toldPallets_13 : decode cX0_toldPallets 13 = .ok (.if_icmp .ge 48, 3) := by decide +kernel
theorem dX0_toldPallets_16 : decode cX0_toldPallets 16 = .ok (.aload_n 0, 1) := by decide +kernel
theorem dX0_toldPallets_17 : decode cX0_toldPallets 17 = .ok (.iload_n 1, 1) := by decide +kernel
theorem dX0_toldPallets_18 : decode cX0_toldPallets 18 = .ok (.iload 4, 2) := by decide +kernel
theorem dX0_toldPallets_20 : decode cX0_toldPallets 20 = .ok (.iconst 0, 1) := by decide +kernel
theorem dX0_toldPallets_21 : decode cX0_toldPallets 21 = .ok (.invokevirtual 27, 3) := by decide +kernel
theorem dX0_toldPallets_24 : decode cX0_toldPallets 24 = .ok (.istore 5, 2) := by decide +kernel
theorem dX0_toldPallets_26 : decode cX0_toldPallets 26 = .ok (.iload 5, 2) := by decide +kernel
theorem dX0_toldPallets_28 : decode cX0_toldPallets 28 = .ok (.iconst 5, 1) := by decide +kernel
theorem dX0_toldPallets_29 : decode cX0_toldPallets 29 = .ok (.if_icmp .eq 13, 3) := by decide +kernel
theorem dX0_toldPallets_32 : decode cX0_toldPallets 32 = .ok (.iload 5, 2) := by decide +kernel
theorem dX0_toldPallets_34 : decode cX0_toldPallets 34 = .ok (.iconst 4, 1) := by decide +kernel
theorem dX0_toldPallets_35 : decode cX0_toldPallets 35 = .ok (.if_icmp .ne 20, 3) := by decide +kernel
theorem dX0_toldPallets_38 : decode cX0_toldPallets 38 = .ok (.iload_n 2, 1) := by decide +kernel
theorem dX0_toldPallets_39 : decode cX0_toldPallets 39 = .ok (.ifCond .eq 16, 3) := by decide +kernel
theorem dX0_toldPallets_42 : decode cX0_toldPallets 42 = .ok (.iload_n 3, 1) := by decide +kernel
theorem dX0_toldPallets_43 : decode cX0_toldPallets 43 = .ok (.iconst 1, 1) := by decide +kernel
theorem dX0_toldPallets_44 : decode cX0_toldPallets 44 = .ok (.aload_n 0, 1) := by decide +kernel
theorem dX0_toldPallets_45 : decode cX0_toldPallets 45 = .ok (.iload_n 1, 1) := by decide +kernel
theorem dX0_toldPallets_46 : decode cX0_toldPallets 46 = .ok (.iload 4, 2) := by decide +kernel
theorem dX0_toldPallets_48 : decode cX0_toldPallets 48 = .ok (.iconst 4, 1) := by decide +kernel
theorem dX0_toldPallets_49 : decode cX0_toldPallets 49 = .ok (.invokevirtual 27, 3) := by decide +kernel
theorem dX0_toldPallets_52 : decode cX0_toldPallets 52 = .ok (.ishl, 1) := by decide +kernel
theorem dX0_toldPallets_53 : decode cX0_toldPallets 53 = .ok (.ior, 1) := by decide +kernel
theorem dX0_toldPallets_54 : decode cX0_toldPallets 54 = .ok (.istore_n 3, 1) := by decide +kernel
theorem dX0_toldPallets_55 : decode cX0_toldPallets 55 = .ok (.iinc 4 1, 3) := by decide +kernel
theorem dX0_toldPallets_58 : decode cX0_toldPallets 58 = .ok (.goto (-53), 3) := by decide +kernel
theorem dX0_toldPallets_61 : decode cX0_toldPallets 61 = .ok (.iload_n 3, 1) := by decide +kernel
theorem dX0_toldPallets_62 : decode cX0_toldPallets 62 = .ok (.ireturn, 1) := by decide +kernel
theorem dX0_sign_0 : decode cX0_sign 0 = .ok (.iload_n 0, 1) := by decide +kernel
theorem dX0_sign_1 : decode cX0_sign 1 = .ok (.tableswitch 35 1 4 #[31, 33, 33, 31], 31) := by decide +kernel
theorem dX0_sign_32 : decode cX0_sign 32 = .ok (.iconst 1, 1) := by decide +kernel
theorem dX0_sign_33 : decode cX0_sign 33 = .ok (.ireturn, 1) := by decide +kernel
theorem dX0_sign_34 : decode cX0_sign 34 = .ok (.iconst (-1), 1) := by decide +kernel
theorem dX0_sign_35 : decode cX0_sign 35 = .ok (.ireturn, 1) := by decide +kernel
theorem dX0_sign_36 : decode cX0_sign 36 = .ok (.iconst 0, 1) := by decide +kernel
theorem dX0_sign_37 : decode cX0_sign 37 = .ok (.ireturn, 1) := by decide +kernel
