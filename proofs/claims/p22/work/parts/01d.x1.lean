set_option maxRecDepth 20000 in
theorem ggX1_init_X0_init : GoodIn wsX1_init wsX0_init := goodIn_r _ [15, 16, 2, 3, 8, 17, 18, 19, 20, 21, 22, 23, 24, 25, 26] (by decide +kernel) (by decide +kernel)
set_option maxRecDepth 20000 in
theorem gX1_init_X0_init_n9 : GoodIn wsX1_init (wsX0_init) := ggX1_init_X0_init
theorem dX1_init_0 : decode cX1_init 0 = .ok (.aload_n 0, 1) := by decide +kernel
theorem dX1_init_1 : decode cX1_init 1 = .ok (.invokespecial 1, 3) := by decide +kernel
theorem dX1_init_4 : decode cX1_init 4 = .ok (.aload_n 0, 1) := by decide +kernel
theorem dX1_init_5 : decode cX1_init 5 = .ok (.new 7, 3) := by decide +kernel
theorem dX1_init_8 : decode cX1_init 8 = .ok (.dup, 1) := by decide +kernel
theorem dX1_init_9 : decode cX1_init 9 = .ok (.invokespecial 9, 3) := by decide +kernel
theorem dX1_init_12 : decode cX1_init 12 = .ok (.putfield 10, 3) := by decide +kernel
theorem dX1_init_15 : decode cX1_init 15 = .ok (.aload_n 0, 1) := by decide +kernel
theorem dX1_init_16 : decode cX1_init 16 = .ok (.bipush 14, 2) := by decide +kernel
theorem dX1_init_18 : decode cX1_init 18 = .ok (.newarray .int, 2) := by decide +kernel
theorem dX1_init_20 : decode cX1_init 20 = .ok (.putfield 16, 3) := by decide +kernel
theorem dX1_init_23 : decode cX1_init 23 = .ok (.aload_n 0, 1) := by decide +kernel
theorem dX1_init_24 : decode cX1_init 24 = .ok (.bipush 84, 2) := by decide +kernel
theorem dX1_init_26 : decode cX1_init 26 = .ok (.newarray .int, 2) := by decide +kernel
theorem dX1_init_28 : decode cX1_init 28 = .ok (.putfield 20, 3) := by decide +kernel
theorem dX1_init_31 : decode cX1_init 31 = .ok (.aload_n 0, 1) := by decide +kernel
theorem dX1_init_32 : decode cX1_init 32 = .ok (.bipush 12, 2) := by decide +kernel
theorem dX1_init_34 : decode cX1_init 34 = .ok (.newarray .int, 2) := by decide +kernel
theorem dX1_init_36 : decode cX1_init 36 = .ok (.putfield 23, 3) := by decide +kernel
theorem dX1_init_39 : decode cX1_init 39 = .ok (.aload_n 0, 1) := by decide +kernel
theorem dX1_init_40 : decode cX1_init 40 = .ok (.bipush 10, 2) := by decide +kernel
theorem dX1_init_42 : decode cX1_init 42 = .ok (.newarray .int, 2) := by decide +kernel
theorem dX1_init_44 : decode cX1_init 44 = .ok (.putfield 26, 3) := by decide +kernel
theorem dX1_init_47 : decode cX1_init 47 = .ok (.aload_n 0, 1) := by decide +kernel
theorem dX1_init_48 : decode cX1_init 48 = .ok (.bipush 7, 2) := by decide +kernel
theorem dX1_init_50 : decode cX1_init 50 = .ok (.newarray .int, 2) := by decide +kernel
theorem dX1_init_52 : decode cX1_init 52 = .ok (.putfield 29, 3) := by decide +kernel
theorem dX1_init_55 : decode cX1_init 55 = .ok (.iconst 0, 1) := by decide +kernel
theorem dX1_init_56 : decode cX1_init 56 = .ok (.istore_n 1, 1) := by decide +kernel
theorem dX1_init_57 : decode cX1_init 57 = .ok (.iload_n 1, 1) := by decide +kernel
theorem dX1_init_58 : decode cX1_init 58 = .ok (.bipush 10, 2) := by decide +kernel
theorem dX1_init_60 : decode cX1_init 60 = .ok (.if_icmp .ge 18, 3) := by decide +kernel
theorem dX1_init_63 : decode cX1_init 63 = .ok (.aload_n 0, 1) := by decide +kernel
theorem dX1_init_64 : decode cX1_init 64 = .ok (.getfield 26, 3) := by decide +kernel
theorem dX1_init_67 : decode cX1_init 67 = .ok (.iload_n 1, 1) := by decide +kernel
theorem dX1_init_68 : decode cX1_init 68 = .ok (.iload_n 1, 1) := by decide +kernel
theorem dX1_init_69 : decode cX1_init 69 = .ok (.iconst 1, 1) := by decide +kernel
theorem dX1_init_70 : decode cX1_init 70 = .ok (.iadd, 1) := by decide +kernel
theorem dX1_init_71 : decode cX1_init 71 = .ok (.iastore, 1) := by decide +kernel
theorem dX1_init_72 : decode cX1_init 72 = .ok (.iinc 1 1, 3) := by decide +kernel
theorem dX1_init_75 : decode cX1_init 75 = .ok (.goto (-18), 3) := by decide +kernel
theorem dX1_init_78 : decode cX1_init 78 = .ok (.return_, 1) := by decide +kernel
set_option maxRecDepth 20000 in
theorem ggX1_make_X1_isDock : GoodIn wsX1_make wsX1_isDock := goodIn_r _ [5] (by decide +kernel) (by decide +kernel)
set_option maxRecDepth 20000 in
theorem gX1_make_X1_isDock : GoodIn wsX1_make (va_wsS RX1 32 yX1_isDock wsX1_isDock) := goodIn_app (goodIn_of _ (by decide +kernel)) ggX1_make_X1_isDock
set_option maxRecDepth 20000 in
theorem ggX1_make_X1_needThere : GoodIn wsX1_make wsX1_needThere := goodIn_ca (goodIn_r _ [8, 9, 10] (by decide +kernel) (by decide +kernel)) (goodIn_sub (fun _ h => List.mem_cons_of_mem _ (List.mem_append_left _ (List.mem_append_right _ h))) (by decide +kernel))
set_option maxRecDepth 20000 in
theorem gX1_make_X1_needThere : GoodIn wsX1_make (va_wsS RX1 36 yX1_needThere wsX1_needThere) := goodIn_app (goodIn_of _ (by decide +kernel)) ggX1_make_X1_needThere
set_option maxRecDepth 20000 in
theorem ggX1_make_X1_needState : GoodIn wsX1_make wsX1_needState := goodIn_ca (goodIn_r _ [13, 14, 15] (by decide +kernel) (by decide +kernel)) (goodIn_sub (fun _ h => List.mem_cons_of_mem _ (List.mem_append_right _ h)) (by decide +kernel))
set_option maxRecDepth 20000 in
theorem gX1_make_X1_needState : GoodIn wsX1_make (va_wsS RX1 44 yX1_needState wsX1_needState) := goodIn_app (goodIn_of _ (by decide +kernel)) ggX1_make_X1_needState
set_option maxRecDepth 20000 in
theorem ggX1_make_X1_stand : GoodIn wsX1_make wsX1_stand := goodIn_r _ [19, 1, 20, 48, 49, 50, 51, 52, 53, 54] (by decide +kernel) (by decide +kernel)
set_option maxRecDepth 20000 in
theorem gX1_make_X1_stand : GoodIn wsX1_make (wsV RX1 47 RX1 yX1_stand wsX1_stand) := goodIn_app (goodIn_of _ (by decide +kernel)) ggX1_make_X1_stand
set_option maxRecDepth 20000 in
theorem ggX1_make_X1_write : GoodIn wsX1_make wsX1_write := goodIn_r _ [24, 20, 25, 26, 27, 28, 29, 30, 31, 32, 33, 34, 35, 36, 37, 38, 39, 40, 41, 42, 43, 44, 45, 46, 47, 48, 49, 50, 51, 52, 53, 54, 55, 56, 57, 58, 59] (by decide +kernel) (by decide +kernel)
set_option maxRecDepth 20000 in
theorem gX1_make_X1_write : GoodIn wsX1_make (wsV RX1 51 RX1 yX1_write wsX1_write) := goodIn_app (goodIn_of _ (by decide +kernel)) ggX1_make_X1_write
theorem dX1_make_0 : decode cX1_make 0 = .ok (.iload_n 1, 1) := by decide +kernel
theorem dX1_make_1 : decode cX1_make 1 = .ok (.invokestatic 32, 3) := by decide +kernel
theorem dX1_make_4 : decode cX1_make 4 = .ok (.invokestatic 36, 3) := by decide +kernel
theorem dX1_make_7 : decode cX1_make 7 = .ok (.aload_n 0, 1) := by decide +kernel
theorem dX1_make_8 : decode cX1_make 8 = .ok (.getfield 40, 3) := by decide +kernel
theorem dX1_make_11 : decode cX1_make 11 = .ok (.bipush 14, 2) := by decide +kernel
theorem dX1_make_13 : decode cX1_make 13 = .ok (.if_icmp .ge 7, 3) := by decide +kernel
theorem dX1_make_16 : decode cX1_make 16 = .ok (.iconst 1, 1) := by decide +kernel
theorem dX1_make_17 : decode cX1_make 17 = .ok (.goto 4, 3) := by decide +kernel
theorem dX1_make_20 : decode cX1_make 20 = .ok (.iconst 0, 1) := by decide +kernel
theorem dX1_make_21 : decode cX1_make 21 = .ok (.invokestatic 44, 3) := by decide +kernel
theorem dX1_make_24 : decode cX1_make 24 = .ok (.aload_n 0, 1) := by decide +kernel
theorem dX1_make_25 : decode cX1_make 25 = .ok (.iload_n 1, 1) := by decide +kernel
theorem dX1_make_26 : decode cX1_make 26 = .ok (.invokevirtual 47, 3) := by decide +kernel
theorem dX1_make_29 : decode cX1_make 29 = .ok (.istore_n 2, 1) := by decide +kernel
theorem dX1_make_30 : decode cX1_make 30 = .ok (.aload_n 0, 1) := by decide +kernel
theorem dX1_make_31 : decode cX1_make 31 = .ok (.iload_n 2, 1) := by decide +kernel
theorem dX1_make_32 : decode cX1_make 32 = .ok (.iconst 0, 1) := by decide +kernel
theorem dX1_make_33 : decode cX1_make 33 = .ok (.iconst 0, 1) := by decide +kernel
theorem dX1_make_34 : decode cX1_make 34 = .ok (.iconst 0, 1) := by decide +kernel
theorem dX1_make_35 : decode cX1_make 35 = .ok (.iconst 0, 1) := by decide +kernel
theorem dX1_make_36 : decode cX1_make 36 = .ok (.iconst 0, 1) := by decide +kernel
theorem dX1_make_37 : decode cX1_make 37 = .ok (.invokevirtual 51, 3) := by decide +kernel
theorem dX1_make_40 : decode cX1_make 40 = .ok (.iload_n 2, 1) := by decide +kernel
theorem dX1_make_41 : decode cX1_make 41 = .ok (.ireturn, 1) := by decide +kernel
set_option maxRecDepth 20000 in
theorem ggX1_load_X1_isPallet : GoodIn wsX1_load wsX1_isPallet := goodIn_r _ [7, 8, 122, 123, 124, 125, 126, 127, 128] (by decide +kernel) (by decide +kernel)
set_option maxRecDepth 20000 in
theorem gX1_load_X1_isPallet : GoodIn wsX1_load (wsV RX1 55 RX1 yX1_isPallet wsX1_isPallet) := goodIn_app (goodIn_of _ (by decide +kernel)) ggX1_load_X1_isPallet
set_option maxRecDepth 20000 in
theorem ggX1_load_X1_isGood : GoodIn wsX1_load wsX1_isGood := goodIn_r _ [11] (by decide +kernel) (by decide +kernel)
set_option maxRecDepth 20000 in
theorem gX1_load_X1_isGood : GoodIn wsX1_load (va_wsS RX1 58 yX1_isGood wsX1_isGood) := goodIn_app (goodIn_of _ (by decide +kernel)) ggX1_load_X1_isGood
set_option maxRecDepth 20000 in
theorem ggX1_load_X1_needThere : GoodIn wsX1_load wsX1_needThere := goodIn_ca (goodIn_r _ [14, 15, 16] (by decide +kernel) (by decide +kernel)) (goodIn_sub (fun _ h => List.mem_cons_of_mem _ (List.mem_append_left _ (List.mem_append_left _ (List.mem_append_right _ h)))) (by decide +kernel))
set_option maxRecDepth 20000 in
theorem gX1_load_X1_needThere : GoodIn wsX1_load (va_wsS RX1 36 yX1_needThere wsX1_needThere) := goodIn_app (goodIn_of _ (by decide +kernel)) ggX1_load_X1_needThere
set_option maxRecDepth 20000 in
theorem ggX1_load_X1_isWithin : GoodIn wsX1_load wsX1_isWithin := goodIn_r _ [19] (by decide +kernel) (by decide +kernel)
set_option maxRecDepth 20000 in
theorem gX1_load_X1_isWithin : GoodIn wsX1_load (va_wsS RX1 61 yX1_isWithin wsX1_isWithin) := goodIn_app (goodIn_of _ (by decide +kernel)) ggX1_load_X1_isWithin
set_option maxRecDepth 20000 in
theorem ggX1_load_X1_needRange : GoodIn wsX1_load wsX1_needRange := goodIn_ca (goodIn_r _ [22, 23, 24] (by decide +kernel) (by decide +kernel)) (goodIn_sub (fun _ h => List.mem_cons_of_mem _ (List.mem_append_left _ (List.mem_append_right _ h))) (by decide +kernel))
set_option maxRecDepth 20000 in
theorem gX1_load_X1_needRange : GoodIn wsX1_load (va_wsS RX1 65 yX1_needRange wsX1_needRange) := goodIn_app (goodIn_of _ (by decide +kernel)) ggX1_load_X1_needRange
set_option maxRecDepth 20000 in
theorem ggX1_load_X1_isWorkable : GoodIn wsX1_load wsX1_isWorkable := goodIn_r _ [28, 29, 30, 31, 32, 6, 33, 34, 35, 36, 37, 38, 39, 40, 41, 42, 43, 44, 45, 46, 47, 48, 49, 50, 51, 52, 53, 54, 55, 56, 57, 58, 59, 8, 60, 61, 62, 63, 64, 65, 66, 67, 68, 69, 70, 71, 72, 73, 74, 75, 76, 77, 78, 79, 80, 81, 82, 83, 84, 85, 86, 87, 122, 123, 124, 125, 126, 127, 128, 129, 130, 131, 132, 133] (by decide +kernel) (by decide +kernel)
set_option maxRecDepth 20000 in
theorem gX1_load_X1_isWorkable : GoodIn wsX1_load (wsV RX1 68 RX1 yX1_isWorkable wsX1_isWorkable) := goodIn_app (goodIn_of _ (by decide +kernel)) ggX1_load_X1_isWorkable
set_option maxRecDepth 20000 in
theorem ggX1_load_X1_weightOfOne : GoodIn wsX1_load wsX1_weightOfOne := goodIn_r _ [90] (by decide +kernel) (by decide +kernel)
set_option maxRecDepth 20000 in
theorem gX1_load_X1_weightOfOne : GoodIn wsX1_load (va_wsS RX1 71 yX1_weightOfOne wsX1_weightOfOne) := goodIn_app (goodIn_of _ (by decide +kernel)) ggX1_load_X1_weightOfOne
set_option maxRecDepth 20000 in
theorem ggX1_load_X1_hasRoom : GoodIn wsX1_load wsX1_hasRoom := goodIn_r _ [94, 8, 2, 95, 96, 6, 97, 98, 99, 100, 101, 1, 88, 89, 90, 122, 123, 124, 125, 126, 127, 128] (by decide +kernel) (by decide +kernel)
set_option maxRecDepth 20000 in
theorem gX1_load_X1_hasRoom : GoodIn wsX1_load (wsV RX1 74 RX1 yX1_hasRoom wsX1_hasRoom) := goodIn_app (goodIn_of _ (by decide +kernel)) ggX1_load_X1_hasRoom
set_option maxRecDepth 20000 in
theorem ggX1_load_X1_needState : GoodIn wsX1_load wsX1_needState := goodIn_ca (goodIn_r _ [104, 105, 106] (by decide +kernel) (by decide +kernel)) (goodIn_sub (fun _ h => List.mem_cons_of_mem _ (List.mem_append_right _ h)) (by decide +kernel))
set_option maxRecDepth 20000 in
theorem gX1_load_X1_needState : GoodIn wsX1_load (va_wsS RX1 44 yX1_needState wsX1_needState) := goodIn_app (goodIn_of _ (by decide +kernel)) ggX1_load_X1_needState
set_option maxRecDepth 20000 in
theorem ggX1_load_X1_write : GoodIn wsX1_load wsX1_write := goodIn_r _ [110, 2, 29, 111, 112, 113, 114, 115, 37, 116, 39, 44, 83, 117, 118, 45, 46, 47, 84, 85, 86, 87, 119, 120, 121, 122, 123, 124, 125, 126, 127, 128, 129, 130, 131, 132, 133] (by decide +kernel) (by decide +kernel)
set_option maxRecDepth 20000 in
theorem gX1_load_X1_write : GoodIn wsX1_load (wsV RX1 51 RX1 yX1_write wsX1_write) := goodIn_app (goodIn_of _ (by decide +kernel)) ggX1_load_X1_write
theorem dX1_load_0 : decode cX1_load 0 = .ok (.aload_n 0, 1) := by decide +kernel
theorem dX1_load_1 : decode cX1_load 1 = .ok (.iload_n 1, 1) := by decide +kernel
theorem dX1_load_2 : decode cX1_load 2 = .ok (.invokevirtual 55, 3) := by decide +kernel
theorem dX1_load_5 : decode cX1_load 5 = .ok (.ifCond .eq 14, 3) := by decide +kernel
theorem dX1_load_8 : decode cX1_load 8 = .ok (.iload_n 2, 1) := by decide +kernel
theorem dX1_load_9 : decode cX1_load 9 = .ok (.invokestatic 58, 3) := by decide +kernel
theorem dX1_load_12 : decode cX1_load 12 = .ok (.ifCond .eq 7, 3) := by decide +kernel
theorem dX1_load_15 : decode cX1_load 15 = .ok (.iconst 1, 1) := by decide +kernel
theorem dX1_load_16 : decode cX1_load 16 = .ok (.goto 4, 3) := by decide +kernel
theorem dX1_load_19 : decode cX1_load 19 = .ok (.iconst 0, 1) := by decide +kernel
theorem dX1_load_20 : decode cX1_load 20 = .ok (.invokestatic 36, 3) := by decide +kernel
theorem dX1_load_23 : decode cX1_load 23 = .ok (.iload_n 3, 1) := by decide +kernel
theorem dX1_load_24 : decode cX1_load 24 = .ok (.ifCond .eq 18, 3) := by decide +kernel
theorem dX1_load_27 : decode cX1_load 27 = .ok (.iload_n 3, 1) := by decide +kernel
theorem dX1_load_28 : decode cX1_load 28 = .ok (.bipush (-99), 2) := by decide +kernel
theorem dX1_load_30 : decode cX1_load 30 = .ok (.bipush 99, 2) := by decide +kernel
theorem dX1_load_32 : decode cX1_load 32 = .ok (.invokestatic 61, 3) := by decide +kernel
theorem dX1_load_35 : decode cX1_load 35 = .ok (.ifCond .eq 7, 3) := by decide +kernel
theorem dX1_load_38 : decode cX1_load 38 = .ok (.iconst 1, 1) := by decide +kernel
theorem dX1_load_39 : decode cX1_load 39 = .ok (.goto 4, 3) := by decide +kernel
theorem dX1_load_42 : decode cX1_load 42 = .ok (.iconst 0, 1) := by decide +kernel
theorem dX1_load_43 : decode cX1_load 43 = .ok (.invokestatic 65, 3) := by decide +kernel
theorem dX1_load_46 : decode cX1_load 46 = .ok (.aload_n 0, 1) := by decide +kernel
theorem dX1_load_47 : decode cX1_load 47 = .ok (.getfield 20, 3) := by decide +kernel
theorem dX1_load_50 : decode cX1_load 50 = .ok (.iload_n 1, 1) := by decide +kernel
theorem dX1_load_51 : decode cX1_load 51 = .ok (.bipush 6, 2) := by decide +kernel
theorem dX1_load_53 : decode cX1_load 53 = .ok (.imul, 1) := by decide +kernel
theorem dX1_load_54 : decode cX1_load 54 = .ok (.iload_n 2, 1) := by decide +kernel
theorem dX1_load_55 : decode cX1_load 55 = .ok (.iadd, 1) := by decide +kernel
theorem dX1_load_56 : decode cX1_load 56 = .ok (.iaload, 1) := by decide +kernel
theorem dX1_load_57 : decode cX1_load 57 = .ok (.iload_n 3, 1) := by decide +kernel
theorem dX1_load_58 : decode cX1_load 58 = .ok (.iadd, 1) := by decide +kernel
theorem dX1_load_59 : decode cX1_load 59 = .ok (.istore 4, 2) := by decide +kernel
theorem dX1_load_61 : decode cX1_load 61 = .ok (.aload_n 0, 1) := by decide +kernel
theorem dX1_load_62 : decode cX1_load 62 = .ok (.iload_n 1, 1) := by decide +kernel
theorem dX1_load_63 : decode cX1_load 63 = .ok (.invokevirtual 68, 3) := by decide +kernel
theorem dX1_load_66 : decode cX1_load 66 = .ok (.ifCond .eq 38, 3) := by decide +kernel
theorem dX1_load_69 : decode cX1_load 69 = .ok (.iload 4, 2) := by decide +kernel
theorem dX1_load_71 : decode cX1_load 71 = .ok (.iconst 0, 1) := by decide +kernel
theorem dX1_load_72 : decode cX1_load 72 = .ok (.sipush 999, 3) := by decide +kernel
theorem dX1_load_75 : decode cX1_load 75 = .ok (.invokestatic 61, 3) := by decide +kernel
theorem dX1_load_78 : decode cX1_load 78 = .ok (.ifCond .eq 26, 3) := by decide +kernel
theorem dX1_load_81 : decode cX1_load 81 = .ok (.aload_n 0, 1) := by decide +kernel
theorem dX1_load_82 : decode cX1_load 82 = .ok (.aload_n 0, 1) := by decide +kernel
theorem dX1_load_83 : decode cX1_load 83 = .ok (.getfield 16, 3) := by decide +kernel
theorem dX1_load_86 : decode cX1_load 86 = .ok (.iload_n 1, 1) := by decide +kernel
theorem dX1_load_87 : decode cX1_load 87 = .ok (.iaload, 1) := by decide +kernel
theorem dX1_load_88 : decode cX1_load 88 = .ok (.iload_n 3, 1) := by decide +kernel
theorem dX1_load_89 : decode cX1_load 89 = .ok (.iload_n 2, 1) := by decide +kernel
theorem dX1_load_90 : decode cX1_load 90 = .ok (.invokestatic 71, 3) := by decide +kernel
theorem dX1_load_93 : decode cX1_load 93 = .ok (.imul, 1) := by decide +kernel
theorem dX1_load_94 : decode cX1_load 94 = .ok (.invokevirtual 74, 3) := by decide +kernel
theorem dX1_load_97 : decode cX1_load 97 = .ok (.ifCond .eq 7, 3) := by decide +kernel
theorem dX1_load_100 : decode cX1_load 100 = .ok (.iconst 1, 1) := by decide +kernel
theorem dX1_load_101 : decode cX1_load 101 = .ok (.goto 4, 3) := by decide +kernel
theorem dX1_load_104 : decode cX1_load 104 = .ok (.iconst 0, 1) := by decide +kernel
theorem dX1_load_105 : decode cX1_load 105 = .ok (.invokestatic 44, 3) := by decide +kernel
theorem dX1_load_108 : decode cX1_load 108 = .ok (.aload_n 0, 1) := by decide +kernel
theorem dX1_load_109 : decode cX1_load 109 = .ok (.getfield 20, 3) := by decide +kernel
theorem dX1_load_112 : decode cX1_load 112 = .ok (.iload_n 1, 1) := by decide +kernel
theorem dX1_load_113 : decode cX1_load 113 = .ok (.bipush 6, 2) := by decide +kernel
theorem dX1_load_115 : decode cX1_load 115 = .ok (.imul, 1) := by decide +kernel
theorem dX1_load_116 : decode cX1_load 116 = .ok (.iload_n 2, 1) := by decide +kernel
theorem dX1_load_117 : decode cX1_load 117 = .ok (.iadd, 1) := by decide +kernel
theorem dX1_load_118 : decode cX1_load 118 = .ok (.iload 4, 2) := by decide +kernel
theorem dX1_load_120 : decode cX1_load 120 = .ok (.iastore, 1) := by decide +kernel
theorem dX1_load_121 : decode cX1_load 121 = .ok (.iload_n 3, 1) := by decide +kernel
theorem dX1_load_122 : decode cX1_load 122 = .ok (.ifCond .le 16, 3) := by decide +kernel
theorem dX1_load_125 : decode cX1_load 125 = .ok (.aload_n 0, 1) := by decide +kernel
theorem dX1_load_126 : decode cX1_load 126 = .ok (.iload_n 1, 1) := by decide +kernel
theorem dX1_load_127 : decode cX1_load 127 = .ok (.iconst 1, 1) := by decide +kernel
theorem dX1_load_128 : decode cX1_load 128 = .ok (.iload_n 2, 1) := by decide +kernel
theorem dX1_load_129 : decode cX1_load 129 = .ok (.iload_n 3, 1) := by decide +kernel
theorem dX1_load_130 : decode cX1_load 130 = .ok (.iconst 0, 1) := by decide +kernel
theorem dX1_load_131 : decode cX1_load 131 = .ok (.iconst 0, 1) := by decide +kernel
theorem dX1_load_132 : decode cX1_load 132 = .ok (.invokevirtual 51, 3) := by decide +kernel
theorem dX1_load_135 : decode cX1_load 135 = .ok (.goto 14, 3) := by decide +kernel
theorem dX1_load_138 : decode cX1_load 138 = .ok (.aload_n 0, 1) := by decide +kernel
theorem dX1_load_139 : decode cX1_load 139 = .ok (.iload_n 1, 1) := by decide +kernel
theorem dX1_load_140 : decode cX1_load 140 = .ok (.iconst 2, 1) := by decide +kernel
theorem dX1_load_141 : decode cX1_load 141 = .ok (.iload_n 2, 1) := by decide +kernel
theorem dX1_load_142 : decode cX1_load 142 = .ok (.iload_n 3, 1) := by decide +kernel
theorem dX1_load_143 : decode cX1_load 143 = .ok (.ineg, 1) := by decide +kernel
theorem dX1_load_144 : decode cX1_load 144 = .ok (.iconst 0, 1) := by decide +kernel
theorem dX1_load_145 : decode cX1_load 145 = .ok (.iconst 0, 1) := by decide +kernel
theorem dX1_load_146 : decode cX1_load 146 = .ok (.invokevirtual 51, 3) := by decide +kernel
theorem dX1_load_149 : decode cX1_load 149 = .ok (.iload 4, 2) := by decide +kernel
theorem dX1_load_151 : decode cX1_load 151 = .ok (.ireturn, 1) := by decide +kernel
set_option maxRecDepth 20000 in
theorem ggX1_part_X1_isPallet : GoodIn wsX1_part wsX1_isPallet := goodIn_r _ [9, 2, 116, 117, 118, 119, 120, 121, 122] (by decide +kernel) (by decide +kernel)
set_option maxRecDepth 20000 in
theorem gX1_part_X1_isPallet : GoodIn wsX1_part (wsV RX1 55 RX1 yX1_isPallet wsX1_isPallet) := goodIn_app (goodIn_of _ (by decide +kernel)) ggX1_part_X1_isPallet
set_option maxRecDepth 20000 in
theorem ggX1_part_X1_isGood : GoodIn wsX1_part wsX1_isGood := goodIn_r _ [12] (by decide +kernel) (by decide +kernel)
set_option maxRecDepth 20000 in
theorem gX1_part_X1_isGood : GoodIn wsX1_part (va_wsS RX1 58 yX1_isGood wsX1_isGood) := goodIn_app (goodIn_of _ (by decide +kernel)) ggX1_part_X1_isGood
set_option maxRecDepth 20000 in
theorem ggX1_part_X1_needThere : GoodIn wsX1_part wsX1_needThere := goodIn_ca (goodIn_r _ [15, 16, 17] (by decide +kernel) (by decide +kernel)) (goodIn_sub (fun _ h => List.mem_cons_of_mem _ (List.mem_append_left _ (List.mem_append_left _ (List.mem_append_right _ h)))) (by decide +kernel))
set_option maxRecDepth 20000 in
theorem gX1_part_X1_needThere : GoodIn wsX1_part (va_wsS RX1 36 yX1_needThere wsX1_needThere) := goodIn_app (goodIn_of _ (by decide +kernel)) ggX1_part_X1_needThere
set_option maxRecDepth 20000 in
theorem ggX1_part_X1_isWithin : GoodIn wsX1_part wsX1_isWithin := goodIn_r _ [20] (by decide +kernel) (by decide +kernel)
set_option maxRecDepth 20000 in
theorem gX1_part_X1_isWithin : GoodIn wsX1_part (va_wsS RX1 61 yX1_isWithin wsX1_isWithin) := goodIn_app (goodIn_of _ (by decide +kernel)) ggX1_part_X1_isWithin
set_option maxRecDepth 20000 in
theorem ggX1_part_X1_needRange : GoodIn wsX1_part wsX1_needRange := goodIn_ca (goodIn_r _ [23, 24, 25] (by decide +kernel) (by decide +kernel)) (goodIn_sub (fun _ h => List.mem_cons_of_mem _ (List.mem_append_left _ (List.mem_append_right _ h))) (by decide +kernel))
set_option maxRecDepth 20000 in
theorem gX1_part_X1_needRange : GoodIn wsX1_part (va_wsS RX1 65 yX1_needRange wsX1_needRange) := goodIn_app (goodIn_of _ (by decide +kernel)) ggX1_part_X1_needRange
set_option maxRecDepth 20000 in
theorem ggX1_part_X1_isWorkable : GoodIn wsX1_part wsX1_isWorkable := goodIn_r _ [29, 4, 30, 31, 32, 8, 33, 34, 35, 36, 37, 38, 39, 40, 41, 42, 43, 44, 45, 46, 47, 48, 49, 50, 51, 52, 53, 54, 55, 56, 57, 58, 59, 2, 60, 61, 62, 63, 64, 65, 66, 67, 68, 69, 70, 71, 72, 73, 74, 75, 76, 77, 78, 79, 80, 81, 82, 83, 84, 85, 86, 87, 116, 117, 118, 119, 120, 121, 122, 123, 124, 125, 126, 127] (by decide +kernel) (by decide +kernel)
set_option maxRecDepth 20000 in
theorem gX1_part_X1_isWorkable : GoodIn wsX1_part (wsV RX1 68 RX1 yX1_isWorkable wsX1_isWorkable) := goodIn_app (goodIn_of _ (by decide +kernel)) ggX1_part_X1_isWorkable
set_option maxRecDepth 20000 in
theorem ggX1_part_X1_needState : GoodIn wsX1_part wsX1_needState := goodIn_ca (goodIn_r _ [90, 91, 92] (by decide +kernel) (by decide +kernel)) (goodIn_sub (fun _ h => List.mem_cons_of_mem _ (List.mem_append_right _ h)) (by decide +kernel))
set_option maxRecDepth 20000 in
theorem gX1_part_X1_needState : GoodIn wsX1_part (va_wsS RX1 44 yX1_needState wsX1_needState) := goodIn_app (goodIn_of _ (by decide +kernel)) ggX1_part_X1_needState
set_option maxRecDepth 20000 in
theorem ggX1_part_X1_stand : GoodIn wsX1_part wsX1_stand := goodIn_r _ [96, 2, 3, 116, 117, 118, 119, 120, 121, 122] (by decide +kernel) (by decide +kernel)
set_option maxRecDepth 20000 in
theorem gX1_part_X1_stand : GoodIn wsX1_part (wsV RX1 47 RX1 yX1_stand wsX1_stand) := goodIn_app (goodIn_of _ (by decide +kernel)) ggX1_part_X1_stand
set_option maxRecDepth 20000 in
theorem ggX1_part_X0_length : GoodIn wsX1_part wsX0_length := goodIn_r _ [100, 39, 123, 124, 125, 126, 127] (by decide +kernel) (by decide +kernel)
set_option maxRecDepth 20000 in
theorem gX1_part_X0_length : GoodIn wsX1_part (wsV RX1 78 RX0 yX0_length wsX0_length) := goodIn_app (goodIn_of _ (by decide +kernel)) ggX1_part_X0_length
set_option maxRecDepth 20000 in
theorem ggX1_part_X1_write : GoodIn wsX1_part wsX1_write := goodIn_r _ [104, 3, 4, 105, 106, 107, 108, 109, 37, 110, 39, 44, 83, 111, 112, 45, 46, 47, 84, 85, 86, 87, 113, 114, 115, 116, 117, 118, 119, 120, 121, 122, 123, 124, 125, 126, 127] (by decide +kernel) (by decide +kernel)
set_option maxRecDepth 20000 in
theorem gX1_part_X1_write : GoodIn wsX1_part (wsV RX1 51 RX1 yX1_write wsX1_write) := goodIn_app (goodIn_of _ (by decide +kernel)) ggX1_part_X1_write
theorem dX1_part_0 : decode cX1_part 0 = .ok (.aload_n 0, 1) := by decide +kernel
theorem dX1_part_1 : decode cX1_part 1 = .ok (.iload_n 1, 1) := by decide +kernel
theorem dX1_part_2 : decode cX1_part 2 = .ok (.invokevirtual 55, 3) := by decide +kernel
theorem dX1_part_5 : decode cX1_part 5 = .ok (.ifCond .eq 14, 3) := by decide +kernel
theorem dX1_part_8 : decode cX1_part 8 = .ok (.iload_n 2, 1) := by decide +kernel
theorem dX1_part_9 : decode cX1_part 9 = .ok (.invokestatic 58, 3) := by decide +kernel
theorem dX1_part_12 : decode cX1_part 12 = .ok (.ifCond .eq 7, 3) := by decide +kernel
theorem dX1_part_15 : decode cX1_part 15 = .ok (.iconst 1, 1) := by decide +kernel
theorem dX1_part_16 : decode cX1_part 16 = .ok (.goto 4, 3) := by decide +kernel
theorem dX1_part_19 : decode cX1_part 19 = .ok (.iconst 0, 1) := by decide +kernel
theorem dX1_part_20 : decode cX1_part 20 = .ok (.invokestatic 36, 3) := by decide +kernel
theorem dX1_part_23 : decode cX1_part 23 = .ok (.iload_n 3, 1) := by decide +kernel
theorem dX1_part_24 : decode cX1_part 24 = .ok (.iconst 1, 1) := by decide +kernel
theorem dX1_part_25 : decode cX1_part 25 = .ok (.bipush 99, 2) := by decide +kernel
theorem dX1_part_27 : decode cX1_part 27 = .ok (.invokestatic 61, 3) := by decide +kernel
theorem dX1_part_30 : decode cX1_part 30 = .ok (.invokestatic 65, 3) := by decide +kernel
theorem dX1_part_33 : decode cX1_part 33 = .ok (.aload_n 0, 1) := by decide +kernel
theorem dX1_part_34 : decode cX1_part 34 = .ok (.iload_n 1, 1) := by decide +kernel
theorem dX1_part_35 : decode cX1_part 35 = .ok (.invokevirtual 68, 3) := by decide +kernel
theorem dX1_part_38 : decode cX1_part 38 = .ok (.ifCond .eq 31, 3) := by decide +kernel
theorem dX1_part_41 : decode cX1_part 41 = .ok (.aload_n 0, 1) := by decide +kernel
theorem dX1_part_42 : decode cX1_part 42 = .ok (.getfield 20, 3) := by decide +kernel
theorem dX1_part_45 : decode cX1_part 45 = .ok (.iload_n 1, 1) := by decide +kernel
theorem dX1_part_46 : decode cX1_part 46 = .ok (.bipush 6, 2) := by decide +kernel
theorem dX1_part_48 : decode cX1_part 48 = .ok (.imul, 1) := by decide +kernel
theorem dX1_part_49 : decode cX1_part 49 = .ok (.iload_n 2, 1) := by decide +kernel
theorem dX1_part_50 : decode cX1_part 50 = .ok (.iadd, 1) := by decide +kernel
theorem dX1_part_51 : decode cX1_part 51 = .ok (.iaload, 1) := by decide +kernel
theorem dX1_part_52 : decode cX1_part 52 = .ok (.iload_n 3, 1) := by decide +kernel
theorem dX1_part_53 : decode cX1_part 53 = .ok (.if_icmp .lt 16, 3) := by decide +kernel
theorem dX1_part_56 : decode cX1_part 56 = .ok (.aload_n 0, 1) := by decide +kernel
theorem dX1_part_57 : decode cX1_part 57 = .ok (.getfield 40, 3) := by decide +kernel
theorem dX1_part_60 : decode cX1_part 60 = .ok (.bipush 14, 2) := by decide +kernel
theorem dX1_part_62 : decode cX1_part 62 = .ok (.if_icmp .ge 7, 3) := by decide +kernel
theorem dX1_part_65 : decode cX1_part 65 = .ok (.iconst 1, 1) := by decide +kernel
theorem dX1_part_66 : decode cX1_part 66 = .ok (.goto 4, 3) := by decide +kernel
theorem dX1_part_69 : decode cX1_part 69 = .ok (.iconst 0, 1) := by decide +kernel
theorem dX1_part_70 : decode cX1_part 70 = .ok (.invokestatic 44, 3) := by decide +kernel
theorem dX1_part_73 : decode cX1_part 73 = .ok (.aload_n 0, 1) := by decide +kernel
theorem dX1_part_74 : decode cX1_part 74 = .ok (.aload_n 0, 1) := by decide +kernel
theorem dX1_part_75 : decode cX1_part 75 = .ok (.getfield 16, 3) := by decide +kernel
theorem dX1_part_78 : decode cX1_part 78 = .ok (.iload_n 1, 1) := by decide +kernel
theorem dX1_part_79 : decode cX1_part 79 = .ok (.iaload, 1) := by decide +kernel
theorem dX1_part_80 : decode cX1_part 80 = .ok (.invokevirtual 47, 3) := by decide +kernel
theorem dX1_part_83 : decode cX1_part 83 = .ok (.istore 4, 2) := by decide +kernel
theorem dX1_part_85 : decode cX1_part 85 = .ok (.aload_n 0, 1) := by decide +kernel
theorem dX1_part_86 : decode cX1_part 86 = .ok (.getfield 20, 3) := by decide +kernel
theorem dX1_part_89 : decode cX1_part 89 = .ok (.iload_n 1, 1) := by decide +kernel
theorem dX1_part_90 : decode cX1_part 90 = .ok (.bipush 6, 2) := by decide +kernel
theorem dX1_part_92 : decode cX1_part 92 = .ok (.imul, 1) := by decide +kernel
theorem dX1_part_93 : decode cX1_part 93 = .ok (.iload_n 2, 1) := by decide +kernel
theorem dX1_part_94 : decode cX1_part 94 = .ok (.iadd, 1) := by decide +kernel
theorem dX1_part_95 : decode cX1_part 95 = .ok (.dup2, 1) := by decide +kernel
theorem dX1_part_96 : decode cX1_part 96 = .ok (.iaload, 1) := by decide +kernel
theorem dX1_part_97 : decode cX1_part 97 = .ok (.iload_n 3, 1) := by decide +kernel
theorem dX1_part_98 : decode cX1_part 98 = .ok (.isub, 1) := by decide +kernel
theorem dX1_part_99 : decode cX1_part 99 = .ok (.iastore, 1) := by decide +kernel
theorem dX1_part_100 : decode cX1_part 100 = .ok (.aload_n 0, 1) := by decide +kernel
theorem dX1_part_101 : decode cX1_part 101 = .ok (.getfield 20, 3) := by decide +kernel
theorem dX1_part_104 : decode cX1_part 104 = .ok (.iload 4, 2) := by decide +kernel
theorem dX1_part_106 : decode cX1_part 106 = .ok (.bipush 6, 2) := by decide +kernel
theorem dX1_part_108 : decode cX1_part 108 = .ok (.imul, 1) := by decide +kernel
theorem dX1_part_109 : decode cX1_part 109 = .ok (.iload_n 2, 1) := by decide +kernel
theorem dX1_part_110 : decode cX1_part 110 = .ok (.iadd, 1) := by decide +kernel
theorem dX1_part_111 : decode cX1_part 111 = .ok (.iload_n 3, 1) := by decide +kernel
theorem dX1_part_112 : decode cX1_part 112 = .ok (.iastore, 1) := by decide +kernel
theorem dX1_part_113 : decode cX1_part 113 = .ok (.aload_n 0, 1) := by decide +kernel
theorem dX1_part_114 : decode cX1_part 114 = .ok (.getfield 10, 3) := by decide +kernel
theorem dX1_part_117 : decode cX1_part 117 = .ok (.iload_n 1, 1) := by decide +kernel
theorem dX1_part_118 : decode cX1_part 118 = .ok (.invokevirtual 78, 3) := by decide +kernel
theorem dX1_part_121 : decode cX1_part 121 = .ok (.istore 5, 2) := by decide +kernel
theorem dX1_part_123 : decode cX1_part 123 = .ok (.aload_n 0, 1) := by decide +kernel
theorem dX1_part_124 : decode cX1_part 124 = .ok (.iload_n 1, 1) := by decide +kernel
theorem dX1_part_125 : decode cX1_part 125 = .ok (.iconst 3, 1) := by decide +kernel
theorem dX1_part_126 : decode cX1_part 126 = .ok (.iload_n 2, 1) := by decide +kernel
theorem dX1_part_127 : decode cX1_part 127 = .ok (.iload_n 3, 1) := by decide +kernel
theorem dX1_part_128 : decode cX1_part 128 = .ok (.iload 4, 2) := by decide +kernel
theorem dX1_part_130 : decode cX1_part 130 = .ok (.iconst 0, 1) := by decide +kernel
theorem dX1_part_131 : decode cX1_part 131 = .ok (.invokevirtual 51, 3) := by decide +kernel
theorem dX1_part_134 : decode cX1_part 134 = .ok (.aload_n 0, 1) := by decide +kernel
theorem dX1_part_135 : decode cX1_part 135 = .ok (.iload 4, 2) := by decide +kernel
theorem dX1_part_137 : decode cX1_part 137 = .ok (.iconst 4, 1) := by decide +kernel
theorem dX1_part_138 : decode cX1_part 138 = .ok (.iload_n 2, 1) := by decide +kernel
theorem dX1_part_139 : decode cX1_part 139 = .ok (.iload_n 3, 1) := by decide +kernel
theorem dX1_part_140 : decode cX1_part 140 = .ok (.iload_n 1, 1) := by decide +kernel
theorem dX1_part_141 : decode cX1_part 141 = .ok (.iload 5, 2) := by decide +kernel
theorem dX1_part_143 : decode cX1_part 143 = .ok (.invokevirtual 51, 3) := by decide +kernel
theorem dX1_part_146 : decode cX1_part 146 = .ok (.iload 4, 2) := by decide +kernel
theorem dX1_part_148 : decode cX1_part 148 = .ok (.ireturn, 1) := by decide +kernel
set_option maxRecDepth 20000 in
theorem ggX1_join_X1_isPallet : GoodIn wsX1_join wsX1_isPallet := goodIn_r _ [8, 9, 110, 111, 112, 113, 114, 115, 116] (by decide +kernel) (by decide +kernel)
set_option maxRecDepth 20000 in
theorem gX1_join_X1_isPallet : GoodIn wsX1_join (wsV RX1 55 RX1 yX1_isPallet wsX1_isPallet) := goodIn_app (goodIn_of _ (by decide +kernel)) ggX1_join_X1_isPallet
set_option maxRecDepth 20000 in
theorem ggX1_join_X1_needThere : GoodIn wsX1_join wsX1_needThere := goodIn_ca (goodIn_r _ [12, 13, 14] (by decide +kernel) (by decide +kernel)) (goodIn_sub (fun _ h => List.mem_cons_of_mem _ (List.mem_append_left _ (List.mem_append_left _ (List.mem_append_right _ h)))) (by decide +kernel))
set_option maxRecDepth 20000 in
theorem gX1_join_X1_needThere : GoodIn wsX1_join (va_wsS RX1 36 yX1_needThere wsX1_needThere) := goodIn_app (goodIn_of _ (by decide +kernel)) ggX1_join_X1_needThere
set_option maxRecDepth 20000 in
theorem ggX1_join_X1_needRange : GoodIn wsX1_join wsX1_needRange := goodIn_ca (goodIn_r _ [17, 18, 19] (by decide +kernel) (by decide +kernel)) (goodIn_sub (fun _ h => List.mem_cons_of_mem _ (List.mem_append_left _ (List.mem_append_right _ h))) (by decide +kernel))
set_option maxRecDepth 20000 in
theorem gX1_join_X1_needRange : GoodIn wsX1_join (va_wsS RX1 65 yX1_needRange wsX1_needRange) := goodIn_app (goodIn_of _ (by decide +kernel)) ggX1_join_X1_needRange
set_option maxRecDepth 20000 in
theorem ggX1_join_X1_isWorkable : GoodIn wsX1_join wsX1_isWorkable := goodIn_r _ [23, 3, 24, 25, 26, 7, 27, 28, 29, 30, 31, 32, 33, 34, 35, 36, 37, 38, 39, 40, 41, 42, 43, 44, 45, 46, 47, 48, 49, 50, 51, 52, 53, 9, 54, 55, 56, 57, 58, 59, 60, 61, 62, 63, 64, 65, 66, 67, 68, 69, 70, 71, 72, 73, 74, 75, 76, 77, 78, 79, 80, 81, 110, 111, 112, 113, 114, 115, 116, 117, 118, 119, 120, 121] (by decide +kernel) (by decide +kernel)
set_option maxRecDepth 20000 in
theorem gX1_join_X1_isWorkable : GoodIn wsX1_join (wsV RX1 68 RX1 yX1_isWorkable wsX1_isWorkable) := goodIn_app (goodIn_of _ (by decide +kernel)) ggX1_join_X1_isWorkable
set_option maxRecDepth 20000 in
theorem ggX1_join_X1_canComeTogether : GoodIn wsX1_join wsX1_canComeTogether := goodIn_r _ [85, 2, 110, 111, 112, 113, 114, 115, 116] (by decide +kernel) (by decide +kernel)
set_option maxRecDepth 20000 in
theorem gX1_join_X1_canComeTogether : GoodIn wsX1_join (wsV RX1 81 RX1 yX1_canComeTogether wsX1_canComeTogether) := goodIn_app (goodIn_of _ (by decide +kernel)) ggX1_join_X1_canComeTogether
set_option maxRecDepth 20000 in
theorem ggX1_join_X1_needState : GoodIn wsX1_join wsX1_needState := goodIn_ca (goodIn_r _ [88, 89, 90] (by decide +kernel) (by decide +kernel)) (goodIn_sub (fun _ h => List.mem_cons_of_mem _ (List.mem_append_right _ h)) (by decide +kernel))
set_option maxRecDepth 20000 in
theorem gX1_join_X1_needState : GoodIn wsX1_join (va_wsS RX1 44 yX1_needState wsX1_needState) := goodIn_app (goodIn_of _ (by decide +kernel)) ggX1_join_X1_needState
set_option maxRecDepth 20000 in
theorem ggX1_join_X0_length : GoodIn wsX1_join wsX0_length := goodIn_r _ [94, 33, 117, 118, 119, 120, 121] (by decide +kernel) (by decide +kernel)
set_option maxRecDepth 20000 in
theorem gX1_join_X0_length : GoodIn wsX1_join (wsV RX1 78 RX0 yX0_length wsX0_length) := goodIn_app (goodIn_of _ (by decide +kernel)) ggX1_join_X0_length
set_option maxRecDepth 20000 in
theorem ggX1_join_X1_write : GoodIn wsX1_join wsX1_write := goodIn_r _ [98, 1, 3, 99, 100, 101, 102, 103, 31, 104, 33, 38, 77, 105, 106, 39, 40, 41, 78, 79, 80, 81, 107, 108, 109, 110, 111, 112, 113, 114, 115, 116, 117, 118, 119, 120, 121] (by decide +kernel) (by decide +kernel)
set_option maxRecDepth 20000 in
theorem gX1_join_X1_write : GoodIn wsX1_join (wsV RX1 51 RX1 yX1_write wsX1_write) := goodIn_app (goodIn_of _ (by decide +kernel)) ggX1_join_X1_write
theorem dX1_join_0 : decode cX1_join 0 = .ok (.aload_n 0, 1) := by decide +kernel
theorem dX1_join_1 : decode cX1_join 1 = .ok (.iload_n 1, 1) := by decide +kernel
theorem dX1_join_2 : decode cX1_join 2 = .ok (.invokevirtual 55, 3) := by decide +kernel
theorem dX1_join_5 : decode cX1_join 5 = .ok (.ifCond .eq 15, 3) := by decide +kernel
theorem dX1_join_8 : decode cX1_join 8 = .ok (.aload_n 0, 1) := by decide +kernel
theorem dX1_join_9 : decode cX1_join 9 = .ok (.iload_n 2, 1) := by decide +kernel
theorem dX1_join_10 : decode cX1_join 10 = .ok (.invokevirtual 55, 3) := by decide +kernel
theorem dX1_join_13 : decode cX1_join 13 = .ok (.ifCond .eq 7, 3) := by decide +kernel
theorem dX1_join_16 : decode cX1_join 16 = .ok (.iconst 1, 1) := by decide +kernel
theorem dX1_join_17 : decode cX1_join 17 = .ok (.goto 4, 3) := by decide +kernel
theorem dX1_join_20 : decode cX1_join 20 = .ok (.iconst 0, 1) := by decide +kernel
theorem dX1_join_21 : decode cX1_join 21 = .ok (.invokestatic 36, 3) := by decide +kernel
theorem dX1_join_24 : decode cX1_join 24 = .ok (.iload_n 1, 1) := by decide +kernel
theorem dX1_join_25 : decode cX1_join 25 = .ok (.iload_n 2, 1) := by decide +kernel
theorem dX1_join_26 : decode cX1_join 26 = .ok (.if_icmp .eq 7, 3) := by decide +kernel
theorem dX1_join_29 : decode cX1_join 29 = .ok (.iconst 1, 1) := by decide +kernel
theorem dX1_join_30 : decode cX1_join 30 = .ok (.goto 4, 3) := by decide +kernel
theorem dX1_join_33 : decode cX1_join 33 = .ok (.iconst 0, 1) := by decide +kernel
theorem dX1_join_34 : decode cX1_join 34 = .ok (.invokestatic 65, 3) := by decide +kernel
theorem dX1_join_37 : decode cX1_join 37 = .ok (.aload_n 0, 1) := by decide +kernel
theorem dX1_join_38 : decode cX1_join 38 = .ok (.iload_n 1, 1) := by decide +kernel
theorem dX1_join_39 : decode cX1_join 39 = .ok (.invokevirtual 68, 3) := by decide +kernel
theorem dX1_join_42 : decode cX1_join 42 = .ok (.ifCond .eq 39, 3) := by decide +kernel
theorem dX1_join_45 : decode cX1_join 45 = .ok (.aload_n 0, 1) := by decide +kernel
theorem dX1_join_46 : decode cX1_join 46 = .ok (.iload_n 2, 1) := by decide +kernel
theorem dX1_join_47 : decode cX1_join 47 = .ok (.invokevirtual 68, 3) := by decide +kernel
theorem dX1_join_50 : decode cX1_join 50 = .ok (.ifCond .eq 31, 3) := by decide +kernel
theorem dX1_join_53 : decode cX1_join 53 = .ok (.aload_n 0, 1) := by decide +kernel
theorem dX1_join_54 : decode cX1_join 54 = .ok (.getfield 16, 3) := by decide +kernel
theorem dX1_join_57 : decode cX1_join 57 = .ok (.iload_n 1, 1) := by decide +kernel
theorem dX1_join_58 : decode cX1_join 58 = .ok (.iaload, 1) := by decide +kernel
theorem dX1_join_59 : decode cX1_join 59 = .ok (.aload_n 0, 1) := by decide +kernel
theorem dX1_join_60 : decode cX1_join 60 = .ok (.getfield 16, 3) := by decide +kernel
theorem dX1_join_63 : decode cX1_join 63 = .ok (.iload_n 2, 1) := by decide +kernel
theorem dX1_join_64 : decode cX1_join 64 = .ok (.iaload, 1) := by decide +kernel
theorem dX1_join_65 : decode cX1_join 65 = .ok (.if_icmp .ne 16, 3) := by decide +kernel
theorem dX1_join_68 : decode cX1_join 68 = .ok (.aload_n 0, 1) := by decide +kernel
theorem dX1_join_69 : decode cX1_join 69 = .ok (.iload_n 1, 1) := by decide +kernel
theorem dX1_join_70 : decode cX1_join 70 = .ok (.iload_n 2, 1) := by decide +kernel
theorem dX1_join_71 : decode cX1_join 71 = .ok (.invokevirtual 81, 3) := by decide +kernel
theorem dX1_join_74 : decode cX1_join 74 = .ok (.ifCond .eq 7, 3) := by decide +kernel
theorem dX1_join_77 : decode cX1_join 77 = .ok (.iconst 1, 1) := by decide +kernel
theorem dX1_join_78 : decode cX1_join 78 = .ok (.goto 4, 3) := by decide +kernel
theorem dX1_join_81 : decode cX1_join 81 = .ok (.iconst 0, 1) := by decide +kernel
theorem dX1_join_82 : decode cX1_join 82 = .ok (.invokestatic 44, 3) := by decide +kernel
theorem dX1_join_85 : decode cX1_join 85 = .ok (.iconst 0, 1) := by decide +kernel
theorem dX1_join_86 : decode cX1_join 86 = .ok (.istore_n 3, 1) := by decide +kernel
theorem dX1_join_87 : decode cX1_join 87 = .ok (.iconst 0, 1) := by decide +kernel
theorem dX1_join_88 : decode cX1_join 88 = .ok (.istore 4, 2) := by decide +kernel
theorem dX1_join_90 : decode cX1_join 90 = .ok (.iload 4, 2) := by decide +kernel
theorem dX1_join_92 : decode cX1_join 92 = .ok (.bipush 6, 2) := by decide +kernel
theorem dX1_join_94 : decode cX1_join 94 = .ok (.if_icmp .ge 64, 3) := by decide +kernel
theorem dX1_join_97 : decode cX1_join 97 = .ok (.aload_n 0, 1) := by decide +kernel
theorem dX1_join_98 : decode cX1_join 98 = .ok (.getfield 20, 3) := by decide +kernel
theorem dX1_join_101 : decode cX1_join 101 = .ok (.iload_n 2, 1) := by decide +kernel
theorem dX1_join_102 : decode cX1_join 102 = .ok (.bipush 6, 2) := by decide +kernel
theorem dX1_join_104 : decode cX1_join 104 = .ok (.imul, 1) := by decide +kernel
theorem dX1_join_105 : decode cX1_join 105 = .ok (.iload 4, 2) := by decide +kernel
theorem dX1_join_107 : decode cX1_join 107 = .ok (.iadd, 1) := by decide +kernel
theorem dX1_join_108 : decode cX1_join 108 = .ok (.dup2, 1) := by decide +kernel
theorem dX1_join_109 : decode cX1_join 109 = .ok (.iaload, 1) := by decide +kernel
theorem dX1_join_110 : decode cX1_join 110 = .ok (.aload_n 0, 1) := by decide +kernel
theorem dX1_join_111 : decode cX1_join 111 = .ok (.getfield 20, 3) := by decide +kernel
theorem dX1_join_114 : decode cX1_join 114 = .ok (.iload_n 1, 1) := by decide +kernel
theorem dX1_join_115 : decode cX1_join 115 = .ok (.bipush 6, 2) := by decide +kernel
theorem dX1_join_117 : decode cX1_join 117 = .ok (.imul, 1) := by decide +kernel
theorem dX1_join_118 : decode cX1_join 118 = .ok (.iload 4, 2) := by decide +kernel
theorem dX1_join_120 : decode cX1_join 120 = .ok (.iadd, 1) := by decide +kernel
theorem dX1_join_121 : decode cX1_join 121 = .ok (.iaload, 1) := by decide +kernel
theorem dX1_join_122 : decode cX1_join 122 = .ok (.iadd, 1) := by decide +kernel
theorem dX1_join_123 : decode cX1_join 123 = .ok (.iastore, 1) := by decide +kernel
theorem dX1_join_124 : decode cX1_join 124 = .ok (.aload_n 0, 1) := by decide +kernel
theorem dX1_join_125 : decode cX1_join 125 = .ok (.getfield 20, 3) := by decide +kernel
theorem dX1_join_128 : decode cX1_join 128 = .ok (.iload_n 1, 1) := by decide +kernel
theorem dX1_join_129 : decode cX1_join 129 = .ok (.bipush 6, 2) := by decide +kernel
theorem dX1_join_131 : decode cX1_join 131 = .ok (.imul, 1) := by decide +kernel
theorem dX1_join_132 : decode cX1_join 132 = .ok (.iload 4, 2) := by decide +kernel
theorem dX1_join_134 : decode cX1_join 134 = .ok (.iadd, 1) := by decide +kernel
theorem dX1_join_135 : decode cX1_join 135 = .ok (.iconst 0, 1) := by decide +kernel
theorem dX1_join_136 : decode cX1_join 136 = .ok (.iastore, 1) := by decide +kernel
theorem dX1_join_137 : decode cX1_join 137 = .ok (.iload_n 3, 1) := by decide +kernel
theorem dX1_join_138 : decode cX1_join 138 = .ok (.aload_n 0, 1) := by decide +kernel
theorem dX1_join_139 : decode cX1_join 139 = .ok (.getfield 20, 3) := by decide +kernel
theorem dX1_join_142 : decode cX1_join 142 = .ok (.iload_n 2, 1) := by decide +kernel
theorem dX1_join_143 : decode cX1_join 143 = .ok (.bipush 6, 2) := by decide +kernel
theorem dX1_join_145 : decode cX1_join 145 = .ok (.imul, 1) := by decide +kernel
theorem dX1_join_146 : decode cX1_join 146 = .ok (.iload 4, 2) := by decide +kernel
theorem dX1_join_148 : decode cX1_join 148 = .ok (.iadd, 1) := by decide +kernel
theorem dX1_join_149 : decode cX1_join 149 = .ok (.iaload, 1) := by decide +kernel
theorem dX1_join_150 : decode cX1_join 150 = .ok (.iadd, 1) := by decide +kernel
theorem dX1_join_151 : decode cX1_join 151 = .ok (.istore_n 3, 1) := by decide +kernel
theorem dX1_join_152 : decode cX1_join 152 = .ok (.iinc 4 1, 3) := by decide +kernel
theorem dX1_join_155 : decode cX1_join 155 = .ok (.goto (-65), 3) := by decide +kernel
theorem dX1_join_158 : decode cX1_join 158 = .ok (.aload_n 0, 1) := by decide +kernel
theorem dX1_join_159 : decode cX1_join 159 = .ok (.getfield 10, 3) := by decide +kernel
theorem dX1_join_162 : decode cX1_join 162 = .ok (.iload_n 1, 1) := by decide +kernel
theorem dX1_join_163 : decode cX1_join 163 = .ok (.invokevirtual 78, 3) := by decide +kernel
theorem dX1_join_166 : decode cX1_join 166 = .ok (.istore 4, 2) := by decide +kernel
theorem dX1_join_168 : decode cX1_join 168 = .ok (.aload_n 0, 1) := by decide +kernel
theorem dX1_join_169 : decode cX1_join 169 = .ok (.getfield 10, 3) := by decide +kernel
theorem dX1_join_172 : decode cX1_join 172 = .ok (.iload_n 2, 1) := by decide +kernel
theorem dX1_join_173 : decode cX1_join 173 = .ok (.invokevirtual 78, 3) := by decide +kernel
theorem dX1_join_176 : decode cX1_join 176 = .ok (.istore 5, 2) := by decide +kernel
theorem dX1_join_178 : decode cX1_join 178 = .ok (.aload_n 0, 1) := by decide +kernel
theorem dX1_join_179 : decode cX1_join 179 = .ok (.iload_n 1, 1) := by decide +kernel
theorem dX1_join_180 : decode cX1_join 180 = .ok (.bipush 6, 2) := by decide +kernel
theorem dX1_join_182 : decode cX1_join 182 = .ok (.iconst 0, 1) := by decide +kernel
theorem dX1_join_183 : decode cX1_join 183 = .ok (.iconst 0, 1) := by decide +kernel
theorem dX1_join_184 : decode cX1_join 184 = .ok (.iload_n 2, 1) := by decide +kernel
theorem dX1_join_185 : decode cX1_join 185 = .ok (.iload 5, 2) := by decide +kernel
theorem dX1_join_187 : decode cX1_join 187 = .ok (.invokevirtual 51, 3) := by decide +kernel
theorem dX1_join_190 : decode cX1_join 190 = .ok (.aload_n 0, 1) := by decide +kernel
theorem dX1_join_191 : decode cX1_join 191 = .ok (.iload_n 2, 1) := by decide +kernel
theorem dX1_join_192 : decode cX1_join 192 = .ok (.iconst 5, 1) := by decide +kernel
theorem dX1_join_193 : decode cX1_join 193 = .ok (.iconst 0, 1) := by decide +kernel
theorem dX1_join_194 : decode cX1_join 194 = .ok (.iconst 0, 1) := by decide +kernel
theorem dX1_join_195 : decode cX1_join 195 = .ok (.iload_n 1, 1) := by decide +kernel
theorem dX1_join_196 : decode cX1_join 196 = .ok (.iload 4, 2) := by decide +kernel
theorem dX1_join_198 : decode cX1_join 198 = .ok (.invokevirtual 51, 3) := by decide +kernel
theorem dX1_join_201 : decode cX1_join 201 = .ok (.iload_n 3, 1) := by decide +kernel
theorem dX1_join_202 : decode cX1_join 202 = .ok (.ireturn, 1) := by decide +kernel
set_option maxRecDepth 20000 in
theorem ggX1_move_X1_isPallet : GoodIn wsX1_move wsX1_isPallet := goodIn_r _ [6, 7, 114, 115, 116, 117, 118, 119, 120] (by decide +kernel) (by decide +kernel)
set_option maxRecDepth 20000 in
theorem gX1_move_X1_isPallet : GoodIn wsX1_move (wsV RX1 55 RX1 yX1_isPallet wsX1_isPallet) := goodIn_app (goodIn_of _ (by decide +kernel)) ggX1_move_X1_isPallet
set_option maxRecDepth 20000 in
theorem ggX1_move_X1_isHolder : GoodIn wsX1_move wsX1_isHolder := goodIn_r _ [10] (by decide +kernel) (by decide +kernel)
set_option maxRecDepth 20000 in
theorem gX1_move_X1_isHolder : GoodIn wsX1_move (va_wsS RX1 84 yX1_isHolder wsX1_isHolder) := goodIn_app (goodIn_of _ (by decide +kernel)) ggX1_move_X1_isHolder
set_option maxRecDepth 20000 in
theorem ggX1_move_X1_needThere : GoodIn wsX1_move wsX1_needThere := goodIn_ca (goodIn_r _ [13, 14, 15] (by decide +kernel) (by decide +kernel)) (goodIn_sub (fun _ h => List.mem_cons_of_mem _ (List.mem_append_left _ (List.mem_append_right _ h))) (by decide +kernel))
set_option maxRecDepth 20000 in
theorem gX1_move_X1_needThere : GoodIn wsX1_move (va_wsS RX1 36 yX1_needThere wsX1_needThere) := goodIn_app (goodIn_of _ (by decide +kernel)) ggX1_move_X1_needThere
set_option maxRecDepth 20000 in
theorem ggX1_move_X1_weightOf : GoodIn wsX1_move wsX1_weightOf := goodIn_r _ [19, 20, 21, 22, 5, 23, 114, 115, 116, 117, 118, 119, 120] (by decide +kernel) (by decide +kernel)
set_option maxRecDepth 20000 in
theorem gX1_move_X1_weightOf : GoodIn wsX1_move (wsV RX1 87 RX1 yX1_weightOf wsX1_weightOf) := goodIn_app (goodIn_of _ (by decide +kernel)) ggX1_move_X1_weightOf
set_option maxRecDepth 20000 in
theorem ggX1_move_X1_isWorkable : GoodIn wsX1_move wsX1_isWorkable := goodIn_r _ [27, 28, 29, 30, 31, 5, 32, 33, 34, 35, 36, 37, 38, 39, 40, 41, 42, 43, 44, 45, 46, 47, 48, 49, 50, 51, 52, 53, 54, 55, 56, 57, 58, 7, 59, 60, 61, 62, 63, 64, 65, 66, 67, 68, 69, 70, 71, 72, 73, 74, 75, 76, 77, 78, 79, 80, 81, 82, 83, 84, 85, 86, 114, 115, 116, 117, 118, 119, 120, 121, 122, 123, 124, 125] (by decide +kernel) (by decide +kernel)
set_option maxRecDepth 20000 in
theorem gX1_move_X1_isWorkable : GoodIn wsX1_move (wsV RX1 68 RX1 yX1_isWorkable wsX1_isWorkable) := goodIn_app (goodIn_of _ (by decide +kernel)) ggX1_move_X1_isWorkable
set_option maxRecDepth 20000 in
theorem ggX1_move_X1_isDock : GoodIn wsX1_move wsX1_isDock := goodIn_r _ [89] (by decide +kernel) (by decide +kernel)
set_option maxRecDepth 20000 in
theorem gX1_move_X1_isDock : GoodIn wsX1_move (va_wsS RX1 32 yX1_isDock wsX1_isDock) := goodIn_app (goodIn_of _ (by decide +kernel)) ggX1_move_X1_isDock
set_option maxRecDepth 20000 in
theorem ggX1_move_X1_hasRoom : GoodIn wsX1_move wsX1_hasRoom := goodIn_r _ [93, 7, 1, 87, 88, 5, 89, 16, 17, 18, 19, 20, 21, 22, 23, 114, 115, 116, 117, 118, 119, 120] (by decide +kernel) (by decide +kernel)
set_option maxRecDepth 20000 in
theorem gX1_move_X1_hasRoom : GoodIn wsX1_move (wsV RX1 74 RX1 yX1_hasRoom wsX1_hasRoom) := goodIn_app (goodIn_of _ (by decide +kernel)) ggX1_move_X1_hasRoom
set_option maxRecDepth 20000 in
theorem ggX1_move_X1_needState : GoodIn wsX1_move wsX1_needState := goodIn_ca (goodIn_r _ [96, 97, 98] (by decide +kernel) (by decide +kernel)) (goodIn_sub (fun _ h => List.mem_cons_of_mem _ (List.mem_append_right _ h)) (by decide +kernel))
set_option maxRecDepth 20000 in
theorem gX1_move_X1_needState : GoodIn wsX1_move (va_wsS RX1 44 yX1_needState wsX1_needState) := goodIn_app (goodIn_of _ (by decide +kernel)) ggX1_move_X1_needState
set_option maxRecDepth 20000 in
theorem ggX1_move_X1_write : GoodIn wsX1_move wsX1_write := goodIn_r _ [102, 1, 28, 103, 104, 105, 106, 107, 36, 108, 38, 43, 82, 109, 110, 44, 45, 46, 83, 84, 85, 86, 111, 112, 113, 114, 115, 116, 117, 118, 119, 120, 121, 122, 123, 124, 125] (by decide +kernel) (by decide +kernel)
set_option maxRecDepth 20000 in
theorem gX1_move_X1_write : GoodIn wsX1_move (wsV RX1 51 RX1 yX1_write wsX1_write) := goodIn_app (goodIn_of _ (by decide +kernel)) ggX1_move_X1_write
theorem dX1_move_0 : decode cX1_move 0 = .ok (.aload_n 0, 1) := by decide +kernel
theorem dX1_move_1 : decode cX1_move 1 = .ok (.iload_n 1, 1) := by decide +kernel
theorem dX1_move_2 : decode cX1_move 2 = .ok (.invokevirtual 55, 3) := by decide +kernel
theorem dX1_move_5 : decode cX1_move 5 = .ok (.ifCond .eq 14, 3) := by decide +kernel
theorem dX1_move_8 : decode cX1_move 8 = .ok (.iload_n 2, 1) := by decide +kernel
theorem dX1_move_9 : decode cX1_move 9 = .ok (.invokestatic 84, 3) := by decide +kernel
theorem dX1_move_12 : decode cX1_move 12 = .ok (.ifCond .eq 7, 3) := by decide +kernel
theorem dX1_move_15 : decode cX1_move 15 = .ok (.iconst 1, 1) := by decide +kernel
theorem dX1_move_16 : decode cX1_move 16 = .ok (.goto 4, 3) := by decide +kernel
theorem dX1_move_19 : decode cX1_move 19 = .ok (.iconst 0, 1) := by decide +kernel
theorem dX1_move_20 : decode cX1_move 20 = .ok (.invokestatic 36, 3) := by decide +kernel
theorem dX1_move_23 : decode cX1_move 23 = .ok (.aload_n 0, 1) := by decide +kernel
theorem dX1_move_24 : decode cX1_move 24 = .ok (.iload_n 1, 1) := by decide +kernel
theorem dX1_move_25 : decode cX1_move 25 = .ok (.invokevirtual 87, 3) := by decide +kernel
theorem dX1_move_28 : decode cX1_move 28 = .ok (.istore_n 3, 1) := by decide +kernel
theorem dX1_move_29 : decode cX1_move 29 = .ok (.aload_n 0, 1) := by decide +kernel
theorem dX1_move_30 : decode cX1_move 30 = .ok (.iload_n 1, 1) := by decide +kernel
theorem dX1_move_31 : decode cX1_move 31 = .ok (.invokevirtual 68, 3) := by decide +kernel
theorem dX1_move_34 : decode cX1_move 34 = .ok (.ifCond .eq 32, 3) := by decide +kernel
theorem dX1_move_37 : decode cX1_move 37 = .ok (.aload_n 0, 1) := by decide +kernel
theorem dX1_move_38 : decode cX1_move 38 = .ok (.getfield 16, 3) := by decide +kernel
theorem dX1_move_41 : decode cX1_move 41 = .ok (.iload_n 1, 1) := by decide +kernel
theorem dX1_move_42 : decode cX1_move 42 = .ok (.iaload, 1) := by decide +kernel
theorem dX1_move_43 : decode cX1_move 43 = .ok (.invokestatic 32, 3) := by decide +kernel
theorem dX1_move_46 : decode cX1_move 46 = .ok (.iload_n 2, 1) := by decide +kernel
theorem dX1_move_47 : decode cX1_move 47 = .ok (.invokestatic 32, 3) := by decide +kernel
theorem dX1_move_50 : decode cX1_move 50 = .ok (.if_icmp .eq 16, 3) := by decide +kernel
theorem dX1_move_53 : decode cX1_move 53 = .ok (.aload_n 0, 1) := by decide +kernel
theorem dX1_move_54 : decode cX1_move 54 = .ok (.iload_n 2, 1) := by decide +kernel
theorem dX1_move_55 : decode cX1_move 55 = .ok (.iload_n 3, 1) := by decide +kernel
theorem dX1_move_56 : decode cX1_move 56 = .ok (.invokevirtual 74, 3) := by decide +kernel
theorem dX1_move_59 : decode cX1_move 59 = .ok (.ifCond .eq 7, 3) := by decide +kernel
theorem dX1_move_62 : decode cX1_move 62 = .ok (.iconst 1, 1) := by decide +kernel
theorem dX1_move_63 : decode cX1_move 63 = .ok (.goto 4, 3) := by decide +kernel
theorem dX1_move_66 : decode cX1_move 66 = .ok (.iconst 0, 1) := by decide +kernel
theorem dX1_move_67 : decode cX1_move 67 = .ok (.invokestatic 44, 3) := by decide +kernel
theorem dX1_move_70 : decode cX1_move 70 = .ok (.aload_n 0, 1) := by decide +kernel
theorem dX1_move_71 : decode cX1_move 71 = .ok (.iload_n 1, 1) := by decide +kernel
theorem dX1_move_72 : decode cX1_move 72 = .ok (.bipush 7, 2) := by decide +kernel
theorem dX1_move_74 : decode cX1_move 74 = .ok (.iconst 0, 1) := by decide +kernel
theorem dX1_move_75 : decode cX1_move 75 = .ok (.iload_n 2, 1) := by decide +kernel
theorem dX1_move_76 : decode cX1_move 76 = .ok (.iconst 0, 1) := by decide +kernel
theorem dX1_move_77 : decode cX1_move 77 = .ok (.iconst 0, 1) := by decide +kernel
theorem dX1_move_78 : decode cX1_move 78 = .ok (.invokevirtual 51, 3) := by decide +kernel
theorem dX1_move_81 : decode cX1_move 81 = .ok (.aload_n 0, 1) := by decide +kernel
theorem dX1_move_82 : decode cX1_move 82 = .ok (.getfield 16, 3) := by decide +kernel
theorem dX1_move_85 : decode cX1_move 85 = .ok (.iload_n 1, 1) := by decide +kernel
theorem dX1_move_86 : decode cX1_move 86 = .ok (.iload_n 2, 1) := by decide +kernel
theorem dX1_move_87 : decode cX1_move 87 = .ok (.iastore, 1) := by decide +kernel
theorem dX1_move_88 : decode cX1_move 88 = .ok (.iload_n 3, 1) := by decide +kernel
theorem dX1_move_89 : decode cX1_move 89 = .ok (.ireturn, 1) := by decide +kernel
set_option maxRecDepth 20000 in
theorem ggX1_hold_X1_isPallet : GoodIn wsX1_hold wsX1_isPallet := goodIn_r _ [6, 7, 65, 66, 67, 68, 69, 70, 71] (by decide +kernel) (by decide +kernel)
set_option maxRecDepth 20000 in
theorem gX1_hold_X1_isPallet : GoodIn wsX1_hold (wsV RX1 55 RX1 yX1_isPallet wsX1_isPallet) := goodIn_app (goodIn_of _ (by decide +kernel)) ggX1_hold_X1_isPallet
set_option maxRecDepth 20000 in
theorem ggX1_hold_X1_needThere : GoodIn wsX1_hold wsX1_needThere := goodIn_ca (goodIn_r _ [10, 11, 12] (by decide +kernel) (by decide +kernel)) (goodIn_sub (fun _ h => List.mem_cons_of_mem _ (List.mem_append_left _ (List.mem_append_right _ h))) (by decide +kernel))
set_option maxRecDepth 20000 in
theorem gX1_hold_X1_needThere : GoodIn wsX1_hold (va_wsS RX1 36 yX1_needThere wsX1_needThere) := goodIn_app (goodIn_of _ (by decide +kernel)) ggX1_hold_X1_needThere
set_option maxRecDepth 20000 in
theorem ggX1_hold_X1_isGone : GoodIn wsX1_hold wsX1_isGone := goodIn_r _ [16, 1, 17, 18, 19, 20, 21, 22, 23, 24, 25, 26, 27, 28, 29, 30, 65, 66, 67, 68, 69, 70, 71, 72, 73, 74, 75, 76] (by decide +kernel) (by decide +kernel)
set_option maxRecDepth 20000 in
theorem gX1_hold_X1_isGone : GoodIn wsX1_hold (wsV RX1 90 RX1 yX1_isGone wsX1_isGone) := goodIn_app (goodIn_of _ (by decide +kernel)) ggX1_hold_X1_isGone
set_option maxRecDepth 20000 in
theorem ggX1_hold_X0_hasRoom : GoodIn wsX1_hold wsX0_hasRoom := goodIn_r _ [34, 22, 72, 73, 74, 75, 76] (by decide +kernel) (by decide +kernel)
set_option maxRecDepth 20000 in
theorem gX1_hold_X0_hasRoom : GoodIn wsX1_hold (wsV RX1 93 RX0 yX0_hasRoom wsX0_hasRoom) := goodIn_app (goodIn_of _ (by decide +kernel)) ggX1_hold_X0_hasRoom
set_option maxRecDepth 20000 in
theorem ggX1_hold_X1_needState : GoodIn wsX1_hold wsX1_needState := goodIn_ca (goodIn_r _ [37, 38, 39] (by decide +kernel) (by decide +kernel)) (goodIn_sub (fun _ h => List.mem_cons_of_mem _ (List.mem_append_right _ h)) (by decide +kernel))
set_option maxRecDepth 20000 in
theorem gX1_hold_X1_needState : GoodIn wsX1_hold (va_wsS RX1 44 yX1_needState wsX1_needState) := goodIn_app (goodIn_of _ (by decide +kernel)) ggX1_hold_X1_needState
set_option maxRecDepth 20000 in
theorem ggX1_hold_X1_isHeld : GoodIn wsX1_hold wsX1_isHeld := goodIn_r _ [43, 1, 17, 18, 19, 20, 21, 22, 23, 24, 25, 26, 27, 28, 29, 30, 65, 66, 67, 68, 69, 70, 71, 72, 73, 74, 75, 76] (by decide +kernel) (by decide +kernel)
set_option maxRecDepth 20000 in
theorem gX1_hold_X1_isHeld : GoodIn wsX1_hold (wsV RX1 95 RX1 yX1_isHeld wsX1_isHeld) := goodIn_app (goodIn_of _ (by decide +kernel)) ggX1_hold_X1_isHeld
set_option maxRecDepth 20000 in
theorem ggX1_hold_X1_write : GoodIn wsX1_hold wsX1_write := goodIn_r _ [47, 48, 1, 49, 50, 51, 52, 53, 20, 54, 22, 27, 55, 56, 57, 28, 29, 30, 58, 59, 60, 61, 62, 63, 64, 65, 66, 67, 68, 69, 70, 71, 72, 73, 74, 75, 76] (by decide +kernel) (by decide +kernel)
set_option maxRecDepth 20000 in
theorem gX1_hold_X1_write : GoodIn wsX1_hold (wsV RX1 51 RX1 yX1_write wsX1_write) := goodIn_app (goodIn_of _ (by decide +kernel)) ggX1_hold_X1_write
theorem dX1_hold_0 : decode cX1_hold 0 = .ok (.aload_n 0, 1) := by decide +kernel
theorem dX1_hold_1 : decode cX1_hold 1 = .ok (.iload_n 1, 1) := by decide +kernel
theorem dX1_hold_2 : decode cX1_hold 2 = .ok (.invokevirtual 55, 3) := by decide +kernel
theorem dX1_hold_5 : decode cX1_hold 5 = .ok (.invokestatic 36, 3) := by decide +kernel
theorem dX1_hold_8 : decode cX1_hold 8 = .ok (.aload_n 0, 1) := by decide +kernel
theorem dX1_hold_9 : decode cX1_hold 9 = .ok (.iload_n 1, 1) := by decide +kernel
theorem dX1_hold_10 : decode cX1_hold 10 = .ok (.invokevirtual 90, 3) := by decide +kernel
theorem dX1_hold_13 : decode cX1_hold 13 = .ok (.ifCond .ne 18, 3) := by decide +kernel
theorem dX1_hold_16 : decode cX1_hold 16 = .ok (.aload_n 0, 1) := by decide +kernel
theorem dX1_hold_17 : decode cX1_hold 17 = .ok (.getfield 10, 3) := by decide +kernel
theorem dX1_hold_20 : decode cX1_hold 20 = .ok (.iload_n 1, 1) := by decide +kernel
theorem dX1_hold_21 : decode cX1_hold 21 = .ok (.invokevirtual 93, 3) := by decide +kernel
theorem dX1_hold_24 : decode cX1_hold 24 = .ok (.ifCond .eq 7, 3) := by decide +kernel
theorem dX1_hold_27 : decode cX1_hold 27 = .ok (.iconst 1, 1) := by decide +kernel
theorem dX1_hold_28 : decode cX1_hold 28 = .ok (.goto 4, 3) := by decide +kernel
theorem dX1_hold_31 : decode cX1_hold 31 = .ok (.iconst 0, 1) := by decide +kernel
theorem dX1_hold_32 : decode cX1_hold 32 = .ok (.invokestatic 44, 3) := by decide +kernel
theorem dX1_hold_35 : decode cX1_hold 35 = .ok (.aload_n 0, 1) := by decide +kernel
theorem dX1_hold_36 : decode cX1_hold 36 = .ok (.iload_n 1, 1) := by decide +kernel
theorem dX1_hold_37 : decode cX1_hold 37 = .ok (.invokevirtual 95, 3) := by decide +kernel
theorem dX1_hold_40 : decode cX1_hold 40 = .ok (.ifCond .ne 7, 3) := by decide +kernel
theorem dX1_hold_43 : decode cX1_hold 43 = .ok (.iconst 1, 1) := by decide +kernel
theorem dX1_hold_44 : decode cX1_hold 44 = .ok (.goto 4, 3) := by decide +kernel
theorem dX1_hold_47 : decode cX1_hold 47 = .ok (.iconst 0, 1) := by decide +kernel
theorem dX1_hold_48 : decode cX1_hold 48 = .ok (.istore_n 2, 1) := by decide +kernel
theorem dX1_hold_49 : decode cX1_hold 49 = .ok (.aload_n 0, 1) := by decide +kernel
theorem dX1_hold_50 : decode cX1_hold 50 = .ok (.iload_n 1, 1) := by decide +kernel
theorem dX1_hold_51 : decode cX1_hold 51 = .ok (.iload_n 2, 1) := by decide +kernel
theorem dX1_hold_52 : decode cX1_hold 52 = .ok (.ifCond .eq 8, 3) := by decide +kernel
theorem dX1_hold_55 : decode cX1_hold 55 = .ok (.bipush 8, 2) := by decide +kernel
theorem dX1_hold_57 : decode cX1_hold 57 = .ok (.goto 5, 3) := by decide +kernel
theorem dX1_hold_60 : decode cX1_hold 60 = .ok (.bipush 9, 2) := by decide +kernel
theorem dX1_hold_62 : decode cX1_hold 62 = .ok (.iconst 0, 1) := by decide +kernel
theorem dX1_hold_63 : decode cX1_hold 63 = .ok (.iconst 0, 1) := by decide +kernel
theorem dX1_hold_64 : decode cX1_hold 64 = .ok (.iconst 0, 1) := by decide +kernel
theorem dX1_hold_65 : decode cX1_hold 65 = .ok (.iconst 0, 1) := by decide +kernel
theorem dX1_hold_66 : decode cX1_hold 66 = .ok (.invokevirtual 51, 3) := by decide +kernel
theorem dX1_hold_69 : decode cX1_hold 69 = .ok (.iload_n 2, 1) := by decide +kernel
theorem dX1_hold_70 : decode cX1_hold 70 = .ok (.ireturn, 1) := by decide +kernel
set_option maxRecDepth 20000 in
theorem ggX1_spoil_X1_isPallet : GoodIn wsX1_spoil wsX1_isPallet := goodIn_r _ [6, 7, 39, 40, 41, 42, 43, 44, 45] (by decide +kernel) (by decide +kernel)
set_option maxRecDepth 20000 in
theorem gX1_spoil_X1_isPallet : GoodIn wsX1_spoil (wsV RX1 55 RX1 yX1_isPallet wsX1_isPallet) := goodIn_app (goodIn_of _ (by decide +kernel)) ggX1_spoil_X1_isPallet
set_option maxRecDepth 20000 in
theorem ggX1_spoil_X0_has : GoodIn wsX1_spoil wsX0_has := goodIn_r _ [12, 13, 46, 47, 48, 49, 50] (by decide +kernel) (by decide +kernel)
set_option maxRecDepth 20000 in
theorem gX1_spoil_X0_has : GoodIn wsX1_spoil (wsV RX1 98 RX0 yX0_has wsX0_has) := goodIn_app (goodIn_of _ (by decide +kernel)) ggX1_spoil_X0_has
set_option maxRecDepth 20000 in
theorem ggX1_spoil_X1_needThere : GoodIn wsX1_spoil wsX1_needThere := goodIn_ca (goodIn_r _ [16, 17, 18] (by decide +kernel) (by decide +kernel)) (goodIn_sub (fun _ h => List.mem_cons_of_mem _ (List.mem_append_left _ (List.mem_append_right _ h))) (by decide +kernel))
set_option maxRecDepth 20000 in
theorem gX1_spoil_X1_needThere : GoodIn wsX1_spoil (va_wsS RX1 36 yX1_needThere wsX1_needThere) := goodIn_app (goodIn_of _ (by decide +kernel)) ggX1_spoil_X1_needThere
set_option maxRecDepth 20000 in
theorem ggX1_spoil_X1_isWithin : GoodIn wsX1_spoil wsX1_isWithin := goodIn_r _ [21] (by decide +kernel) (by decide +kernel)
set_option maxRecDepth 20000 in
theorem gX1_spoil_X1_isWithin : GoodIn wsX1_spoil (va_wsS RX1 61 yX1_isWithin wsX1_isWithin) := goodIn_app (goodIn_of _ (by decide +kernel)) ggX1_spoil_X1_isWithin
set_option maxRecDepth 20000 in
theorem ggX1_spoil_X1_needRange : GoodIn wsX1_spoil wsX1_needRange := goodIn_ca (goodIn_r _ [24, 25, 26] (by decide +kernel) (by decide +kernel)) (goodIn_sub (fun _ h => List.mem_cons_of_mem _ (List.mem_append_right _ h)) (by decide +kernel))
set_option maxRecDepth 20000 in
theorem gX1_spoil_X1_needRange : GoodIn wsX1_spoil (va_wsS RX1 65 yX1_needRange wsX1_needRange) := goodIn_app (goodIn_of _ (by decide +kernel)) ggX1_spoil_X1_needRange
set_option maxRecDepth 20000 in
theorem ggX1_spoil_X0_number : GoodIn wsX1_spoil wsX0_number := goodIn_r _ [30, 31, 32, 33, 11, 34, 46, 47, 48, 49, 50] (by decide +kernel) (by decide +kernel)
set_option maxRecDepth 20000 in
theorem gX1_spoil_X0_number : GoodIn wsX1_spoil (wsV RX1 101 RX0 yX0_number wsX0_number) := goodIn_app (goodIn_of _ (by decide +kernel)) ggX1_spoil_X0_number
set_option maxRecDepth 20000 in
theorem ggX1_spoil_X0_putAmount : GoodIn wsX1_spoil wsX0_putAmount := goodIn_r _ [38, 31, 32, 33, 11, 34, 46, 47, 48, 49, 50] (by decide +kernel) (by decide +kernel)
set_option maxRecDepth 20000 in
theorem gX1_spoil_X0_putAmount : GoodIn wsX1_spoil (wsV RX1 105 RX0 yX0_putAmount wsX0_putAmount) := goodIn_app (goodIn_of _ (by decide +kernel)) ggX1_spoil_X0_putAmount
theorem dX1_spoil_0 : decode cX1_spoil 0 = .ok (.aload_n 0, 1) := by decide +kernel
theorem dX1_spoil_1 : decode cX1_spoil 1 = .ok (.iload_n 1, 1) := by decide +kernel
theorem dX1_spoil_2 : decode cX1_spoil 2 = .ok (.invokevirtual 55, 3) := by decide +kernel
theorem dX1_spoil_5 : decode cX1_spoil 5 = .ok (.ifCond .eq 19, 3) := by decide +kernel
theorem dX1_spoil_8 : decode cX1_spoil 8 = .ok (.aload_n 0, 1) := by decide +kernel
theorem dX1_spoil_9 : decode cX1_spoil 9 = .ok (.getfield 10, 3) := by decide +kernel
theorem dX1_spoil_12 : decode cX1_spoil 12 = .ok (.iload_n 1, 1) := by decide +kernel
theorem dX1_spoil_13 : decode cX1_spoil 13 = .ok (.iload_n 2, 1) := by decide +kernel
theorem dX1_spoil_14 : decode cX1_spoil 14 = .ok (.invokevirtual 98, 3) := by decide +kernel
theorem dX1_spoil_17 : decode cX1_spoil 17 = .ok (.ifCond .eq 7, 3) := by decide +kernel
theorem dX1_spoil_20 : decode cX1_spoil 20 = .ok (.iconst 1, 1) := by decide +kernel
theorem dX1_spoil_21 : decode cX1_spoil 21 = .ok (.goto 4, 3) := by decide +kernel
theorem dX1_spoil_24 : decode cX1_spoil 24 = .ok (.iconst 0, 1) := by decide +kernel
theorem dX1_spoil_25 : decode cX1_spoil 25 = .ok (.invokestatic 36, 3) := by decide +kernel
theorem dX1_spoil_28 : decode cX1_spoil 28 = .ok (.iload_n 3, 1) := by decide +kernel
theorem dX1_spoil_29 : decode cX1_spoil 29 = .ok (.sipush (-999), 3) := by decide +kernel
theorem dX1_spoil_32 : decode cX1_spoil 32 = .ok (.sipush 999, 3) := by decide +kernel
theorem dX1_spoil_35 : decode cX1_spoil 35 = .ok (.invokestatic 61, 3) := by decide +kernel
theorem dX1_spoil_38 : decode cX1_spoil 38 = .ok (.invokestatic 65, 3) := by decide +kernel
theorem dX1_spoil_41 : decode cX1_spoil 41 = .ok (.aload_n 0, 1) := by decide +kernel
theorem dX1_spoil_42 : decode cX1_spoil 42 = .ok (.getfield 10, 3) := by decide +kernel
theorem dX1_spoil_45 : decode cX1_spoil 45 = .ok (.iload_n 1, 1) := by decide +kernel
theorem dX1_spoil_46 : decode cX1_spoil 46 = .ok (.iload_n 2, 1) := by decide +kernel
theorem dX1_spoil_47 : decode cX1_spoil 47 = .ok (.iconst 3, 1) := by decide +kernel
theorem dX1_spoil_48 : decode cX1_spoil 48 = .ok (.invokevirtual 101, 3) := by decide +kernel
theorem dX1_spoil_51 : decode cX1_spoil 51 = .ok (.istore 4, 2) := by decide +kernel
theorem dX1_spoil_53 : decode cX1_spoil 53 = .ok (.aload_n 0, 1) := by decide +kernel
theorem dX1_spoil_54 : decode cX1_spoil 54 = .ok (.getfield 10, 3) := by decide +kernel
theorem dX1_spoil_57 : decode cX1_spoil 57 = .ok (.iload_n 1, 1) := by decide +kernel
theorem dX1_spoil_58 : decode cX1_spoil 58 = .ok (.iload_n 2, 1) := by decide +kernel
theorem dX1_spoil_59 : decode cX1_spoil 59 = .ok (.iload_n 3, 1) := by decide +kernel
theorem dX1_spoil_60 : decode cX1_spoil 60 = .ok (.invokevirtual 105, 3) := by decide +kernel
theorem dX1_spoil_63 : decode cX1_spoil 63 = .ok (.iload 4, 2) := by decide +kernel
theorem dX1_spoil_65 : decode cX1_spoil 65 = .ok (.ireturn, 1) := by decide +kernel
set_option maxRecDepth 20000 in
theorem ggX1_repair_X1_isPallet : GoodIn wsX1_repair wsX1_isPallet := goodIn_r _ [8, 9, 63, 64, 65, 66, 67, 68, 69] (by decide +kernel) (by decide +kernel)
set_option maxRecDepth 20000 in
theorem gX1_repair_X1_isPallet : GoodIn wsX1_repair (wsV RX1 55 RX1 yX1_isPallet wsX1_isPallet) := goodIn_app (goodIn_of _ (by decide +kernel)) ggX1_repair_X1_isPallet
set_option maxRecDepth 20000 in
theorem ggX1_repair_X0_has : GoodIn wsX1_repair wsX0_has := goodIn_r _ [14, 15, 70, 71, 72, 73, 74] (by decide +kernel) (by decide +kernel)
set_option maxRecDepth 20000 in
theorem gX1_repair_X0_has : GoodIn wsX1_repair (wsV RX1 98 RX0 yX0_has wsX0_has) := goodIn_app (goodIn_of _ (by decide +kernel)) ggX1_repair_X0_has
set_option maxRecDepth 20000 in
theorem ggX1_repair_X1_needThere : GoodIn wsX1_repair wsX1_needThere := goodIn_ca (goodIn_r _ [18, 19, 20] (by decide +kernel) (by decide +kernel)) (goodIn_sub (fun _ h => List.mem_cons_of_mem _ (List.mem_append_left _ (List.mem_append_right _ h))) (by decide +kernel))
set_option maxRecDepth 20000 in
theorem gX1_repair_X1_needThere : GoodIn wsX1_repair (va_wsS RX1 36 yX1_needThere wsX1_needThere) := goodIn_app (goodIn_of _ (by decide +kernel)) ggX1_repair_X1_needThere
set_option maxRecDepth 20000 in
theorem ggX1_repair_X0_copies : GoodIn wsX1_repair wsX0_copies := goodIn_r _ [24, 25, 26, 27, 13, 28, 70, 71, 72, 73, 74] (by decide +kernel) (by decide +kernel)
set_option maxRecDepth 20000 in
theorem gX1_repair_X0_copies : GoodIn wsX1_repair (wsV RX1 115 RX0 yX0_copies wsX0_copies) := goodIn_app (goodIn_of _ (by decide +kernel)) ggX1_repair_X0_copies
set_option maxRecDepth 20000 in
theorem ggX1_repair_X1_lowestOf : GoodIn wsX1_repair wsX1_lowestOf := goodIn_r _ [31, 32, 33, 7, 34] (by decide +kernel) (by decide +kernel)
set_option maxRecDepth 20000 in
theorem gX1_repair_X1_lowestOf : GoodIn wsX1_repair (va_wsS RX1 119 yX1_lowestOf wsX1_lowestOf) := goodIn_app (goodIn_of _ (by decide +kernel)) ggX1_repair_X1_lowestOf
set_option maxRecDepth 20000 in
theorem ggX1_repair_X0_isBroken : GoodIn wsX1_repair wsX0_isBroken := goodIn_r _ [38, 39, 40, 41, 13, 42, 43, 26, 27, 28, 44, 45, 46, 47, 48, 70, 71, 72, 73, 74] (by decide +kernel) (by decide +kernel)
set_option maxRecDepth 20000 in
theorem gX1_repair_X0_isBroken : GoodIn wsX1_repair (wsV RX1 122 RX0 yX0_isBroken wsX0_isBroken) := goodIn_app (goodIn_of _ (by decide +kernel)) ggX1_repair_X0_isBroken
set_option maxRecDepth 20000 in
theorem ggX1_repair_X1_needState : GoodIn wsX1_repair wsX1_needState := goodIn_ca (goodIn_r _ [51, 52, 53] (by decide +kernel) (by decide +kernel)) (goodIn_sub (fun _ h => List.mem_cons_of_mem _ (List.mem_append_right _ h)) (by decide +kernel))
set_option maxRecDepth 20000 in
theorem gX1_repair_X1_needState : GoodIn wsX1_repair (va_wsS RX1 44 yX1_needState wsX1_needState) := goodIn_app (goodIn_of _ (by decide +kernel)) ggX1_repair_X1_needState
set_option maxRecDepth 20000 in
theorem ggX1_repair_X0_putAmountBack : GoodIn wsX1_repair wsX0_putAmountBack := goodIn_r _ [57, 58, 26, 27, 13, 28, 59, 60, 61, 62, 48, 70, 71, 72, 73, 74] (by decide +kernel) (by decide +kernel)
set_option maxRecDepth 20000 in
theorem gX1_repair_X0_putAmountBack : GoodIn wsX1_repair (wsV RX1 125 RX0 yX0_putAmountBack wsX0_putAmountBack) := goodIn_app (goodIn_of _ (by decide +kernel)) ggX1_repair_X0_putAmountBack
theorem dX1_repair_0 : decode cX1_repair 0 = .ok (.aload_n 0, 1) := by decide +kernel
theorem dX1_repair_1 : decode cX1_repair 1 = .ok (.iload_n 1, 1) := by decide +kernel
theorem dX1_repair_2 : decode cX1_repair 2 = .ok (.invokevirtual 55, 3) := by decide +kernel
theorem dX1_repair_5 : decode cX1_repair 5 = .ok (.ifCond .eq 19, 3) := by decide +kernel
theorem dX1_repair_8 : decode cX1_repair 8 = .ok (.aload_n 0, 1) := by decide +kernel
theorem dX1_repair_9 : decode cX1_repair 9 = .ok (.getfield 10, 3) := by decide +kernel
theorem dX1_repair_12 : decode cX1_repair 12 = .ok (.iload_n 1, 1) := by decide +kernel
theorem dX1_repair_13 : decode cX1_repair 13 = .ok (.iload_n 2, 1) := by decide +kernel
theorem dX1_repair_14 : decode cX1_repair 14 = .ok (.invokevirtual 98, 3) := by decide +kernel
theorem dX1_repair_17 : decode cX1_repair 17 = .ok (.ifCond .eq 7, 3) := by decide +kernel
theorem dX1_repair_20 : decode cX1_repair 20 = .ok (.iconst 1, 1) := by decide +kernel
theorem dX1_repair_21 : decode cX1_repair 21 = .ok (.goto 4, 3) := by decide +kernel
theorem dX1_repair_24 : decode cX1_repair 24 = .ok (.iconst 0, 1) := by decide +kernel
theorem dX1_repair_25 : decode cX1_repair 25 = .ok (.invokestatic 36, 3) := by decide +kernel
theorem dX1_repair_28 : decode cX1_repair 28 = .ok (.aload_n 0, 1) := by decide +kernel
theorem dX1_repair_29 : decode cX1_repair 29 = .ok (.getfield 10, 3) := by decide +kernel
theorem dX1_repair_32 : decode cX1_repair 32 = .ok (.iload_n 1, 1) := by decide +kernel
theorem dX1_repair_33 : decode cX1_repair 33 = .ok (.iload_n 2, 1) := by decide +kernel
theorem dX1_repair_34 : decode cX1_repair 34 = .ok (.invokevirtual 115, 3) := by decide +kernel
theorem dX1_repair_37 : decode cX1_repair 37 = .ok (.invokestatic 119, 3) := by decide +kernel
theorem dX1_repair_40 : decode cX1_repair 40 = .ok (.istore_n 3, 1) := by decide +kernel
theorem dX1_repair_41 : decode cX1_repair 41 = .ok (.aload_n 0, 1) := by decide +kernel
theorem dX1_repair_42 : decode cX1_repair 42 = .ok (.getfield 10, 3) := by decide +kernel
theorem dX1_repair_45 : decode cX1_repair 45 = .ok (.iload_n 1, 1) := by decide +kernel
theorem dX1_repair_46 : decode cX1_repair 46 = .ok (.iload_n 2, 1) := by decide +kernel
theorem dX1_repair_47 : decode cX1_repair 47 = .ok (.invokevirtual 122, 3) := by decide +kernel
theorem dX1_repair_50 : decode cX1_repair 50 = .ok (.ifCond .eq 12, 3) := by decide +kernel
theorem dX1_repair_53 : decode cX1_repair 53 = .ok (.iload_n 3, 1) := by decide +kernel
theorem dX1_repair_54 : decode cX1_repair 54 = .ok (.iconst (-1), 1) := by decide +kernel
theorem dX1_repair_55 : decode cX1_repair 55 = .ok (.if_icmp .eq 7, 3) := by decide +kernel
theorem dX1_repair_58 : decode cX1_repair 58 = .ok (.iconst 1, 1) := by decide +kernel
theorem dX1_repair_59 : decode cX1_repair 59 = .ok (.goto 4, 3) := by decide +kernel
theorem dX1_repair_62 : decode cX1_repair 62 = .ok (.iconst 0, 1) := by decide +kernel
theorem dX1_repair_63 : decode cX1_repair 63 = .ok (.invokestatic 44, 3) := by decide +kernel
theorem dX1_repair_66 : decode cX1_repair 66 = .ok (.aload_n 0, 1) := by decide +kernel
theorem dX1_repair_67 : decode cX1_repair 67 = .ok (.getfield 10, 3) := by decide +kernel
theorem dX1_repair_70 : decode cX1_repair 70 = .ok (.iload_n 1, 1) := by decide +kernel
theorem dX1_repair_71 : decode cX1_repair 71 = .ok (.iload_n 2, 1) := by decide +kernel
theorem dX1_repair_72 : decode cX1_repair 72 = .ok (.invokevirtual 125, 3) := by decide +kernel
theorem dX1_repair_75 : decode cX1_repair 75 = .ok (.aload_n 0, 1) := by decide +kernel
theorem dX1_repair_76 : decode cX1_repair 76 = .ok (.getfield 29, 3) := by decide +kernel
theorem dX1_repair_79 : decode cX1_repair 79 = .ok (.aload_n 0, 1) := by decide +kernel
theorem dX1_repair_80 : decode cX1_repair 80 = .ok (.getfield 16, 3) := by decide +kernel
theorem dX1_repair_83 : decode cX1_repair 83 = .ok (.iload_n 1, 1) := by decide +kernel
theorem dX1_repair_84 : decode cX1_repair 84 = .ok (.iaload, 1) := by decide +kernel
theorem dX1_repair_85 : decode cX1_repair 85 = .ok (.dup2, 1) := by decide +kernel
theorem dX1_repair_86 : decode cX1_repair 86 = .ok (.iaload, 1) := by decide +kernel
theorem dX1_repair_87 : decode cX1_repair 87 = .ok (.iconst 5, 1) := by decide +kernel
theorem dX1_repair_88 : decode cX1_repair 88 = .ok (.iadd, 1) := by decide +kernel
theorem dX1_repair_89 : decode cX1_repair 89 = .ok (.iastore, 1) := by decide +kernel
theorem dX1_repair_90 : decode cX1_repair 90 = .ok (.iload_n 3, 1) := by decide +kernel
theorem dX1_repair_91 : decode cX1_repair 91 = .ok (.ireturn, 1) := by decide +kernel
set_option maxRecDepth 20000 in
theorem ggX1_broken_X1_isPallet : GoodIn wsX1_broken wsX1_isPallet := goodIn_r _ [6, 7, 36, 37, 38, 39, 40, 41, 42] (by decide +kernel) (by decide +kernel)
set_option maxRecDepth 20000 in
theorem gX1_broken_X1_isPallet : GoodIn wsX1_broken (wsV RX1 55 RX1 yX1_isPallet wsX1_isPallet) := goodIn_app (goodIn_of _ (by decide +kernel)) ggX1_broken_X1_isPallet
set_option maxRecDepth 20000 in
theorem ggX1_broken_X1_needThere : GoodIn wsX1_broken wsX1_needThere := goodIn_ca (goodIn_r _ [10, 11, 12] (by decide +kernel) (by decide +kernel)) (goodIn_sub (fun _ h => List.mem_cons_of_mem _ (List.mem_append_right _ h)) (by decide +kernel))
set_option maxRecDepth 20000 in
theorem gX1_broken_X1_needThere : GoodIn wsX1_broken (va_wsS RX1 36 yX1_needThere wsX1_needThere) := goodIn_app (goodIn_of _ (by decide +kernel)) ggX1_broken_X1_needThere
set_option maxRecDepth 20000 in
theorem ggX1_broken_X0_firstBroken : GoodIn wsX1_broken wsX0_firstBroken := goodIn_r _ [17, 18, 19, 20, 21, 16, 22, 23, 24, 25, 26, 27, 28, 29, 30, 31, 32, 33, 34, 35, 43, 44, 45, 46, 47] (by decide +kernel) (by decide +kernel)
set_option maxRecDepth 20000 in
theorem gX1_broken_X0_firstBroken : GoodIn wsX1_broken (wsV RX1 129 RX0 yX0_firstBroken wsX0_firstBroken) := goodIn_app (goodIn_of _ (by decide +kernel)) ggX1_broken_X0_firstBroken
theorem dX1_broken_0 : decode cX1_broken 0 = .ok (.aload_n 0, 1) := by decide +kernel
theorem dX1_broken_1 : decode cX1_broken 1 = .ok (.iload_n 1, 1) := by decide +kernel
theorem dX1_broken_2 : decode cX1_broken 2 = .ok (.invokevirtual 55, 3) := by decide +kernel
theorem dX1_broken_5 : decode cX1_broken 5 = .ok (.invokestatic 36, 3) := by decide +kernel
theorem dX1_broken_8 : decode cX1_broken 8 = .ok (.aload_n 0, 1) := by decide +kernel
theorem dX1_broken_9 : decode cX1_broken 9 = .ok (.getfield 10, 3) := by decide +kernel
theorem dX1_broken_12 : decode cX1_broken 12 = .ok (.iload_n 1, 1) := by decide +kernel
theorem dX1_broken_13 : decode cX1_broken 13 = .ok (.invokevirtual 129, 3) := by decide +kernel
theorem dX1_broken_16 : decode cX1_broken 16 = .ok (.ireturn, 1) := by decide +kernel
set_option maxRecDepth 20000 in
theorem ggX1_isSound_X1_isPallet : GoodIn wsX1_isSound wsX1_isPallet := goodIn_r _ [5, 6, 55, 56, 57, 58, 59, 60, 61] (by decide +kernel) (by decide +kernel)
set_option maxRecDepth 20000 in
theorem gX1_isSound_X1_isPallet : GoodIn wsX1_isSound (wsV RX1 55 RX1 yX1_isPallet wsX1_isPallet) := goodIn_app (goodIn_of _ (by decide +kernel)) ggX1_isSound_X1_isPallet
set_option maxRecDepth 20000 in
theorem ggX1_isSound_X1_needThere : GoodIn wsX1_isSound wsX1_needThere := goodIn_ca (goodIn_r _ [9, 10, 11] (by decide +kernel) (by decide +kernel)) (goodIn_sub (fun _ h => List.mem_cons_of_mem _ (List.mem_append_right _ h)) (by decide +kernel))
set_option maxRecDepth 20000 in
theorem gX1_isSound_X1_needThere : GoodIn wsX1_isSound (va_wsS RX1 36 yX1_needThere wsX1_needThere) := goodIn_app (goodIn_of _ (by decide +kernel)) ggX1_isSound_X1_needThere
set_option maxRecDepth 20000 in
theorem ggX1_isSound_X1_allAreUnbroken : GoodIn wsX1_isSound wsX1_allAreUnbroken := goodIn_r _ [15, 16, 6, 17, 18, 19, 20, 21, 22, 4, 23, 24, 25, 26, 27, 28, 29, 30, 31, 32, 33, 34, 35, 36, 37, 38, 39, 40, 41, 42, 43, 44, 45, 46, 47, 48, 49, 50, 51, 52, 53, 54, 55, 56, 57, 58, 59, 60, 61, 62, 63, 64, 65, 66] (by decide +kernel) (by decide +kernel)
set_option maxRecDepth 20000 in
theorem gX1_isSound_X1_allAreUnbroken : GoodIn wsX1_isSound (wsV RX1 132 RX1 yX1_allAreUnbroken wsX1_allAreUnbroken) := goodIn_app (goodIn_of _ (by decide +kernel)) ggX1_isSound_X1_allAreUnbroken
theorem dX1_isSound_0 : decode cX1_isSound 0 = .ok (.aload_n 0, 1) := by decide +kernel
theorem dX1_isSound_1 : decode cX1_isSound 1 = .ok (.iload_n 1, 1) := by decide +kernel
theorem dX1_isSound_2 : decode cX1_isSound 2 = .ok (.invokevirtual 55, 3) := by decide +kernel
theorem dX1_isSound_5 : decode cX1_isSound 5 = .ok (.invokestatic 36, 3) := by decide +kernel
theorem dX1_isSound_8 : decode cX1_isSound 8 = .ok (.aload_n 0, 1) := by decide +kernel
theorem dX1_isSound_9 : decode cX1_isSound 9 = .ok (.iload_n 1, 1) := by decide +kernel
theorem dX1_isSound_10 : decode cX1_isSound 10 = .ok (.invokevirtual 132, 3) := by decide +kernel
theorem dX1_isSound_13 : decode cX1_isSound 13 = .ok (.ireturn, 1) := by decide +kernel
set_option maxRecDepth 20000 in
theorem ggX1_pallet_X1_isPallet : GoodIn wsX1_pallet wsX1_isPallet := goodIn_r _ [7, 8, 56, 57, 58, 59, 60, 61, 62] (by decide +kernel) (by decide +kernel)
set_option maxRecDepth 20000 in
theorem gX1_pallet_X1_isPallet : GoodIn wsX1_pallet (wsV RX1 55 RX1 yX1_isPallet wsX1_isPallet) := goodIn_app (goodIn_of _ (by decide +kernel)) ggX1_pallet_X1_isPallet
set_option maxRecDepth 20000 in
theorem ggX1_pallet_X1_needThere : GoodIn wsX1_pallet wsX1_needThere := goodIn_ca (goodIn_r _ [11, 12, 13] (by decide +kernel) (by decide +kernel)) (goodIn_sub (fun _ h => List.mem_cons_of_mem _ (List.mem_append_left _ (List.mem_append_right _ h))) (by decide +kernel))
set_option maxRecDepth 20000 in
theorem gX1_pallet_X1_needThere : GoodIn wsX1_pallet (va_wsS RX1 36 yX1_needThere wsX1_needThere) := goodIn_app (goodIn_of _ (by decide +kernel)) ggX1_pallet_X1_needThere
set_option maxRecDepth 20000 in
theorem ggX1_pallet_X1_isWithin : GoodIn wsX1_pallet wsX1_isWithin := goodIn_r _ [16] (by decide +kernel) (by decide +kernel)
set_option maxRecDepth 20000 in
theorem gX1_pallet_X1_isWithin : GoodIn wsX1_pallet (va_wsS RX1 61 yX1_isWithin wsX1_isWithin) := goodIn_app (goodIn_of _ (by decide +kernel)) ggX1_pallet_X1_isWithin
set_option maxRecDepth 20000 in
theorem ggX1_pallet_X1_needRange : GoodIn wsX1_pallet wsX1_needRange := goodIn_ca (goodIn_r _ [19, 20, 21] (by decide +kernel) (by decide +kernel)) (goodIn_sub (fun _ h => List.mem_cons_of_mem _ (List.mem_append_right _ h)) (by decide +kernel))
set_option maxRecDepth 20000 in
theorem gX1_pallet_X1_needRange : GoodIn wsX1_pallet (va_wsS RX1 65 yX1_needRange wsX1_needRange) := goodIn_app (goodIn_of _ (by decide +kernel)) ggX1_pallet_X1_needRange
set_option maxRecDepth 20000 in
theorem ggX1_pallet_X0_length : GoodIn wsX1_pallet wsX0_length := goodIn_r _ [26, 27, 63, 64, 65, 66, 67] (by decide +kernel) (by decide +kernel)
set_option maxRecDepth 20000 in
theorem gX1_pallet_X0_length : GoodIn wsX1_pallet (wsV RX1 78 RX0 yX0_length wsX0_length) := goodIn_app (goodIn_of _ (by decide +kernel)) ggX1_pallet_X0_length
set_option maxRecDepth 20000 in
theorem ggX1_pallet_X1_weightOf : GoodIn wsX1_pallet wsX1_weightOf := goodIn_r _ [31, 32, 33, 34, 6, 35, 56, 57, 58, 59, 60, 61, 62] (by decide +kernel) (by decide +kernel)
set_option maxRecDepth 20000 in
theorem gX1_pallet_X1_weightOf : GoodIn wsX1_pallet (wsV RX1 87 RX1 yX1_weightOf wsX1_weightOf) := goodIn_app (goodIn_of _ (by decide +kernel)) ggX1_pallet_X1_weightOf
set_option maxRecDepth 20000 in
theorem ggX1_pallet_X1_isHeld : GoodIn wsX1_pallet wsX1_isHeld := goodIn_r _ [39, 2, 40, 41, 42, 25, 43, 27, 44, 45, 46, 47, 48, 49, 50, 51, 56, 57, 58, 59, 60, 61, 62, 63, 64, 65, 66, 67] (by decide +kernel) (by decide +kernel)
set_option maxRecDepth 20000 in
theorem gX1_pallet_X1_isHeld : GoodIn wsX1_pallet (wsV RX1 95 RX1 yX1_isHeld wsX1_isHeld) := goodIn_app (goodIn_of _ (by decide +kernel)) ggX1_pallet_X1_isHeld
set_option maxRecDepth 20000 in
theorem ggX1_pallet_X1_isGone : GoodIn wsX1_pallet wsX1_isGone := goodIn_r _ [55, 2, 40, 41, 42, 25, 43, 27, 44, 45, 46, 47, 48, 49, 50, 51, 56, 57, 58, 59, 60, 61, 62, 63, 64, 65, 66, 67] (by decide +kernel) (by decide +kernel)
set_option maxRecDepth 20000 in
theorem gX1_pallet_X1_isGone : GoodIn wsX1_pallet (wsV RX1 90 RX1 yX1_isGone wsX1_isGone) := goodIn_app (goodIn_of _ (by decide +kernel)) ggX1_pallet_X1_isGone
theorem dX1_pallet_0 : decode cX1_pallet 0 = .ok (.aload_n 0, 1) := by decide +kernel
theorem dX1_pallet_1 : decode cX1_pallet 1 = .ok (.iload_n 1, 1) := by decide +kernel
theorem dX1_pallet_2 : decode cX1_pallet 2 = .ok (.invokevirtual 55, 3) := by decide +kernel
theorem dX1_pallet_5 : decode cX1_pallet 5 = .ok (.invokestatic 36, 3) := by decide +kernel
theorem dX1_pallet_8 : decode cX1_pallet 8 = .ok (.iload_n 2, 1) := by decide +kernel
theorem dX1_pallet_9 : decode cX1_pallet 9 = .ok (.iconst 0, 1) := by decide +kernel
theorem dX1_pallet_10 : decode cX1_pallet 10 = .ok (.iconst 4, 1) := by decide +kernel
theorem dX1_pallet_11 : decode cX1_pallet 11 = .ok (.invokestatic 61, 3) := by decide +kernel
theorem dX1_pallet_14 : decode cX1_pallet 14 = .ok (.invokestatic 65, 3) := by decide +kernel
theorem dX1_pallet_17 : decode cX1_pallet 17 = .ok (.iload_n 2, 1) := by decide +kernel
theorem dX1_pallet_18 : decode cX1_pallet 18 = .ok (.tableswitch 66 0 3 #[30, 37, 46, 52], 30) := by decide +kernel
theorem dX1_pallet_48 : decode cX1_pallet 48 = .ok (.aload_n 0, 1) := by decide +kernel
theorem dX1_pallet_49 : decode cX1_pallet 49 = .ok (.getfield 16, 3) := by decide +kernel
theorem dX1_pallet_52 : decode cX1_pallet 52 = .ok (.iload_n 1, 1) := by decide +kernel
theorem dX1_pallet_53 : decode cX1_pallet 53 = .ok (.iaload, 1) := by decide +kernel
theorem dX1_pallet_54 : decode cX1_pallet 54 = .ok (.ireturn, 1) := by decide +kernel
theorem dX1_pallet_55 : decode cX1_pallet 55 = .ok (.aload_n 0, 1) := by decide +kernel
theorem dX1_pallet_56 : decode cX1_pallet 56 = .ok (.getfield 10, 3) := by decide +kernel
theorem dX1_pallet_59 : decode cX1_pallet 59 = .ok (.iload_n 1, 1) := by decide +kernel
theorem dX1_pallet_60 : decode cX1_pallet 60 = .ok (.invokevirtual 78, 3) := by decide +kernel
theorem dX1_pallet_63 : decode cX1_pallet 63 = .ok (.ireturn, 1) := by decide +kernel
theorem dX1_pallet_64 : decode cX1_pallet 64 = .ok (.aload_n 0, 1) := by decide +kernel
theorem dX1_pallet_65 : decode cX1_pallet 65 = .ok (.iload_n 1, 1) := by decide +kernel
theorem dX1_pallet_66 : decode cX1_pallet 66 = .ok (.invokevirtual 87, 3) := by decide +kernel
theorem dX1_pallet_69 : decode cX1_pallet 69 = .ok (.ireturn, 1) := by decide +kernel
theorem dX1_pallet_70 : decode cX1_pallet 70 = .ok (.aload_n 0, 1) := by decide +kernel
theorem dX1_pallet_71 : decode cX1_pallet 71 = .ok (.iload_n 1, 1) := by decide +kernel
theorem dX1_pallet_72 : decode cX1_pallet 72 = .ok (.invokevirtual 95, 3) := by decide +kernel
theorem dX1_pallet_75 : decode cX1_pallet 75 = .ok (.ifCond .eq 7, 3) := by decide +kernel
theorem dX1_pallet_78 : decode cX1_pallet 78 = .ok (.iconst 1, 1) := by decide +kernel
theorem dX1_pallet_79 : decode cX1_pallet 79 = .ok (.goto 4, 3) := by decide +kernel
theorem dX1_pallet_82 : decode cX1_pallet 82 = .ok (.iconst 0, 1) := by decide +kernel
theorem dX1_pallet_83 : decode cX1_pallet 83 = .ok (.ireturn, 1) := by decide +kernel
theorem dX1_pallet_84 : decode cX1_pallet 84 = .ok (.aload_n 0, 1) := by decide +kernel
theorem dX1_pallet_85 : decode cX1_pallet 85 = .ok (.iload_n 1, 1) := by decide +kernel
theorem dX1_pallet_86 : decode cX1_pallet 86 = .ok (.invokevirtual 90, 3) := by decide +kernel
theorem dX1_pallet_89 : decode cX1_pallet 89 = .ok (.ifCond .eq 7, 3) := by decide +kernel
theorem dX1_pallet_92 : decode cX1_pallet 92 = .ok (.iconst 1, 1) := by decide +kernel
theorem dX1_pallet_93 : decode cX1_pallet 93 = .ok (.goto 4, 3) := by decide +kernel
theorem dX1_pallet_96 : decode cX1_pallet 96 = .ok (.iconst 0, 1) := by decide +kernel
theorem dX1_pallet_97 : decode cX1_pallet 97 = .ok (.ireturn, 1) := by decide +kernel
set_option maxRecDepth 20000 in
theorem ggX1_entry_X1_isPallet : GoodIn wsX1_entry wsX1_isPallet := goodIn_r _ [6, 7, 45, 46, 47, 48, 49, 50, 51] (by decide +kernel) (by decide +kernel)
set_option maxRecDepth 20000 in
theorem gX1_entry_X1_isPallet : GoodIn wsX1_entry (wsV RX1 55 RX1 yX1_isPallet wsX1_isPallet) := goodIn_app (goodIn_of _ (by decide +kernel)) ggX1_entry_X1_isPallet
set_option maxRecDepth 20000 in
theorem ggX1_entry_X0_has : GoodIn wsX1_entry wsX0_has := goodIn_r _ [12, 13, 52, 53, 54, 55, 56] (by decide +kernel) (by decide +kernel)
set_option maxRecDepth 20000 in
theorem gX1_entry_X0_has : GoodIn wsX1_entry (wsV RX1 98 RX0 yX0_has wsX0_has) := goodIn_app (goodIn_of _ (by decide +kernel)) ggX1_entry_X0_has
set_option maxRecDepth 20000 in
theorem ggX1_entry_X1_needThere : GoodIn wsX1_entry wsX1_needThere := goodIn_ca (goodIn_r _ [16, 17, 18] (by decide +kernel) (by decide +kernel)) (goodIn_sub (fun _ h => List.mem_cons_of_mem _ (List.mem_append_left _ (List.mem_append_right _ h))) (by decide +kernel))
set_option maxRecDepth 20000 in
theorem gX1_entry_X1_needThere : GoodIn wsX1_entry (va_wsS RX1 36 yX1_needThere wsX1_needThere) := goodIn_app (goodIn_of _ (by decide +kernel)) ggX1_entry_X1_needThere
set_option maxRecDepth 20000 in
theorem ggX1_entry_X1_isWithin : GoodIn wsX1_entry wsX1_isWithin := goodIn_r _ [21] (by decide +kernel) (by decide +kernel)
set_option maxRecDepth 20000 in
theorem gX1_entry_X1_isWithin : GoodIn wsX1_entry (va_wsS RX1 61 yX1_isWithin wsX1_isWithin) := goodIn_app (goodIn_of _ (by decide +kernel)) ggX1_entry_X1_isWithin
set_option maxRecDepth 20000 in
theorem ggX1_entry_X1_needRange : GoodIn wsX1_entry wsX1_needRange := goodIn_ca (goodIn_r _ [24, 25, 26] (by decide +kernel) (by decide +kernel)) (goodIn_sub (fun _ h => List.mem_cons_of_mem _ (List.mem_append_right _ h)) (by decide +kernel))
set_option maxRecDepth 20000 in
theorem gX1_entry_X1_needRange : GoodIn wsX1_entry (va_wsS RX1 65 yX1_needRange wsX1_needRange) := goodIn_app (goodIn_of _ (by decide +kernel)) ggX1_entry_X1_needRange
set_option maxRecDepth 20000 in
theorem ggX1_entry_X0_number : GoodIn wsX1_entry wsX0_number := goodIn_r _ [30, 31, 32, 33, 11, 34, 52, 53, 54, 55, 56] (by decide +kernel) (by decide +kernel)
set_option maxRecDepth 20000 in
theorem gX1_entry_X0_number : GoodIn wsX1_entry (wsV RX1 101 RX0 yX0_number wsX0_number) := goodIn_app (goodIn_of _ (by decide +kernel)) ggX1_entry_X0_number
set_option maxRecDepth 20000 in
theorem ggX1_entry_X0_proof : GoodIn wsX1_entry wsX0_proof := goodIn_r _ [38, 39, 32, 33, 11, 34, 52, 53, 54, 55, 56] (by decide +kernel) (by decide +kernel)
set_option maxRecDepth 20000 in
theorem gX1_entry_X0_proof : GoodIn wsX1_entry (wsV RX1 135 RX0 yX0_proof wsX0_proof) := goodIn_app (goodIn_of _ (by decide +kernel)) ggX1_entry_X0_proof
set_option maxRecDepth 20000 in
theorem ggX1_entry_X0_copies : GoodIn wsX1_entry wsX0_copies := goodIn_r _ [43, 44, 32, 33, 11, 34, 52, 53, 54, 55, 56] (by decide +kernel) (by decide +kernel)
set_option maxRecDepth 20000 in
theorem gX1_entry_X0_copies : GoodIn wsX1_entry (wsV RX1 115 RX0 yX0_copies wsX0_copies) := goodIn_app (goodIn_of _ (by decide +kernel)) ggX1_entry_X0_copies
theorem dX1_entry_0 : decode cX1_entry 0 = .ok (.aload_n 0, 1) := by decide +kernel
theorem dX1_entry_1 : decode cX1_entry 1 = .ok (.iload_n 1, 1) := by decide +kernel
theorem dX1_entry_2 : decode cX1_entry 2 = .ok (.invokevirtual 55, 3) := by decide +kernel
theorem dX1_entry_5 : decode cX1_entry 5 = .ok (.ifCond .eq 19, 3) := by decide +kernel
theorem dX1_entry_8 : decode cX1_entry 8 = .ok (.aload_n 0, 1) := by decide +kernel
theorem dX1_entry_9 : decode cX1_entry 9 = .ok (.getfield 10, 3) := by decide +kernel
theorem dX1_entry_12 : decode cX1_entry 12 = .ok (.iload_n 1, 1) := by decide +kernel
theorem dX1_entry_13 : decode cX1_entry 13 = .ok (.iload_n 2, 1) := by decide +kernel
theorem dX1_entry_14 : decode cX1_entry 14 = .ok (.invokevirtual 98, 3) := by decide +kernel
theorem dX1_entry_17 : decode cX1_entry 17 = .ok (.ifCond .eq 7, 3) := by decide +kernel
theorem dX1_entry_20 : decode cX1_entry 20 = .ok (.iconst 1, 1) := by decide +kernel
theorem dX1_entry_21 : decode cX1_entry 21 = .ok (.goto 4, 3) := by decide +kernel
theorem dX1_entry_24 : decode cX1_entry 24 = .ok (.iconst 0, 1) := by decide +kernel
theorem dX1_entry_25 : decode cX1_entry 25 = .ok (.invokestatic 36, 3) := by decide +kernel
theorem dX1_entry_28 : decode cX1_entry 28 = .ok (.iload_n 3, 1) := by decide +kernel
theorem dX1_entry_29 : decode cX1_entry 29 = .ok (.iconst 0, 1) := by decide +kernel
theorem dX1_entry_30 : decode cX1_entry 30 = .ok (.bipush 7, 2) := by decide +kernel
theorem dX1_entry_32 : decode cX1_entry 32 = .ok (.invokestatic 61, 3) := by decide +kernel
theorem dX1_entry_35 : decode cX1_entry 35 = .ok (.invokestatic 65, 3) := by decide +kernel
theorem dX1_entry_38 : decode cX1_entry 38 = .ok (.iload_n 3, 1) := by decide +kernel
theorem dX1_entry_39 : decode cX1_entry 39 = .ok (.bipush 6, 2) := by decide +kernel
theorem dX1_entry_41 : decode cX1_entry 41 = .ok (.if_icmp .ge 14, 3) := by decide +kernel
theorem dX1_entry_44 : decode cX1_entry 44 = .ok (.aload_n 0, 1) := by decide +kernel
theorem dX1_entry_45 : decode cX1_entry 45 = .ok (.getfield 10, 3) := by decide +kernel
theorem dX1_entry_48 : decode cX1_entry 48 = .ok (.iload_n 1, 1) := by decide +kernel
theorem dX1_entry_49 : decode cX1_entry 49 = .ok (.iload_n 2, 1) := by decide +kernel
theorem dX1_entry_50 : decode cX1_entry 50 = .ok (.iload_n 3, 1) := by decide +kernel
theorem dX1_entry_51 : decode cX1_entry 51 = .ok (.invokevirtual 101, 3) := by decide +kernel
theorem dX1_entry_54 : decode cX1_entry 54 = .ok (.ireturn, 1) := by decide +kernel
theorem dX1_entry_55 : decode cX1_entry 55 = .ok (.iload_n 3, 1) := by decide +kernel
theorem dX1_entry_56 : decode cX1_entry 56 = .ok (.bipush 6, 2) := by decide +kernel
theorem dX1_entry_58 : decode cX1_entry 58 = .ok (.if_icmp .ne 15, 3) := by decide +kernel
theorem dX1_entry_61 : decode cX1_entry 61 = .ok (.aload_n 0, 1) := by decide +kernel
theorem dX1_entry_62 : decode cX1_entry 62 = .ok (.getfield 10, 3) := by decide +kernel
theorem dX1_entry_65 : decode cX1_entry 65 = .ok (.iload_n 1, 1) := by decide +kernel
theorem dX1_entry_66 : decode cX1_entry 66 = .ok (.iload_n 2, 1) := by decide +kernel
theorem dX1_entry_67 : decode cX1_entry 67 = .ok (.invokevirtual 135, 3) := by decide +kernel
theorem dX1_entry_70 : decode cX1_entry 70 = .ok (.goto 12, 3) := by decide +kernel
theorem dX1_entry_73 : decode cX1_entry 73 = .ok (.aload_n 0, 1) := by decide +kernel
theorem dX1_entry_74 : decode cX1_entry 74 = .ok (.getfield 10, 3) := by decide +kernel
theorem dX1_entry_77 : decode cX1_entry 77 = .ok (.iload_n 1, 1) := by decide +kernel
theorem dX1_entry_78 : decode cX1_entry 78 = .ok (.iload_n 2, 1) := by decide +kernel
theorem dX1_entry_79 : decode cX1_entry 79 = .ok (.invokevirtual 115, 3) := by decide +kernel
theorem dX1_entry_82 : decode cX1_entry 82 = .ok (.ireturn, 1) := by decide +kernel
set_option maxRecDepth 20000 in
theorem ggX1_contents_X1_isPallet : GoodIn wsX1_contents wsX1_isPallet := goodIn_r _ [6, 7, 16, 17, 18, 19, 20, 21, 22] (by decide +kernel) (by decide +kernel)
set_option maxRecDepth 20000 in
theorem gX1_contents_X1_isPallet : GoodIn wsX1_contents (wsV RX1 55 RX1 yX1_isPallet wsX1_isPallet) := goodIn_app (goodIn_of _ (by decide +kernel)) ggX1_contents_X1_isPallet
set_option maxRecDepth 20000 in
theorem ggX1_contents_X1_isGood : GoodIn wsX1_contents wsX1_isGood := goodIn_r _ [10] (by decide +kernel) (by decide +kernel)
set_option maxRecDepth 20000 in
theorem gX1_contents_X1_isGood : GoodIn wsX1_contents (va_wsS RX1 58 yX1_isGood wsX1_isGood) := goodIn_app (goodIn_of _ (by decide +kernel)) ggX1_contents_X1_isGood
set_option maxRecDepth 20000 in
theorem ggX1_contents_X1_needThere : GoodIn wsX1_contents wsX1_needThere := goodIn_ca (goodIn_r _ [13, 14, 15] (by decide +kernel) (by decide +kernel)) (goodIn_sub (fun _ h => List.mem_cons_of_mem _ (List.mem_append_right _ h)) (by decide +kernel))
set_option maxRecDepth 20000 in
theorem gX1_contents_X1_needThere : GoodIn wsX1_contents (va_wsS RX1 36 yX1_needThere wsX1_needThere) := goodIn_app (goodIn_of _ (by decide +kernel)) ggX1_contents_X1_needThere
theorem dX1_contents_0 : decode cX1_contents 0 = .ok (.aload_n 0, 1) := by decide +kernel
theorem dX1_contents_1 : decode cX1_contents 1 = .ok (.iload_n 1, 1) := by decide +kernel
theorem dX1_contents_2 : decode cX1_contents 2 = .ok (.invokevirtual 55, 3) := by decide +kernel
theorem dX1_contents_5 : decode cX1_contents 5 = .ok (.ifCond .eq 14, 3) := by decide +kernel
theorem dX1_contents_8 : decode cX1_contents 8 = .ok (.iload_n 2, 1) := by decide +kernel
theorem dX1_contents_9 : decode cX1_contents 9 = .ok (.invokestatic 58, 3) := by decide +kernel
theorem dX1_contents_12 : decode cX1_contents 12 = .ok (.ifCond .eq 7, 3) := by decide +kernel
theorem dX1_contents_15 : decode cX1_contents 15 = .ok (.iconst 1, 1) := by decide +kernel
theorem dX1_contents_16 : decode cX1_contents 16 = .ok (.goto 4, 3) := by decide +kernel
theorem dX1_contents_19 : decode cX1_contents 19 = .ok (.iconst 0, 1) := by decide +kernel
theorem dX1_contents_20 : decode cX1_contents 20 = .ok (.invokestatic 36, 3) := by decide +kernel
theorem dX1_contents_23 : decode cX1_contents 23 = .ok (.aload_n 0, 1) := by decide +kernel
theorem dX1_contents_24 : decode cX1_contents 24 = .ok (.getfield 20, 3) := by decide +kernel
theorem dX1_contents_27 : decode cX1_contents 27 = .ok (.iload_n 1, 1) := by decide +kernel
theorem dX1_contents_28 : decode cX1_contents 28 = .ok (.bipush 6, 2) := by decide +kernel
theorem dX1_contents_30 : decode cX1_contents 30 = .ok (.imul, 1) := by decide +kernel
theorem dX1_contents_31 : decode cX1_contents 31 = .ok (.iload_n 2, 1) := by decide +kernel
theorem dX1_contents_32 : decode cX1_contents 32 = .ok (.iadd, 1) := by decide +kernel
theorem dX1_contents_33 : decode cX1_contents 33 = .ok (.iaload, 1) := by decide +kernel
theorem dX1_contents_34 : decode cX1_contents 34 = .ok (.ireturn, 1) := by decide +kernel
set_option maxRecDepth 20000 in
theorem ggX1_contentsAnew_X1_isPallet : GoodIn wsX1_contentsAnew wsX1_isPallet := goodIn_r _ [5, 6, 56, 57, 58, 59, 60, 61, 62] (by decide +kernel) (by decide +kernel)
set_option maxRecDepth 20000 in
theorem gX1_contentsAnew_X1_isPallet : GoodIn wsX1_contentsAnew (wsV RX1 55 RX1 yX1_isPallet wsX1_isPallet) := goodIn_app (goodIn_of _ (by decide +kernel)) ggX1_contentsAnew_X1_isPallet
set_option maxRecDepth 20000 in
theorem ggX1_contentsAnew_X1_isGood : GoodIn wsX1_contentsAnew wsX1_isGood := goodIn_r _ [9] (by decide +kernel) (by decide +kernel)
set_option maxRecDepth 20000 in
theorem gX1_contentsAnew_X1_isGood : GoodIn wsX1_contentsAnew (va_wsS RX1 58 yX1_isGood wsX1_isGood) := goodIn_app (goodIn_of _ (by decide +kernel)) ggX1_contentsAnew_X1_isGood
set_option maxRecDepth 20000 in
theorem ggX1_contentsAnew_X1_needThere : GoodIn wsX1_contentsAnew wsX1_needThere := goodIn_ca (goodIn_r _ [12, 13, 14] (by decide +kernel) (by decide +kernel)) (goodIn_sub (fun _ h => List.mem_cons_of_mem _ (List.mem_append_right _ h)) (by decide +kernel))
set_option maxRecDepth 20000 in
theorem gX1_contentsAnew_X1_needThere : GoodIn wsX1_contentsAnew (va_wsS RX1 36 yX1_needThere wsX1_needThere) := goodIn_app (goodIn_of _ (by decide +kernel)) ggX1_contentsAnew_X1_needThere
set_option maxRecDepth 20000 in
theorem ggX1_contentsAnew_X1_toldByPapers : GoodIn wsX1_contentsAnew wsX1_toldByPapers := goodIn_r _ [18, 19, 6, 20, 21, 22, 4, 23, 24, 25, 26, 27, 28, 29, 30, 31, 32, 33, 34, 35, 36, 37, 38, 39, 40, 41, 42, 43, 44, 45, 46, 47, 48, 49, 50, 51, 52, 53, 54, 55, 56, 57, 58, 59, 60, 61, 62, 63, 64, 65, 66, 67] (by decide +kernel) (by decide +kernel)
set_option maxRecDepth 20000 in
theorem gX1_contentsAnew_X1_toldByPapers : GoodIn wsX1_contentsAnew (wsV RX1 138 RX1 yX1_toldByPapers wsX1_toldByPapers) := goodIn_app (goodIn_of _ (by decide +kernel)) ggX1_contentsAnew_X1_toldByPapers
theorem dX1_contentsAnew_0 : decode cX1_contentsAnew 0 = .ok (.aload_n 0, 1) := by decide +kernel
theorem dX1_contentsAnew_1 : decode cX1_contentsAnew 1 = .ok (.iload_n 1, 1) := by decide +kernel
theorem dX1_contentsAnew_2 : decode cX1_contentsAnew 2 = .ok (.invokevirtual 55, 3) := by decide +kernel
theorem dX1_contentsAnew_5 : decode cX1_contentsAnew 5 = .ok (.ifCond .eq 14, 3) := by decide +kernel
theorem dX1_contentsAnew_8 : decode cX1_contentsAnew 8 = .ok (.iload_n 2, 1) := by decide +kernel
theorem dX1_contentsAnew_9 : decode cX1_contentsAnew 9 = .ok (.invokestatic 58, 3) := by decide +kernel
theorem dX1_contentsAnew_12 : decode cX1_contentsAnew 12 = .ok (.ifCond .eq 7, 3) := by decide +kernel
theorem dX1_contentsAnew_15 : decode cX1_contentsAnew 15 = .ok (.iconst 1, 1) := by decide +kernel
theorem dX1_contentsAnew_16 : decode cX1_contentsAnew 16 = .ok (.goto 4, 3) := by decide +kernel
theorem dX1_contentsAnew_19 : decode cX1_contentsAnew 19 = .ok (.iconst 0, 1) := by decide +kernel
theorem dX1_contentsAnew_20 : decode cX1_contentsAnew 20 = .ok (.invokestatic 36, 3) := by decide +kernel
theorem dX1_contentsAnew_23 : decode cX1_contentsAnew 23 = .ok (.aload_n 0, 1) := by decide +kernel
theorem dX1_contentsAnew_24 : decode cX1_contentsAnew 24 = .ok (.iload_n 1, 1) := by decide +kernel
theorem dX1_contentsAnew_25 : decode cX1_contentsAnew 25 = .ok (.iload_n 2, 1) := by decide +kernel
theorem dX1_contentsAnew_26 : decode cX1_contentsAnew 26 = .ok (.invokevirtual 138, 3) := by decide +kernel
theorem dX1_contentsAnew_29 : decode cX1_contentsAnew 29 = .ok (.ireturn, 1) := by decide +kernel
set_option maxRecDepth 20000 in
theorem ggX1_mismatch_X1_isTruck : GoodIn wsX1_mismatch wsX1_isTruck := goodIn_r _ [9] (by decide +kernel) (by decide +kernel)
set_option maxRecDepth 20000 in
theorem gX1_mismatch_X1_isTruck : GoodIn wsX1_mismatch (va_wsS RX1 141 yX1_isTruck wsX1_isTruck) := goodIn_app (goodIn_of _ (by decide +kernel)) ggX1_mismatch_X1_isTruck
set_option maxRecDepth 20000 in
theorem ggX1_mismatch_X1_needThere : GoodIn wsX1_mismatch wsX1_needThere := goodIn_ca (goodIn_r _ [12, 13, 14] (by decide +kernel) (by decide +kernel)) (goodIn_sub (fun _ h => List.mem_cons_of_mem _ (List.mem_append_right _ h)) (by decide +kernel))
set_option maxRecDepth 20000 in
theorem gX1_mismatch_X1_needThere : GoodIn wsX1_mismatch (va_wsS RX1 36 yX1_needThere wsX1_needThere) := goodIn_app (goodIn_of _ (by decide +kernel)) ggX1_mismatch_X1_needThere
set_option maxRecDepth 20000 in
theorem ggX1_mismatch_X1_toldOfTruck : GoodIn wsX1_mismatch wsX1_toldOfTruck := goodIn_r _ [18, 19, 20, 21, 22, 23, 8, 24, 25, 26, 27, 28, 29, 30, 31, 32, 33, 34, 35, 36, 37, 38, 39, 40, 41, 42, 43, 44, 45, 46, 47, 48, 49, 50, 51, 52, 53, 54, 55, 56, 57, 58, 59, 60, 61, 62, 63, 64, 65, 66, 67, 68, 69, 70, 71, 72, 73] (by decide +kernel) (by decide +kernel)
set_option maxRecDepth 20000 in
theorem gX1_mismatch_X1_toldOfTruck : GoodIn wsX1_mismatch (wsV RX1 144 RX1 yX1_toldOfTruck wsX1_toldOfTruck) := goodIn_app (goodIn_of _ (by decide +kernel)) ggX1_mismatch_X1_toldOfTruck
theorem dX1_mismatch_0 : decode cX1_mismatch 0 = .ok (.iload_n 1, 1) := by decide +kernel
theorem dX1_mismatch_1 : decode cX1_mismatch 1 = .ok (.invokestatic 141, 3) := by decide +kernel
theorem dX1_mismatch_4 : decode cX1_mismatch 4 = .ok (.invokestatic 36, 3) := by decide +kernel
theorem dX1_mismatch_7 : decode cX1_mismatch 7 = .ok (.iconst 0, 1) := by decide +kernel
theorem dX1_mismatch_8 : decode cX1_mismatch 8 = .ok (.istore_n 2, 1) := by decide +kernel
theorem dX1_mismatch_9 : decode cX1_mismatch 9 = .ok (.iconst 0, 1) := by decide +kernel
theorem dX1_mismatch_10 : decode cX1_mismatch 10 = .ok (.istore_n 3, 1) := by decide +kernel
theorem dX1_mismatch_11 : decode cX1_mismatch 11 = .ok (.iload_n 3, 1) := by decide +kernel
theorem dX1_mismatch_12 : decode cX1_mismatch 12 = .ok (.bipush 6, 2) := by decide +kernel
theorem dX1_mismatch_14 : decode cX1_mismatch 14 = .ok (.if_icmp .ge 35, 3) := by decide +kernel
theorem dX1_mismatch_17 : decode cX1_mismatch 17 = .ok (.iload_n 2, 1) := by decide +kernel
theorem dX1_mismatch_18 : decode cX1_mismatch 18 = .ok (.aload_n 0, 1) := by decide +kernel
theorem dX1_mismatch_19 : decode cX1_mismatch 19 = .ok (.getfield 23, 3) := by decide +kernel
theorem dX1_mismatch_22 : decode cX1_mismatch 22 = .ok (.iload_n 1, 1) := by decide +kernel
theorem dX1_mismatch_23 : decode cX1_mismatch 23 = .ok (.iconst 4, 1) := by decide +kernel
theorem dX1_mismatch_24 : decode cX1_mismatch 24 = .ok (.isub, 1) := by decide +kernel
theorem dX1_mismatch_25 : decode cX1_mismatch 25 = .ok (.bipush 6, 2) := by decide +kernel
theorem dX1_mismatch_27 : decode cX1_mismatch 27 = .ok (.imul, 1) := by decide +kernel
theorem dX1_mismatch_28 : decode cX1_mismatch 28 = .ok (.iload_n 3, 1) := by decide +kernel
theorem dX1_mismatch_29 : decode cX1_mismatch 29 = .ok (.iadd, 1) := by decide +kernel
theorem dX1_mismatch_30 : decode cX1_mismatch 30 = .ok (.iaload, 1) := by decide +kernel
theorem dX1_mismatch_31 : decode cX1_mismatch 31 = .ok (.aload_n 0, 1) := by decide +kernel
theorem dX1_mismatch_32 : decode cX1_mismatch 32 = .ok (.iload_n 1, 1) := by decide +kernel
theorem dX1_mismatch_33 : decode cX1_mismatch 33 = .ok (.iload_n 3, 1) := by decide +kernel
theorem dX1_mismatch_34 : decode cX1_mismatch 34 = .ok (.invokevirtual 144, 3) := by decide +kernel
theorem dX1_mismatch_37 : decode cX1_mismatch 37 = .ok (.isub, 1) := by decide +kernel
theorem dX1_mismatch_38 : decode cX1_mismatch 38 = .ok (.invokestatic 147, 3) := by decide +kernel
theorem dX1_mismatch_41 : decode cX1_mismatch 41 = .ok (.iadd, 1) := by decide +kernel
theorem dX1_mismatch_42 : decode cX1_mismatch 42 = .ok (.istore_n 2, 1) := by decide +kernel
theorem dX1_mismatch_43 : decode cX1_mismatch 43 = .ok (.iinc 3 1, 3) := by decide +kernel
theorem dX1_mismatch_46 : decode cX1_mismatch 46 = .ok (.goto (-35), 3) := by decide +kernel
theorem dX1_mismatch_49 : decode cX1_mismatch 49 = .ok (.iload_n 2, 1) := by decide +kernel
theorem dX1_mismatch_50 : decode cX1_mismatch 50 = .ok (.ireturn, 1) := by decide +kernel
set_option maxRecDepth 20000 in
theorem ggX1_owed_X1_isOwer : GoodIn wsX1_owed wsX1_isOwer := goodIn_r _ [5] (by decide +kernel) (by decide +kernel)
set_option maxRecDepth 20000 in
theorem gX1_owed_X1_isOwer : GoodIn wsX1_owed (va_wsS RX1 109 yX1_isOwer wsX1_isOwer) := goodIn_app (goodIn_of _ (by decide +kernel)) ggX1_owed_X1_isOwer
set_option maxRecDepth 20000 in
theorem ggX1_owed_X1_needThere : GoodIn wsX1_owed wsX1_needThere := goodIn_ca (goodIn_r _ [8, 9, 10] (by decide +kernel) (by decide +kernel)) (goodIn_sub (fun _ h => List.mem_cons_of_mem _ (List.mem_append_right _ h)) (by decide +kernel))
set_option maxRecDepth 20000 in
theorem gX1_owed_X1_needThere : GoodIn wsX1_owed (va_wsS RX1 36 yX1_needThere wsX1_needThere) := goodIn_app (goodIn_of _ (by decide +kernel)) ggX1_owed_X1_needThere
theorem dX1_owed_0 : decode cX1_owed 0 = .ok (.iload_n 1, 1) := by decide +kernel
theorem dX1_owed_1 : decode cX1_owed 1 = .ok (.invokestatic 109, 3) := by decide +kernel
theorem dX1_owed_4 : decode cX1_owed 4 = .ok (.invokestatic 36, 3) := by decide +kernel
theorem dX1_owed_7 : decode cX1_owed 7 = .ok (.aload_n 0, 1) := by decide +kernel
theorem dX1_owed_8 : decode cX1_owed 8 = .ok (.getfield 29, 3) := by decide +kernel
theorem dX1_owed_11 : decode cX1_owed 11 = .ok (.iload_n 1, 1) := by decide +kernel
theorem dX1_owed_12 : decode cX1_owed 12 = .ok (.iaload, 1) := by decide +kernel
theorem dX1_owed_13 : decode cX1_owed 13 = .ok (.ireturn, 1) := by decide +kernel
theorem dX1_needThere_0 : decode cX1_needThere 0 = .ok (.iload_n 0, 1) := by decide +kernel
theorem dX1_needThere_1 : decode cX1_needThere 1 = .ok (.ifCond .ne 13, 3) := by decide +kernel
theorem dX1_needThere_4 : decode cX1_needThere 4 = .ok (.new 152, 3) := by decide +kernel
theorem dX1_needThere_7 : decode cX1_needThere 7 = .ok (.dup, 1) := by decide +kernel
theorem dX1_needThere_8 : decode cX1_needThere 8 = .ok (.ldc 154, 2) := by decide +kernel
theorem dX1_needThere_10 : decode cX1_needThere 10 = .ok (.invokespecial 156, 3) := by decide +kernel
theorem dX1_needThere_13 : decode cX1_needThere 13 = .ok (.athrow, 1) := by decide +kernel
theorem dX1_needThere_14 : decode cX1_needThere 14 = .ok (.return_, 1) := by decide +kernel
theorem dX1_needRange_0 : decode cX1_needRange 0 = .ok (.iload_n 0, 1) := by decide +kernel
theorem dX1_needRange_1 : decode cX1_needRange 1 = .ok (.ifCond .ne 13, 3) := by decide +kernel
theorem dX1_needRange_4 : decode cX1_needRange 4 = .ok (.new 159, 3) := by decide +kernel
theorem dX1_needRange_7 : decode cX1_needRange 7 = .ok (.dup, 1) := by decide +kernel
theorem dX1_needRange_8 : decode cX1_needRange 8 = .ok (.ldc 161, 2) := by decide +kernel
theorem dX1_needRange_10 : decode cX1_needRange 10 = .ok (.invokespecial 163, 3) := by decide +kernel
theorem dX1_needRange_13 : decode cX1_needRange 13 = .ok (.athrow, 1) := by decide +kernel
theorem dX1_needRange_14 : decode cX1_needRange 14 = .ok (.return_, 1) := by decide +kernel
theorem dX1_needState_0 : decode cX1_needState 0 = .ok (.iload_n 0, 1) := by decide +kernel
theorem dX1_needState_1 : decode cX1_needState 1 = .ok (.ifCond .ne 13, 3) := by decide +kernel
theorem dX1_needState_4 : decode cX1_needState 4 = .ok (.new 164, 3) := by decide +kernel
theorem dX1_needState_7 : decode cX1_needState 7 = .ok (.dup, 1) := by decide +kernel
theorem dX1_needState_8 : decode cX1_needState 8 = .ok (.ldc 166, 2) := by decide +kernel
theorem dX1_needState_10 : decode cX1_needState 10 = .ok (.invokespecial 168, 3) := by decide +kernel
theorem dX1_needState_13 : decode cX1_needState 13 = .ok (.athrow, 1) := by decide +kernel
theorem dX1_needState_14 : decode cX1_needState 14 = .ok (.return_, 1) := by decide +kernel
theorem dX1_isWithin_0 : decode cX1_isWithin 0 = .ok (.iload_n 0, 1) := by decide +kernel
theorem dX1_isWithin_1 : decode cX1_isWithin 1 = .ok (.iload_n 1, 1) := by decide +kernel
theorem dX1_isWithin_2 : decode cX1_isWithin 2 = .ok (.if_icmp .lt 12, 3) := by decide +kernel
theorem dX1_isWithin_5 : decode cX1_isWithin 5 = .ok (.iload_n 0, 1) := by decide +kernel
theorem dX1_isWithin_6 : decode cX1_isWithin 6 = .ok (.iload_n 2, 1) := by decide +kernel
theorem dX1_isWithin_7 : decode cX1_isWithin 7 = .ok (.if_icmp .gt 7, 3) := by decide +kernel
theorem dX1_isWithin_10 : decode cX1_isWithin 10 = .ok (.iconst 1, 1) := by decide +kernel
theorem dX1_isWithin_11 : decode cX1_isWithin 11 = .ok (.goto 4, 3) := by decide +kernel
theorem dX1_isWithin_14 : decode cX1_isWithin 14 = .ok (.iconst 0, 1) := by decide +kernel
theorem dX1_isWithin_15 : decode cX1_isWithin 15 = .ok (.ireturn, 1) := by decide +kernel
theorem dX1_isPallet_0 : decode cX1_isPallet 0 = .ok (.iload_n 1, 1) := by decide +kernel
theorem dX1_isPallet_1 : decode cX1_isPallet 1 = .ok (.ifCond .lt 15, 3) := by decide +kernel
theorem dX1_isPallet_4 : decode cX1_isPallet 4 = .ok (.iload_n 1, 1) := by decide +kernel
theorem dX1_isPallet_5 : decode cX1_isPallet 5 = .ok (.aload_n 0, 1) := by decide +kernel
theorem dX1_isPallet_6 : decode cX1_isPallet 6 = .ok (.getfield 40, 3) := by decide +kernel
theorem dX1_isPallet_9 : decode cX1_isPallet 9 = .ok (.if_icmp .ge 7, 3) := by decide +kernel
theorem dX1_isPallet_12 : decode cX1_isPallet 12 = .ok (.iconst 1, 1) := by decide +kernel
theorem dX1_isPallet_13 : decode cX1_isPallet 13 = .ok (.goto 4, 3) := by decide +kernel
theorem dX1_isPallet_16 : decode cX1_isPallet 16 = .ok (.iconst 0, 1) := by decide +kernel
theorem dX1_isPallet_17 : decode cX1_isPallet 17 = .ok (.ireturn, 1) := by decide +kernel
theorem dX1_isGood_0 : decode cX1_isGood 0 = .ok (.iload_n 0, 1) := by decide +kernel
theorem dX1_isGood_1 : decode cX1_isGood 1 = .ok (.ifCond .lt 13, 3) := by decide +kernel
theorem dX1_isGood_4 : decode cX1_isGood 4 = .ok (.iload_n 0, 1) := by decide +kernel
theorem dX1_isGood_5 : decode cX1_isGood 5 = .ok (.bipush 6, 2) := by decide +kernel
theorem dX1_isGood_7 : decode cX1_isGood 7 = .ok (.if_icmp .ge 7, 3) := by decide +kernel
theorem dX1_isGood_10 : decode cX1_isGood 10 = .ok (.iconst 1, 1) := by decide +kernel
theorem dX1_isGood_11 : decode cX1_isGood 11 = .ok (.goto 4, 3) := by decide +kernel
theorem dX1_isGood_14 : decode cX1_isGood 14 = .ok (.iconst 0, 1) := by decide +kernel
theorem dX1_isGood_15 : decode cX1_isGood 15 = .ok (.ireturn, 1) := by decide +kernel
theorem dX1_isDock_0 : decode cX1_isDock 0 = .ok (.iload_n 0, 1) := by decide +kernel
theorem dX1_isDock_1 : decode cX1_isDock 1 = .ok (.ifCond .lt 12, 3) := by decide +kernel
theorem dX1_isDock_4 : decode cX1_isDock 4 = .ok (.iload_n 0, 1) := by decide +kernel
theorem dX1_isDock_5 : decode cX1_isDock 5 = .ok (.iconst 4, 1) := by decide +kernel
theorem dX1_isDock_6 : decode cX1_isDock 6 = .ok (.if_icmp .ge 7, 3) := by decide +kernel
theorem dX1_isDock_9 : decode cX1_isDock 9 = .ok (.iconst 1, 1) := by decide +kernel
theorem dX1_isDock_10 : decode cX1_isDock 10 = .ok (.goto 4, 3) := by decide +kernel
theorem dX1_isDock_13 : decode cX1_isDock 13 = .ok (.iconst 0, 1) := by decide +kernel
theorem dX1_isDock_14 : decode cX1_isDock 14 = .ok (.ireturn, 1) := by decide +kernel
theorem dX1_isTruck_0 : decode cX1_isTruck 0 = .ok (.iload_n 0, 1) := by decide +kernel
theorem dX1_isTruck_1 : decode cX1_isTruck 1 = .ok (.iconst 4, 1) := by decide +kernel
theorem dX1_isTruck_2 : decode cX1_isTruck 2 = .ok (.if_icmp .lt 13, 3) := by decide +kernel
theorem dX1_isTruck_5 : decode cX1_isTruck 5 = .ok (.iload_n 0, 1) := by decide +kernel
theorem dX1_isTruck_6 : decode cX1_isTruck 6 = .ok (.bipush 6, 2) := by decide +kernel
theorem dX1_isTruck_8 : decode cX1_isTruck 8 = .ok (.if_icmp .ge 7, 3) := by decide +kernel
theorem dX1_isTruck_11 : decode cX1_isTruck 11 = .ok (.iconst 1, 1) := by decide +kernel
theorem dX1_isTruck_12 : decode cX1_isTruck 12 = .ok (.goto 4, 3) := by decide +kernel
theorem dX1_isTruck_15 : decode cX1_isTruck 15 = .ok (.iconst 0, 1) := by decide +kernel
theorem dX1_isTruck_16 : decode cX1_isTruck 16 = .ok (.ireturn, 1) := by decide +kernel
theorem dX1_isHolder_0 : decode cX1_isHolder 0 = .ok (.iload_n 0, 1) := by decide +kernel
theorem dX1_isHolder_1 : decode cX1_isHolder 1 = .ok (.ifCond .lt 13, 3) := by decide +kernel
theorem dX1_isHolder_4 : decode cX1_isHolder 4 = .ok (.iload_n 0, 1) := by decide +kernel
theorem dX1_isHolder_5 : decode cX1_isHolder 5 = .ok (.bipush 6, 2) := by decide +kernel
theorem dX1_isHolder_7 : decode cX1_isHolder 7 = .ok (.if_icmp .ge 7, 3) := by decide +kernel
theorem dX1_isHolder_10 : decode cX1_isHolder 10 = .ok (.iconst 1, 1) := by decide +kernel
theorem dX1_isHolder_11 : decode cX1_isHolder 11 = .ok (.goto 4, 3) := by decide +kernel
theorem dX1_isHolder_14 : decode cX1_isHolder 14 = .ok (.iconst 0, 1) := by decide +kernel
theorem dX1_isHolder_15 : decode cX1_isHolder 15 = .ok (.ireturn, 1) := by decide +kernel
theorem dX1_isOwer_0 : decode cX1_isOwer 0 = .ok (.iload_n 0, 1) := by decide +kernel
theorem dX1_isOwer_1 : decode cX1_isOwer 1 = .ok (.ifCond .lt 13, 3) := by decide +kernel
theorem dX1_isOwer_4 : decode cX1_isOwer 4 = .ok (.iload_n 0, 1) := by decide +kernel
theorem dX1_isOwer_5 : decode cX1_isOwer 5 = .ok (.bipush 7, 2) := by decide +kernel
theorem dX1_isOwer_7 : decode cX1_isOwer 7 = .ok (.if_icmp .ge 7, 3) := by decide +kernel
theorem dX1_isOwer_10 : decode cX1_isOwer 10 = .ok (.iconst 1, 1) := by decide +kernel
theorem dX1_isOwer_11 : decode cX1_isOwer 11 = .ok (.goto 4, 3) := by decide +kernel
theorem dX1_isOwer_14 : decode cX1_isOwer 14 = .ok (.iconst 0, 1) := by decide +kernel
theorem dX1_isOwer_15 : decode cX1_isOwer 15 = .ok (.ireturn, 1) := by decide +kernel
theorem dX1_stand_0 : decode cX1_stand 0 = .ok (.aload_n 0, 1) := by decide +kernel
theorem dX1_stand_1 : decode cX1_stand 1 = .ok (.getfield 40, 3) := by decide +kernel
theorem dX1_stand_4 : decode cX1_stand 4 = .ok (.istore_n 2, 1) := by decide +kernel
theorem dX1_stand_5 : decode cX1_stand 5 = .ok (.aload_n 0, 1) := by decide +kernel
theorem dX1_stand_6 : decode cX1_stand 6 = .ok (.getfield 16, 3) := by decide +kernel
theorem dX1_stand_9 : decode cX1_stand 9 = .ok (.iload_n 2, 1) := by decide +kernel
theorem dX1_stand_10 : decode cX1_stand 10 = .ok (.iload_n 1, 1) := by decide +kernel
theorem dX1_stand_11 : decode cX1_stand 11 = .ok (.iastore, 1) := by decide +kernel
theorem dX1_stand_12 : decode cX1_stand 12 = .ok (.aload_n 0, 1) := by decide +kernel
theorem dX1_stand_13 : decode cX1_stand 13 = .ok (.dup, 1) := by decide +kernel
theorem dX1_stand_14 : decode cX1_stand 14 = .ok (.getfield 40, 3) := by decide +kernel
theorem dX1_stand_17 : decode cX1_stand 17 = .ok (.iconst 1, 1) := by decide +kernel
theorem dX1_stand_18 : decode cX1_stand 18 = .ok (.iadd, 1) := by decide +kernel
theorem dX1_stand_19 : decode cX1_stand 19 = .ok (.putfield 40, 3) := by decide +kernel
theorem dX1_stand_22 : decode cX1_stand 22 = .ok (.iload_n 2, 1) := by decide +kernel
theorem dX1_stand_23 : decode cX1_stand 23 = .ok (.ireturn, 1) := by decide +kernel
set_option maxRecDepth 20000 in
theorem ggX1_write_X0_add : GoodIn wsX1_write wsX0_add := goodIn_r _ [9, 10, 11, 12, 13, 14, 15, 16, 8, 17, 18, 19, 20, 21, 22, 23, 24, 32, 33, 34, 35, 36] (by decide +kernel) (by decide +kernel)
set_option maxRecDepth 20000 in
theorem gX1_write_X0_add : GoodIn wsX1_write (wsV RX1 169 RX0 yX0_add wsX0_add) := goodIn_app (goodIn_of _ (by decide +kernel)) ggX1_write_X0_add
theorem dX1_write_0 : decode cX1_write 0 = .ok (.iload_n 2, 1) := by decide +kernel
theorem dX1_write_1 : decode cX1_write 1 = .ok (.bipush 8, 2) := by decide +kernel
theorem dX1_write_3 : decode cX1_write 3 = .ok (.if_icmp .eq 9, 3) := by decide +kernel
theorem dX1_write_6 : decode cX1_write 6 = .ok (.iload_n 2, 1) := by decide +kernel
theorem dX1_write_7 : decode cX1_write 7 = .ok (.bipush 9, 2) := by decide +kernel
theorem dX1_write_9 : decode cX1_write 9 = .ok (.if_icmp .ne 8, 3) := by decide +kernel
theorem dX1_write_12 : decode cX1_write 12 = .ok (.bipush 6, 2) := by decide +kernel
theorem dX1_write_14 : decode cX1_write 14 = .ok (.goto 9, 3) := by decide +kernel
theorem dX1_write_17 : decode cX1_write 17 = .ok (.aload_n 0, 1) := by decide +kernel
theorem dX1_write_18 : decode cX1_write 18 = .ok (.getfield 16, 3) := by decide +kernel
theorem dX1_write_21 : decode cX1_write 21 = .ok (.iload_n 1, 1) := by decide +kernel
theorem dX1_write_22 : decode cX1_write 22 = .ok (.iaload, 1) := by decide +kernel
theorem dX1_write_23 : decode cX1_write 23 = .ok (.istore 7, 2) := by decide +kernel
theorem dX1_write_25 : decode cX1_write 25 = .ok (.aload_n 0, 1) := by decide +kernel
theorem dX1_write_26 : decode cX1_write 26 = .ok (.getfield 10, 3) := by decide +kernel
theorem dX1_write_29 : decode cX1_write 29 = .ok (.iload_n 1, 1) := by decide +kernel
theorem dX1_write_30 : decode cX1_write 30 = .ok (.iload_n 2, 1) := by decide +kernel
theorem dX1_write_31 : decode cX1_write 31 = .ok (.iload 7, 2) := by decide +kernel
theorem dX1_write_33 : decode cX1_write 33 = .ok (.iload_n 3, 1) := by decide +kernel
theorem dX1_write_34 : decode cX1_write 34 = .ok (.iload 4, 2) := by decide +kernel
theorem dX1_write_36 : decode cX1_write 36 = .ok (.iload 5, 2) := by decide +kernel
theorem dX1_write_38 : decode cX1_write 38 = .ok (.iload 6, 2) := by decide +kernel
theorem dX1_write_40 : decode cX1_write 40 = .ok (.invokevirtual 169, 3) := by decide +kernel
theorem dX1_write_43 : decode cX1_write 43 = .ok (.aload_n 0, 1) := by decide +kernel
theorem dX1_write_44 : decode cX1_write 44 = .ok (.getfield 29, 3) := by decide +kernel
theorem dX1_write_47 : decode cX1_write 47 = .ok (.iload 7, 2) := by decide +kernel
theorem dX1_write_49 : decode cX1_write 49 = .ok (.dup2, 1) := by decide +kernel
theorem dX1_write_50 : decode cX1_write 50 = .ok (.iaload, 1) := by decide +kernel
theorem dX1_write_51 : decode cX1_write 51 = .ok (.aload_n 0, 1) := by decide +kernel
theorem dX1_write_52 : decode cX1_write 52 = .ok (.getfield 26, 3) := by decide +kernel
theorem dX1_write_55 : decode cX1_write 55 = .ok (.iload_n 2, 1) := by decide +kernel
theorem dX1_write_56 : decode cX1_write 56 = .ok (.iaload, 1) := by decide +kernel
theorem dX1_write_57 : decode cX1_write 57 = .ok (.iadd, 1) := by decide +kernel
theorem dX1_write_58 : decode cX1_write 58 = .ok (.iastore, 1) := by decide +kernel
theorem dX1_write_59 : decode cX1_write 59 = .ok (.return_, 1) := by decide +kernel
set_option maxRecDepth 20000 in
theorem ggX1_isHeld_X0_lastKind : GoodIn wsX1_isHeld wsX0_lastKind := goodIn_r _ [6, 7, 8, 9, 10, 5, 11, 12, 13, 14, 15, 23, 24, 25, 26, 27] (by decide +kernel) (by decide +kernel)
set_option maxRecDepth 20000 in
theorem gX1_isHeld_X0_lastKind : GoodIn wsX1_isHeld (wsV RX1 173 RX0 yX0_lastKind wsX0_lastKind) := goodIn_app (goodIn_of _ (by decide +kernel)) ggX1_isHeld_X0_lastKind
theorem dX1_isHeld_0 : decode cX1_isHeld 0 = .ok (.aload_n 0, 1) := by decide +kernel
theorem dX1_isHeld_1 : decode cX1_isHeld 1 = .ok (.getfield 10, 3) := by decide +kernel
theorem dX1_isHeld_4 : decode cX1_isHeld 4 = .ok (.iload_n 1, 1) := by decide +kernel
theorem dX1_isHeld_5 : decode cX1_isHeld 5 = .ok (.invokevirtual 173, 3) := by decide +kernel
theorem dX1_isHeld_8 : decode cX1_isHeld 8 = .ok (.bipush 8, 2) := by decide +kernel
theorem dX1_isHeld_10 : decode cX1_isHeld 10 = .ok (.if_icmp .ne 7, 3) := by decide +kernel
theorem dX1_isHeld_13 : decode cX1_isHeld 13 = .ok (.iconst 1, 1) := by decide +kernel
theorem dX1_isHeld_14 : decode cX1_isHeld 14 = .ok (.goto 4, 3) := by decide +kernel
theorem dX1_isHeld_17 : decode cX1_isHeld 17 = .ok (.iconst 0, 1) := by decide +kernel
theorem dX1_isHeld_18 : decode cX1_isHeld 18 = .ok (.ireturn, 1) := by decide +kernel
set_option maxRecDepth 20000 in
theorem ggX1_isGone_X0_lastKind : GoodIn wsX1_isGone wsX0_lastKind := goodIn_r _ [6, 7, 8, 9, 10, 5, 11, 12, 13, 14, 15, 23, 24, 25, 26, 27] (by decide +kernel) (by decide +kernel)
set_option maxRecDepth 20000 in
theorem gX1_isGone_X0_lastKind : GoodIn wsX1_isGone (wsV RX1 173 RX0 yX0_lastKind wsX0_lastKind) := goodIn_app (goodIn_of _ (by decide +kernel)) ggX1_isGone_X0_lastKind
theorem dX1_isGone_0 : decode cX1_isGone 0 = .ok (.aload_n 0, 1) := by decide +kernel
theorem dX1_isGone_1 : decode cX1_isGone 1 = .ok (.getfield 10, 3) := by decide +kernel
theorem dX1_isGone_4 : decode cX1_isGone 4 = .ok (.iload_n 1, 1) := by decide +kernel
theorem dX1_isGone_5 : decode cX1_isGone 5 = .ok (.invokevirtual 173, 3) := by decide +kernel
theorem dX1_isGone_8 : decode cX1_isGone 8 = .ok (.bipush 6, 2) := by decide +kernel
theorem dX1_isGone_10 : decode cX1_isGone 10 = .ok (.if_icmp .ne 7, 3) := by decide +kernel
theorem dX1_isGone_13 : decode cX1_isGone 13 = .ok (.iconst 1, 1) := by decide +kernel
theorem dX1_isGone_14 : decode cX1_isGone 14 = .ok (.goto 4, 3) := by decide +kernel
theorem dX1_isGone_17 : decode cX1_isGone 17 = .ok (.iconst 0, 1) := by decide +kernel
theorem dX1_isGone_18 : decode cX1_isGone 18 = .ok (.ireturn, 1) := by decide +kernel
set_option maxRecDepth 20000 in
theorem ggX1_isWorkable_X1_isHeld : GoodIn wsX1_isWorkable wsX1_isHeld := goodIn_r _ [6, 1, 7, 8, 9, 10, 11, 12, 13, 14, 15, 16, 17, 18, 19, 20, 62, 63, 64, 65, 66, 67, 68, 69, 70, 71, 72, 73] (by decide +kernel) (by decide +kernel)
set_option maxRecDepth 20000 in
theorem gX1_isWorkable_X1_isHeld : GoodIn wsX1_isWorkable (wsV RX1 95 RX1 yX1_isHeld wsX1_isHeld) := goodIn_app (goodIn_of _ (by decide +kernel)) ggX1_isWorkable_X1_isHeld
set_option maxRecDepth 20000 in
theorem ggX1_isWorkable_X1_isGone : GoodIn wsX1_isWorkable wsX1_isGone := goodIn_r _ [24, 1, 7, 8, 9, 10, 11, 12, 13, 14, 15, 16, 17, 18, 19, 20, 62, 63, 64, 65, 66, 67, 68, 69, 70, 71, 72, 73] (by decide +kernel) (by decide +kernel)
set_option maxRecDepth 20000 in
theorem gX1_isWorkable_X1_isGone : GoodIn wsX1_isWorkable (wsV RX1 90 RX1 yX1_isGone wsX1_isGone) := goodIn_app (goodIn_of _ (by decide +kernel)) ggX1_isWorkable_X1_isGone
set_option maxRecDepth 20000 in
theorem ggX1_isWorkable_X0_hasRoom : GoodIn wsX1_isWorkable wsX0_hasRoom := goodIn_r _ [28, 12, 69, 70, 71, 72, 73] (by decide +kernel) (by decide +kernel)
set_option maxRecDepth 20000 in
theorem gX1_isWorkable_X0_hasRoom : GoodIn wsX1_isWorkable (wsV RX1 93 RX0 yX0_hasRoom wsX0_hasRoom) := goodIn_app (goodIn_of _ (by decide +kernel)) ggX1_isWorkable_X0_hasRoom
set_option maxRecDepth 20000 in
theorem ggX1_isWorkable_X1_allAreUnbroken : GoodIn wsX1_isWorkable wsX1_allAreUnbroken := goodIn_r _ [32, 1, 33, 34, 35, 36, 10, 37, 38, 5, 39, 40, 41, 42, 43, 12, 13, 14, 15, 16, 17, 18, 19, 20, 44, 45, 46, 47, 48, 49, 50, 51, 52, 53, 54, 55, 56, 57, 58, 59, 60, 61, 62, 63, 64, 65, 66, 67, 68, 69, 70, 71, 72, 73] (by decide +kernel) (by decide +kernel)
set_option maxRecDepth 20000 in
theorem gX1_isWorkable_X1_allAreUnbroken : GoodIn wsX1_isWorkable (wsV RX1 132 RX1 yX1_allAreUnbroken wsX1_allAreUnbroken) := goodIn_app (goodIn_of _ (by decide +kernel)) ggX1_isWorkable_X1_allAreUnbroken
theorem dX1_isWorkable_0 : decode cX1_isWorkable 0 = .ok (.aload_n 0, 1) := by decide +kernel
theorem dX1_isWorkable_1 : decode cX1_isWorkable 1 = .ok (.iload_n 1, 1) := by decide +kernel
theorem dX1_isWorkable_2 : decode cX1_isWorkable 2 = .ok (.invokevirtual 95, 3) := by decide +kernel
theorem dX1_isWorkable_5 : decode cX1_isWorkable 5 = .ok (.ifCond .ne 34, 3) := by decide +kernel
theorem dX1_isWorkable_8 : decode cX1_isWorkable 8 = .ok (.aload_n 0, 1) := by decide +kernel
theorem dX1_isWorkable_9 : decode cX1_isWorkable 9 = .ok (.iload_n 1, 1) := by decide +kernel
theorem dX1_isWorkable_10 : decode cX1_isWorkable 10 = .ok (.invokevirtual 90, 3) := by decide +kernel
theorem dX1_isWorkable_13 : decode cX1_isWorkable 13 = .ok (.ifCond .ne 26, 3) := by decide +kernel
theorem dX1_isWorkable_16 : decode cX1_isWorkable 16 = .ok (.aload_n 0, 1) := by decide +kernel
theorem dX1_isWorkable_17 : decode cX1_isWorkable 17 = .ok (.getfield 10, 3) := by decide +kernel
theorem dX1_isWorkable_20 : decode cX1_isWorkable 20 = .ok (.iload_n 1, 1) := by decide +kernel
theorem dX1_isWorkable_21 : decode cX1_isWorkable 21 = .ok (.invokevirtual 93, 3) := by decide +kernel
theorem dX1_isWorkable_24 : decode cX1_isWorkable 24 = .ok (.ifCond .eq 15, 3) := by decide +kernel
theorem dX1_isWorkable_27 : decode cX1_isWorkable 27 = .ok (.aload_n 0, 1) := by decide +kernel
theorem dX1_isWorkable_28 : decode cX1_isWorkable 28 = .ok (.iload_n 1, 1) := by decide +kernel
theorem dX1_isWorkable_29 : decode cX1_isWorkable 29 = .ok (.invokevirtual 132, 3) := by decide +kernel
theorem dX1_isWorkable_32 : decode cX1_isWorkable 32 = .ok (.ifCond .eq 7, 3) := by decide +kernel
theorem dX1_isWorkable_35 : decode cX1_isWorkable 35 = .ok (.iconst 1, 1) := by decide +kernel
theorem dX1_isWorkable_36 : decode cX1_isWorkable 36 = .ok (.goto 4, 3) := by decide +kernel
theorem dX1_isWorkable_39 : decode cX1_isWorkable 39 = .ok (.iconst 0, 1) := by decide +kernel
theorem dX1_isWorkable_40 : decode cX1_isWorkable 40 = .ok (.ireturn, 1) := by decide +kernel
set_option maxRecDepth 20000 in
theorem ggX1_allAreUnbroken_X0_reach : GoodIn wsX1_allAreUnbroken wsX0_reach := goodIn_r _ [7, 8, 9, 10, 11, 12, 13, 6, 14, 15, 16, 17, 18, 19, 20, 21, 22, 23, 49, 50, 51, 52, 53] (by decide +kernel) (by decide +kernel)
set_option maxRecDepth 20000 in
theorem gX1_allAreUnbroken_X0_reach : GoodIn wsX1_allAreUnbroken (wsV RX1 176 RX0 yX0_reach wsX0_reach) := goodIn_app (goodIn_of _ (by decide +kernel)) ggX1_allAreUnbroken_X0_reach
set_option maxRecDepth 20000 in
theorem ggX1_allAreUnbroken_X1_isIn : GoodIn wsX1_allAreUnbroken wsX1_isIn := goodIn_r _ [10] (by decide +kernel) (by decide +kernel)
set_option maxRecDepth 20000 in
theorem gX1_allAreUnbroken_X1_isIn : GoodIn wsX1_allAreUnbroken (va_wsS RX1 180 yX1_isIn wsX1_isIn) := goodIn_app (goodIn_of _ (by decide +kernel)) ggX1_allAreUnbroken_X1_isIn
set_option maxRecDepth 20000 in
theorem ggX1_allAreUnbroken_X0_firstBroken : GoodIn wsX1_allAreUnbroken wsX0_firstBroken := goodIn_r _ [28, 15, 29, 30, 31, 6, 32, 33, 34, 35, 36, 37, 21, 22, 23, 38, 39, 40, 41, 20, 49, 50, 51, 52, 53] (by decide +kernel) (by decide +kernel)
set_option maxRecDepth 20000 in
theorem gX1_allAreUnbroken_X0_firstBroken : GoodIn wsX1_allAreUnbroken (wsV RX1 129 RX0 yX0_firstBroken wsX0_firstBroken) := goodIn_app (goodIn_of _ (by decide +kernel)) ggX1_allAreUnbroken_X0_firstBroken
theorem dX1_allAreUnbroken_0 : decode cX1_allAreUnbroken 0 = .ok (.aload_n 0, 1) := by decide +kernel
theorem dX1_allAreUnbroken_1 : decode cX1_allAreUnbroken 1 = .ok (.getfield 10, 3) := by decide +kernel
theorem dX1_allAreUnbroken_4 : decode cX1_allAreUnbroken 4 = .ok (.iload_n 1, 1) := by decide +kernel
theorem dX1_allAreUnbroken_5 : decode cX1_allAreUnbroken 5 = .ok (.iconst 1, 1) := by decide +kernel
theorem dX1_allAreUnbroken_6 : decode cX1_allAreUnbroken 6 = .ok (.invokevirtual 176, 3) := by decide +kernel
theorem dX1_allAreUnbroken_9 : decode cX1_allAreUnbroken 9 = .ok (.istore_n 2, 1) := by decide +kernel
theorem dX1_allAreUnbroken_10 : decode cX1_allAreUnbroken 10 = .ok (.iconst 0, 1) := by decide +kernel
theorem dX1_allAreUnbroken_11 : decode cX1_allAreUnbroken 11 = .ok (.istore_n 3, 1) := by decide +kernel
theorem dX1_allAreUnbroken_12 : decode cX1_allAreUnbroken 12 = .ok (.iload_n 3, 1) := by decide +kernel
theorem dX1_allAreUnbroken_13 : decode cX1_allAreUnbroken 13 = .ok (.aload_n 0, 1) := by decide +kernel
theorem dX1_allAreUnbroken_14 : decode cX1_allAreUnbroken 14 = .ok (.getfield 40, 3) := by decide +kernel
theorem dX1_allAreUnbroken_17 : decode cX1_allAreUnbroken 17 = .ok (.if_icmp .ge 31, 3) := by decide +kernel
theorem dX1_allAreUnbroken_20 : decode cX1_allAreUnbroken 20 = .ok (.iload_n 2, 1) := by decide +kernel
theorem dX1_allAreUnbroken_21 : decode cX1_allAreUnbroken 21 = .ok (.iload_n 3, 1) := by decide +kernel
theorem dX1_allAreUnbroken_22 : decode cX1_allAreUnbroken 22 = .ok (.invokestatic 180, 3) := by decide +kernel
theorem dX1_allAreUnbroken_25 : decode cX1_allAreUnbroken 25 = .ok (.ifCond .eq 17, 3) := by decide +kernel
theorem dX1_allAreUnbroken_28 : decode cX1_allAreUnbroken 28 = .ok (.aload_n 0, 1) := by decide +kernel
theorem dX1_allAreUnbroken_29 : decode cX1_allAreUnbroken 29 = .ok (.getfield 10, 3) := by decide +kernel
theorem dX1_allAreUnbroken_32 : decode cX1_allAreUnbroken 32 = .ok (.iload_n 3, 1) := by decide +kernel
theorem dX1_allAreUnbroken_33 : decode cX1_allAreUnbroken 33 = .ok (.invokevirtual 129, 3) := by decide +kernel
theorem dX1_allAreUnbroken_36 : decode cX1_allAreUnbroken 36 = .ok (.iconst (-1), 1) := by decide +kernel
theorem dX1_allAreUnbroken_37 : decode cX1_allAreUnbroken 37 = .ok (.if_icmp .eq 5, 3) := by decide +kernel
theorem dX1_allAreUnbroken_40 : decode cX1_allAreUnbroken 40 = .ok (.iconst 0, 1) := by decide +kernel
theorem dX1_allAreUnbroken_41 : decode cX1_allAreUnbroken 41 = .ok (.ireturn, 1) := by decide +kernel
theorem dX1_allAreUnbroken_42 : decode cX1_allAreUnbroken 42 = .ok (.iinc 3 1, 3) := by decide +kernel
theorem dX1_allAreUnbroken_45 : decode cX1_allAreUnbroken 45 = .ok (.goto (-33), 3) := by decide +kernel
theorem dX1_allAreUnbroken_48 : decode cX1_allAreUnbroken 48 = .ok (.iconst 1, 1) := by decide +kernel
theorem dX1_allAreUnbroken_49 : decode cX1_allAreUnbroken 49 = .ok (.ireturn, 1) := by decide +kernel
theorem dX1_canComeTogether_0 : decode cX1_canComeTogether 0 = .ok (.iconst 0, 1) := by decide +kernel
theorem dX1_canComeTogether_1 : decode cX1_canComeTogether 1 = .ok (.istore_n 3, 1) := by decide +kernel
theorem dX1_canComeTogether_2 : decode cX1_canComeTogether 2 = .ok (.iload_n 3, 1) := by decide +kernel
theorem dX1_canComeTogether_3 : decode cX1_canComeTogether 3 = .ok (.bipush 6, 2) := by decide +kernel
theorem dX1_canComeTogether_5 : decode cX1_canComeTogether 5 = .ok (.if_icmp .ge 40, 3) := by decide +kernel
theorem dX1_canComeTogether_8 : decode cX1_canComeTogether 8 = .ok (.aload_n 0, 1) := by decide +kernel
theorem dX1_canComeTogether_9 : decode cX1_canComeTogether 9 = .ok (.getfield 20, 3) := by decide +kernel
theorem dX1_canComeTogether_12 : decode cX1_canComeTogether 12 = .ok (.iload_n 1, 1) := by decide +kernel
theorem dX1_canComeTogether_13 : decode cX1_canComeTogether 13 = .ok (.bipush 6, 2) := by decide +kernel
theorem dX1_canComeTogether_15 : decode cX1_canComeTogether 15 = .ok (.imul, 1) := by decide +kernel
theorem dX1_canComeTogether_16 : decode cX1_canComeTogether 16 = .ok (.iload_n 3, 1) := by decide +kernel
theorem dX1_canComeTogether_17 : decode cX1_canComeTogether 17 = .ok (.iadd, 1) := by decide +kernel
theorem dX1_canComeTogether_18 : decode cX1_canComeTogether 18 = .ok (.iaload, 1) := by decide +kernel
theorem dX1_canComeTogether_19 : decode cX1_canComeTogether 19 = .ok (.aload_n 0, 1) := by decide +kernel
theorem dX1_canComeTogether_20 : decode cX1_canComeTogether 20 = .ok (.getfield 20, 3) := by decide +kernel
theorem dX1_canComeTogether_23 : decode cX1_canComeTogether 23 = .ok (.iload_n 2, 1) := by decide +kernel
theorem dX1_canComeTogether_24 : decode cX1_canComeTogether 24 = .ok (.bipush 6, 2) := by decide +kernel
theorem dX1_canComeTogether_26 : decode cX1_canComeTogether 26 = .ok (.imul, 1) := by decide +kernel
theorem dX1_canComeTogether_27 : decode cX1_canComeTogether 27 = .ok (.iload_n 3, 1) := by decide +kernel
theorem dX1_canComeTogether_28 : decode cX1_canComeTogether 28 = .ok (.iadd, 1) := by decide +kernel
theorem dX1_canComeTogether_29 : decode cX1_canComeTogether 29 = .ok (.iaload, 1) := by decide +kernel
theorem dX1_canComeTogether_30 : decode cX1_canComeTogether 30 = .ok (.iadd, 1) := by decide +kernel
theorem dX1_canComeTogether_31 : decode cX1_canComeTogether 31 = .ok (.sipush 999, 3) := by decide +kernel
theorem dX1_canComeTogether_34 : decode cX1_canComeTogether 34 = .ok (.if_icmp .le 5, 3) := by decide +kernel
theorem dX1_canComeTogether_37 : decode cX1_canComeTogether 37 = .ok (.iconst 0, 1) := by decide +kernel
theorem dX1_canComeTogether_38 : decode cX1_canComeTogether 38 = .ok (.ireturn, 1) := by decide +kernel
theorem dX1_canComeTogether_39 : decode cX1_canComeTogether 39 = .ok (.iinc 3 1, 3) := by decide +kernel
theorem dX1_canComeTogether_42 : decode cX1_canComeTogether 42 = .ok (.goto (-40), 3) := by decide +kernel
theorem dX1_canComeTogether_45 : decode cX1_canComeTogether 45 = .ok (.iconst 1, 1) := by decide +kernel
theorem dX1_canComeTogether_46 : decode cX1_canComeTogether 46 = .ok (.ireturn, 1) := by decide +kernel
theorem dX1_weightOfOne_0 : decode cX1_weightOfOne 0 = .ok (.iload_n 0, 1) := by decide +kernel
theorem dX1_weightOfOne_1 : decode cX1_weightOfOne 1 = .ok (.iconst 1, 1) := by decide +kernel
theorem dX1_weightOfOne_2 : decode cX1_weightOfOne 2 = .ok (.iadd, 1) := by decide +kernel
theorem dX1_weightOfOne_3 : decode cX1_weightOfOne 3 = .ok (.ireturn, 1) := by decide +kernel
set_option maxRecDepth 20000 in
theorem ggX1_weightOf_X1_weightOfOne : GoodIn wsX1_weightOf wsX1_weightOfOne := goodIn_r _ [5] (by decide +kernel) (by decide +kernel)
set_option maxRecDepth 20000 in
theorem gX1_weightOf_X1_weightOfOne : GoodIn wsX1_weightOf (va_wsS RX1 71 yX1_weightOfOne wsX1_weightOfOne) := goodIn_app (goodIn_of _ (by decide +kernel)) ggX1_weightOf_X1_weightOfOne
theorem dX1_weightOf_0 : decode cX1_weightOf 0 = .ok (.iconst 0, 1) := by decide +kernel
theorem dX1_weightOf_1 : decode cX1_weightOf 1 = .ok (.istore_n 2, 1) := by decide +kernel
theorem dX1_weightOf_2 : decode cX1_weightOf 2 = .ok (.iconst 0, 1) := by decide +kernel
theorem dX1_weightOf_3 : decode cX1_weightOf 3 = .ok (.istore_n 3, 1) := by decide +kernel
theorem dX1_weightOf_4 : decode cX1_weightOf 4 = .ok (.iload_n 3, 1) := by decide +kernel
theorem dX1_weightOf_5 : decode cX1_weightOf 5 = .ok (.bipush 6, 2) := by decide +kernel
theorem dX1_weightOf_7 : decode cX1_weightOf 7 = .ok (.if_icmp .ge 28, 3) := by decide +kernel
theorem dX1_weightOf_10 : decode cX1_weightOf 10 = .ok (.iload_n 2, 1) := by decide +kernel
theorem dX1_weightOf_11 : decode cX1_weightOf 11 = .ok (.aload_n 0, 1) := by decide +kernel
theorem dX1_weightOf_12 : decode cX1_weightOf 12 = .ok (.getfield 20, 3) := by decide +kernel
theorem dX1_weightOf_15 : decode cX1_weightOf 15 = .ok (.iload_n 1, 1) := by decide +kernel
theorem dX1_weightOf_16 : decode cX1_weightOf 16 = .ok (.bipush 6, 2) := by decide +kernel
theorem dX1_weightOf_18 : decode cX1_weightOf 18 = .ok (.imul, 1) := by decide +kernel
theorem dX1_weightOf_19 : decode cX1_weightOf 19 = .ok (.iload_n 3, 1) := by decide +kernel
theorem dX1_weightOf_20 : decode cX1_weightOf 20 = .ok (.iadd, 1) := by decide +kernel
theorem dX1_weightOf_21 : decode cX1_weightOf 21 = .ok (.iaload, 1) := by decide +kernel
theorem dX1_weightOf_22 : decode cX1_weightOf 22 = .ok (.iload_n 3, 1) := by decide +kernel
theorem dX1_weightOf_23 : decode cX1_weightOf 23 = .ok (.invokestatic 71, 3) := by decide +kernel
theorem dX1_weightOf_26 : decode cX1_weightOf 26 = .ok (.imul, 1) := by decide +kernel
theorem dX1_weightOf_27 : decode cX1_weightOf 27 = .ok (.iadd, 1) := by decide +kernel
theorem dX1_weightOf_28 : decode cX1_weightOf 28 = .ok (.istore_n 2, 1) := by decide +kernel
theorem dX1_weightOf_29 : decode cX1_weightOf 29 = .ok (.iinc 3 1, 3) := by decide +kernel
theorem dX1_weightOf_32 : decode cX1_weightOf 32 = .ok (.goto (-28), 3) := by decide +kernel
theorem dX1_weightOf_35 : decode cX1_weightOf 35 = .ok (.iload_n 2, 1) := by decide +kernel
theorem dX1_weightOf_36 : decode cX1_weightOf 36 = .ok (.ireturn, 1) := by decide +kernel
set_option maxRecDepth 20000 in
theorem ggX1_hasRoom_X1_isDock : GoodIn wsX1_hasRoom wsX1_isDock := goodIn_r _ [6] (by decide +kernel) (by decide +kernel)
set_option maxRecDepth 20000 in
theorem gX1_hasRoom_X1_isDock : GoodIn wsX1_hasRoom (va_wsS RX1 32 yX1_isDock wsX1_isDock) := goodIn_app (goodIn_of _ (by decide +kernel)) ggX1_hasRoom_X1_isDock
set_option maxRecDepth 20000 in
theorem ggX1_hasRoom_X1_weightOf : GoodIn wsX1_hasRoom wsX1_weightOf := goodIn_r _ [10, 11, 12, 13, 5, 14, 15, 16, 17, 18, 19, 20, 21] (by decide +kernel) (by decide +kernel)
set_option maxRecDepth 20000 in
theorem gX1_hasRoom_X1_weightOf : GoodIn wsX1_hasRoom (wsV RX1 87 RX1 yX1_weightOf wsX1_weightOf) := goodIn_app (goodIn_of _ (by decide +kernel)) ggX1_hasRoom_X1_weightOf
theorem dX1_hasRoom_0 : decode cX1_hasRoom 0 = .ok (.iload_n 1, 1) := by decide +kernel
theorem dX1_hasRoom_1 : decode cX1_hasRoom 1 = .ok (.invokestatic 32, 3) := by decide +kernel
theorem dX1_hasRoom_4 : decode cX1_hasRoom 4 = .ok (.ifCond .eq 5, 3) := by decide +kernel
theorem dX1_hasRoom_7 : decode cX1_hasRoom 7 = .ok (.iconst 1, 1) := by decide +kernel
theorem dX1_hasRoom_8 : decode cX1_hasRoom 8 = .ok (.ireturn, 1) := by decide +kernel
theorem dX1_hasRoom_9 : decode cX1_hasRoom 9 = .ok (.iload_n 2, 1) := by decide +kernel
theorem dX1_hasRoom_10 : decode cX1_hasRoom 10 = .ok (.istore_n 3, 1) := by decide +kernel
theorem dX1_hasRoom_11 : decode cX1_hasRoom 11 = .ok (.iconst 0, 1) := by decide +kernel
theorem dX1_hasRoom_12 : decode cX1_hasRoom 12 = .ok (.istore 4, 2) := by decide +kernel
theorem dX1_hasRoom_14 : decode cX1_hasRoom 14 = .ok (.iload 4, 2) := by decide +kernel
theorem dX1_hasRoom_16 : decode cX1_hasRoom 16 = .ok (.aload_n 0, 1) := by decide +kernel
theorem dX1_hasRoom_17 : decode cX1_hasRoom 17 = .ok (.getfield 40, 3) := by decide +kernel
theorem dX1_hasRoom_20 : decode cX1_hasRoom 20 = .ok (.if_icmp .ge 29, 3) := by decide +kernel
theorem dX1_hasRoom_23 : decode cX1_hasRoom 23 = .ok (.aload_n 0, 1) := by decide +kernel
theorem dX1_hasRoom_24 : decode cX1_hasRoom 24 = .ok (.getfield 16, 3) := by decide +kernel
theorem dX1_hasRoom_27 : decode cX1_hasRoom 27 = .ok (.iload 4, 2) := by decide +kernel
theorem dX1_hasRoom_29 : decode cX1_hasRoom 29 = .ok (.iaload, 1) := by decide +kernel
theorem dX1_hasRoom_30 : decode cX1_hasRoom 30 = .ok (.iload_n 1, 1) := by decide +kernel
theorem dX1_hasRoom_31 : decode cX1_hasRoom 31 = .ok (.if_icmp .ne 12, 3) := by decide +kernel
theorem dX1_hasRoom_34 : decode cX1_hasRoom 34 = .ok (.iload_n 3, 1) := by decide +kernel
theorem dX1_hasRoom_35 : decode cX1_hasRoom 35 = .ok (.aload_n 0, 1) := by decide +kernel
theorem dX1_hasRoom_36 : decode cX1_hasRoom 36 = .ok (.iload 4, 2) := by decide +kernel
theorem dX1_hasRoom_38 : decode cX1_hasRoom 38 = .ok (.invokevirtual 87, 3) := by decide +kernel
theorem dX1_hasRoom_41 : decode cX1_hasRoom 41 = .ok (.iadd, 1) := by decide +kernel
theorem dX1_hasRoom_42 : decode cX1_hasRoom 42 = .ok (.istore_n 3, 1) := by decide +kernel
theorem dX1_hasRoom_43 : decode cX1_hasRoom 43 = .ok (.iinc 4 1, 3) := by decide +kernel
theorem dX1_hasRoom_46 : decode cX1_hasRoom 46 = .ok (.goto (-32), 3) := by decide +kernel
theorem dX1_hasRoom_49 : decode cX1_hasRoom 49 = .ok (.iload_n 3, 1) := by decide +kernel
theorem dX1_hasRoom_50 : decode cX1_hasRoom 50 = .ok (.sipush 200, 3) := by decide +kernel
theorem dX1_hasRoom_53 : decode cX1_hasRoom 53 = .ok (.if_icmp .gt 7, 3) := by decide +kernel
theorem dX1_hasRoom_56 : decode cX1_hasRoom 56 = .ok (.iconst 1, 1) := by decide +kernel
theorem dX1_hasRoom_57 : decode cX1_hasRoom 57 = .ok (.goto 4, 3) := by decide +kernel
theorem dX1_hasRoom_60 : decode cX1_hasRoom 60 = .ok (.iconst 0, 1) := by decide +kernel
theorem dX1_hasRoom_61 : decode cX1_hasRoom 61 = .ok (.ireturn, 1) := by decide +kernel
set_option maxRecDepth 20000 in
theorem ggX1_toldByPapers_X1_isGone : GoodIn wsX1_toldByPapers wsX1_isGone := goodIn_r _ [7, 1, 8, 9, 10, 11, 12, 13, 14, 15, 16, 17, 18, 19, 20, 21, 40, 41, 42, 43, 44, 45, 46, 47, 48, 49, 50, 51] (by decide +kernel) (by decide +kernel)
set_option maxRecDepth 20000 in
theorem gX1_toldByPapers_X1_isGone : GoodIn wsX1_toldByPapers (wsV RX1 90 RX1 yX1_isGone wsX1_isGone) := goodIn_app (goodIn_of _ (by decide +kernel)) ggX1_toldByPapers_X1_isGone
set_option maxRecDepth 20000 in
theorem ggX1_toldByPapers_X0_reach : GoodIn wsX1_toldByPapers wsX0_reach := goodIn_r _ [25, 26, 6, 27, 28, 29, 30, 11, 31, 13, 14, 15, 16, 17, 18, 19, 20, 21, 47, 48, 49, 50, 51] (by decide +kernel) (by decide +kernel)
set_option maxRecDepth 20000 in
theorem gX1_toldByPapers_X0_reach : GoodIn wsX1_toldByPapers (wsV RX1 176 RX0 yX0_reach wsX0_reach) := goodIn_app (goodIn_of _ (by decide +kernel)) ggX1_toldByPapers_X0_reach
set_option maxRecDepth 20000 in
theorem ggX1_toldByPapers_X1_isIn : GoodIn wsX1_toldByPapers wsX1_isIn := goodIn_r _ [27] (by decide +kernel) (by decide +kernel)
set_option maxRecDepth 20000 in
theorem gX1_toldByPapers_X1_isIn : GoodIn wsX1_toldByPapers (va_wsS RX1 180 yX1_isIn wsX1_isIn) := goodIn_app (goodIn_of _ (by decide +kernel)) ggX1_toldByPapers_X1_isIn
set_option maxRecDepth 20000 in
theorem ggX1_toldByPapers_X0_toldByOwnEntries : GoodIn wsX1_toldByPapers wsX0_toldByOwnEntries := goodIn_r _ [36, 13, 14, 15, 16, 11, 17, 18, 19, 20, 21, 37, 38, 39, 47, 48, 49, 50, 51] (by decide +kernel) (by decide +kernel)
set_option maxRecDepth 20000 in
theorem gX1_toldByPapers_X0_toldByOwnEntries : GoodIn wsX1_toldByPapers (wsV RX1 183 RX0 yX0_toldByOwnEntries wsX0_toldByOwnEntries) := goodIn_app (goodIn_of _ (by decide +kernel)) ggX1_toldByPapers_X0_toldByOwnEntries
theorem dX1_toldByPapers_0 : decode cX1_toldByPapers 0 = .ok (.aload_n 0, 1) := by decide +kernel
theorem dX1_toldByPapers_1 : decode cX1_toldByPapers 1 = .ok (.iload_n 1, 1) := by decide +kernel
theorem dX1_toldByPapers_2 : decode cX1_toldByPapers 2 = .ok (.invokevirtual 90, 3) := by decide +kernel
theorem dX1_toldByPapers_5 : decode cX1_toldByPapers 5 = .ok (.ifCond .eq 5, 3) := by decide +kernel
theorem dX1_toldByPapers_8 : decode cX1_toldByPapers 8 = .ok (.iconst 0, 1) := by decide +kernel
theorem dX1_toldByPapers_9 : decode cX1_toldByPapers 9 = .ok (.ireturn, 1) := by decide +kernel
theorem dX1_toldByPapers_10 : decode cX1_toldByPapers 10 = .ok (.aload_n 0, 1) := by decide +kernel
theorem dX1_toldByPapers_11 : decode cX1_toldByPapers 11 = .ok (.getfield 10, 3) := by decide +kernel
theorem dX1_toldByPapers_14 : decode cX1_toldByPapers 14 = .ok (.iload_n 1, 1) := by decide +kernel
theorem dX1_toldByPapers_15 : decode cX1_toldByPapers 15 = .ok (.iconst 0, 1) := by decide +kernel
theorem dX1_toldByPapers_16 : decode cX1_toldByPapers 16 = .ok (.invokevirtual 176, 3) := by decide +kernel
theorem dX1_toldByPapers_19 : decode cX1_toldByPapers 19 = .ok (.istore_n 3, 1) := by decide +kernel
theorem dX1_toldByPapers_20 : decode cX1_toldByPapers 20 = .ok (.iconst 0, 1) := by decide +kernel
theorem dX1_toldByPapers_21 : decode cX1_toldByPapers 21 = .ok (.istore 4, 2) := by decide +kernel
theorem dX1_toldByPapers_23 : decode cX1_toldByPapers 23 = .ok (.iconst 0, 1) := by decide +kernel
theorem dX1_toldByPapers_24 : decode cX1_toldByPapers 24 = .ok (.istore 5, 2) := by decide +kernel
theorem dX1_toldByPapers_26 : decode cX1_toldByPapers 26 = .ok (.iload 5, 2) := by decide +kernel
theorem dX1_toldByPapers_28 : decode cX1_toldByPapers 28 = .ok (.aload_n 0, 1) := by decide +kernel
theorem dX1_toldByPapers_29 : decode cX1_toldByPapers 29 = .ok (.getfield 40, 3) := by decide +kernel
theorem dX1_toldByPapers_32 : decode cX1_toldByPapers 32 = .ok (.if_icmp .ge 33, 3) := by decide +kernel
theorem dX1_toldByPapers_35 : decode cX1_toldByPapers 35 = .ok (.iload_n 3, 1) := by decide +kernel
theorem dX1_toldByPapers_36 : decode cX1_toldByPapers 36 = .ok (.iload 5, 2) := by decide +kernel
theorem dX1_toldByPapers_38 : decode cX1_toldByPapers 38 = .ok (.invokestatic 180, 3) := by decide +kernel
theorem dX1_toldByPapers_41 : decode cX1_toldByPapers 41 = .ok (.ifCond .eq 18, 3) := by decide +kernel
theorem dX1_toldByPapers_44 : decode cX1_toldByPapers 44 = .ok (.iload 4, 2) := by decide +kernel
theorem dX1_toldByPapers_46 : decode cX1_toldByPapers 46 = .ok (.aload_n 0, 1) := by decide +kernel
theorem dX1_toldByPapers_47 : decode cX1_toldByPapers 47 = .ok (.getfield 10, 3) := by decide +kernel
theorem dX1_toldByPapers_50 : decode cX1_toldByPapers 50 = .ok (.iload 5, 2) := by decide +kernel
theorem dX1_toldByPapers_52 : decode cX1_toldByPapers 52 = .ok (.iload_n 2, 1) := by decide +kernel
theorem dX1_toldByPapers_53 : decode cX1_toldByPapers 53 = .ok (.invokevirtual 183, 3) := by decide +kernel
theorem dX1_toldByPapers_56 : decode cX1_toldByPapers 56 = .ok (.iadd, 1) := by decide +kernel
theorem dX1_toldByPapers_57 : decode cX1_toldByPapers 57 = .ok (.istore 4, 2) := by decide +kernel
theorem dX1_toldByPapers_59 : decode cX1_toldByPapers 59 = .ok (.iinc 5 1, 3) := by decide +kernel
theorem dX1_toldByPapers_62 : decode cX1_toldByPapers 62 = .ok (.goto (-36), 3) := by decide +kernel
theorem dX1_toldByPapers_65 : decode cX1_toldByPapers 65 = .ok (.iload 4, 2) := by decide +kernel
theorem dX1_toldByPapers_67 : decode cX1_toldByPapers 67 = .ok (.ireturn, 1) := by decide +kernel
set_option maxRecDepth 20000 in
theorem ggX1_toldOfTruck_X1_toldByPapers : GoodIn wsX1_toldOfTruck wsX1_toldByPapers := goodIn_r _ [7, 8, 1, 9, 10, 11, 6, 12, 13, 14, 15, 16, 17, 18, 19, 20, 21, 22, 23, 24, 25, 26, 27, 28, 29, 30, 31, 32, 33, 34, 35, 36, 37, 38, 39, 40, 41, 42, 43, 44, 45, 46, 47, 48, 49, 50, 51, 52, 53, 54, 55, 56] (by decide +kernel) (by decide +kernel)
set_option maxRecDepth 20000 in
theorem gX1_toldOfTruck_X1_toldByPapers : GoodIn wsX1_toldOfTruck (wsV RX1 138 RX1 yX1_toldByPapers wsX1_toldByPapers) := goodIn_app (goodIn_of _ (by decide +kernel)) ggX1_toldOfTruck_X1_toldByPapers
theorem dX1_toldOfTruck_0 : decode cX1_toldOfTruck 0 = .ok (.iconst 0, 1) := by decide +kernel
theorem dX1_toldOfTruck_1 : decode cX1_toldOfTruck 1 = .ok (.istore_n 3, 1) := by decide +kernel
theorem dX1_toldOfTruck_2 : decode cX1_toldOfTruck 2 = .ok (.iconst 0, 1) := by decide +kernel
theorem dX1_toldOfTruck_3 : decode cX1_toldOfTruck 3 = .ok (.istore 4, 2) := by decide +kernel
theorem dX1_toldOfTruck_5 : decode cX1_toldOfTruck 5 = .ok (.iload 4, 2) := by decide +kernel
theorem dX1_toldOfTruck_7 : decode cX1_toldOfTruck 7 = .ok (.aload_n 0, 1) := by decide +kernel
theorem dX1_toldOfTruck_8 : decode cX1_toldOfTruck 8 = .ok (.getfield 40, 3) := by decide +kernel
theorem dX1_toldOfTruck_11 : decode cX1_toldOfTruck 11 = .ok (.if_icmp .ge 30, 3) := by decide +kernel
theorem dX1_toldOfTruck_14 : decode cX1_toldOfTruck 14 = .ok (.aload_n 0, 1) := by decide +kernel
theorem dX1_toldOfTruck_15 : decode cX1_toldOfTruck 15 = .ok (.getfield 16, 3) := by decide +kernel
theorem dX1_toldOfTruck_18 : decode cX1_toldOfTruck 18 = .ok (.iload 4, 2) := by decide +kernel
theorem dX1_toldOfTruck_20 : decode cX1_toldOfTruck 20 = .ok (.iaload, 1) := by decide +kernel
theorem dX1_toldOfTruck_21 : decode cX1_toldOfTruck 21 = .ok (.iload_n 1, 1) := by decide +kernel
theorem dX1_toldOfTruck_22 : decode cX1_toldOfTruck 22 = .ok (.if_icmp .ne 13, 3) := by decide +kernel
theorem dX1_toldOfTruck_25 : decode cX1_toldOfTruck 25 = .ok (.iload_n 3, 1) := by decide +kernel
theorem dX1_toldOfTruck_26 : decode cX1_toldOfTruck 26 = .ok (.aload_n 0, 1) := by decide +kernel
theorem dX1_toldOfTruck_27 : decode cX1_toldOfTruck 27 = .ok (.iload 4, 2) := by decide +kernel
theorem dX1_toldOfTruck_29 : decode cX1_toldOfTruck 29 = .ok (.iload_n 2, 1) := by decide +kernel
theorem dX1_toldOfTruck_30 : decode cX1_toldOfTruck 30 = .ok (.invokevirtual 138, 3) := by decide +kernel
theorem dX1_toldOfTruck_33 : decode cX1_toldOfTruck 33 = .ok (.iadd, 1) := by decide +kernel
theorem dX1_toldOfTruck_34 : decode cX1_toldOfTruck 34 = .ok (.istore_n 3, 1) := by decide +kernel
theorem dX1_toldOfTruck_35 : decode cX1_toldOfTruck 35 = .ok (.iinc 4 1, 3) := by decide +kernel
theorem dX1_toldOfTruck_38 : decode cX1_toldOfTruck 38 = .ok (.goto (-33), 3) := by decide +kernel
theorem dX1_toldOfTruck_41 : decode cX1_toldOfTruck 41 = .ok (.iload_n 3, 1) := by decide +kernel
theorem dX1_toldOfTruck_42 : decode cX1_toldOfTruck 42 = .ok (.ireturn, 1) := by decide +kernel
theorem dX1_isIn_0 : decode cX1_isIn 0 = .ok (.iload_n 0, 1) := by decide +kernel
theorem dX1_isIn_1 : decode cX1_isIn 1 = .ok (.iload_n 1, 1) := by decide +kernel
theorem dX1_isIn_2 : decode cX1_isIn 2 = .ok (.ishr, 1) := by decide +kernel
theorem dX1_isIn_3 : decode cX1_isIn 3 = .ok (.iconst 1, 1) := by decide +kernel
theorem dX1_isIn_4 : decode cX1_isIn 4 = .ok (.iand, 1) := by decide +kernel
theorem dX1_isIn_5 : decode cX1_isIn 5 = .ok (.ifCond .eq 7, 3) := by decide +kernel
theorem dX1_isIn_8 : decode cX1_isIn 8 = .ok (.iconst 1, 1) := by decide +kernel
theorem dX1_isIn_9 : decode cX1_isIn 9 = .ok (.goto 4, 3) := by decide +kernel
theorem dX1_isIn_12 : decode cX1_isIn 12 = .ok (.iconst 0, 1) := by decide +kernel
theorem dX1_isIn_13 : decode cX1_isIn 13 = .ok (.ireturn, 1) := by decide +kernel
set_option maxRecDepth 20000 in
theorem ggX1_lowestOf_X1_isIn : GoodIn wsX1_lowestOf wsX1_isIn := goodIn_r _ [4] (by decide +kernel) (by decide +kernel)
set_option maxRecDepth 20000 in
theorem gX1_lowestOf_X1_isIn : GoodIn wsX1_lowestOf (va_wsS RX1 180 yX1_isIn wsX1_isIn) := goodIn_app (goodIn_of _ (by decide +kernel)) ggX1_lowestOf_X1_isIn
theorem dX1_lowestOf_0 : decode cX1_lowestOf 0 = .ok (.iconst 0, 1) := by decide +kernel
theorem dX1_lowestOf_1 : decode cX1_lowestOf 1 = .ok (.istore_n 1, 1) := by decide +kernel
theorem dX1_lowestOf_2 : decode cX1_lowestOf 2 = .ok (.iload_n 1, 1) := by decide +kernel
theorem dX1_lowestOf_3 : decode cX1_lowestOf 3 = .ok (.bipush 7, 2) := by decide +kernel
theorem dX1_lowestOf_5 : decode cX1_lowestOf 5 = .ok (.if_icmp .ge 19, 3) := by decide +kernel
theorem dX1_lowestOf_8 : decode cX1_lowestOf 8 = .ok (.iload_n 0, 1) := by decide +kernel
theorem dX1_lowestOf_9 : decode cX1_lowestOf 9 = .ok (.iload_n 1, 1) := by decide +kernel
theorem dX1_lowestOf_10 : decode cX1_lowestOf 10 = .ok (.invokestatic 180, 3) := by decide +kernel
theorem dX1_lowestOf_13 : decode cX1_lowestOf 13 = .ok (.ifCond .eq 5, 3) := by decide +kernel
theorem dX1_lowestOf_16 : decode cX1_lowestOf 16 = .ok (.iload_n 1, 1) := by decide +kernel
theorem dX1_lowestOf_17 : decode cX1_lowestOf 17 = .ok (.ireturn, 1) := by decide +kernel
theorem dX1_lowestOf_18 : decode cX1_lowestOf 18 = .ok (.iinc 1 1, 3) := by decide +kernel
theorem dX1_lowestOf_21 : decode cX1_lowestOf 21 = .ok (.goto (-19), 3) := by decide +kernel
theorem dX1_lowestOf_24 : decode cX1_lowestOf 24 = .ok (.iconst (-1), 1) := by decide +kernel
theorem dX1_lowestOf_25 : decode cX1_lowestOf 25 = .ok (.ireturn, 1) := by decide +kernel
