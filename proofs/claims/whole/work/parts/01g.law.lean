set_option maxRecDepth 20000 in
theorem ggL_law_X1_init : GoodIn wsL_law wsX1_init := goodIn_r _ [9, 10, 11, 12, 13, 14, 15, 16, 17, 18, 19, 20, 21, 22, 23, 24, 25, 26, 27, 28, 29, 30, 561, 562, 563, 564, 565, 532, 533, 534, 535, 536, 537, 538] (by decide +kernel) (by decide +kernel)
set_option maxRecDepth 20000 in
theorem gL_law_X1_init : GoodIn wsL_law (wsX1_init) := ggL_law_X1_init
set_option maxRecDepth 20000 in
theorem ggL_law_X2_init : GoodIn wsL_law wsX2_init := goodIn_r _ [33, 34, 11, 12, 17, 35, 36, 37, 38, 39, 40, 41, 42, 43, 44, 45, 46, 47, 48, 49, 50, 51, 52, 53, 54, 539, 540, 541, 542, 543, 544, 545, 546, 547, 548, 549, 550, 551, 552, 553, 554, 555, 556, 557, 558, 559, 560] (by decide +kernel) (by decide +kernel)
set_option maxRecDepth 20000 in
theorem gL_law_X2_init : GoodIn wsL_law (wsX2_init) := ggL_law_X2_init
set_option maxRecDepth 20000 in
theorem ggL_law_L_make : GoodIn wsL_law wsL_make := goodIn_ca (goodIn_ca (goodIn_r _ [58, 59, 60, 61, 62, 63, 2, 64, 65, 66, 67, 68, 69, 70, 71, 72, 73, 74, 75, 76, 77, 78, 79, 80, 81, 82, 18, 83, 84, 85, 86, 16, 22, 21, 87, 88, 89, 15, 90, 26, 27, 28, 29, 30, 91, 92, 93, 94, 95, 96, 97, 98, 99, 100, 532, 533, 534, 535, 536, 537, 538, 561, 562, 563, 564, 565] (by decide +kernel) (by decide +kernel)) (goodIn_sub (fun _ h => List.mem_append_left _ (List.mem_append_left _ (List.mem_append_right _ h))) (by decide +kernel))) (goodIn_sub (fun _ h => List.mem_append_left _ (List.mem_append_right _ h)) (by decide +kernel))
set_option maxRecDepth 20000 in
theorem gL_law_L_make : GoodIn wsL_law (va_wsS RL 80 yL_make wsL_make) := goodIn_app (goodIn_of _ (by decide +kernel)) ggL_law_L_make
set_option maxRecDepth 20000 in
theorem ggL_law_X2_make : GoodIn wsL_law wsX2_make := goodIn_r _ [104, 105, 106, 107, 5, 108, 109, 110, 111, 112, 113, 114, 115, 116, 117, 35, 118, 119, 120, 121, 37, 42, 43, 44, 45, 46, 47, 48, 49, 50, 53, 52, 122, 123, 124, 125, 539, 540, 541, 542, 543, 544, 545, 546, 547, 548, 549, 550, 551, 552, 553, 554, 555, 556, 557, 558, 559, 560] (by decide +kernel) (by decide +kernel)
set_option maxRecDepth 20000 in
theorem gL_law_X2_make : GoodIn wsL_law (wsV RL 85 RX2 yX2_make wsX2_make) := goodIn_app (goodIn_of _ (by decide +kernel)) ggL_law_X2_make
set_option maxRecDepth 20000 in
theorem ggL_law_X2_thrown : GoodIn wsL_law wsX2_thrown := goodIn_r _ [129, 113, 539, 540, 541, 542, 543, 544, 545, 546, 547, 548, 549, 550, 551, 552, 553, 554, 555, 556, 557, 558, 559, 560] (by decide +kernel) (by decide +kernel)
set_option maxRecDepth 20000 in
theorem gL_law_X2_thrown : GoodIn wsL_law (wsV RL 86 RX2 yX2_thrown wsX2_thrown) := goodIn_app (goodIn_of _ (by decide +kernel)) ggL_law_X2_thrown
set_option maxRecDepth 20000 in
theorem ggL_law_L_load : GoodIn wsL_law wsL_load := goodIn_ca (goodIn_ca (goodIn_ca (goodIn_r _ [132, 59, 133, 60, 134, 135, 136, 2, 137, 19, 18, 138, 139, 140, 141, 65, 142, 143, 144, 69, 70, 71, 72, 73, 145, 146, 147, 148, 149, 150, 151, 152, 153, 154, 155, 156, 16, 157, 158, 159, 160, 161, 162, 163, 15, 164, 26, 165, 166, 167, 168, 27, 91, 92, 93, 169, 170, 171, 172, 173, 174, 175, 176, 177, 178, 179, 180, 181, 182, 183, 184, 185, 186, 187, 188, 189, 190, 191, 192, 193, 194, 195, 196, 197, 198, 199, 200, 201, 202, 203, 28, 94, 95, 96, 97, 204, 205, 206, 207, 208, 209, 210, 66, 67, 68, 211, 212, 213, 214, 74, 75, 76, 77, 78, 83, 84, 85, 86, 22, 21, 87, 88, 89, 90, 29, 30, 98, 99, 100, 532, 533, 534, 535, 536, 537, 538, 561, 562, 563, 564, 565] (by decide +kernel) (by decide +kernel)) (goodIn_sub (fun _ h => List.mem_append_left _ (List.mem_append_left _ (List.mem_append_right _ h))) (by decide +kernel))) (goodIn_sub (fun _ h => List.mem_append_right _ h) (by decide +kernel))) (goodIn_sub (fun _ h => List.mem_append_left _ (List.mem_append_right _ h)) (by decide +kernel))
set_option maxRecDepth 20000 in
theorem gL_law_L_load : GoodIn wsL_law (va_wsS RL 90 yL_load wsL_load) := goodIn_app (goodIn_of _ (by decide +kernel)) ggL_law_L_load
set_option maxRecDepth 20000 in
theorem ggL_law_X2_load : GoodIn wsL_law wsX2_load := goodIn_r _ [218, 36, 219, 220, 221, 5, 222, 105, 106, 107, 108, 223, 224, 225, 226, 227, 228, 229, 35, 230, 231, 232, 233, 39, 40, 37, 234, 235, 236, 237, 42, 46, 238, 239, 240, 241, 242, 243, 244, 245, 49, 122, 123, 124, 125, 43, 44, 45, 47, 246, 247, 248, 249, 250, 251, 252, 253, 109, 110, 111, 112, 113, 118, 119, 120, 121, 48, 50, 53, 52, 539, 540, 541, 542, 543, 544, 545, 546, 547, 548, 549, 550, 551, 552, 553, 554, 555, 556, 557, 558, 559, 560] (by decide +kernel) (by decide +kernel)
set_option maxRecDepth 20000 in
theorem gL_law_X2_load : GoodIn wsL_law (wsV RL 93 RX2 yX2_load wsX2_load) := goodIn_app (goodIn_of _ (by decide +kernel)) ggL_law_X2_load
set_option maxRecDepth 20000 in
theorem ggL_law_L_part : GoodIn wsL_law wsL_part := goodIn_ca (goodIn_ca (goodIn_ca (goodIn_r _ [256, 59, 133, 60, 257, 258, 259, 2, 260, 19, 65, 18, 16, 138, 139, 140, 141, 142, 143, 144, 69, 70, 71, 72, 73, 145, 146, 147, 148, 149, 150, 151, 152, 153, 154, 155, 156, 157, 158, 159, 160, 161, 162, 163, 15, 164, 26, 165, 166, 167, 168, 27, 91, 92, 93, 169, 170, 171, 172, 173, 174, 175, 176, 177, 178, 179, 180, 181, 182, 183, 184, 185, 186, 187, 188, 189, 190, 191, 192, 193, 194, 195, 196, 197, 198, 199, 200, 201, 202, 203, 28, 94, 95, 96, 97, 74, 75, 76, 77, 78, 79, 80, 81, 82, 261, 262, 263, 264, 83, 84, 85, 86, 22, 21, 87, 88, 89, 90, 29, 30, 98, 99, 100, 532, 533, 534, 535, 536, 537, 538, 561, 562, 563, 564, 565] (by decide +kernel) (by decide +kernel)) (goodIn_sub (fun _ h => List.mem_append_left _ (List.mem_append_left _ (List.mem_append_right _ h))) (by decide +kernel))) (goodIn_sub (fun _ h => List.mem_append_right _ h) (by decide +kernel))) (goodIn_sub (fun _ h => List.mem_append_left _ (List.mem_append_right _ h)) (by decide +kernel))
set_option maxRecDepth 20000 in
theorem gL_law_L_part : GoodIn wsL_law (va_wsS RL 94 yL_part wsL_part) := goodIn_app (goodIn_of _ (by decide +kernel)) ggL_law_L_part
set_option maxRecDepth 20000 in
theorem ggL_law_X2_part : GoodIn wsL_law wsX2_part := goodIn_r _ [268, 36, 105, 35, 37, 219, 220, 221, 5, 222, 106, 107, 108, 223, 224, 225, 230, 231, 232, 233, 39, 40, 234, 235, 236, 237, 42, 46, 238, 239, 240, 241, 242, 243, 244, 245, 49, 122, 123, 124, 125, 43, 44, 45, 47, 109, 110, 111, 112, 113, 114, 115, 116, 117, 118, 119, 120, 121, 48, 50, 53, 52, 539, 540, 541, 542, 543, 544, 545, 546, 547, 548, 549, 550, 551, 552, 553, 554, 555, 556, 557, 558, 559, 560] (by decide +kernel) (by decide +kernel)
set_option maxRecDepth 20000 in
theorem gL_law_X2_part : GoodIn wsL_law (wsV RL 96 RX2 yX2_part wsX2_part) := goodIn_app (goodIn_of _ (by decide +kernel)) ggL_law_X2_part
set_option maxRecDepth 20000 in
theorem ggL_law_L_join : GoodIn wsL_law wsL_join := goodIn_ca (goodIn_ca (goodIn_ca (goodIn_r _ [271, 59, 133, 60, 272, 273, 274, 2, 275, 18, 19, 16, 138, 139, 140, 141, 65, 69, 70, 71, 72, 73, 148, 149, 150, 151, 152, 153, 154, 155, 156, 157, 158, 159, 160, 161, 162, 163, 15, 164, 26, 165, 166, 167, 168, 27, 91, 92, 93, 169, 170, 171, 172, 173, 174, 175, 176, 177, 178, 179, 180, 181, 182, 183, 184, 185, 186, 187, 188, 189, 190, 191, 192, 193, 194, 195, 196, 197, 198, 199, 200, 201, 202, 203, 28, 94, 95, 96, 97, 276, 277, 278, 279, 74, 75, 76, 77, 78, 261, 262, 263, 264, 83, 84, 85, 86, 22, 21, 87, 88, 89, 90, 29, 30, 98, 99, 100, 532, 533, 534, 535, 536, 537, 538, 561, 562, 563, 564, 565] (by decide +kernel) (by decide +kernel)) (goodIn_sub (fun _ h => List.mem_append_left _ (List.mem_append_left _ (List.mem_append_right _ h))) (by decide +kernel))) (goodIn_sub (fun _ h => List.mem_append_right _ h) (by decide +kernel))) (goodIn_sub (fun _ h => List.mem_append_left _ (List.mem_append_right _ h)) (by decide +kernel))
set_option maxRecDepth 20000 in
theorem gL_law_L_join : GoodIn wsL_law (va_wsS RL 97 yL_join wsL_join) := goodIn_app (goodIn_of _ (by decide +kernel)) ggL_law_L_join
set_option maxRecDepth 20000 in
theorem ggL_law_X2_join : GoodIn wsL_law wsX2_join := goodIn_r _ [283, 36, 37, 40, 41, 284, 219, 220, 221, 5, 222, 105, 106, 107, 108, 285, 286, 287, 288, 35, 230, 231, 232, 233, 39, 234, 235, 236, 237, 42, 46, 238, 239, 240, 241, 242, 243, 244, 245, 49, 122, 123, 124, 125, 43, 44, 45, 47, 109, 110, 111, 112, 113, 118, 119, 120, 121, 48, 50, 53, 52, 539, 540, 541, 542, 543, 544, 545, 546, 547, 548, 549, 550, 551, 552, 553, 554, 555, 556, 557, 558, 559, 560] (by decide +kernel) (by decide +kernel)
set_option maxRecDepth 20000 in
theorem gL_law_X2_join : GoodIn wsL_law (wsV RL 100 RX2 yX2_join wsX2_join) := goodIn_app (goodIn_of _ (by decide +kernel)) ggL_law_X2_join
set_option maxRecDepth 20000 in
theorem ggL_law_L_move : GoodIn wsL_law wsL_move := goodIn_ca (goodIn_ca (goodIn_r _ [291, 59, 60, 292, 293, 294, 2, 295, 18, 138, 139, 140, 141, 65, 296, 297, 298, 69, 70, 71, 72, 73, 211, 212, 213, 214, 19, 204, 205, 206, 153, 154, 155, 156, 16, 157, 158, 159, 160, 161, 162, 163, 15, 164, 26, 165, 166, 167, 168, 27, 91, 92, 93, 169, 170, 171, 172, 173, 174, 175, 176, 177, 178, 179, 180, 181, 182, 183, 184, 185, 186, 187, 188, 189, 190, 191, 192, 193, 194, 195, 196, 197, 198, 199, 200, 201, 202, 203, 28, 94, 95, 96, 97, 66, 67, 68, 207, 208, 209, 210, 74, 75, 76, 77, 78, 83, 84, 85, 86, 22, 21, 87, 88, 89, 90, 29, 30, 98, 99, 100, 532, 533, 534, 535, 536, 537, 538, 561, 562, 563, 564, 565] (by decide +kernel) (by decide +kernel)) (goodIn_sub (fun _ h => List.mem_append_left _ (List.mem_append_left _ (List.mem_append_right _ h))) (by decide +kernel))) (goodIn_sub (fun _ h => List.mem_append_left _ (List.mem_append_right _ h)) (by decide +kernel))
set_option maxRecDepth 20000 in
theorem gL_law_L_move : GoodIn wsL_law (va_wsS RL 101 yL_move wsL_move) := goodIn_app (goodIn_of _ (by decide +kernel)) ggL_law_L_move
set_option maxRecDepth 20000 in
theorem ggL_law_X2_move : GoodIn wsL_law wsX2_move := goodIn_r _ [302, 35, 219, 220, 221, 5, 222, 105, 106, 107, 108, 230, 231, 232, 233, 39, 40, 37, 234, 235, 236, 237, 42, 46, 238, 239, 240, 241, 242, 243, 244, 245, 49, 122, 123, 124, 125, 43, 44, 45, 47, 250, 251, 252, 253, 36, 246, 247, 248, 249, 109, 110, 111, 112, 113, 118, 119, 120, 121, 48, 50, 53, 52, 539, 540, 541, 542, 543, 544, 545, 546, 547, 548, 549, 550, 551, 552, 553, 554, 555, 556, 557, 558, 559, 560] (by decide +kernel) (by decide +kernel)
set_option maxRecDepth 20000 in
theorem gL_law_X2_move : GoodIn wsL_law (wsV RL 103 RX2 yX2_move wsX2_move) := goodIn_app (goodIn_of _ (by decide +kernel)) ggL_law_X2_move
set_option maxRecDepth 20000 in
theorem ggL_law_L_hold : GoodIn wsL_law wsL_hold := goodIn_ca (goodIn_ca (goodIn_r _ [305, 59, 60, 306, 307, 308, 2, 309, 16, 138, 139, 140, 141, 65, 69, 70, 71, 72, 73, 169, 170, 171, 172, 161, 162, 163, 15, 164, 26, 165, 166, 167, 168, 27, 91, 92, 93, 173, 174, 175, 176, 74, 75, 76, 77, 78, 157, 158, 159, 160, 83, 84, 85, 86, 18, 22, 21, 87, 88, 89, 90, 28, 29, 30, 94, 95, 96, 97, 98, 99, 100, 532, 533, 534, 535, 536, 537, 538, 561, 562, 563, 564, 565] (by decide +kernel) (by decide +kernel)) (goodIn_sub (fun _ h => List.mem_append_left _ (List.mem_append_left _ (List.mem_append_right _ h))) (by decide +kernel))) (goodIn_sub (fun _ h => List.mem_append_left _ (List.mem_append_right _ h)) (by decide +kernel))
set_option maxRecDepth 20000 in
theorem gL_law_L_hold : GoodIn wsL_law (va_wsS RL 104 yL_hold wsL_hold) := goodIn_app (goodIn_of _ (by decide +kernel)) ggL_law_L_hold
set_option maxRecDepth 20000 in
theorem ggL_law_X2_hold : GoodIn wsL_law wsX2_hold := goodIn_r _ [313, 40, 37, 39, 219, 220, 221, 5, 222, 105, 106, 107, 108, 109, 110, 111, 112, 113, 118, 119, 120, 121, 35, 42, 43, 44, 45, 46, 47, 48, 49, 50, 53, 52, 122, 123, 124, 125, 539, 540, 541, 542, 543, 544, 545, 546, 547, 548, 549, 550, 551, 552, 553, 554, 555, 556, 557, 558, 559, 560] (by decide +kernel) (by decide +kernel)
set_option maxRecDepth 20000 in
theorem gL_law_X2_hold : GoodIn wsL_law (wsV RL 106 RX2 yX2_hold wsX2_hold) := goodIn_app (goodIn_of _ (by decide +kernel)) ggL_law_X2_hold
set_option maxRecDepth 20000 in
theorem ggL_law_L_spoil : GoodIn wsL_law wsL_spoil := goodIn_ca (goodIn_ca (goodIn_r _ [316, 59, 133, 317, 318, 319, 2, 320, 16, 138, 139, 140, 141, 65, 321, 322, 323, 15, 324, 26, 69, 70, 71, 72, 73, 145, 146, 147, 148, 149, 150, 151, 152, 325, 166, 167, 168, 27, 91, 92, 93, 326, 327, 328, 329, 532, 533, 534, 535, 536, 537, 538, 561, 562, 563, 564, 565] (by decide +kernel) (by decide +kernel)) (goodIn_sub (fun _ h => List.mem_append_left _ (List.mem_append_left _ (List.mem_append_right _ h))) (by decide +kernel))) (goodIn_sub (fun _ h => List.mem_append_right _ h) (by decide +kernel))
set_option maxRecDepth 20000 in
theorem gL_law_L_spoil : GoodIn wsL_law (va_wsS RL 107 yL_spoil wsL_spoil) := goodIn_app (goodIn_of _ (by decide +kernel)) ggL_law_L_spoil
set_option maxRecDepth 20000 in
theorem ggL_law_X2_spoil : GoodIn wsL_law wsX2_spoil := goodIn_r _ [333, 45, 334, 335, 336, 5, 337, 37, 219, 220, 221, 222, 105, 106, 107, 108, 109, 110, 111, 112, 113, 539, 540, 541, 542, 543, 544, 545, 546, 547, 548, 549, 550, 551, 552, 553, 554, 555, 556, 557, 558, 559, 560] (by decide +kernel) (by decide +kernel)
set_option maxRecDepth 20000 in
theorem gL_law_X2_spoil : GoodIn wsL_law (wsV RL 109 RX2 yX2_spoil wsX2_spoil) := goodIn_app (goodIn_of _ (by decide +kernel)) ggL_law_X2_spoil
set_option maxRecDepth 20000 in
theorem ggL_law_L_lose : GoodIn wsL_law wsL_lose := goodIn_ca (goodIn_r _ [340, 59, 341, 342, 343, 2, 344, 16, 345, 346, 347, 69, 70, 71, 72, 73, 348, 349, 350, 15, 351, 29, 185, 186, 532, 533, 534, 535, 536, 537, 538, 561, 562, 563, 564, 565] (by decide +kernel) (by decide +kernel)) (goodIn_sub (fun _ h => List.mem_append_left _ (List.mem_append_left _ (List.mem_append_right _ h))) (by decide +kernel))
set_option maxRecDepth 20000 in
theorem gL_law_L_lose : GoodIn wsL_law (va_wsS RL 110 yL_lose wsL_lose) := goodIn_app (goodIn_of _ (by decide +kernel)) ggL_law_L_lose
set_option maxRecDepth 20000 in
theorem ggL_law_X2_lose : GoodIn wsL_law wsX2_lose := goodIn_r _ [355, 105, 50, 106, 107, 5, 108, 109, 110, 111, 112, 113, 539, 540, 541, 542, 543, 544, 545, 546, 547, 548, 549, 550, 551, 552, 553, 554, 555, 556, 557, 558, 559, 560] (by decide +kernel) (by decide +kernel)
set_option maxRecDepth 20000 in
theorem gL_law_X2_lose : GoodIn wsL_law (wsV RL 112 RX2 yX2_lose wsX2_lose) := goodIn_app (goodIn_of _ (by decide +kernel)) ggL_law_X2_lose
set_option maxRecDepth 20000 in
theorem ggL_law_L_repair : GoodIn wsL_law wsL_repair := goodIn_ca (goodIn_ca (goodIn_r _ [358, 59, 60, 359, 360, 361, 2, 362, 16, 22, 18, 138, 139, 140, 141, 65, 321, 322, 323, 15, 324, 26, 69, 70, 71, 72, 73, 363, 364, 365, 366, 29, 91, 92, 93, 367, 368, 369, 191, 185, 186, 370, 197, 198, 199, 200, 201, 202, 203, 28, 94, 95, 96, 97, 27, 74, 75, 76, 77, 78, 371, 372, 373, 374, 30, 375, 327, 328, 329, 532, 533, 534, 535, 536, 537, 538, 561, 562, 563, 564, 565] (by decide +kernel) (by decide +kernel)) (goodIn_sub (fun _ h => List.mem_append_left _ (List.mem_append_left _ (List.mem_append_right _ h))) (by decide +kernel))) (goodIn_sub (fun _ h => List.mem_append_left _ (List.mem_append_right _ h)) (by decide +kernel))
set_option maxRecDepth 20000 in
theorem gL_law_L_repair : GoodIn wsL_law (va_wsS RL 113 yL_repair wsL_repair) := goodIn_app (goodIn_of _ (by decide +kernel)) ggL_law_L_repair
set_option maxRecDepth 20000 in
theorem ggL_law_X2_repair : GoodIn wsL_law wsX2_repair := goodIn_r _ [379, 50, 45, 48, 53, 35, 334, 335, 336, 5, 337, 37, 219, 220, 221, 222, 105, 106, 107, 108, 242, 243, 244, 245, 49, 122, 123, 124, 125, 42, 43, 44, 46, 47, 109, 110, 111, 112, 113, 539, 540, 541, 542, 543, 544, 545, 546, 547, 548, 549, 550, 551, 552, 553, 554, 555, 556, 557, 558, 559, 560] (by decide +kernel) (by decide +kernel)
set_option maxRecDepth 20000 in
theorem gL_law_X2_repair : GoodIn wsL_law (wsV RL 115 RX2 yX2_repair wsX2_repair) := goodIn_app (goodIn_of _ (by decide +kernel)) ggL_law_X2_repair
set_option maxRecDepth 20000 in
theorem ggL_law_L_broken : GoodIn wsL_law wsL_broken := goodIn_ca (goodIn_r _ [382, 59, 383, 384, 385, 2, 386, 16, 138, 139, 140, 141, 65, 69, 70, 71, 72, 73, 192, 193, 194, 15, 195, 26, 196, 197, 198, 199, 200, 201, 202, 203, 28, 91, 92, 93, 94, 95, 96, 97, 27, 532, 533, 534, 535, 536, 537, 538, 561, 562, 563, 564, 565] (by decide +kernel) (by decide +kernel)) (goodIn_sub (fun _ h => List.mem_append_left _ (List.mem_append_left _ (List.mem_append_right _ h))) (by decide +kernel))
set_option maxRecDepth 20000 in
theorem gL_law_L_broken : GoodIn wsL_law (va_wsS RL 116 yL_broken wsL_broken) := goodIn_app (goodIn_of _ (by decide +kernel)) ggL_law_L_broken
set_option maxRecDepth 20000 in
theorem ggL_law_X2_broken : GoodIn wsL_law wsX2_broken := goodIn_r _ [390, 219, 220, 221, 5, 222, 105, 106, 107, 108, 109, 110, 111, 112, 113, 238, 239, 240, 241, 37, 242, 243, 244, 245, 49, 122, 123, 124, 125, 42, 43, 44, 45, 46, 47, 539, 540, 541, 542, 543, 544, 545, 546, 547, 548, 549, 550, 551, 552, 553, 554, 555, 556, 557, 558, 559, 560] (by decide +kernel) (by decide +kernel)
set_option maxRecDepth 20000 in
theorem gL_law_X2_broken : GoodIn wsL_law (wsV RL 118 RX2 yX2_broken wsX2_broken) := goodIn_app (goodIn_of _ (by decide +kernel)) ggL_law_X2_broken
set_option maxRecDepth 20000 in
theorem ggL_law_L_isSound : GoodIn wsL_law wsL_isSound := goodIn_ca (goodIn_r _ [393, 59, 394, 395, 396, 2, 397, 138, 139, 140, 141, 65, 69, 70, 71, 72, 73, 177, 178, 179, 180, 16, 181, 182, 183, 15, 184, 185, 186, 187, 188, 189, 190, 26, 165, 166, 167, 168, 27, 91, 92, 93, 191, 192, 193, 194, 195, 196, 197, 198, 199, 200, 201, 202, 203, 28, 94, 95, 96, 97, 532, 533, 534, 535, 536, 537, 538, 561, 562, 563, 564, 565] (by decide +kernel) (by decide +kernel)) (goodIn_sub (fun _ h => List.mem_append_left _ (List.mem_append_left _ (List.mem_append_right _ h))) (by decide +kernel))
set_option maxRecDepth 20000 in
theorem gL_law_L_isSound : GoodIn wsL_law (va_wsS RL 119 yL_isSound wsL_isSound) := goodIn_app (goodIn_of _ (by decide +kernel)) ggL_law_L_isSound
set_option maxRecDepth 20000 in
theorem ggL_law_X2_isSound : GoodIn wsL_law wsX2_isSound := goodIn_r _ [401, 219, 220, 221, 5, 222, 105, 106, 107, 108, 109, 110, 111, 112, 113, 234, 235, 236, 237, 37, 42, 46, 238, 239, 240, 241, 242, 243, 244, 245, 49, 122, 123, 124, 125, 43, 44, 45, 47, 539, 540, 541, 542, 543, 544, 545, 546, 547, 548, 549, 550, 551, 552, 553, 554, 555, 556, 557, 558, 559, 560] (by decide +kernel) (by decide +kernel)
set_option maxRecDepth 20000 in
theorem gL_law_X2_isSound : GoodIn wsL_law (wsV RL 121 RX2 yX2_isSound wsX2_isSound) := goodIn_app (goodIn_of _ (by decide +kernel)) ggL_law_X2_isSound
set_option maxRecDepth 20000 in
theorem ggL_law_L_pallet : GoodIn wsL_law wsL_pallet := goodIn_ca (goodIn_ca (goodIn_r _ [404, 59, 133, 405, 406, 407, 2, 408, 18, 16, 138, 139, 140, 141, 65, 69, 70, 71, 72, 73, 145, 146, 147, 148, 149, 150, 151, 152, 261, 262, 263, 15, 264, 26, 211, 212, 213, 214, 19, 204, 205, 206, 157, 158, 159, 160, 161, 162, 163, 164, 165, 166, 167, 168, 27, 91, 92, 93, 169, 170, 171, 172, 532, 533, 534, 535, 536, 537, 538, 561, 562, 563, 564, 565] (by decide +kernel) (by decide +kernel)) (goodIn_sub (fun _ h => List.mem_append_left _ (List.mem_append_left _ (List.mem_append_right _ h))) (by decide +kernel))) (goodIn_sub (fun _ h => List.mem_append_right _ h) (by decide +kernel))
set_option maxRecDepth 20000 in
theorem gL_law_L_pallet : GoodIn wsL_law (va_wsS RL 122 yL_pallet wsL_pallet) := goodIn_app (goodIn_of _ (by decide +kernel)) ggL_law_L_pallet
set_option maxRecDepth 20000 in
theorem ggL_law_X2_pallet : GoodIn wsL_law wsX2_pallet := goodIn_r _ [412, 35, 37, 39, 40, 219, 220, 221, 5, 222, 105, 106, 107, 108, 109, 110, 111, 112, 113, 250, 251, 252, 253, 36, 539, 540, 541, 542, 543, 544, 545, 546, 547, 548, 549, 550, 551, 552, 553, 554, 555, 556, 557, 558, 559, 560] (by decide +kernel) (by decide +kernel)
set_option maxRecDepth 20000 in
theorem gL_law_X2_pallet : GoodIn wsL_law (wsV RL 124 RX2 yX2_pallet wsX2_pallet) := goodIn_app (goodIn_of _ (by decide +kernel)) ggL_law_X2_pallet
set_option maxRecDepth 20000 in
theorem ggL_law_L_entry : GoodIn wsL_law wsL_entry := goodIn_ca (goodIn_ca (goodIn_r _ [415, 59, 133, 416, 417, 418, 2, 419, 16, 138, 139, 140, 141, 65, 321, 322, 323, 15, 324, 26, 69, 70, 71, 72, 73, 145, 146, 147, 148, 149, 150, 151, 152, 325, 166, 167, 168, 27, 91, 92, 93, 420, 201, 202, 203, 28, 363, 364, 365, 366, 29, 532, 533, 534, 535, 536, 537, 538, 561, 562, 563, 564, 565] (by decide +kernel) (by decide +kernel)) (goodIn_sub (fun _ h => List.mem_append_left _ (List.mem_append_left _ (List.mem_append_right _ h))) (by decide +kernel))) (goodIn_sub (fun _ h => List.mem_append_right _ h) (by decide +kernel))
set_option maxRecDepth 20000 in
theorem gL_law_L_entry : GoodIn wsL_law (va_wsS RL 125 yL_entry wsL_entry) := goodIn_app (goodIn_of _ (by decide +kernel)) ggL_law_L_entry
set_option maxRecDepth 20000 in
theorem ggL_law_X2_entry : GoodIn wsL_law wsX2_entry := goodIn_r _ [424, 42, 43, 44, 45, 46, 47, 49, 50, 334, 335, 336, 5, 337, 37, 219, 220, 221, 222, 105, 106, 107, 108, 109, 110, 111, 112, 113, 539, 540, 541, 542, 543, 544, 545, 546, 547, 548, 549, 550, 551, 552, 553, 554, 555, 556, 557, 558, 559, 560] (by decide +kernel) (by decide +kernel)
set_option maxRecDepth 20000 in
theorem gL_law_X2_entry : GoodIn wsL_law (wsV RL 127 RX2 yX2_entry wsX2_entry) := goodIn_app (goodIn_of _ (by decide +kernel)) ggL_law_X2_entry
set_option maxRecDepth 20000 in
theorem ggL_law_L_contents : GoodIn wsL_law wsL_contents := goodIn_ca (goodIn_r _ [427, 59, 428, 429, 430, 2, 431, 19, 138, 139, 140, 141, 65, 142, 143, 144, 69, 70, 71, 72, 73, 532, 533, 534, 535, 536, 537, 538] (by decide +kernel) (by decide +kernel)) (goodIn_sub (fun _ h => List.mem_append_left _ (List.mem_append_left _ (List.mem_append_right _ h))) (by decide +kernel))
set_option maxRecDepth 20000 in
theorem gL_law_L_contents : GoodIn wsL_law (va_wsS RL 128 yL_contents wsL_contents) := goodIn_app (goodIn_of _ (by decide +kernel)) ggL_law_L_contents
set_option maxRecDepth 20000 in
theorem ggL_law_X2_contents : GoodIn wsL_law wsX2_contents := goodIn_r _ [435, 36, 219, 220, 221, 5, 222, 105, 106, 107, 108, 223, 224, 225, 109, 110, 111, 112, 113, 539, 540, 541, 542, 543, 544, 545, 546, 547, 548, 549, 550, 551, 552, 553, 554, 555, 556, 557, 558, 559, 560] (by decide +kernel) (by decide +kernel)
set_option maxRecDepth 20000 in
theorem gL_law_X2_contents : GoodIn wsL_law (wsV RL 130 RX2 yX2_contents wsX2_contents) := goodIn_app (goodIn_of _ (by decide +kernel)) ggL_law_X2_contents
set_option maxRecDepth 20000 in
theorem ggL_law_L_contentsAnew : GoodIn wsL_law wsL_contentsAnew := goodIn_ca (goodIn_r _ [438, 59, 439, 440, 441, 2, 442, 138, 139, 140, 141, 65, 142, 143, 144, 69, 70, 71, 72, 73, 443, 444, 445, 446, 16, 169, 170, 171, 172, 161, 162, 163, 15, 164, 26, 165, 166, 167, 168, 27, 91, 92, 93, 181, 182, 183, 184, 185, 186, 187, 188, 189, 190, 191, 447, 448, 449, 450, 451, 452, 453, 532, 533, 534, 535, 536, 537, 538, 561, 562, 563, 564, 565] (by decide +kernel) (by decide +kernel)) (goodIn_sub (fun _ h => List.mem_append_left _ (List.mem_append_left _ (List.mem_append_right _ h))) (by decide +kernel))
set_option maxRecDepth 20000 in
theorem gL_law_L_contentsAnew : GoodIn wsL_law (va_wsS RL 131 yL_contentsAnew wsL_contentsAnew) := goodIn_app (goodIn_of _ (by decide +kernel)) ggL_law_L_contentsAnew
set_option maxRecDepth 20000 in
theorem ggL_law_X2_contentsAnew : GoodIn wsL_law wsX2_contentsAnew := goodIn_r _ [457, 219, 220, 221, 5, 222, 105, 106, 107, 108, 223, 224, 225, 109, 110, 111, 112, 113, 458, 459, 460, 461, 40, 462, 463, 464, 465, 284, 54, 41, 466, 467, 468, 469, 37, 42, 44, 45, 46, 539, 540, 541, 542, 543, 544, 545, 546, 547, 548, 549, 550, 551, 552, 553, 554, 555, 556, 557, 558, 559, 560] (by decide +kernel) (by decide +kernel)
set_option maxRecDepth 20000 in
theorem gL_law_X2_contentsAnew : GoodIn wsL_law (wsV RL 133 RX2 yX2_contentsAnew wsX2_contentsAnew) := goodIn_app (goodIn_of _ (by decide +kernel)) ggL_law_X2_contentsAnew
set_option maxRecDepth 20000 in
theorem ggL_law_L_declare : GoodIn wsL_law wsL_declare := goodIn_ca (goodIn_ca (goodIn_r _ [472, 59, 133, 473, 474, 475, 2, 476, 20, 477, 478, 479, 142, 143, 144, 69, 70, 71, 72, 73, 145, 146, 147, 148, 149, 150, 151, 152, 532, 533, 534, 535, 536, 537, 538] (by decide +kernel) (by decide +kernel)) (goodIn_sub (fun _ h => List.mem_append_left _ (List.mem_append_left _ (List.mem_append_right _ h))) (by decide +kernel))) (goodIn_sub (fun _ h => List.mem_append_right _ h) (by decide +kernel))
set_option maxRecDepth 20000 in
theorem gL_law_L_declare : GoodIn wsL_law (va_wsS RL 134 yL_declare wsL_declare) := goodIn_app (goodIn_of _ (by decide +kernel)) ggL_law_L_declare
set_option maxRecDepth 20000 in
theorem ggL_law_X2_declare : GoodIn wsL_law wsX2_declare := goodIn_r _ [483, 51, 484, 485, 5, 486, 106, 107, 108, 223, 224, 225, 109, 110, 111, 112, 113, 539, 540, 541, 542, 543, 544, 545, 546, 547, 548, 549, 550, 551, 552, 553, 554, 555, 556, 557, 558, 559, 560] (by decide +kernel) (by decide +kernel)
set_option maxRecDepth 20000 in
theorem gL_law_X2_declare : GoodIn wsL_law (wsV RL 136 RX2 yX2_declare wsX2_declare) := goodIn_app (goodIn_of _ (by decide +kernel)) ggL_law_X2_declare
set_option maxRecDepth 20000 in
theorem ggL_law_L_mismatch : GoodIn wsL_law wsL_mismatch := goodIn_ca (goodIn_r _ [489, 59, 490, 491, 492, 2, 493, 20, 494, 495, 496, 497, 477, 478, 479, 69, 70, 71, 72, 73, 498, 499, 500, 501, 65, 18, 443, 444, 445, 446, 16, 169, 170, 171, 172, 161, 162, 163, 15, 164, 26, 165, 166, 167, 168, 27, 91, 92, 93, 181, 182, 183, 184, 185, 186, 187, 188, 189, 190, 191, 447, 448, 449, 450, 451, 452, 453, 532, 533, 534, 535, 536, 537, 538, 561, 562, 563, 564, 565] (by decide +kernel) (by decide +kernel)) (goodIn_sub (fun _ h => List.mem_append_left _ (List.mem_append_left _ (List.mem_append_right _ h))) (by decide +kernel))
set_option maxRecDepth 20000 in
theorem gL_law_L_mismatch : GoodIn wsL_law (va_wsS RL 137 yL_mismatch wsL_mismatch) := goodIn_app (goodIn_of _ (by decide +kernel)) ggL_law_L_mismatch
set_option maxRecDepth 20000 in
theorem ggL_law_X2_mismatch : GoodIn wsL_law wsX2_mismatch := goodIn_r _ [505, 484, 485, 5, 486, 106, 107, 108, 109, 110, 111, 112, 113, 506, 507, 508, 509, 51, 105, 35, 458, 459, 460, 461, 40, 462, 463, 464, 465, 284, 54, 41, 466, 467, 468, 469, 37, 42, 44, 45, 46, 539, 540, 541, 542, 543, 544, 545, 546, 547, 548, 549, 550, 551, 552, 553, 554, 555, 556, 557, 558, 559, 560] (by decide +kernel) (by decide +kernel)
set_option maxRecDepth 20000 in
theorem gL_law_X2_mismatch : GoodIn wsL_law (wsV RL 139 RX2 yX2_mismatch wsX2_mismatch) := goodIn_app (goodIn_of _ (by decide +kernel)) ggL_law_X2_mismatch
set_option maxRecDepth 20000 in
theorem ggL_law_L_fee : GoodIn wsL_law wsL_fee := goodIn_ca (goodIn_r _ [512, 133, 513, 514, 515, 2, 516, 21, 145, 146, 147, 148, 149, 150, 151, 152, 532, 533, 534, 535, 536, 537, 538] (by decide +kernel) (by decide +kernel)) (goodIn_sub (fun _ h => List.mem_append_right _ h) (by decide +kernel))
set_option maxRecDepth 20000 in
theorem gL_law_L_fee : GoodIn wsL_law (va_wsS RL 140 yL_fee wsL_fee) := goodIn_app (goodIn_of _ (by decide +kernel)) ggL_law_L_fee
set_option maxRecDepth 20000 in
theorem ggL_law_X2_fee : GoodIn wsL_law wsX2_fee := goodIn_r _ [520, 52, 106, 107, 5, 108, 109, 110, 111, 112, 113, 539, 540, 541, 542, 543, 544, 545, 546, 547, 548, 549, 550, 551, 552, 553, 554, 555, 556, 557, 558, 559, 560] (by decide +kernel) (by decide +kernel)
set_option maxRecDepth 20000 in
theorem gL_law_X2_fee : GoodIn wsL_law (wsV RL 142 RX2 yX2_fee wsX2_fee) := goodIn_app (goodIn_of _ (by decide +kernel)) ggL_law_X2_fee
set_option maxRecDepth 20000 in
theorem ggL_law_L_owed : GoodIn wsL_law wsL_owed := goodIn_ca (goodIn_r _ [523, 59, 524, 525, 526, 2, 527, 22, 345, 346, 347, 69, 70, 71, 72, 73, 532, 533, 534, 535, 536, 537, 538] (by decide +kernel) (by decide +kernel)) (goodIn_sub (fun _ h => List.mem_append_left _ (List.mem_append_left _ (List.mem_append_right _ h))) (by decide +kernel))
set_option maxRecDepth 20000 in
theorem gL_law_L_owed : GoodIn wsL_law (va_wsS RL 143 yL_owed wsL_owed) := goodIn_app (goodIn_of _ (by decide +kernel)) ggL_law_L_owed
set_option maxRecDepth 20000 in
theorem ggL_law_X2_owed : GoodIn wsL_law wsX2_owed := goodIn_r _ [531, 53, 106, 107, 5, 108, 109, 110, 111, 112, 113, 539, 540, 541, 542, 543, 544, 545, 546, 547, 548, 549, 550, 551, 552, 553, 554, 555, 556, 557, 558, 559, 560] (by decide +kernel) (by decide +kernel)
set_option maxRecDepth 20000 in
theorem gL_law_X2_owed : GoodIn wsL_law (wsV RL 145 RX2 yX2_owed wsX2_owed) := goodIn_app (goodIn_of _ (by decide +kernel)) ggL_law_X2_owed
