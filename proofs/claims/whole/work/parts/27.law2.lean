set_option maxRecDepth 20000 in
theorem ggL_limb_X3_limb : GoodIn wsL_limb wsX3_limb := goodIn_r _ [5, 6, 7, 8, 9, 10, 11, 4, 12, 13, 14, 15, 16, 17, 18, 19, 20, 21, 22, 23, 24, 25, 26, 27, 28, 29, 30, 31, 32, 33, 34, 35, 36, 37, 38, 39, 40, 41] (by decide +kernel) (by decide +kernel)
set_option maxRecDepth 20000 in
theorem gL_limb_X3_limb : GoodIn wsL_limb (wsV RL 7 RX3 yX3_limb wsX3_limb) := goodIn_app (goodIn_of _ (by decide +kernel)) ggL_limb_X3_limb
set_option maxRecDepth 20000 in
theorem ggL_mean_X3_mean : GoodIn wsL_mean wsX3_mean := goodIn_ca (goodIn_r _ [6, 7, 8, 9, 10, 11, 12, 13, 5, 14, 15, 16, 17, 18, 19, 20, 21, 22, 23, 24, 25, 26, 27, 28, 29, 30, 31, 32, 33, 34, 35, 36, 37, 38, 39, 40, 41, 42, 43, 44, 45, 46] (by decide +kernel) (by decide +kernel)) (goodIn_sub (fun _ h => List.mem_cons_of_mem _ (List.mem_append_right _ h)) (by decide +kernel))
set_option maxRecDepth 20000 in
theorem gL_mean_X3_mean : GoodIn wsL_mean (wsV RL 15 RX3 yX3_mean wsX3_mean) := goodIn_app (goodIn_of _ (by decide +kernel)) ggL_mean_X3_mean
set_option maxRecDepth 20000 in
theorem ggL_spread_X3_spread : GoodIn wsL_spread wsX3_spread := goodIn_ca (goodIn_r _ [6, 7, 8, 9, 10, 11, 12, 13, 5, 14, 15, 16, 17, 18, 19, 20, 21, 22, 23, 24, 25, 26, 27, 28, 29, 30, 31, 32, 33, 34, 35, 36, 37, 38, 39, 40, 41, 42, 43, 44, 45, 46, 47, 48, 49, 50] (by decide +kernel) (by decide +kernel)) (goodIn_sub (fun _ h => List.mem_cons_of_mem _ (List.mem_append_right _ h)) (by decide +kernel))
set_option maxRecDepth 20000 in
theorem gL_spread_X3_spread : GoodIn wsL_spread (wsV RL 21 RX3 yX3_spread wsX3_spread) := goodIn_app (goodIn_of _ (by decide +kernel)) ggL_spread_X3_spread
set_option maxRecDepth 20000 in
theorem ggL_law_X3_init : GoodIn wsL_law wsX3_init := goodIn_r _ [10, 11, 12, 13, 14, 15, 16, 17, 18, 19, 20, 21, 22, 23, 24, 25, 26, 27, 28, 29, 30, 31, 32, 33, 34, 35, 36, 37, 38, 6, 39, 622, 623, 624, 625, 645, 646, 647, 648, 649, 650, 651, 652] (by decide +kernel) (by decide +kernel)
set_option maxRecDepth 20000 in
theorem gL_law_X3_init : GoodIn wsL_law (wsX3_init) := ggL_law_X3_init
set_option maxRecDepth 20000 in
theorem ggL_law_X4_init : GoodIn wsL_law wsX4_init := goodIn_r _ [42, 43, 12, 13, 29, 44, 45, 46, 6, 47, 48, 49, 50, 51, 52, 53, 54, 55, 56, 57, 626, 627, 628, 629, 630, 631, 632, 633, 634, 635, 636, 637, 638, 639, 640, 641, 642, 643, 644] (by decide +kernel) (by decide +kernel)
set_option maxRecDepth 20000 in
theorem gL_law_X4_init : GoodIn wsL_law (wsX4_init) := ggL_law_X4_init
set_option maxRecDepth 20000 in
theorem ggL_law_X3_fold : GoodIn wsL_law wsX3_fold := goodIn_r _ [61, 16, 15, 14, 62, 63, 64, 65, 66, 67, 12, 13, 29, 68, 6, 69, 70, 71, 622, 623, 624, 625, 653, 654, 655, 656] (by decide +kernel) (by decide +kernel)
set_option maxRecDepth 20000 in
theorem gL_law_X3_fold : GoodIn wsL_law (wsV RL 28 RX3 yX3_fold wsX3_fold) := goodIn_app (goodIn_of _ (by decide +kernel)) ggL_law_X3_fold
set_option maxRecDepth 20000 in
theorem ggL_law_X4_fold : GoodIn wsL_law wsX4_fold := goodIn_r _ [75, 76, 57, 44, 45, 626, 627, 628, 629, 630, 631, 632, 633, 634, 635, 636, 637, 638, 639, 640, 641, 642, 643, 644] (by decide +kernel) (by decide +kernel)
set_option maxRecDepth 20000 in
theorem gL_law_X4_fold : GoodIn wsL_law (wsV RL 32 RX4 yX4_fold wsX4_fold) := goodIn_app (goodIn_of _ (by decide +kernel)) ggL_law_X4_fold
set_option maxRecDepth 20000 in
theorem ggL_law_X3_add : GoodIn wsL_law wsX3_add := goodIn_r _ [80, 81, 82, 83, 2, 84, 85, 86, 87, 88, 89, 90, 91, 16, 15, 92, 93, 94, 95, 96, 97, 98, 99, 100, 101, 102, 103, 63, 104, 70, 68, 69, 105, 106, 107, 108, 653, 654, 655, 656, 622, 623, 624, 625] (by decide +kernel) (by decide +kernel)
set_option maxRecDepth 20000 in
theorem gL_law_X3_add : GoodIn wsL_law (wsV RL 35 RX3 yX3_add wsX3_add) := goodIn_app (goodIn_of _ (by decide +kernel)) ggL_law_X3_add
set_option maxRecDepth 20000 in
theorem ggL_law_X4_add : GoodIn wsL_law wsX4_add := goodIn_r _ [112, 76, 44, 113, 114, 115, 116, 5, 117, 57, 118, 119, 120, 121, 122, 123, 124, 125, 126, 127, 128, 129, 130, 131, 45, 46, 47, 626, 627, 628, 629, 630, 631, 632, 633, 634, 635, 636, 637, 638, 639, 640, 641, 642, 643, 644] (by decide +kernel) (by decide +kernel)
set_option maxRecDepth 20000 in
theorem gL_law_X4_add : GoodIn wsL_law (wsV RL 39 RX4 yX4_add wsX4_add) := goodIn_app (goodIn_of _ (by decide +kernel)) ggL_law_X4_add
set_option maxRecDepth 20000 in
theorem ggL_law_X3_addReal : GoodIn wsL_law wsX3_addReal := goodIn_r _ [135, 136, 137, 2, 138, 139, 81, 82, 83, 84, 85, 86, 87, 88, 89, 90, 91, 16, 15, 92, 93, 94, 95, 96, 97, 98, 99, 100, 101, 102, 103, 63, 104, 70, 68, 69, 105, 106, 107, 108, 653, 654, 655, 656, 622, 623, 624, 625] (by decide +kernel) (by decide +kernel)
set_option maxRecDepth 20000 in
theorem gL_law_X3_addReal : GoodIn wsL_law (wsV RL 40 RX3 yX3_addReal wsX3_addReal) := goodIn_app (goodIn_of _ (by decide +kernel)) ggL_law_X3_addReal
set_option maxRecDepth 20000 in
theorem ggL_law_X4_addReal : GoodIn wsL_law wsX4_addReal := goodIn_r _ [143, 76, 44, 113, 114, 115, 116, 5, 117, 57, 118, 119, 120, 144, 145, 146, 147, 148, 149, 150, 128, 129, 130, 131, 45, 46, 47, 626, 627, 628, 629, 630, 631, 632, 633, 634, 635, 636, 637, 638, 639, 640, 641, 642, 643, 644] (by decide +kernel) (by decide +kernel)
set_option maxRecDepth 20000 in
theorem gL_law_X4_addReal : GoodIn wsL_law (wsV RL 43 RX4 yX4_addReal wsX4_addReal) := goodIn_app (goodIn_of _ (by decide +kernel)) ggL_law_X4_addReal
set_option maxRecDepth 20000 in
theorem ggL_law_X3_remove : GoodIn wsL_law wsX3_remove := goodIn_r _ [154, 155, 156, 157, 2, 158, 85, 87, 88, 89, 90, 91, 16, 15, 159, 106, 107, 63, 108, 70, 68, 69, 160, 161, 162, 163, 164, 165, 166, 167, 653, 654, 655, 656, 622, 623, 624, 625] (by decide +kernel) (by decide +kernel)
set_option maxRecDepth 20000 in
theorem gL_law_X3_remove : GoodIn wsL_law (wsV RL 44 RX3 yX3_remove wsX3_remove) := goodIn_app (goodIn_of _ (by decide +kernel)) ggL_law_X3_remove
set_option maxRecDepth 20000 in
theorem ggL_law_X4_remove : GoodIn wsL_law wsX4_remove := goodIn_r _ [171, 76, 44, 114, 115, 116, 5, 117, 57, 172, 173, 174, 175, 45, 46, 47, 626, 627, 628, 629, 630, 631, 632, 633, 634, 635, 636, 637, 638, 639, 640, 641, 642, 643, 644] (by decide +kernel) (by decide +kernel)
set_option maxRecDepth 20000 in
theorem gL_law_X4_remove : GoodIn wsL_law (wsV RL 47 RX4 yX4_remove wsX4_remove) := goodIn_app (goodIn_of _ (by decide +kernel)) ggL_law_X4_remove
set_option maxRecDepth 20000 in
theorem ggL_law_X3_removeReal : GoodIn wsL_law wsX3_removeReal := goodIn_r _ [179, 136, 137, 2, 138, 139, 155, 156, 157, 158, 85, 87, 88, 89, 90, 91, 16, 15, 159, 106, 107, 63, 108, 70, 68, 69, 160, 161, 162, 163, 164, 165, 166, 167, 653, 654, 655, 656, 622, 623, 624, 625] (by decide +kernel) (by decide +kernel)
set_option maxRecDepth 20000 in
theorem gL_law_X3_removeReal : GoodIn wsL_law (wsV RL 48 RX3 yX3_removeReal wsX3_removeReal) := goodIn_app (goodIn_of _ (by decide +kernel)) ggL_law_X3_removeReal
set_option maxRecDepth 20000 in
theorem ggL_law_X4_removeReal : GoodIn wsL_law wsX4_removeReal := goodIn_r _ [183, 76, 44, 114, 115, 116, 5, 117, 57, 144, 145, 146, 147, 148, 149, 150, 172, 173, 174, 175, 45, 46, 47, 626, 627, 628, 629, 630, 631, 632, 633, 634, 635, 636, 637, 638, 639, 640, 641, 642, 643, 644] (by decide +kernel) (by decide +kernel)
set_option maxRecDepth 20000 in
theorem gL_law_X4_removeReal : GoodIn wsL_law (wsV RL 51 RX4 yX4_removeReal wsX4_removeReal) := goodIn_app (goodIn_of _ (by decide +kernel)) ggL_law_X4_removeReal
set_option maxRecDepth 20000 in
theorem ggL_law_X3_merge : GoodIn wsL_law wsX3_merge := goodIn_r _ [187, 85, 87, 88, 89, 90, 2, 91, 16, 15, 188, 189, 190, 63, 191, 70, 68, 69, 192, 102, 103, 104, 105, 106, 107, 108, 653, 654, 655, 656, 622, 623, 624, 625] (by decide +kernel) (by decide +kernel)
set_option maxRecDepth 20000 in
theorem gL_law_X3_merge : GoodIn wsL_law (wsV RL 52 RX3 yX3_merge wsX3_merge) := goodIn_app (goodIn_of _ (by decide +kernel)) ggL_law_X3_merge
set_option maxRecDepth 20000 in
theorem ggL_law_X4_merge : GoodIn wsL_law wsX4_merge := goodIn_r _ [196, 76, 44, 45, 46, 47, 114, 115, 116, 5, 117, 57, 626, 627, 628, 629, 630, 631, 632, 633, 634, 635, 636, 637, 638, 639, 640, 641, 642, 643, 644] (by decide +kernel) (by decide +kernel)
set_option maxRecDepth 20000 in
theorem gL_law_X4_merge : GoodIn wsL_law (wsV RL 55 RX4 yX4_merge wsX4_merge) := goodIn_app (goodIn_of _ (by decide +kernel)) ggL_law_X4_merge
set_option maxRecDepth 20000 in
theorem ggL_law_X3_same : GoodIn wsL_law wsX3_same := goodIn_r _ [200, 85, 88, 89, 90, 2, 91, 16, 15, 201, 202, 203, 63, 204, 70, 68, 69, 205, 161, 162, 163, 653, 654, 655, 656, 622, 623, 624, 625] (by decide +kernel) (by decide +kernel)
set_option maxRecDepth 20000 in
theorem gL_law_X3_same : GoodIn wsL_law (wsV RL 56 RX3 yX3_same wsX3_same) := goodIn_app (goodIn_of _ (by decide +kernel)) ggL_law_X3_same
set_option maxRecDepth 20000 in
theorem ggL_law_X4_same : GoodIn wsL_law wsX4_same := goodIn_r _ [209, 76, 44, 45, 46, 47, 114, 115, 116, 5, 117, 57, 210, 211, 212, 213, 626, 627, 628, 629, 630, 631, 632, 633, 634, 635, 636, 637, 638, 639, 640, 641, 642, 643, 644] (by decide +kernel) (by decide +kernel)
set_option maxRecDepth 20000 in
theorem gL_law_X4_same : GoodIn wsL_law (wsV RL 60 RX4 yX4_same wsX4_same) := goodIn_app (goodIn_of _ (by decide +kernel)) ggL_law_X4_same
set_option maxRecDepth 20000 in
theorem ggL_law_X3_rows : GoodIn wsL_law wsX3_rows := goodIn_r _ [217, 87, 88, 89, 90, 2, 91, 16, 15, 653, 654, 655, 656, 622, 623, 624, 625] (by decide +kernel) (by decide +kernel)
set_option maxRecDepth 20000 in
theorem gL_law_X3_rows : GoodIn wsL_law (wsV RL 61 RX3 yX3_rows wsX3_rows) := goodIn_app (goodIn_of _ (by decide +kernel)) ggL_law_X3_rows
set_option maxRecDepth 20000 in
theorem ggL_law_X4_rows : GoodIn wsL_law wsX4_rows := goodIn_r _ [221, 76, 45, 114, 115, 116, 5, 117, 57, 626, 627, 628, 629, 630, 631, 632, 633, 634, 635, 636, 637, 638, 639, 640, 641, 642, 643, 644] (by decide +kernel) (by decide +kernel)
set_option maxRecDepth 20000 in
theorem gL_law_X4_rows : GoodIn wsL_law (wsV RL 64 RX4 yX4_rows wsX4_rows) := goodIn_app (goodIn_of _ (by decide +kernel)) ggL_law_X4_rows
set_option maxRecDepth 20000 in
theorem ggL_law_L_limb : GoodIn wsL_law wsL_limb := goodIn_r _ [225, 226, 227, 228, 2, 229, 230, 231, 232, 233, 234, 235, 236, 85, 88, 89, 90, 91, 16, 15, 237, 238, 239, 63, 240, 70, 69, 241, 657, 658, 659, 660, 661, 662, 653, 654, 655, 656, 622, 623, 624, 625] (by decide +kernel) (by decide +kernel)
set_option maxRecDepth 20000 in
theorem gL_law_L_limb : GoodIn wsL_law (va_wsS RL 65 yL_limb wsL_limb) := goodIn_app (goodIn_of _ (by decide +kernel)) ggL_law_L_limb
set_option maxRecDepth 20000 in
theorem ggL_law_X4_limb : GoodIn wsL_law wsX4_limb := goodIn_r _ [245, 76, 45, 47, 246, 247, 248, 249, 5, 250, 44, 114, 115, 116, 117, 57, 626, 627, 628, 629, 630, 631, 632, 633, 634, 635, 636, 637, 638, 639, 640, 641, 642, 643, 644] (by decide +kernel) (by decide +kernel)
set_option maxRecDepth 20000 in
theorem gL_law_X4_limb : GoodIn wsL_law (wsV RL 70 RX4 yX4_limb wsX4_limb) := goodIn_app (goodIn_of _ (by decide +kernel)) ggL_law_X4_limb
set_option maxRecDepth 20000 in
theorem ggL_law_X4_thrown : GoodIn wsL_law wsX4_thrown := goodIn_r _ [254, 76, 626, 627, 628, 629, 630, 631, 632, 633, 634, 635, 636, 637, 638, 639, 640, 641, 642, 643, 644] (by decide +kernel) (by decide +kernel)
set_option maxRecDepth 20000 in
theorem gL_law_X4_thrown : GoodIn wsL_law (wsV RL 71 RX4 yX4_thrown wsX4_thrown) := goodIn_app (goodIn_of _ (by decide +kernel)) ggL_law_X4_thrown
set_option maxRecDepth 20000 in
theorem ggL_law_X3_real : GoodIn wsL_law wsX3_real := goodIn_r _ [258, 24, 233, 234, 235, 2, 236, 85, 88, 89, 90, 91, 16, 15, 259, 260, 261, 23, 262, 39, 263, 264, 265, 266, 267, 268, 269, 270, 271, 272, 273, 274, 275, 276, 277, 278, 279, 280, 281, 282, 283, 284, 285, 286, 287, 288, 289, 290, 291, 292, 293, 294, 295, 296, 297, 298, 299, 300, 301, 302, 303, 304, 305, 306, 307, 308, 309, 310, 311, 312, 313, 314, 315, 316, 317, 318, 319, 320, 622, 623, 624, 625, 653, 654, 655, 656, 652] (by decide +kernel) (by decide +kernel)
set_option maxRecDepth 20000 in
theorem gL_law_X3_real : GoodIn wsL_law (wsV RL 75 RX3 yX3_real wsX3_real) := goodIn_app (goodIn_of _ (by decide +kernel)) ggL_law_X3_real
set_option maxRecDepth 20000 in
theorem ggL_law_X4_real : GoodIn wsL_law wsX4_real := goodIn_r _ [324, 76, 325, 247, 248, 249, 5, 250, 44, 114, 115, 116, 117, 57, 326, 327, 328, 329, 48, 45, 47, 147, 330, 331, 332, 246, 333, 334, 335, 336, 337, 338, 339, 340, 341, 342, 343, 344, 345, 346, 347, 626, 627, 628, 629, 630, 631, 632, 633, 634, 635, 636, 637, 638, 639, 640, 641, 642, 643, 644] (by decide +kernel) (by decide +kernel)
set_option maxRecDepth 20000 in
theorem gL_law_X4_real : GoodIn wsL_law (wsV RL 79 RX4 yX4_real wsX4_real) := goodIn_app (goodIn_of _ (by decide +kernel)) ggL_law_X4_real
set_option maxRecDepth 20000 in
theorem ggL_law_L_mean : GoodIn wsL_law wsL_mean := goodIn_ca (goodIn_r _ [350, 351, 352, 353, 354, 2, 355, 356, 357, 139, 87, 233, 234, 235, 236, 85, 88, 89, 90, 91, 16, 15, 358, 359, 360, 63, 361, 70, 69, 362, 363, 364, 365, 366, 367, 368, 369, 370, 371, 653, 654, 655, 656, 622, 623, 624, 625] (by decide +kernel) (by decide +kernel)) (goodIn_sub (fun _ h => List.mem_append_right _ h) (by decide +kernel))
set_option maxRecDepth 20000 in
theorem gL_law_L_mean : GoodIn wsL_law (va_wsS RL 80 yL_mean wsL_mean) := goodIn_app (goodIn_of _ (by decide +kernel)) ggL_law_L_mean
set_option maxRecDepth 20000 in
theorem ggL_law_X4_mean : GoodIn wsL_law wsX4_mean := goodIn_r _ [375, 76, 325, 45, 247, 248, 249, 5, 250, 44, 114, 115, 116, 117, 57, 118, 119, 120, 376, 377, 378, 379, 47, 380, 381, 382, 383, 384, 385, 626, 627, 628, 629, 630, 631, 632, 633, 634, 635, 636, 637, 638, 639, 640, 641, 642, 643, 644] (by decide +kernel) (by decide +kernel)
set_option maxRecDepth 20000 in
theorem gL_law_X4_mean : GoodIn wsL_law (wsV RL 82 RX4 yX4_mean wsX4_mean) := goodIn_app (goodIn_of _ (by decide +kernel)) ggL_law_X4_mean
set_option maxRecDepth 20000 in
theorem ggL_law_L_spread : GoodIn wsL_law wsL_spread := goodIn_ca (goodIn_r _ [388, 351, 389, 390, 391, 2, 392, 356, 357, 139, 87, 233, 234, 235, 236, 85, 88, 89, 90, 91, 16, 15, 358, 359, 360, 63, 361, 70, 69, 393, 394, 395, 396, 362, 363, 364, 365, 366, 367, 368, 369, 370, 371, 653, 654, 655, 656, 622, 623, 624, 625] (by decide +kernel) (by decide +kernel)) (goodIn_sub (fun _ h => List.mem_append_right _ h) (by decide +kernel))
set_option maxRecDepth 20000 in
theorem gL_law_L_spread : GoodIn wsL_law (va_wsS RL 83 yL_spread wsL_spread) := goodIn_app (goodIn_of _ (by decide +kernel)) ggL_law_L_spread
set_option maxRecDepth 20000 in
theorem ggL_law_X4_spread : GoodIn wsL_law wsX4_spread := goodIn_r _ [400, 76, 325, 45, 247, 248, 249, 5, 250, 44, 114, 115, 116, 117, 57, 118, 119, 120, 376, 377, 378, 379, 47, 380, 381, 382, 383, 384, 385, 626, 627, 628, 629, 630, 631, 632, 633, 634, 635, 636, 637, 638, 639, 640, 641, 642, 643, 644] (by decide +kernel) (by decide +kernel)
set_option maxRecDepth 20000 in
theorem gL_law_X4_spread : GoodIn wsL_law (wsV RL 85 RX4 yX4_spread wsX4_spread) := goodIn_app (goodIn_of _ (by decide +kernel)) ggL_law_X4_spread
set_option maxRecDepth 20000 in
theorem ggL_law_X3_least : GoodIn wsL_law wsX3_least := goodIn_r _ [404, 87, 139, 233, 234, 235, 2, 236, 85, 88, 89, 90, 91, 16, 15, 405, 406, 407, 63, 408, 409, 70, 69, 410, 411, 367, 412, 413, 414, 415, 416, 417, 418, 419, 420, 653, 654, 655, 656, 622, 623, 624, 625] (by decide +kernel) (by decide +kernel)
set_option maxRecDepth 20000 in
theorem gL_law_X3_least : GoodIn wsL_law (wsV RL 86 RX3 yX3_least wsX3_least) := goodIn_app (goodIn_of _ (by decide +kernel)) ggL_law_X3_least
set_option maxRecDepth 20000 in
theorem ggL_law_X4_least : GoodIn wsL_law wsX4_least := goodIn_r _ [424, 76, 45, 325, 47, 247, 248, 249, 5, 250, 44, 114, 115, 116, 117, 57, 118, 119, 120, 626, 627, 628, 629, 630, 631, 632, 633, 634, 635, 636, 637, 638, 639, 640, 641, 642, 643, 644] (by decide +kernel) (by decide +kernel)
set_option maxRecDepth 20000 in
theorem gL_law_X4_least : GoodIn wsL_law (wsV RL 89 RX4 yX4_least wsX4_least) := goodIn_app (goodIn_of _ (by decide +kernel)) ggL_law_X4_least
set_option maxRecDepth 20000 in
theorem ggL_law_X3_rank : GoodIn wsL_law wsX3_rank := goodIn_r _ [428, 85, 88, 89, 90, 2, 91, 16, 15, 429, 430, 431, 63, 432, 70, 69, 653, 654, 655, 656, 622, 623, 624, 625] (by decide +kernel) (by decide +kernel)
set_option maxRecDepth 20000 in
theorem gL_law_X3_rank : GoodIn wsL_law (wsV RL 90 RX3 yX3_rank wsX3_rank) := goodIn_app (goodIn_of _ (by decide +kernel)) ggL_law_X3_rank
set_option maxRecDepth 20000 in
theorem ggL_law_X4_rank : GoodIn wsL_law wsX4_rank := goodIn_r _ [436, 76, 44, 45, 47, 114, 115, 116, 5, 117, 57, 626, 627, 628, 629, 630, 631, 632, 633, 634, 635, 636, 637, 638, 639, 640, 641, 642, 643, 644] (by decide +kernel) (by decide +kernel)
set_option maxRecDepth 20000 in
theorem gL_law_X4_rank : GoodIn wsL_law (wsV RL 94 RX4 yX4_rank wsX4_rank) := goodIn_app (goodIn_of _ (by decide +kernel)) ggL_law_X4_rank
set_option maxRecDepth 20000 in
theorem ggL_law_X3_unlike : GoodIn wsL_law wsX3_unlike := goodIn_r _ [440, 85, 88, 89, 90, 2, 91, 16, 15, 441, 442, 443, 63, 444, 70, 445, 446, 447, 448, 69, 653, 654, 655, 656, 622, 623, 624, 625] (by decide +kernel) (by decide +kernel)
set_option maxRecDepth 20000 in
theorem gL_law_X3_unlike : GoodIn wsL_law (wsV RL 95 RX3 yX3_unlike wsX3_unlike) := goodIn_app (goodIn_of _ (by decide +kernel)) ggL_law_X3_unlike
set_option maxRecDepth 20000 in
theorem ggL_law_X4_unlike : GoodIn wsL_law wsX4_unlike := goodIn_r _ [452, 76, 44, 45, 47, 114, 115, 116, 5, 117, 57, 626, 627, 628, 629, 630, 631, 632, 633, 634, 635, 636, 637, 638, 639, 640, 641, 642, 643, 644] (by decide +kernel) (by decide +kernel)
set_option maxRecDepth 20000 in
theorem gL_law_X4_unlike : GoodIn wsL_law (wsV RL 98 RX4 yX4_unlike wsX4_unlike) := goodIn_app (goodIn_of _ (by decide +kernel)) ggL_law_X4_unlike
set_option maxRecDepth 20000 in
theorem ggL_law_X3_item : GoodIn wsL_law wsX3_item := goodIn_r _ [456, 85, 87, 139, 457, 88, 89, 90, 2, 91, 16, 15, 653, 654, 655, 656, 622, 623, 624, 625] (by decide +kernel) (by decide +kernel)
set_option maxRecDepth 20000 in
theorem gL_law_X3_item : GoodIn wsL_law (wsV RL 99 RX3 yX3_item wsX3_item) := goodIn_app (goodIn_of _ (by decide +kernel)) ggL_law_X3_item
set_option maxRecDepth 20000 in
theorem ggL_law_X4_item : GoodIn wsL_law wsX4_item := goodIn_r _ [461, 76, 44, 45, 325, 47, 49, 114, 115, 116, 5, 117, 57, 462, 463, 464, 465, 466, 467, 468, 469, 46, 626, 627, 628, 629, 630, 631, 632, 633, 634, 635, 636, 637, 638, 639, 640, 641, 642, 643, 644] (by decide +kernel) (by decide +kernel)
set_option maxRecDepth 20000 in
theorem gL_law_X4_item : GoodIn wsL_law (wsV RL 102 RX4 yX4_item wsX4_item) := goodIn_app (goodIn_of _ (by decide +kernel)) ggL_law_X4_item
set_option maxRecDepth 20000 in
theorem ggL_law_X3_start : GoodIn wsL_law wsX3_start := goodIn_r _ [473, 20, 474, 475, 2, 476, 477, 478, 479, 19, 480, 28, 622, 623, 624, 625, 645, 646, 647, 648, 649, 650, 651] (by decide +kernel) (by decide +kernel)
set_option maxRecDepth 20000 in
theorem gL_law_X3_start : GoodIn wsL_law (wsV RL 103 RX3 yX3_start wsX3_start) := goodIn_app (goodIn_of _ (by decide +kernel)) ggL_law_X3_start
set_option maxRecDepth 20000 in
theorem ggL_law_X4_start : GoodIn wsL_law wsX4_start := goodIn_r _ [484, 76, 485, 486, 487, 5, 488, 626, 627, 628, 629, 630, 631, 632, 633, 634, 635, 636, 637, 638, 639, 640, 641, 642, 643, 644] (by decide +kernel) (by decide +kernel)
set_option maxRecDepth 20000 in
theorem gL_law_X4_start : GoodIn wsL_law (wsV RL 106 RX4 yX4_start wsX4_start) := goodIn_app (goodIn_of _ (by decide +kernel)) ggL_law_X4_start
set_option maxRecDepth 20000 in
theorem ggL_law_X3_step : GoodIn wsL_law wsX3_step := goodIn_r _ [492, 20, 474, 475, 2, 476, 493, 494, 495, 19, 496, 30, 497, 498, 499, 500, 622, 623, 624, 625, 645, 646, 647, 648, 649, 650, 651] (by decide +kernel) (by decide +kernel)
set_option maxRecDepth 20000 in
theorem gL_law_X3_step : GoodIn wsL_law (wsV RL 107 RX3 yX3_step wsX3_step) := goodIn_app (goodIn_of _ (by decide +kernel)) ggL_law_X3_step
set_option maxRecDepth 20000 in
theorem ggL_law_X4_step : GoodIn wsL_law wsX4_step := goodIn_r _ [504, 76, 127, 50, 486, 487, 5, 488, 118, 119, 120, 626, 627, 628, 629, 630, 631, 632, 633, 634, 635, 636, 637, 638, 639, 640, 641, 642, 643, 644] (by decide +kernel) (by decide +kernel)
set_option maxRecDepth 20000 in
theorem gL_law_X4_step : GoodIn wsL_law (wsV RL 111 RX4 yX4_step wsX4_step) := goodIn_app (goodIn_of _ (by decide +kernel)) ggL_law_X4_step
set_option maxRecDepth 20000 in
theorem ggL_law_X3_join : GoodIn wsL_law wsX3_join := goodIn_r _ [508, 20, 474, 475, 2, 476, 509, 510, 511, 19, 512, 31, 513, 514, 515, 516, 622, 623, 624, 625, 645, 646, 647, 648, 649, 650, 651] (by decide +kernel) (by decide +kernel)
set_option maxRecDepth 20000 in
theorem gL_law_X3_join : GoodIn wsL_law (wsV RL 112 RX3 yX3_join wsX3_join) := goodIn_app (goodIn_of _ (by decide +kernel)) ggL_law_X3_join
set_option maxRecDepth 20000 in
theorem ggL_law_X4_join : GoodIn wsL_law wsX4_join := goodIn_r _ [520, 76, 51, 486, 487, 5, 488, 626, 627, 628, 629, 630, 631, 632, 633, 634, 635, 636, 637, 638, 639, 640, 641, 642, 643, 644] (by decide +kernel) (by decide +kernel)
set_option maxRecDepth 20000 in
theorem gL_law_X4_join : GoodIn wsL_law (wsV RL 115 RX4 yX4_join wsX4_join) := goodIn_app (goodIn_of _ (by decide +kernel)) ggL_law_X4_join
set_option maxRecDepth 20000 in
theorem ggL_law_X3_state : GoodIn wsL_law wsX3_state := goodIn_r _ [524, 85, 20, 88, 89, 90, 2, 91, 16, 15, 525, 526, 527, 19, 528, 28, 529, 530, 497, 498, 499, 500, 30, 475, 476, 653, 654, 655, 656, 622, 623, 624, 625, 645, 646, 647, 648, 649, 650, 651] (by decide +kernel) (by decide +kernel)
set_option maxRecDepth 20000 in
theorem gL_law_X3_state : GoodIn wsL_law (wsV RL 116 RX3 yX3_state wsX3_state) := goodIn_app (goodIn_of _ (by decide +kernel)) ggL_law_X3_state
set_option maxRecDepth 20000 in
theorem ggL_law_X4_state : GoodIn wsL_law wsX4_state := goodIn_r _ [534, 76, 44, 485, 45, 50, 47, 49, 114, 115, 116, 5, 117, 57, 462, 463, 464, 465, 466, 467, 468, 469, 46, 626, 627, 628, 629, 630, 631, 632, 633, 634, 635, 636, 637, 638, 639, 640, 641, 642, 643, 644] (by decide +kernel) (by decide +kernel)
set_option maxRecDepth 20000 in
theorem gL_law_X4_state : GoodIn wsL_law (wsV RL 119 RX4 yX4_state wsX4_state) := goodIn_app (goodIn_of _ (by decide +kernel)) ggL_law_X4_state
set_option maxRecDepth 20000 in
theorem ggL_law_X3_check : GoodIn wsL_law wsX3_check := goodIn_r _ [538, 20, 539, 540, 541, 542, 543, 544, 545, 19, 546, 32, 547, 548, 549, 550, 33, 34, 35, 551, 552, 553, 554, 28, 555, 556, 557, 558, 559, 560, 561, 497, 498, 499, 500, 30, 475, 2, 476, 562, 563, 564, 565, 513, 514, 515, 516, 31, 566, 567, 568, 569, 622, 623, 624, 625, 645, 646, 647, 648, 649, 650, 651] (by decide +kernel) (by decide +kernel)
set_option maxRecDepth 20000 in
theorem gL_law_X3_check : GoodIn wsL_law (wsV RL 120 RX3 yX3_check wsX3_check) := goodIn_app (goodIn_of _ (by decide +kernel)) ggL_law_X3_check
set_option maxRecDepth 20000 in
theorem ggL_law_X4_check : GoodIn wsL_law wsX4_check := goodIn_r _ [573, 76, 127, 574, 53, 575, 576, 577, 118, 119, 5, 120, 578, 579, 580, 581, 485, 50, 582, 583, 584, 585, 51, 626, 627, 628, 629, 630, 631, 632, 633, 634, 635, 636, 637, 638, 639, 640, 641, 642, 643, 644] (by decide +kernel) (by decide +kernel)
set_option maxRecDepth 20000 in
theorem gL_law_X4_check : GoodIn wsL_law (wsV RL 123 RX4 yX4_check wsX4_check) := goodIn_app (goodIn_of _ (by decide +kernel)) ggL_law_X4_check
set_option maxRecDepth 20000 in
theorem ggL_law_X3_joined : GoodIn wsL_law wsX3_joined := goodIn_r _ [589, 85, 20, 88, 89, 90, 2, 91, 16, 15, 590, 591, 592, 19, 593, 529, 28, 594, 595, 596, 597, 598, 599, 600, 601, 530, 497, 498, 499, 500, 30, 475, 476, 513, 514, 515, 516, 31, 602, 603, 604, 605, 606, 607, 608, 609, 653, 654, 655, 656, 622, 623, 624, 625, 645, 646, 647, 648, 649, 650, 651] (by decide +kernel) (by decide +kernel)
set_option maxRecDepth 20000 in
theorem gL_law_X3_joined : GoodIn wsL_law (wsV RL 124 RX3 yX3_joined wsX3_joined) := goodIn_app (goodIn_of _ (by decide +kernel)) ggL_law_X3_joined
set_option maxRecDepth 20000 in
theorem ggL_law_X4_joined : GoodIn wsL_law wsX4_joined := goodIn_r _ [613, 76, 44, 341, 45, 485, 51, 114, 115, 116, 5, 117, 57, 118, 119, 120, 462, 463, 464, 465, 49, 466, 467, 468, 469, 46, 47, 614, 615, 616, 617, 54, 55, 56, 618, 619, 620, 621, 50, 626, 627, 628, 629, 630, 631, 632, 633, 634, 635, 636, 637, 638, 639, 640, 641, 642, 643, 644] (by decide +kernel) (by decide +kernel)
set_option maxRecDepth 20000 in
theorem gL_law_X4_joined : GoodIn wsL_law (wsV RL 127 RX4 yX4_joined wsX4_joined) := goodIn_app (goodIn_of _ (by decide +kernel)) ggL_law_X4_joined
