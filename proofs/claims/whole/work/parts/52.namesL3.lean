/-! names of the law -/
set_option maxRecDepth 20000 in
theorem ggL_law_X5_init : GoodIn wsL_law wsX5_init := goodIn_r _ [9, 10, 11, 12, 13, 14, 15, 16, 17, 18, 19, 20, 21, 22, 23, 24, 25, 26, 27, 28, 29, 30, 31, 32, 33, 34, 35, 36, 37, 38, 39, 40, 41, 42, 43, 44, 45, 46, 47, 48, 49, 50, 51, 52, 53, 54, 55, 56, 556, 557, 558, 559, 545, 546, 547, 560, 561, 562, 563, 564, 565, 566, 567, 568, 569, 570, 571, 572, 573, 574, 575, 576, 577, 578, 579] (by decide +kernel) (by decide +kernel)
set_option maxRecDepth 20000 in
theorem gL_law_X5_init : GoodIn wsL_law (wsX5_init) := ggL_law_X5_init
set_option maxRecDepth 20000 in
theorem ggL_law_X6_init : GoodIn wsL_law wsX6_init := goodIn_r _ [59, 60, 11, 12, 61, 62, 25, 63, 64, 65, 66, 548, 549, 550, 551, 552, 553, 554, 555] (by decide +kernel) (by decide +kernel)
set_option maxRecDepth 20000 in
theorem gL_law_X6_init : GoodIn wsL_law (wsX6_init) := ggL_law_X6_init
set_option maxRecDepth 20000 in
theorem ggL_law_L_setCold : GoodIn wsL_law wsL_setCold := goodIn_ca (goodIn_ca (goodIn_r _ [70, 71, 72, 73, 74, 75, 2, 76, 77, 78, 79, 80, 16, 545, 546, 547, 556, 557, 558, 559] (by decide +kernel) (by decide +kernel)) (goodIn_sub (fun _ h => List.mem_append_left _ (List.mem_append_left _ (List.mem_append_right _ h))) (by decide +kernel))) (goodIn_sub (fun _ h => List.mem_append_left _ (List.mem_append_right _ h)) (by decide +kernel))
set_option maxRecDepth 20000 in
theorem gL_law_L_setCold : GoodIn wsL_law (va_wsS RL 72 yL_setCold wsL_setCold) := goodIn_app (goodIn_of _ (by decide +kernel)) ggL_law_L_setCold
set_option maxRecDepth 20000 in
theorem ggL_law_X6_setCold : GoodIn wsL_law wsX6_setCold := goodIn_r _ [84, 85, 63, 86, 87, 5, 88, 89, 90, 91, 92, 93, 94, 95, 548, 549, 550, 551, 552, 553, 554, 555] (by decide +kernel) (by decide +kernel)
set_option maxRecDepth 20000 in
theorem gL_law_X6_setCold : GoodIn wsL_law (wsV RL 77 RX6 yX6_setCold wsX6_setCold) := goodIn_app (goodIn_of _ (by decide +kernel)) ggL_law_X6_setCold
set_option maxRecDepth 20000 in
theorem ggL_law_X6_thrown : GoodIn wsL_law wsX6_thrown := goodIn_r _ [99, 85, 548, 549, 550, 551, 552, 553, 554, 555] (by decide +kernel) (by decide +kernel)
set_option maxRecDepth 20000 in
theorem gL_law_X6_thrown : GoodIn wsL_law (wsV RL 78 RX6 yX6_thrown wsX6_thrown) := goodIn_app (goodIn_of _ (by decide +kernel)) ggL_law_X6_thrown
set_option maxRecDepth 20000 in
theorem ggL_law_L_setSwan : GoodIn wsL_law wsL_setSwan := goodIn_ca (goodIn_ca (goodIn_r _ [102, 71, 72, 103, 104, 105, 2, 106, 77, 78, 79, 80, 16, 545, 546, 547, 556, 557, 558, 559] (by decide +kernel) (by decide +kernel)) (goodIn_sub (fun _ h => List.mem_append_left _ (List.mem_append_left _ (List.mem_append_right _ h))) (by decide +kernel))) (goodIn_sub (fun _ h => List.mem_append_left _ (List.mem_append_right _ h)) (by decide +kernel))
set_option maxRecDepth 20000 in
theorem gL_law_L_setSwan : GoodIn wsL_law (va_wsS RL 82 yL_setSwan wsL_setSwan) := goodIn_app (goodIn_of _ (by decide +kernel)) ggL_law_L_setSwan
set_option maxRecDepth 20000 in
theorem ggL_law_X6_setSwan : GoodIn wsL_law wsX6_setSwan := goodIn_r _ [110, 85, 64, 86, 87, 5, 88, 89, 90, 91, 92, 93, 94, 95, 548, 549, 550, 551, 552, 553, 554, 555] (by decide +kernel) (by decide +kernel)
set_option maxRecDepth 20000 in
theorem gL_law_X6_setSwan : GoodIn wsL_law (wsV RL 84 RX6 yX6_setSwan wsX6_setSwan) := goodIn_app (goodIn_of _ (by decide +kernel)) ggL_law_X6_setSwan
set_option maxRecDepth 20000 in
theorem ggL_law_L_setFare : GoodIn wsL_law wsL_setFare := goodIn_ca (goodIn_r _ [113, 72, 114, 115, 116, 2, 117, 79, 80, 16, 118, 15, 119, 120, 29, 28, 545, 546, 547, 556, 557, 558, 559] (by decide +kernel) (by decide +kernel)) (goodIn_sub (fun _ h => List.mem_append_left _ (List.mem_append_right _ h)) (by decide +kernel))
set_option maxRecDepth 20000 in
theorem gL_law_L_setFare : GoodIn wsL_law (va_wsS RL 85 yL_setFare wsL_setFare) := goodIn_app (goodIn_of _ (by decide +kernel)) ggL_law_L_setFare
set_option maxRecDepth 20000 in
theorem ggL_law_X6_setFare : GoodIn wsL_law wsX6_setFare := goodIn_r _ [124, 85, 62, 61, 86, 87, 5, 88, 89, 90, 91, 92, 548, 549, 550, 551, 552, 553, 554, 555] (by decide +kernel) (by decide +kernel)
set_option maxRecDepth 20000 in
theorem gL_law_X6_setFare : GoodIn wsL_law (wsV RL 88 RX6 yX6_setFare wsX6_setFare) := goodIn_app (goodIn_of _ (by decide +kernel)) ggL_law_X6_setFare
set_option maxRecDepth 20000 in
theorem ggL_law_L_bus : GoodIn wsL_law wsL_bus := goodIn_ca (goodIn_ca (goodIn_r _ [127, 71, 128, 129, 130, 131, 2, 132, 133, 134, 20, 135, 136, 137, 77, 78, 138, 44, 139, 140, 141, 142, 143, 545, 546, 547, 560, 561, 562, 563, 564, 565, 574, 575, 576, 577, 578, 579] (by decide +kernel) (by decide +kernel)) (goodIn_sub (fun _ h => List.mem_append_right _ h) (by decide +kernel))) (goodIn_sub (fun _ h => List.mem_append_left _ (List.mem_append_left _ (List.mem_append_right _ h))) (by decide +kernel))
set_option maxRecDepth 20000 in
theorem gL_law_L_bus : GoodIn wsL_law (va_wsS RL 89 yL_bus wsL_bus) := goodIn_app (goodIn_of _ (by decide +kernel)) ggL_law_L_bus
set_option maxRecDepth 20000 in
theorem ggL_law_X6_bus : GoodIn wsL_law wsX6_bus := goodIn_r _ [147, 85, 148, 65, 149, 150, 5, 151, 86, 87, 88, 89, 90, 91, 92, 548, 549, 550, 551, 552, 553, 554, 555] (by decide +kernel) (by decide +kernel)
set_option maxRecDepth 20000 in
theorem gL_law_X6_bus : GoodIn wsL_law (wsV RL 92 RX6 yX6_bus wsX6_bus) := goodIn_app (goodIn_of _ (by decide +kernel)) ggL_law_X6_bus
set_option maxRecDepth 20000 in
theorem ggL_law_L_fit : GoodIn wsL_law wsL_fit := goodIn_ca (goodIn_ca (goodIn_r _ [154, 71, 128, 155, 156, 157, 2, 158, 133, 134, 20, 159, 160, 161, 162, 77, 78, 545, 546, 547, 560, 561, 562, 563, 564, 565, 574, 575, 576, 577, 578, 579] (by decide +kernel) (by decide +kernel)) (goodIn_sub (fun _ h => List.mem_append_right _ h) (by decide +kernel))) (goodIn_sub (fun _ h => List.mem_append_left _ (List.mem_append_left _ (List.mem_append_right _ h))) (by decide +kernel))
set_option maxRecDepth 20000 in
theorem gL_law_L_fit : GoodIn wsL_law (va_wsS RL 93 yL_fit wsL_fit) := goodIn_app (goodIn_of _ (by decide +kernel)) ggL_law_L_fit
set_option maxRecDepth 20000 in
theorem ggL_law_X6_fit : GoodIn wsL_law wsX6_fit := goodIn_r _ [166, 85, 65, 167, 168, 169, 5, 170, 148, 86, 87, 88, 89, 90, 91, 92, 548, 549, 550, 551, 552, 553, 554, 555] (by decide +kernel) (by decide +kernel)
set_option maxRecDepth 20000 in
theorem gL_law_X6_fit : GoodIn wsL_law (wsV RL 95 RX6 yX6_fit wsX6_fit) := goodIn_app (goodIn_of _ (by decide +kernel)) ggL_law_X6_fit
set_option maxRecDepth 20000 in
theorem ggL_law_L_park : GoodIn wsL_law wsL_park := goodIn_ca (goodIn_r _ [173, 71, 174, 175, 176, 2, 177, 20, 159, 160, 161, 162, 77, 78, 545, 546, 547, 560, 561, 562, 563, 564, 565, 574, 575, 576, 577, 578, 579] (by decide +kernel) (by decide +kernel)) (goodIn_sub (fun _ h => List.mem_append_left _ (List.mem_append_left _ (List.mem_append_right _ h))) (by decide +kernel))
set_option maxRecDepth 20000 in
theorem gL_law_L_park : GoodIn wsL_law (va_wsS RL 96 yL_park wsL_park) := goodIn_app (goodIn_of _ (by decide +kernel)) ggL_law_L_park
set_option maxRecDepth 20000 in
theorem ggL_law_X6_park : GoodIn wsL_law wsX6_park := goodIn_r _ [181, 85, 65, 167, 168, 169, 5, 170, 148, 86, 87, 88, 89, 90, 91, 92, 548, 549, 550, 551, 552, 553, 554, 555] (by decide +kernel) (by decide +kernel)
set_option maxRecDepth 20000 in
theorem gL_law_X6_park : GoodIn wsL_law (wsV RL 99 RX6 yX6_park wsX6_park) := goodIn_app (goodIn_of _ (by decide +kernel)) ggL_law_X6_park
set_option maxRecDepth 20000 in
theorem ggL_law_L_told : GoodIn wsL_law wsL_told := goodIn_ca (goodIn_r _ [184, 71, 185, 186, 187, 2, 188, 20, 159, 160, 161, 162, 77, 78, 189, 190, 191, 192, 193, 194, 195, 35, 196, 197, 198, 199, 200, 201, 48, 545, 546, 547, 560, 561, 562, 563, 564, 565, 574, 575, 576, 577, 578, 579, 566, 567] (by decide +kernel) (by decide +kernel)) (goodIn_sub (fun _ h => List.mem_append_left _ (List.mem_append_left _ (List.mem_append_right _ h))) (by decide +kernel))
set_option maxRecDepth 20000 in
theorem gL_law_L_told : GoodIn wsL_law (va_wsS RL 100 yL_told wsL_told) := goodIn_app (goodIn_of _ (by decide +kernel)) ggL_law_L_told
set_option maxRecDepth 20000 in
theorem ggL_law_X6_told : GoodIn wsL_law wsX6_told := goodIn_r _ [205, 85, 167, 168, 169, 5, 170, 148, 86, 87, 88, 206, 207, 208, 209, 65, 210, 211, 212, 213, 89, 90, 91, 92, 548, 549, 550, 551, 552, 553, 554, 555] (by decide +kernel) (by decide +kernel)
set_option maxRecDepth 20000 in
theorem gL_law_X6_told : GoodIn wsL_law (wsV RL 102 RX6 yX6_told wsX6_told) := goodIn_app (goodIn_of _ (by decide +kernel)) ggL_law_X6_told
set_option maxRecDepth 20000 in
theorem ggL_law_L_span : GoodIn wsL_law wsL_span := goodIn_ca (goodIn_r _ [216, 71, 217, 218, 219, 2, 220, 20, 135, 136, 137, 77, 78, 189, 190, 191, 199, 35, 200, 201, 48, 192, 193, 194, 221, 19, 222, 223, 224, 42, 225, 39, 226, 227, 228, 53, 545, 546, 547, 560, 561, 562, 563, 564, 565, 566, 567, 574, 575, 576, 577, 578, 579, 568, 569, 570, 571, 572, 573] (by decide +kernel) (by decide +kernel)) (goodIn_sub (fun _ h => List.mem_append_left _ (List.mem_append_left _ (List.mem_append_right _ h))) (by decide +kernel))
set_option maxRecDepth 20000 in
theorem gL_law_L_span : GoodIn wsL_law (va_wsS RL 103 yL_span wsL_span) := goodIn_app (goodIn_of _ (by decide +kernel)) ggL_law_L_span
set_option maxRecDepth 20000 in
theorem ggL_law_X6_span : GoodIn wsL_law wsX6_span := goodIn_r _ [232, 85, 149, 150, 5, 151, 86, 87, 88, 233, 234, 235, 236, 65, 237, 238, 239, 240, 148, 241, 242, 243, 244, 89, 90, 91, 92, 548, 549, 550, 551, 552, 553, 554, 555] (by decide +kernel) (by decide +kernel)
set_option maxRecDepth 20000 in
theorem gL_law_X6_span : GoodIn wsL_law (wsV RL 105 RX6 yX6_span wsX6_span) := goodIn_app (goodIn_of _ (by decide +kernel)) ggL_law_X6_span
set_option maxRecDepth 20000 in
theorem ggL_law_L_order : GoodIn wsL_law wsL_order := goodIn_ca (goodIn_ca (goodIn_r _ [247, 71, 128, 248, 249, 250, 2, 251, 133, 134, 20, 135, 136, 137, 77, 78, 225, 39, 226, 227, 228, 53, 545, 546, 547, 560, 561, 562, 563, 564, 565, 568, 569, 570, 571, 572, 573] (by decide +kernel) (by decide +kernel)) (goodIn_sub (fun _ h => List.mem_append_right _ h) (by decide +kernel))) (goodIn_sub (fun _ h => List.mem_append_left _ (List.mem_append_left _ (List.mem_append_right _ h))) (by decide +kernel))
set_option maxRecDepth 20000 in
theorem gL_law_L_order : GoodIn wsL_law (va_wsS RL 106 yL_order wsL_order) := goodIn_app (goodIn_of _ (by decide +kernel)) ggL_law_L_order
set_option maxRecDepth 20000 in
theorem ggL_law_X6_order : GoodIn wsL_law wsX6_order := goodIn_r _ [255, 85, 65, 149, 150, 5, 151, 86, 87, 88, 89, 90, 91, 92, 241, 242, 243, 244, 548, 549, 550, 551, 552, 553, 554, 555] (by decide +kernel) (by decide +kernel)
set_option maxRecDepth 20000 in
theorem gL_law_X6_order : GoodIn wsL_law (wsV RL 108 RX6 yX6_order wsX6_order) := goodIn_app (goodIn_of _ (by decide +kernel)) ggL_law_X6_order
set_option maxRecDepth 20000 in
theorem ggL_law_L_cancel : GoodIn wsL_law wsL_cancel := goodIn_ca (goodIn_ca (goodIn_r _ [258, 71, 128, 259, 260, 261, 2, 262, 133, 134, 20, 135, 136, 137, 77, 78, 225, 39, 226, 227, 228, 53, 263, 264, 265, 266, 545, 546, 547, 560, 561, 562, 563, 564, 565, 568, 569, 570, 571, 572, 573] (by decide +kernel) (by decide +kernel)) (goodIn_sub (fun _ h => List.mem_append_right _ h) (by decide +kernel))) (goodIn_sub (fun _ h => List.mem_append_left _ (List.mem_append_left _ (List.mem_append_right _ h))) (by decide +kernel))
set_option maxRecDepth 20000 in
theorem gL_law_L_cancel : GoodIn wsL_law (va_wsS RL 109 yL_cancel wsL_cancel) := goodIn_app (goodIn_of _ (by decide +kernel)) ggL_law_L_cancel
set_option maxRecDepth 20000 in
theorem ggL_law_X6_cancel : GoodIn wsL_law wsX6_cancel := goodIn_r _ [270, 85, 65, 149, 150, 5, 151, 86, 87, 88, 89, 90, 91, 92, 241, 242, 243, 244, 271, 272, 273, 548, 549, 550, 551, 552, 553, 554, 555] (by decide +kernel) (by decide +kernel)
set_option maxRecDepth 20000 in
theorem gL_law_X6_cancel : GoodIn wsL_law (wsV RL 111 RX6 yX6_cancel wsX6_cancel) := goodIn_app (goodIn_of _ (by decide +kernel)) ggL_law_X6_cancel
set_option maxRecDepth 20000 in
theorem ggL_law_L_gang : GoodIn wsL_law wsL_gang := goodIn_ca (goodIn_r _ [276, 71, 277, 278, 279, 2, 280, 20, 189, 190, 191, 77, 78, 281, 39, 282, 283, 228, 284, 285, 286, 287, 288, 289, 290, 291, 53, 292, 545, 546, 547, 560, 561, 562, 563, 564, 565, 568, 569, 570, 571, 572, 573] (by decide +kernel) (by decide +kernel)) (goodIn_sub (fun _ h => List.mem_append_left _ (List.mem_append_left _ (List.mem_append_right _ h))) (by decide +kernel))
set_option maxRecDepth 20000 in
theorem gL_law_L_gang : GoodIn wsL_law (va_wsS RL 112 yL_gang wsL_gang) := goodIn_app (goodIn_of _ (by decide +kernel)) ggL_law_L_gang
set_option maxRecDepth 20000 in
theorem ggL_law_X6_gang : GoodIn wsL_law wsX6_gang := goodIn_r _ [296, 85, 86, 87, 5, 88, 297, 298, 299, 300, 65, 301, 302, 303, 304, 305, 285, 286, 287, 306, 307, 308, 89, 90, 91, 92, 548, 549, 550, 551, 552, 553, 554, 555] (by decide +kernel) (by decide +kernel)
set_option maxRecDepth 20000 in
theorem gL_law_X6_gang : GoodIn wsL_law (wsV RL 114 RX6 yX6_gang wsX6_gang) := goodIn_app (goodIn_of _ (by decide +kernel)) ggL_law_X6_gang
set_option maxRecDepth 20000 in
theorem ggL_law_L_count : GoodIn wsL_law wsL_count := goodIn_ca (goodIn_r _ [311, 71, 312, 313, 314, 2, 315, 20, 189, 190, 191, 77, 78, 316, 19, 317, 318, 319, 320, 224, 36, 321, 322, 193, 194, 323, 324, 325, 326, 42, 327, 35, 328, 329, 198, 199, 200, 201, 48, 330, 331, 332, 333, 334, 335, 49, 336, 337, 338, 339, 545, 546, 547, 560, 561, 562, 563, 564, 565, 574, 575, 576, 577, 578, 579, 566, 567] (by decide +kernel) (by decide +kernel)) (goodIn_sub (fun _ h => List.mem_append_left _ (List.mem_append_left _ (List.mem_append_right _ h))) (by decide +kernel))
set_option maxRecDepth 20000 in
theorem gL_law_L_count : GoodIn wsL_law (va_wsS RL 115 yL_count wsL_count) := goodIn_app (goodIn_of _ (by decide +kernel)) ggL_law_L_count
set_option maxRecDepth 20000 in
theorem ggL_law_X6_count : GoodIn wsL_law wsX6_count := goodIn_r _ [343, 85, 86, 87, 5, 88, 344, 345, 346, 347, 65, 148, 348, 349, 350, 351, 352, 353, 354, 355, 356, 357, 358, 359, 360, 361, 89, 90, 91, 92, 548, 549, 550, 551, 552, 553, 554, 555] (by decide +kernel) (by decide +kernel)
set_option maxRecDepth 20000 in
theorem gL_law_X6_count : GoodIn wsL_law (wsV RL 117 RX6 yX6_count wsX6_count) := goodIn_app (goodIn_of _ (by decide +kernel)) ggL_law_X6_count
set_option maxRecDepth 20000 in
theorem ggL_law_L_pass : GoodIn wsL_law wsL_pass := goodIn_ca (goodIn_r _ [364, 72, 365, 366, 367, 2, 368, 20, 16, 369, 370, 371, 79, 80, 372, 19, 373, 374, 375, 376, 377, 378, 319, 36, 224, 42, 321, 322, 379, 35, 380, 381, 49, 382, 285, 286, 287, 383, 384, 385, 386, 387, 388, 389, 390, 391, 392, 199, 200, 201, 48, 393, 394, 395, 118, 15, 119, 120, 29, 28, 396, 397, 398, 399, 320, 400, 401, 402, 403, 40, 404, 39, 405, 406, 284, 292, 288, 289, 290, 291, 53, 407, 408, 409, 410, 411, 412, 413, 414, 415, 416, 263, 264, 265, 228, 266, 545, 546, 547, 560, 561, 562, 563, 564, 565, 556, 557, 558, 559, 566, 567, 574, 575, 576, 577, 578, 579, 568, 569, 570, 571, 572, 573] (by decide +kernel) (by decide +kernel)) (goodIn_sub (fun _ h => List.mem_append_left _ (List.mem_append_right _ h)) (by decide +kernel))
set_option maxRecDepth 20000 in
theorem gL_law_L_pass : GoodIn wsL_law (va_wsS RL 118 yL_pass wsL_pass) := goodIn_app (goodIn_of _ (by decide +kernel)) ggL_law_L_pass
set_option maxRecDepth 20000 in
theorem ggL_law_X6_pass_ : GoodIn wsL_law wsX6_pass_ := goodIn_r _ [420, 85, 65, 86, 87, 5, 88, 89, 90, 91, 92, 421, 422, 423, 424, 425, 426, 427, 428, 64, 148, 429, 430, 431, 432, 63, 305, 285, 286, 287, 433, 387, 388, 348, 349, 350, 434, 435, 436, 437, 438, 439, 440, 62, 61, 441, 442, 443, 306, 307, 308, 271, 272, 273, 548, 549, 550, 551, 552, 553, 554, 555] (by decide +kernel) (by decide +kernel)
set_option maxRecDepth 20000 in
theorem gL_law_X6_pass_ : GoodIn wsL_law (wsV RL 120 RX6 yX6_pass_ wsX6_pass_) := goodIn_app (goodIn_of _ (by decide +kernel)) ggL_law_X6_pass_
set_option maxRecDepth 20000 in
theorem ggL_law_L_falls : GoodIn wsL_law wsL_falls := goodIn_ca (goodIn_r _ [446, 71, 447, 448, 449, 2, 450, 21, 20, 16, 135, 136, 137, 77, 78, 451, 19, 452, 453, 36, 40, 224, 42, 319, 320, 454, 35, 455, 456, 48, 457, 458, 459, 460, 49, 461, 39, 462, 463, 53, 464, 228, 292, 266, 465, 466, 467, 44, 468, 469, 141, 142, 143, 470, 471, 472, 199, 200, 201, 372, 373, 374, 375, 376, 377, 378, 321, 322, 379, 380, 381, 382, 285, 286, 287, 383, 384, 385, 386, 387, 388, 389, 390, 391, 392, 393, 394, 395, 118, 15, 119, 120, 29, 28, 396, 397, 398, 399, 400, 401, 402, 403, 404, 405, 406, 284, 288, 289, 290, 291, 407, 408, 409, 410, 411, 412, 413, 414, 415, 416, 263, 264, 265, 545, 546, 547, 560, 561, 562, 563, 564, 565, 566, 567, 568, 569, 570, 571, 572, 573, 574, 575, 576, 577, 578, 579, 556, 557, 558, 559] (by decide +kernel) (by decide +kernel)) (goodIn_sub (fun _ h => List.mem_append_left _ (List.mem_append_left _ (List.mem_append_right _ h))) (by decide +kernel))
set_option maxRecDepth 20000 in
theorem gL_law_L_falls : GoodIn wsL_law (va_wsS RL 121 yL_falls wsL_falls) := goodIn_app (goodIn_of _ (by decide +kernel)) ggL_law_L_falls
set_option maxRecDepth 20000 in
theorem ggL_law_X6_falls : GoodIn wsL_law wsX6_falls := goodIn_r _ [476, 85, 66, 149, 150, 5, 151, 86, 87, 88, 89, 90, 91, 92, 477, 478, 479, 480, 65, 481, 458, 459, 460, 425, 426, 427, 428, 64, 148, 429, 430, 431, 432, 63, 305, 285, 286, 287, 433, 387, 388, 348, 349, 350, 434, 435, 436, 437, 438, 439, 440, 62, 61, 441, 442, 443, 306, 307, 308, 271, 272, 273, 548, 549, 550, 551, 552, 553, 554, 555] (by decide +kernel) (by decide +kernel)
set_option maxRecDepth 20000 in
theorem gL_law_X6_falls : GoodIn wsL_law (wsV RL 123 RX6 yX6_falls wsX6_falls) := goodIn_app (goodIn_of _ (by decide +kernel)) ggL_law_X6_falls
set_option maxRecDepth 20000 in
theorem ggL_law_L_foresee : GoodIn wsL_law wsL_foresee := goodIn_ca (goodIn_ca (goodIn_r _ [484, 72, 71, 485, 486, 487, 2, 488, 77, 78, 21, 20, 16, 369, 370, 371, 79, 80, 451, 19, 452, 453, 36, 40, 224, 42, 319, 320, 454, 35, 455, 456, 48, 457, 458, 459, 460, 49, 461, 39, 462, 463, 53, 464, 228, 292, 266, 465, 466, 467, 44, 468, 469, 141, 142, 143, 470, 471, 472, 372, 373, 374, 375, 376, 377, 378, 321, 322, 379, 380, 381, 382, 285, 286, 287, 383, 384, 385, 386, 387, 388, 389, 390, 391, 392, 199, 200, 201, 393, 394, 395, 118, 15, 119, 120, 29, 28, 396, 397, 398, 399, 400, 401, 402, 403, 404, 405, 406, 284, 288, 289, 290, 291, 407, 408, 409, 410, 411, 412, 413, 414, 415, 416, 263, 264, 265, 316, 317, 318, 193, 194, 323, 324, 325, 326, 327, 328, 329, 198, 330, 331, 332, 333, 334, 335, 336, 337, 338, 339, 545, 546, 547, 560, 561, 562, 563, 564, 565, 566, 567, 568, 569, 570, 571, 572, 573, 574, 575, 576, 577, 578, 579, 556, 557, 558, 559] (by decide +kernel) (by decide +kernel)) (goodIn_sub (fun _ h => List.mem_append_left _ (List.mem_append_left _ (List.mem_append_right _ h))) (by decide +kernel))) (goodIn_sub (fun _ h => List.mem_append_left _ (List.mem_append_right _ h)) (by decide +kernel))
set_option maxRecDepth 20000 in
theorem gL_law_L_foresee : GoodIn wsL_law (va_wsS RL 124 yL_foresee wsL_foresee) := goodIn_app (goodIn_of _ (by decide +kernel)) ggL_law_L_foresee
set_option maxRecDepth 20000 in
theorem ggL_law_X6_foresee : GoodIn wsL_law wsX6_foresee := goodIn_r _ [492, 85, 66, 86, 87, 5, 88, 89, 90, 91, 92, 477, 478, 479, 480, 65, 481, 458, 459, 460, 421, 422, 423, 424, 425, 426, 427, 428, 64, 148, 429, 430, 431, 432, 63, 305, 285, 286, 287, 433, 387, 388, 348, 349, 350, 434, 435, 436, 437, 438, 439, 440, 62, 61, 441, 442, 443, 306, 307, 308, 271, 272, 273, 355, 356, 357, 358, 359, 360, 361, 351, 352, 353, 354, 548, 549, 550, 551, 552, 553, 554, 555] (by decide +kernel) (by decide +kernel)
set_option maxRecDepth 20000 in
theorem gL_law_X6_foresee : GoodIn wsL_law (wsV RL 126 RX6 yX6_foresee wsX6_foresee) := goodIn_app (goodIn_of _ (by decide +kernel)) ggL_law_X6_foresee
set_option maxRecDepth 20000 in
theorem ggL_law_L_advise : GoodIn wsL_law wsL_advise := goodIn_ca (goodIn_r _ [495, 72, 496, 497, 498, 2, 499, 369, 370, 371, 79, 80, 500, 501, 502, 503, 21, 20, 16, 451, 19, 452, 453, 36, 40, 224, 42, 319, 320, 454, 35, 455, 456, 48, 457, 458, 459, 460, 49, 461, 39, 462, 463, 53, 464, 228, 292, 266, 465, 466, 467, 44, 468, 469, 141, 142, 143, 470, 471, 472, 504, 505, 506, 372, 373, 374, 375, 376, 377, 378, 321, 322, 379, 380, 381, 382, 285, 286, 287, 383, 384, 385, 386, 387, 388, 389, 390, 391, 392, 199, 200, 201, 393, 394, 395, 118, 15, 119, 120, 29, 28, 396, 397, 398, 399, 400, 401, 402, 403, 404, 405, 406, 284, 288, 289, 290, 291, 407, 408, 409, 410, 411, 412, 413, 414, 415, 416, 263, 264, 265, 545, 546, 547, 560, 561, 562, 563, 564, 565, 566, 567, 568, 569, 570, 571, 572, 573, 574, 575, 576, 577, 578, 579, 556, 557, 558, 559] (by decide +kernel) (by decide +kernel)) (goodIn_sub (fun _ h => List.mem_append_left _ (List.mem_append_right _ h)) (by decide +kernel))
set_option maxRecDepth 20000 in
theorem gL_law_L_advise : GoodIn wsL_law (va_wsS RL 127 yL_advise wsL_advise) := goodIn_app (goodIn_of _ (by decide +kernel)) ggL_law_L_advise
set_option maxRecDepth 20000 in
theorem ggL_law_X6_advise : GoodIn wsL_law wsX6_advise := goodIn_r _ [510, 85, 86, 87, 5, 88, 89, 90, 91, 92, 511, 512, 513, 514, 66, 477, 478, 479, 480, 65, 481, 458, 459, 460, 421, 422, 423, 424, 425, 426, 427, 428, 64, 148, 429, 430, 431, 432, 63, 305, 285, 286, 287, 433, 387, 388, 348, 349, 350, 434, 435, 436, 437, 438, 439, 440, 62, 61, 441, 442, 443, 306, 307, 308, 271, 272, 273, 548, 549, 550, 551, 552, 553, 554, 555] (by decide +kernel) (by decide +kernel)
set_option maxRecDepth 20000 in
theorem gL_law_X6_advise : GoodIn wsL_law (wsV RL 129 RX6 yX6_advise wsX6_advise) := goodIn_app (goodIn_of _ (by decide +kernel)) ggL_law_X6_advise
set_option maxRecDepth 20000 in
theorem ggL_law_X5_mean : GoodIn wsL_law wsX5_mean := goodIn_r _ [518, 20, 519, 330, 35, 331, 332, 48, 545, 546, 547, 560, 561, 562, 563, 564, 565, 566, 567] (by decide +kernel) (by decide +kernel)
set_option maxRecDepth 20000 in
theorem gL_law_X5_mean : GoodIn wsL_law (wsV RL 130 RX5 yX5_mean wsX5_mean) := goodIn_app (goodIn_of _ (by decide +kernel)) ggL_law_X5_mean
set_option maxRecDepth 20000 in
theorem ggL_law_X6_mean : GoodIn wsL_law wsX6_mean := goodIn_r _ [523, 85, 65, 524, 359, 360, 5, 361, 548, 549, 550, 551, 552, 553, 554, 555] (by decide +kernel) (by decide +kernel)
set_option maxRecDepth 20000 in
theorem gL_law_X6_mean : GoodIn wsL_law (wsV RL 134 RX6 yX6_mean wsX6_mean) := goodIn_app (goodIn_of _ (by decide +kernel)) ggL_law_X6_mean
set_option maxRecDepth 20000 in
theorem ggL_law_X5_digest : GoodIn wsL_law wsX5_digest := goodIn_ca (goodIn_r _ [528, 529, 530, 20, 531, 313, 314, 2, 315, 189, 190, 191, 77, 78, 316, 19, 317, 318, 319, 320, 224, 36, 321, 322, 193, 194, 323, 324, 325, 326, 42, 327, 35, 328, 329, 198, 199, 200, 201, 48, 330, 331, 332, 333, 334, 335, 49, 336, 337, 338, 339, 532, 533, 534, 535, 16, 536, 278, 279, 280, 281, 39, 282, 283, 228, 284, 285, 286, 287, 288, 289, 290, 291, 53, 292, 537, 218, 219, 220, 135, 136, 137, 192, 221, 222, 223, 225, 226, 227, 538, 186, 187, 188, 159, 160, 161, 162, 195, 196, 197, 545, 546, 547, 560, 561, 562, 563, 564, 565, 574, 575, 576, 577, 578, 579, 566, 567, 556, 557, 558, 559, 568, 569, 570, 571, 572, 573] (by decide +kernel) (by decide +kernel)) (goodIn_sub (fun _ h => List.mem_append_left _ (List.mem_append_left _ (List.mem_append_right _ h))) (by decide +kernel))
set_option maxRecDepth 20000 in
theorem gL_law_X5_digest : GoodIn wsL_law (wsV RL 135 RX5 yX5_digest wsX5_digest) := goodIn_app (goodIn_of _ (by decide +kernel)) ggL_law_X5_digest
set_option maxRecDepth 20000 in
theorem ggL_law_X6_digest : GoodIn wsL_law wsX6_digest := goodIn_r _ [542, 85, 543, 544, 63, 64, 61, 62, 148, 344, 345, 346, 5, 347, 65, 348, 349, 350, 351, 352, 353, 354, 355, 356, 357, 358, 359, 360, 361, 297, 298, 299, 300, 301, 302, 303, 304, 305, 285, 286, 287, 306, 307, 308, 233, 234, 235, 236, 237, 238, 239, 240, 241, 242, 243, 244, 206, 207, 208, 209, 210, 211, 212, 213, 548, 549, 550, 551, 552, 553, 554, 555] (by decide +kernel) (by decide +kernel)
set_option maxRecDepth 20000 in
theorem gL_law_X6_digest : GoodIn wsL_law (wsV RL 139 RX6 yX6_digest wsX6_digest) := goodIn_app (goodIn_of _ (by decide +kernel)) ggL_law_X6_digest
