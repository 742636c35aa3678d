/-! names of the law -/
set_option maxRecDepth 20000 in
theorem ggL_law_X5_init : GoodIn wsL_law wsX5_init := goodIn_r _ [9, 10, 11, 12, 13, 14, 15, 16, 17, 18, 19, 20, 21, 22, 23, 24, 25, 26, 27, 28, 29, 30, 31, 32, 33, 34, 35, 36, 37, 38, 39, 40, 41, 42, 43, 44, 45, 46, 47, 48, 49, 50, 51, 52, 53, 54, 55, 56, 561, 562, 563, 564, 550, 551, 552, 565, 566, 567, 568, 569, 570, 571, 572, 573, 574, 575, 576, 577, 578, 579, 580, 581, 582, 583, 584] (by decide +kernel) (by decide +kernel)
set_option maxRecDepth 20000 in
theorem gL_law_X5_init : GoodIn wsL_law (wsX5_init) := ggL_law_X5_init
set_option maxRecDepth 20000 in
theorem ggL_law_X6_init : GoodIn wsL_law wsX6_init := goodIn_r _ [59, 60, 11, 12, 61, 62, 25, 63, 64, 65, 66, 553, 554, 555, 556, 557, 558, 559, 560] (by decide +kernel) (by decide +kernel)
set_option maxRecDepth 20000 in
theorem gL_law_X6_init : GoodIn wsL_law (wsX6_init) := ggL_law_X6_init
set_option maxRecDepth 20000 in
theorem ggL_law_L_setCold : GoodIn wsL_law wsL_setCold := goodIn_ca (goodIn_ca (goodIn_r _ [70, 71, 72, 73, 74, 75, 2, 76, 77, 78, 79, 80, 16, 550, 551, 552, 561, 562, 563, 564] (by decide +kernel) (by decide +kernel)) (goodIn_sub (fun _ h => List.mem_append_left _ (List.mem_append_left _ (List.mem_append_right _ h))) (by decide +kernel))) (goodIn_sub (fun _ h => List.mem_append_left _ (List.mem_append_right _ h)) (by decide +kernel))
set_option maxRecDepth 20000 in
theorem gL_law_L_setCold : GoodIn wsL_law (va_wsS RL 72 yL_setCold wsL_setCold) := goodIn_app (goodIn_of _ (by decide +kernel)) ggL_law_L_setCold
set_option maxRecDepth 20000 in
theorem ggL_law_X6_setCold : GoodIn wsL_law wsX6_setCold := goodIn_r _ [84, 85, 63, 86, 87, 5, 88, 89, 90, 91, 92, 93, 94, 95, 553, 554, 555, 556, 557, 558, 559, 560] (by decide +kernel) (by decide +kernel)
set_option maxRecDepth 20000 in
theorem gL_law_X6_setCold : GoodIn wsL_law (wsV RL 77 RX6 yX6_setCold wsX6_setCold) := goodIn_app (goodIn_of _ (by decide +kernel)) ggL_law_X6_setCold
set_option maxRecDepth 20000 in
theorem ggL_law_X6_thrown : GoodIn wsL_law wsX6_thrown := goodIn_r _ [99, 85, 553, 554, 555, 556, 557, 558, 559, 560] (by decide +kernel) (by decide +kernel)
set_option maxRecDepth 20000 in
theorem gL_law_X6_thrown : GoodIn wsL_law (wsV RL 78 RX6 yX6_thrown wsX6_thrown) := goodIn_app (goodIn_of _ (by decide +kernel)) ggL_law_X6_thrown
set_option maxRecDepth 20000 in
theorem ggL_law_L_setSwan : GoodIn wsL_law wsL_setSwan := goodIn_ca (goodIn_ca (goodIn_r _ [102, 71, 72, 103, 104, 105, 2, 106, 77, 78, 79, 80, 16, 550, 551, 552, 561, 562, 563, 564] (by decide +kernel) (by decide +kernel)) (goodIn_sub (fun _ h => List.mem_append_left _ (List.mem_append_left _ (List.mem_append_right _ h))) (by decide +kernel))) (goodIn_sub (fun _ h => List.mem_append_left _ (List.mem_append_right _ h)) (by decide +kernel))
set_option maxRecDepth 20000 in
theorem gL_law_L_setSwan : GoodIn wsL_law (va_wsS RL 82 yL_setSwan wsL_setSwan) := goodIn_app (goodIn_of _ (by decide +kernel)) ggL_law_L_setSwan
set_option maxRecDepth 20000 in
theorem ggL_law_X6_setSwan : GoodIn wsL_law wsX6_setSwan := goodIn_r _ [110, 85, 64, 86, 87, 5, 88, 89, 90, 91, 92, 93, 94, 95, 553, 554, 555, 556, 557, 558, 559, 560] (by decide +kernel) (by decide +kernel)
set_option maxRecDepth 20000 in
theorem gL_law_X6_setSwan : GoodIn wsL_law (wsV RL 84 RX6 yX6_setSwan wsX6_setSwan) := goodIn_app (goodIn_of _ (by decide +kernel)) ggL_law_X6_setSwan
set_option maxRecDepth 20000 in
theorem ggL_law_L_setFare : GoodIn wsL_law wsL_setFare := goodIn_ca (goodIn_r _ [113, 72, 114, 115, 116, 2, 117, 79, 80, 16, 118, 15, 119, 120, 29, 28, 550, 551, 552, 561, 562, 563, 564] (by decide +kernel) (by decide +kernel)) (goodIn_sub (fun _ h => List.mem_append_left _ (List.mem_append_right _ h)) (by decide +kernel))
set_option maxRecDepth 20000 in
theorem gL_law_L_setFare : GoodIn wsL_law (va_wsS RL 85 yL_setFare wsL_setFare) := goodIn_app (goodIn_of _ (by decide +kernel)) ggL_law_L_setFare
set_option maxRecDepth 20000 in
theorem ggL_law_X6_setFare : GoodIn wsL_law wsX6_setFare := goodIn_r _ [124, 85, 62, 61, 86, 87, 5, 88, 89, 90, 91, 92, 553, 554, 555, 556, 557, 558, 559, 560] (by decide +kernel) (by decide +kernel)
set_option maxRecDepth 20000 in
theorem gL_law_X6_setFare : GoodIn wsL_law (wsV RL 88 RX6 yX6_setFare wsX6_setFare) := goodIn_app (goodIn_of _ (by decide +kernel)) ggL_law_X6_setFare
set_option maxRecDepth 20000 in
theorem ggL_law_L_bus : GoodIn wsL_law wsL_bus := goodIn_ca (goodIn_ca (goodIn_r _ [127, 71, 128, 129, 130, 131, 2, 132, 133, 134, 20, 135, 136, 137, 77, 78, 138, 44, 139, 140, 141, 142, 143, 550, 551, 552, 565, 566, 567, 568, 569, 570, 579, 580, 581, 582, 583, 584] (by decide +kernel) (by decide +kernel)) (goodIn_sub (fun _ h => List.mem_append_right _ h) (by decide +kernel))) (goodIn_sub (fun _ h => List.mem_append_left _ (List.mem_append_left _ (List.mem_append_right _ h))) (by decide +kernel))
set_option maxRecDepth 20000 in
theorem gL_law_L_bus : GoodIn wsL_law (va_wsS RL 89 yL_bus wsL_bus) := goodIn_app (goodIn_of _ (by decide +kernel)) ggL_law_L_bus
set_option maxRecDepth 20000 in
theorem ggL_law_X6_bus : GoodIn wsL_law wsX6_bus := goodIn_r _ [147, 85, 148, 65, 149, 150, 5, 151, 86, 87, 88, 89, 90, 91, 92, 553, 554, 555, 556, 557, 558, 559, 560] (by decide +kernel) (by decide +kernel)
set_option maxRecDepth 20000 in
theorem gL_law_X6_bus : GoodIn wsL_law (wsV RL 92 RX6 yX6_bus wsX6_bus) := goodIn_app (goodIn_of _ (by decide +kernel)) ggL_law_X6_bus
set_option maxRecDepth 20000 in
theorem ggL_law_L_fit : GoodIn wsL_law wsL_fit := goodIn_ca (goodIn_ca (goodIn_r _ [154, 71, 128, 155, 156, 157, 2, 158, 133, 134, 20, 159, 160, 161, 162, 77, 78, 550, 551, 552, 565, 566, 567, 568, 569, 570, 579, 580, 581, 582, 583, 584] (by decide +kernel) (by decide +kernel)) (goodIn_sub (fun _ h => List.mem_append_right _ h) (by decide +kernel))) (goodIn_sub (fun _ h => List.mem_append_left _ (List.mem_append_left _ (List.mem_append_right _ h))) (by decide +kernel))
set_option maxRecDepth 20000 in
theorem gL_law_L_fit : GoodIn wsL_law (va_wsS RL 93 yL_fit wsL_fit) := goodIn_app (goodIn_of _ (by decide +kernel)) ggL_law_L_fit
set_option maxRecDepth 20000 in
theorem ggL_law_X6_fit : GoodIn wsL_law wsX6_fit := goodIn_r _ [166, 85, 65, 167, 168, 169, 5, 170, 148, 86, 87, 88, 89, 90, 91, 92, 553, 554, 555, 556, 557, 558, 559, 560] (by decide +kernel) (by decide +kernel)
set_option maxRecDepth 20000 in
theorem gL_law_X6_fit : GoodIn wsL_law (wsV RL 95 RX6 yX6_fit wsX6_fit) := goodIn_app (goodIn_of _ (by decide +kernel)) ggL_law_X6_fit
set_option maxRecDepth 20000 in
theorem ggL_law_L_park : GoodIn wsL_law wsL_park := goodIn_ca (goodIn_r _ [173, 71, 174, 175, 176, 2, 177, 20, 159, 160, 161, 162, 77, 78, 550, 551, 552, 565, 566, 567, 568, 569, 570, 579, 580, 581, 582, 583, 584] (by decide +kernel) (by decide +kernel)) (goodIn_sub (fun _ h => List.mem_append_left _ (List.mem_append_left _ (List.mem_append_right _ h))) (by decide +kernel))
set_option maxRecDepth 20000 in
theorem gL_law_L_park : GoodIn wsL_law (va_wsS RL 96 yL_park wsL_park) := goodIn_app (goodIn_of _ (by decide +kernel)) ggL_law_L_park
set_option maxRecDepth 20000 in
theorem ggL_law_X6_park : GoodIn wsL_law wsX6_park := goodIn_r _ [181, 85, 65, 167, 168, 169, 5, 170, 148, 86, 87, 88, 89, 90, 91, 92, 553, 554, 555, 556, 557, 558, 559, 560] (by decide +kernel) (by decide +kernel)
set_option maxRecDepth 20000 in
theorem gL_law_X6_park : GoodIn wsL_law (wsV RL 99 RX6 yX6_park wsX6_park) := goodIn_app (goodIn_of _ (by decide +kernel)) ggL_law_X6_park
set_option maxRecDepth 20000 in
theorem ggL_law_L_told : GoodIn wsL_law wsL_told := goodIn_ca (goodIn_r _ [184, 71, 185, 186, 187, 2, 188, 20, 159, 160, 161, 162, 77, 78, 189, 190, 191, 192, 193, 194, 195, 35, 196, 197, 198, 199, 200, 201, 48, 550, 551, 552, 565, 566, 567, 568, 569, 570, 579, 580, 581, 582, 583, 584, 571, 572] (by decide +kernel) (by decide +kernel)) (goodIn_sub (fun _ h => List.mem_append_left _ (List.mem_append_left _ (List.mem_append_right _ h))) (by decide +kernel))
set_option maxRecDepth 20000 in
theorem gL_law_L_told : GoodIn wsL_law (va_wsS RL 100 yL_told wsL_told) := goodIn_app (goodIn_of _ (by decide +kernel)) ggL_law_L_told
set_option maxRecDepth 20000 in
theorem ggL_law_X6_told : GoodIn wsL_law wsX6_told := goodIn_r _ [205, 85, 167, 168, 169, 5, 170, 148, 86, 87, 88, 206, 207, 208, 209, 65, 210, 211, 212, 213, 89, 90, 91, 92, 553, 554, 555, 556, 557, 558, 559, 560] (by decide +kernel) (by decide +kernel)
set_option maxRecDepth 20000 in
theorem gL_law_X6_told : GoodIn wsL_law (wsV RL 102 RX6 yX6_told wsX6_told) := goodIn_app (goodIn_of _ (by decide +kernel)) ggL_law_X6_told
set_option maxRecDepth 20000 in
theorem ggL_law_L_span : GoodIn wsL_law wsL_span := goodIn_ca (goodIn_r _ [216, 71, 217, 218, 219, 2, 220, 20, 135, 136, 137, 77, 78, 189, 190, 191, 199, 35, 200, 201, 48, 192, 193, 194, 221, 19, 222, 223, 224, 42, 225, 39, 226, 227, 228, 53, 550, 551, 552, 565, 566, 567, 568, 569, 570, 571, 572, 579, 580, 581, 582, 583, 584, 573, 574, 575, 576, 577, 578] (by decide +kernel) (by decide +kernel)) (goodIn_sub (fun _ h => List.mem_append_left _ (List.mem_append_left _ (List.mem_append_right _ h))) (by decide +kernel))
set_option maxRecDepth 20000 in
theorem gL_law_L_span : GoodIn wsL_law (va_wsS RL 103 yL_span wsL_span) := goodIn_app (goodIn_of _ (by decide +kernel)) ggL_law_L_span
set_option maxRecDepth 20000 in
theorem ggL_law_X6_span : GoodIn wsL_law wsX6_span := goodIn_r _ [232, 85, 149, 150, 5, 151, 86, 87, 88, 233, 234, 235, 236, 65, 237, 238, 239, 240, 148, 241, 242, 243, 244, 89, 90, 91, 92, 553, 554, 555, 556, 557, 558, 559, 560] (by decide +kernel) (by decide +kernel)
set_option maxRecDepth 20000 in
theorem gL_law_X6_span : GoodIn wsL_law (wsV RL 105 RX6 yX6_span wsX6_span) := goodIn_app (goodIn_of _ (by decide +kernel)) ggL_law_X6_span
set_option maxRecDepth 20000 in
theorem ggL_law_L_order : GoodIn wsL_law wsL_order := goodIn_ca (goodIn_ca (goodIn_r _ [247, 71, 128, 248, 249, 250, 2, 251, 133, 134, 20, 135, 136, 137, 77, 78, 225, 39, 226, 227, 228, 53, 550, 551, 552, 565, 566, 567, 568, 569, 570, 573, 574, 575, 576, 577, 578] (by decide +kernel) (by decide +kernel)) (goodIn_sub (fun _ h => List.mem_append_right _ h) (by decide +kernel))) (goodIn_sub (fun _ h => List.mem_append_left _ (List.mem_append_left _ (List.mem_append_right _ h))) (by decide +kernel))
set_option maxRecDepth 20000 in
theorem gL_law_L_order : GoodIn wsL_law (va_wsS RL 106 yL_order wsL_order) := goodIn_app (goodIn_of _ (by decide +kernel)) ggL_law_L_order
set_option maxRecDepth 20000 in
theorem ggL_law_X6_order : GoodIn wsL_law wsX6_order := goodIn_r _ [255, 85, 65, 149, 150, 5, 151, 86, 87, 88, 89, 90, 91, 92, 241, 242, 243, 244, 553, 554, 555, 556, 557, 558, 559, 560] (by decide +kernel) (by decide +kernel)
set_option maxRecDepth 20000 in
theorem gL_law_X6_order : GoodIn wsL_law (wsV RL 108 RX6 yX6_order wsX6_order) := goodIn_app (goodIn_of _ (by decide +kernel)) ggL_law_X6_order
set_option maxRecDepth 20000 in
theorem ggL_law_L_cancel : GoodIn wsL_law wsL_cancel := goodIn_ca (goodIn_ca (goodIn_r _ [258, 71, 128, 259, 260, 261, 2, 262, 133, 134, 20, 135, 136, 137, 77, 78, 225, 39, 226, 227, 228, 53, 263, 264, 265, 266, 550, 551, 552, 565, 566, 567, 568, 569, 570, 573, 574, 575, 576, 577, 578] (by decide +kernel) (by decide +kernel)) (goodIn_sub (fun _ h => List.mem_append_right _ h) (by decide +kernel))) (goodIn_sub (fun _ h => List.mem_append_left _ (List.mem_append_left _ (List.mem_append_right _ h))) (by decide +kernel))
set_option maxRecDepth 20000 in
theorem gL_law_L_cancel : GoodIn wsL_law (va_wsS RL 109 yL_cancel wsL_cancel) := goodIn_app (goodIn_of _ (by decide +kernel)) ggL_law_L_cancel
set_option maxRecDepth 20000 in
theorem ggL_law_X6_cancel : GoodIn wsL_law wsX6_cancel := goodIn_r _ [270, 85, 65, 149, 150, 5, 151, 86, 87, 88, 89, 90, 91, 92, 241, 242, 243, 244, 271, 272, 273, 553, 554, 555, 556, 557, 558, 559, 560] (by decide +kernel) (by decide +kernel)
set_option maxRecDepth 20000 in
theorem gL_law_X6_cancel : GoodIn wsL_law (wsV RL 111 RX6 yX6_cancel wsX6_cancel) := goodIn_app (goodIn_of _ (by decide +kernel)) ggL_law_X6_cancel
set_option maxRecDepth 20000 in
theorem ggL_law_L_gang : GoodIn wsL_law wsL_gang := goodIn_ca (goodIn_r _ [276, 71, 277, 278, 279, 2, 280, 20, 189, 190, 191, 77, 78, 281, 39, 282, 283, 228, 284, 285, 286, 287, 288, 289, 290, 291, 53, 292, 550, 551, 552, 565, 566, 567, 568, 569, 570, 573, 574, 575, 576, 577, 578] (by decide +kernel) (by decide +kernel)) (goodIn_sub (fun _ h => List.mem_append_left _ (List.mem_append_left _ (List.mem_append_right _ h))) (by decide +kernel))
set_option maxRecDepth 20000 in
theorem gL_law_L_gang : GoodIn wsL_law (va_wsS RL 112 yL_gang wsL_gang) := goodIn_app (goodIn_of _ (by decide +kernel)) ggL_law_L_gang
set_option maxRecDepth 20000 in
theorem ggL_law_X6_gang : GoodIn wsL_law wsX6_gang := goodIn_r _ [296, 85, 86, 87, 5, 88, 297, 298, 299, 300, 65, 301, 302, 303, 304, 305, 285, 286, 287, 306, 307, 308, 89, 90, 91, 92, 553, 554, 555, 556, 557, 558, 559, 560] (by decide +kernel) (by decide +kernel)
set_option maxRecDepth 20000 in
theorem gL_law_X6_gang : GoodIn wsL_law (wsV RL 114 RX6 yX6_gang wsX6_gang) := goodIn_app (goodIn_of _ (by decide +kernel)) ggL_law_X6_gang
set_option maxRecDepth 20000 in
theorem ggL_law_L_count : GoodIn wsL_law wsL_count := goodIn_ca (goodIn_r _ [311, 71, 312, 313, 314, 2, 315, 20, 189, 190, 191, 77, 78, 316, 19, 317, 318, 319, 320, 224, 36, 321, 322, 323, 324, 325, 326, 193, 194, 327, 328, 329, 330, 42, 331, 35, 332, 333, 198, 199, 200, 201, 48, 334, 335, 336, 337, 338, 339, 49, 340, 341, 342, 343, 550, 551, 552, 565, 566, 567, 568, 569, 570, 579, 580, 581, 582, 583, 584, 571, 572] (by decide +kernel) (by decide +kernel)) (goodIn_sub (fun _ h => List.mem_append_left _ (List.mem_append_left _ (List.mem_append_right _ h))) (by decide +kernel))
set_option maxRecDepth 20000 in
theorem gL_law_L_count : GoodIn wsL_law (va_wsS RL 115 yL_count wsL_count) := goodIn_app (goodIn_of _ (by decide +kernel)) ggL_law_L_count
set_option maxRecDepth 20000 in
theorem ggL_law_X6_count : GoodIn wsL_law wsX6_count := goodIn_r _ [347, 85, 86, 87, 5, 88, 348, 349, 350, 351, 65, 148, 352, 353, 354, 355, 356, 357, 358, 359, 360, 361, 362, 363, 364, 365, 89, 90, 91, 92, 553, 554, 555, 556, 557, 558, 559, 560] (by decide +kernel) (by decide +kernel)
set_option maxRecDepth 20000 in
theorem gL_law_X6_count : GoodIn wsL_law (wsV RL 117 RX6 yX6_count wsX6_count) := goodIn_app (goodIn_of _ (by decide +kernel)) ggL_law_X6_count
set_option maxRecDepth 20000 in
theorem ggL_law_L_pass : GoodIn wsL_law wsL_pass := goodIn_ca (goodIn_r _ [368, 72, 369, 370, 371, 2, 372, 20, 16, 373, 374, 375, 79, 80, 376, 19, 377, 378, 379, 380, 381, 382, 319, 36, 224, 42, 321, 322, 323, 324, 325, 326, 383, 384, 35, 385, 386, 49, 387, 285, 286, 287, 388, 389, 390, 391, 392, 393, 394, 395, 396, 397, 199, 200, 201, 48, 398, 399, 400, 118, 15, 119, 120, 29, 28, 401, 402, 403, 404, 320, 405, 406, 407, 408, 40, 409, 39, 410, 411, 284, 292, 288, 289, 290, 291, 53, 412, 413, 414, 415, 416, 417, 418, 419, 420, 421, 263, 264, 265, 228, 266, 550, 551, 552, 565, 566, 567, 568, 569, 570, 561, 562, 563, 564, 571, 572, 579, 580, 581, 582, 583, 584, 573, 574, 575, 576, 577, 578] (by decide +kernel) (by decide +kernel)) (goodIn_sub (fun _ h => List.mem_append_left _ (List.mem_append_right _ h)) (by decide +kernel))
set_option maxRecDepth 20000 in
theorem gL_law_L_pass : GoodIn wsL_law (va_wsS RL 118 yL_pass wsL_pass) := goodIn_app (goodIn_of _ (by decide +kernel)) ggL_law_L_pass
set_option maxRecDepth 20000 in
theorem ggL_law_X6_pass_ : GoodIn wsL_law wsX6_pass_ := goodIn_r _ [425, 85, 65, 86, 87, 5, 88, 89, 90, 91, 92, 426, 427, 428, 429, 430, 431, 432, 433, 64, 148, 434, 435, 436, 437, 63, 305, 285, 286, 287, 438, 392, 393, 352, 353, 354, 439, 440, 441, 442, 443, 444, 445, 62, 61, 446, 447, 448, 306, 307, 308, 271, 272, 273, 553, 554, 555, 556, 557, 558, 559, 560] (by decide +kernel) (by decide +kernel)
set_option maxRecDepth 20000 in
theorem gL_law_X6_pass_ : GoodIn wsL_law (wsV RL 120 RX6 yX6_pass_ wsX6_pass_) := goodIn_app (goodIn_of _ (by decide +kernel)) ggL_law_X6_pass_
set_option maxRecDepth 20000 in
theorem ggL_law_L_falls : GoodIn wsL_law wsL_falls := goodIn_ca (goodIn_r _ [451, 71, 452, 453, 454, 2, 455, 21, 20, 16, 135, 136, 137, 77, 78, 456, 19, 457, 458, 36, 40, 224, 42, 319, 320, 459, 35, 460, 461, 48, 462, 463, 464, 465, 49, 466, 39, 467, 468, 53, 469, 228, 292, 266, 470, 471, 472, 44, 473, 474, 141, 142, 143, 475, 476, 477, 199, 200, 201, 376, 377, 378, 379, 380, 381, 382, 321, 322, 323, 324, 325, 326, 383, 384, 385, 386, 387, 285, 286, 287, 388, 389, 390, 391, 392, 393, 394, 395, 396, 397, 398, 399, 400, 118, 15, 119, 120, 29, 28, 401, 402, 403, 404, 405, 406, 407, 408, 409, 410, 411, 284, 288, 289, 290, 291, 412, 413, 414, 415, 416, 417, 418, 419, 420, 421, 263, 264, 265, 550, 551, 552, 565, 566, 567, 568, 569, 570, 571, 572, 573, 574, 575, 576, 577, 578, 579, 580, 581, 582, 583, 584, 561, 562, 563, 564] (by decide +kernel) (by decide +kernel)) (goodIn_sub (fun _ h => List.mem_append_left _ (List.mem_append_left _ (List.mem_append_right _ h))) (by decide +kernel))
set_option maxRecDepth 20000 in
theorem gL_law_L_falls : GoodIn wsL_law (va_wsS RL 121 yL_falls wsL_falls) := goodIn_app (goodIn_of _ (by decide +kernel)) ggL_law_L_falls
set_option maxRecDepth 20000 in
theorem ggL_law_X6_falls : GoodIn wsL_law wsX6_falls := goodIn_r _ [481, 85, 66, 149, 150, 5, 151, 86, 87, 88, 89, 90, 91, 92, 482, 483, 484, 485, 65, 486, 463, 464, 465, 430, 431, 432, 433, 64, 148, 434, 435, 436, 437, 63, 305, 285, 286, 287, 438, 392, 393, 352, 353, 354, 439, 440, 441, 442, 443, 444, 445, 62, 61, 446, 447, 448, 306, 307, 308, 271, 272, 273, 553, 554, 555, 556, 557, 558, 559, 560] (by decide +kernel) (by decide +kernel)
set_option maxRecDepth 20000 in
theorem gL_law_X6_falls : GoodIn wsL_law (wsV RL 123 RX6 yX6_falls wsX6_falls) := goodIn_app (goodIn_of _ (by decide +kernel)) ggL_law_X6_falls
set_option maxRecDepth 20000 in
theorem ggL_law_L_foresee : GoodIn wsL_law wsL_foresee := goodIn_ca (goodIn_ca (goodIn_r _ [489, 72, 71, 490, 491, 492, 2, 493, 77, 78, 21, 20, 16, 373, 374, 375, 79, 80, 456, 19, 457, 458, 36, 40, 224, 42, 319, 320, 459, 35, 460, 461, 48, 462, 463, 464, 465, 49, 466, 39, 467, 468, 53, 469, 228, 292, 266, 470, 471, 472, 44, 473, 474, 141, 142, 143, 475, 476, 477, 376, 377, 378, 379, 380, 381, 382, 321, 322, 323, 324, 325, 326, 383, 384, 385, 386, 387, 285, 286, 287, 388, 389, 390, 391, 392, 393, 394, 395, 396, 397, 199, 200, 201, 398, 399, 400, 118, 15, 119, 120, 29, 28, 401, 402, 403, 404, 405, 406, 407, 408, 409, 410, 411, 284, 288, 289, 290, 291, 412, 413, 414, 415, 416, 417, 418, 419, 420, 421, 263, 264, 265, 316, 317, 318, 193, 194, 327, 328, 329, 330, 331, 332, 333, 198, 334, 335, 336, 337, 338, 339, 340, 341, 342, 343, 550, 551, 552, 565, 566, 567, 568, 569, 570, 571, 572, 573, 574, 575, 576, 577, 578, 579, 580, 581, 582, 583, 584, 561, 562, 563, 564] (by decide +kernel) (by decide +kernel)) (goodIn_sub (fun _ h => List.mem_append_left _ (List.mem_append_left _ (List.mem_append_right _ h))) (by decide +kernel))) (goodIn_sub (fun _ h => List.mem_append_left _ (List.mem_append_right _ h)) (by decide +kernel))
set_option maxRecDepth 20000 in
theorem gL_law_L_foresee : GoodIn wsL_law (va_wsS RL 124 yL_foresee wsL_foresee) := goodIn_app (goodIn_of _ (by decide +kernel)) ggL_law_L_foresee
set_option maxRecDepth 20000 in
theorem ggL_law_X6_foresee : GoodIn wsL_law wsX6_foresee := goodIn_r _ [497, 85, 66, 86, 87, 5, 88, 89, 90, 91, 92, 482, 483, 484, 485, 65, 486, 463, 464, 465, 426, 427, 428, 429, 430, 431, 432, 433, 64, 148, 434, 435, 436, 437, 63, 305, 285, 286, 287, 438, 392, 393, 352, 353, 354, 439, 440, 441, 442, 443, 444, 445, 62, 61, 446, 447, 448, 306, 307, 308, 271, 272, 273, 359, 360, 361, 362, 363, 364, 365, 355, 356, 357, 358, 553, 554, 555, 556, 557, 558, 559, 560] (by decide +kernel) (by decide +kernel)
set_option maxRecDepth 20000 in
theorem gL_law_X6_foresee : GoodIn wsL_law (wsV RL 126 RX6 yX6_foresee wsX6_foresee) := goodIn_app (goodIn_of _ (by decide +kernel)) ggL_law_X6_foresee
set_option maxRecDepth 20000 in
theorem ggL_law_L_advise : GoodIn wsL_law wsL_advise := goodIn_ca (goodIn_r _ [500, 72, 501, 502, 503, 2, 504, 373, 374, 375, 79, 80, 505, 506, 507, 508, 21, 20, 16, 456, 19, 457, 458, 36, 40, 224, 42, 319, 320, 459, 35, 460, 461, 48, 462, 463, 464, 465, 49, 466, 39, 467, 468, 53, 469, 228, 292, 266, 470, 471, 472, 44, 473, 474, 141, 142, 143, 475, 476, 477, 509, 510, 511, 376, 377, 378, 379, 380, 381, 382, 321, 322, 323, 324, 325, 326, 383, 384, 385, 386, 387, 285, 286, 287, 388, 389, 390, 391, 392, 393, 394, 395, 396, 397, 199, 200, 201, 398, 399, 400, 118, 15, 119, 120, 29, 28, 401, 402, 403, 404, 405, 406, 407, 408, 409, 410, 411, 284, 288, 289, 290, 291, 412, 413, 414, 415, 416, 417, 418, 419, 420, 421, 263, 264, 265, 550, 551, 552, 565, 566, 567, 568, 569, 570, 571, 572, 573, 574, 575, 576, 577, 578, 579, 580, 581, 582, 583, 584, 561, 562, 563, 564] (by decide +kernel) (by decide +kernel)) (goodIn_sub (fun _ h => List.mem_append_left _ (List.mem_append_right _ h)) (by decide +kernel))
set_option maxRecDepth 20000 in
theorem gL_law_L_advise : GoodIn wsL_law (va_wsS RL 127 yL_advise wsL_advise) := goodIn_app (goodIn_of _ (by decide +kernel)) ggL_law_L_advise
set_option maxRecDepth 20000 in
theorem ggL_law_X6_advise : GoodIn wsL_law wsX6_advise := goodIn_r _ [515, 85, 86, 87, 5, 88, 89, 90, 91, 92, 516, 517, 518, 519, 66, 482, 483, 484, 485, 65, 486, 463, 464, 465, 426, 427, 428, 429, 430, 431, 432, 433, 64, 148, 434, 435, 436, 437, 63, 305, 285, 286, 287, 438, 392, 393, 352, 353, 354, 439, 440, 441, 442, 443, 444, 445, 62, 61, 446, 447, 448, 306, 307, 308, 271, 272, 273, 553, 554, 555, 556, 557, 558, 559, 560] (by decide +kernel) (by decide +kernel)
set_option maxRecDepth 20000 in
theorem gL_law_X6_advise : GoodIn wsL_law (wsV RL 129 RX6 yX6_advise wsX6_advise) := goodIn_app (goodIn_of _ (by decide +kernel)) ggL_law_X6_advise
set_option maxRecDepth 20000 in
theorem ggL_law_X5_mean : GoodIn wsL_law wsX5_mean := goodIn_r _ [523, 20, 524, 334, 35, 335, 336, 48, 550, 551, 552, 565, 566, 567, 568, 569, 570, 571, 572] (by decide +kernel) (by decide +kernel)
set_option maxRecDepth 20000 in
theorem gL_law_X5_mean : GoodIn wsL_law (wsV RL 130 RX5 yX5_mean wsX5_mean) := goodIn_app (goodIn_of _ (by decide +kernel)) ggL_law_X5_mean
set_option maxRecDepth 20000 in
theorem ggL_law_X6_mean : GoodIn wsL_law wsX6_mean := goodIn_r _ [528, 85, 65, 529, 363, 364, 5, 365, 553, 554, 555, 556, 557, 558, 559, 560] (by decide +kernel) (by decide +kernel)
set_option maxRecDepth 20000 in
theorem gL_law_X6_mean : GoodIn wsL_law (wsV RL 134 RX6 yX6_mean wsX6_mean) := goodIn_app (goodIn_of _ (by decide +kernel)) ggL_law_X6_mean
set_option maxRecDepth 20000 in
theorem ggL_law_X5_digest : GoodIn wsL_law wsX5_digest := goodIn_ca (goodIn_r _ [533, 534, 535, 20, 536, 313, 314, 2, 315, 189, 190, 191, 77, 78, 316, 19, 317, 318, 319, 320, 224, 36, 321, 322, 323, 324, 325, 326, 193, 194, 327, 328, 329, 330, 42, 331, 35, 332, 333, 198, 199, 200, 201, 48, 334, 335, 336, 337, 338, 339, 49, 340, 341, 342, 343, 537, 538, 539, 540, 16, 541, 278, 279, 280, 281, 39, 282, 283, 228, 284, 285, 286, 287, 288, 289, 290, 291, 53, 292, 542, 218, 219, 220, 135, 136, 137, 192, 221, 222, 223, 225, 226, 227, 543, 186, 187, 188, 159, 160, 161, 162, 195, 196, 197, 550, 551, 552, 565, 566, 567, 568, 569, 570, 579, 580, 581, 582, 583, 584, 571, 572, 561, 562, 563, 564, 573, 574, 575, 576, 577, 578] (by decide +kernel) (by decide +kernel)) (goodIn_sub (fun _ h => List.mem_append_left _ (List.mem_append_left _ (List.mem_append_right _ h))) (by decide +kernel))
set_option maxRecDepth 20000 in
theorem gL_law_X5_digest : GoodIn wsL_law (wsV RL 135 RX5 yX5_digest wsX5_digest) := goodIn_app (goodIn_of _ (by decide +kernel)) ggL_law_X5_digest
set_option maxRecDepth 20000 in
theorem ggL_law_X6_digest : GoodIn wsL_law wsX6_digest := goodIn_r _ [547, 85, 548, 549, 63, 64, 61, 62, 148, 348, 349, 350, 5, 351, 65, 352, 353, 354, 355, 356, 357, 358, 359, 360, 361, 362, 363, 364, 365, 297, 298, 299, 300, 301, 302, 303, 304, 305, 285, 286, 287, 306, 307, 308, 233, 234, 235, 236, 237, 238, 239, 240, 241, 242, 243, 244, 206, 207, 208, 209, 210, 211, 212, 213, 553, 554, 555, 556, 557, 558, 559, 560] (by decide +kernel) (by decide +kernel)
set_option maxRecDepth 20000 in
theorem gL_law_X6_digest : GoodIn wsL_law (wsV RL 139 RX6 yX6_digest wsX6_digest) := goodIn_app (goodIn_of _ (by decide +kernel)) ggL_law_X6_digest
