/-! names of the law -/
theorem dL_below_0 : decode cL_below 0 = .ok (.iload_n 0, 1) := by decide +kernel
theorem dL_below_1 : decode cL_below 1 = .ok (.ldc 7, 2) := by decide +kernel
theorem dL_below_3 : decode cL_below 3 = .ok (.iand, 1) := by decide +kernel
theorem dL_below_4 : decode cL_below 4 = .ok (.iload_n 1, 1) := by decide +kernel
theorem dL_below_5 : decode cL_below 5 = .ok (.irem, 1) := by decide +kernel
theorem dL_below_6 : decode cL_below 6 = .ok (.ireturn, 1) := by decide +kernel
theorem dL_cell_0 : decode cL_cell 0 = .ok (.iload_n 1, 1) := by decide +kernel
theorem dL_cell_1 : decode cL_cell 1 = .ok (.aload_n 0, 1) := by decide +kernel
theorem dL_cell_2 : decode cL_cell 2 = .ok (.arraylength, 1) := by decide +kernel
theorem dL_cell_3 : decode cL_cell 3 = .ok (.if_icmp .ge 9, 3) := by decide +kernel
theorem dL_cell_6 : decode cL_cell 6 = .ok (.aload_n 0, 1) := by decide +kernel
theorem dL_cell_7 : decode cL_cell 7 = .ok (.iload_n 1, 1) := by decide +kernel
theorem dL_cell_8 : decode cL_cell 8 = .ok (.iaload, 1) := by decide +kernel
theorem dL_cell_9 : decode cL_cell 9 = .ok (.goto 9, 3) := by decide +kernel
theorem dL_cell_12 : decode cL_cell 12 = .ok (.ldc 8, 2) := by decide +kernel
theorem dL_cell_14 : decode cL_cell 14 = .ok (.iload_n 1, 1) := by decide +kernel
theorem dL_cell_15 : decode cL_cell 15 = .ok (.iconst 3, 1) := by decide +kernel
theorem dL_cell_16 : decode cL_cell 16 = .ok (.iadd, 1) := by decide +kernel
theorem dL_cell_17 : decode cL_cell 17 = .ok (.imul, 1) := by decide +kernel
theorem dL_cell_18 : decode cL_cell 18 = .ok (.ireturn, 1) := by decide +kernel
set_option maxRecDepth 20000 in
theorem ggL_ring_X5_init : GoodIn wsL_ring wsX5_init := goodIn_r _ [6, 7, 8, 9, 10, 11, 12, 13, 14, 15, 16, 17, 18, 19, 20, 21, 22, 23, 24, 25, 26, 27, 28, 29, 30, 31, 32, 33, 34, 35, 36, 37, 38, 39, 40, 41, 42, 43, 44, 45, 46, 47, 48, 49, 50, 51, 52, 53, 106, 107, 108, 109, 103, 104, 105, 110, 111, 112, 113, 114, 115, 116, 117, 118, 119, 120, 121, 122, 123, 124, 125, 126, 127, 128, 129] (by decide +kernel) (by decide +kernel)
set_option maxRecDepth 20000 in
theorem gL_ring_X5_init : GoodIn wsL_ring (wsX5_init) := ggL_ring_X5_init
set_option maxRecDepth 20000 in
theorem ggL_ring_L_coldOf : GoodIn wsL_ring wsL_coldOf := goodIn_r _ [57, 58, 59, 56, 60, 61, 62, 63, 64, 65] (by decide +kernel) (by decide +kernel)
set_option maxRecDepth 20000 in
theorem gL_ring_L_coldOf : GoodIn wsL_ring (va_wsS RL 12 yL_coldOf wsL_coldOf) := goodIn_app (goodIn_of _ (by decide +kernel)) ggL_ring_L_coldOf
set_option maxRecDepth 20000 in
theorem ggL_ring_X5_setCold : GoodIn wsL_ring wsX5_setCold := goodIn_ca (goodIn_ca (goodIn_r _ [69, 70, 71, 72, 73, 13, 103, 104, 105, 106, 107, 108, 109] (by decide +kernel) (by decide +kernel)) (goodIn_sub (fun _ h => List.mem_cons_of_mem _ (List.mem_append_left _ (List.mem_append_left _ (List.mem_append_right _ h)))) (by decide +kernel))) (goodIn_sub (fun _ h => List.mem_cons_of_mem _ (List.mem_append_left _ (List.mem_append_right _ h))) (by decide +kernel))
set_option maxRecDepth 20000 in
theorem gL_ring_X5_setCold : GoodIn wsL_ring (wsV RL 18 RX5 yX5_setCold wsX5_setCold) := goodIn_app (goodIn_of _ (by decide +kernel)) ggL_ring_X5_setCold
set_option maxRecDepth 20000 in
theorem ggL_ring_L_swanOf : GoodIn wsL_ring wsL_swanOf := goodIn_r _ [76, 58, 59, 56, 60, 61, 62, 63, 64, 65] (by decide +kernel) (by decide +kernel)
set_option maxRecDepth 20000 in
theorem gL_ring_L_swanOf : GoodIn wsL_ring (va_wsS RL 22 yL_swanOf wsL_swanOf) := goodIn_app (goodIn_of _ (by decide +kernel)) ggL_ring_L_swanOf
set_option maxRecDepth 20000 in
theorem ggL_ring_X5_setSwan : GoodIn wsL_ring wsX5_setSwan := goodIn_ca (goodIn_ca (goodIn_r _ [80, 70, 71, 72, 73, 13, 103, 104, 105, 106, 107, 108, 109] (by decide +kernel) (by decide +kernel)) (goodIn_sub (fun _ h => List.mem_cons_of_mem _ (List.mem_append_left _ (List.mem_append_left _ (List.mem_append_right _ h)))) (by decide +kernel))) (goodIn_sub (fun _ h => List.mem_cons_of_mem _ (List.mem_append_left _ (List.mem_append_right _ h))) (by decide +kernel))
set_option maxRecDepth 20000 in
theorem gL_ring_X5_setSwan : GoodIn wsL_ring (wsV RL 25 RX5 yX5_setSwan wsX5_setSwan) := goodIn_app (goodIn_of _ (by decide +kernel)) ggL_ring_X5_setSwan
set_option maxRecDepth 20000 in
theorem ggL_ring_L_cell : GoodIn wsL_ring wsL_cell := goodIn_r _ [60, 61] (by decide +kernel) (by decide +kernel)
set_option maxRecDepth 20000 in
theorem gL_ring_L_cell : GoodIn wsL_ring (va_wsS RL 28 yL_cell wsL_cell) := goodIn_app (goodIn_of _ (by decide +kernel)) ggL_ring_L_cell
set_option maxRecDepth 20000 in
theorem ggL_ring_L_below : GoodIn wsL_ring wsL_below := goodIn_r _ [64, 65] (by decide +kernel) (by decide +kernel)
set_option maxRecDepth 20000 in
theorem gL_ring_L_below : GoodIn wsL_ring (va_wsS RL 31 yL_below wsL_below) := goodIn_app (goodIn_of _ (by decide +kernel)) ggL_ring_L_below
set_option maxRecDepth 20000 in
theorem ggL_ring_X5_setFare : GoodIn wsL_ring wsX5_setFare := goodIn_ca (goodIn_r _ [84, 72, 73, 13, 85, 12, 86, 87, 26, 25, 103, 104, 105, 106, 107, 108, 109] (by decide +kernel) (by decide +kernel)) (goodIn_sub (fun _ h => List.mem_cons_of_mem _ (List.mem_append_left _ (List.mem_append_right _ h))) (by decide +kernel))
set_option maxRecDepth 20000 in
theorem gL_ring_X5_setFare : GoodIn wsL_ring (wsV RL 34 RX5 yX5_setFare wsX5_setFare) := goodIn_app (goodIn_of _ (by decide +kernel)) ggL_ring_X5_setFare
set_option maxRecDepth 20000 in
theorem ggL_ring_X5_bus : GoodIn wsL_ring wsX5_bus := goodIn_ca (goodIn_ca (goodIn_r _ [91, 92, 93, 17, 94, 95, 3, 96, 70, 71, 97, 41, 98, 99, 100, 101, 102, 103, 104, 105, 110, 111, 112, 113, 114, 115, 124, 125, 126, 127, 128, 129] (by decide +kernel) (by decide +kernel)) (goodIn_sub (fun _ h => List.mem_cons_of_mem _ (List.mem_append_right _ h)) (by decide +kernel))) (goodIn_sub (fun _ h => List.mem_cons_of_mem _ (List.mem_append_left _ (List.mem_append_left _ (List.mem_append_right _ h)))) (by decide +kernel))
set_option maxRecDepth 20000 in
theorem gL_ring_X5_bus : GoodIn wsL_ring (wsV RL 38 RX5 yX5_bus wsX5_bus) := goodIn_app (goodIn_of _ (by decide +kernel)) ggL_ring_X5_bus
theorem dL_ring_0 : decode cL_ring 0 = .ok (.new 9, 3) := by decide +kernel
theorem dL_ring_3 : decode cL_ring 3 = .ok (.dup, 1) := by decide +kernel
theorem dL_ring_4 : decode cL_ring 4 = .ok (.invokespecial 11, 3) := by decide +kernel
theorem dL_ring_7 : decode cL_ring 7 = .ok (.astore_n 2, 1) := by decide +kernel
theorem dL_ring_8 : decode cL_ring 8 = .ok (.iconst 0, 1) := by decide +kernel
theorem dL_ring_9 : decode cL_ring 9 = .ok (.istore_n 3, 1) := by decide +kernel
theorem dL_ring_10 : decode cL_ring 10 = .ok (.iload_n 3, 1) := by decide +kernel
theorem dL_ring_11 : decode cL_ring 11 = .ok (.bipush 8, 2) := by decide +kernel
theorem dL_ring_13 : decode cL_ring 13 = .ok (.if_icmp .ge 20, 3) := by decide +kernel
theorem dL_ring_16 : decode cL_ring 16 = .ok (.aload_n 2, 1) := by decide +kernel
theorem dL_ring_17 : decode cL_ring 17 = .ok (.iload_n 3, 1) := by decide +kernel
theorem dL_ring_18 : decode cL_ring 18 = .ok (.aload_n 0, 1) := by decide +kernel
theorem dL_ring_19 : decode cL_ring 19 = .ok (.iload_n 3, 1) := by decide +kernel
theorem dL_ring_20 : decode cL_ring 20 = .ok (.invokestatic 12, 3) := by decide +kernel
theorem dL_ring_23 : decode cL_ring 23 = .ok (.invokevirtual 18, 3) := by decide +kernel
theorem dL_ring_26 : decode cL_ring 26 = .ok (.pop, 1) := by decide +kernel
theorem dL_ring_27 : decode cL_ring 27 = .ok (.iinc 3 1, 3) := by decide +kernel
theorem dL_ring_30 : decode cL_ring 30 = .ok (.goto (-20), 3) := by decide +kernel
theorem dL_ring_33 : decode cL_ring 33 = .ok (.iconst 0, 1) := by decide +kernel
theorem dL_ring_34 : decode cL_ring 34 = .ok (.istore_n 3, 1) := by decide +kernel
theorem dL_ring_35 : decode cL_ring 35 = .ok (.iload_n 3, 1) := by decide +kernel
theorem dL_ring_36 : decode cL_ring 36 = .ok (.bipush 12, 2) := by decide +kernel
theorem dL_ring_38 : decode cL_ring 38 = .ok (.if_icmp .ge 37, 3) := by decide +kernel
theorem dL_ring_41 : decode cL_ring 41 = .ok (.aload_n 2, 1) := by decide +kernel
theorem dL_ring_42 : decode cL_ring 42 = .ok (.iload_n 3, 1) := by decide +kernel
theorem dL_ring_43 : decode cL_ring 43 = .ok (.aload_n 0, 1) := by decide +kernel
theorem dL_ring_44 : decode cL_ring 44 = .ok (.iload_n 3, 1) := by decide +kernel
theorem dL_ring_45 : decode cL_ring 45 = .ok (.invokestatic 22, 3) := by decide +kernel
theorem dL_ring_48 : decode cL_ring 48 = .ok (.ifCond .ge 7, 3) := by decide +kernel
theorem dL_ring_51 : decode cL_ring 51 = .ok (.iconst (-1), 1) := by decide +kernel
theorem dL_ring_52 : decode cL_ring 52 = .ok (.goto 13, 3) := by decide +kernel
theorem dL_ring_55 : decode cL_ring 55 = .ok (.aload_n 0, 1) := by decide +kernel
theorem dL_ring_56 : decode cL_ring 56 = .ok (.iload_n 3, 1) := by decide +kernel
theorem dL_ring_57 : decode cL_ring 57 = .ok (.invokestatic 22, 3) := by decide +kernel
theorem dL_ring_60 : decode cL_ring 60 = .ok (.iload_n 1, 1) := by decide +kernel
theorem dL_ring_61 : decode cL_ring 61 = .ok (.iadd, 1) := by decide +kernel
theorem dL_ring_62 : decode cL_ring 62 = .ok (.bipush 24, 2) := by decide +kernel
theorem dL_ring_64 : decode cL_ring 64 = .ok (.irem, 1) := by decide +kernel
theorem dL_ring_65 : decode cL_ring 65 = .ok (.invokevirtual 25, 3) := by decide +kernel
theorem dL_ring_68 : decode cL_ring 68 = .ok (.pop, 1) := by decide +kernel
theorem dL_ring_69 : decode cL_ring 69 = .ok (.iinc 3 1, 3) := by decide +kernel
theorem dL_ring_72 : decode cL_ring 72 = .ok (.goto (-37), 3) := by decide +kernel
theorem dL_ring_75 : decode cL_ring 75 = .ok (.aload_n 2, 1) := by decide +kernel
theorem dL_ring_76 : decode cL_ring 76 = .ok (.iconst 0, 1) := by decide +kernel
theorem dL_ring_77 : decode cL_ring 77 = .ok (.aload_n 0, 1) := by decide +kernel
theorem dL_ring_78 : decode cL_ring 78 = .ok (.iconst 2, 1) := by decide +kernel
theorem dL_ring_79 : decode cL_ring 79 = .ok (.invokestatic 28, 3) := by decide +kernel
theorem dL_ring_82 : decode cL_ring 82 = .ok (.bipush 10, 2) := by decide +kernel
theorem dL_ring_84 : decode cL_ring 84 = .ok (.invokestatic 31, 3) := by decide +kernel
theorem dL_ring_87 : decode cL_ring 87 = .ok (.invokevirtual 34, 3) := by decide +kernel
theorem dL_ring_90 : decode cL_ring 90 = .ok (.pop, 1) := by decide +kernel
theorem dL_ring_91 : decode cL_ring 91 = .ok (.aload_n 2, 1) := by decide +kernel
theorem dL_ring_92 : decode cL_ring 92 = .ok (.iconst 1, 1) := by decide +kernel
theorem dL_ring_93 : decode cL_ring 93 = .ok (.aload_n 0, 1) := by decide +kernel
theorem dL_ring_94 : decode cL_ring 94 = .ok (.iconst 2, 1) := by decide +kernel
theorem dL_ring_95 : decode cL_ring 95 = .ok (.invokestatic 28, 3) := by decide +kernel
theorem dL_ring_98 : decode cL_ring 98 = .ok (.iconst 4, 1) := by decide +kernel
theorem dL_ring_99 : decode cL_ring 99 = .ok (.ishr, 1) := by decide +kernel
theorem dL_ring_100 : decode cL_ring 100 = .ok (.bipush 10, 2) := by decide +kernel
theorem dL_ring_102 : decode cL_ring 102 = .ok (.invokestatic 31, 3) := by decide +kernel
theorem dL_ring_105 : decode cL_ring 105 = .ok (.invokevirtual 34, 3) := by decide +kernel
theorem dL_ring_108 : decode cL_ring 108 = .ok (.pop, 1) := by decide +kernel
theorem dL_ring_109 : decode cL_ring 109 = .ok (.iconst 0, 1) := by decide +kernel
theorem dL_ring_110 : decode cL_ring 110 = .ok (.istore_n 3, 1) := by decide +kernel
theorem dL_ring_111 : decode cL_ring 111 = .ok (.iload_n 3, 1) := by decide +kernel
theorem dL_ring_112 : decode cL_ring 112 = .ok (.iconst 3, 1) := by decide +kernel
theorem dL_ring_113 : decode cL_ring 113 = .ok (.if_icmp .ge 56, 3) := by decide +kernel
theorem dL_ring_116 : decode cL_ring 116 = .ok (.aload_n 2, 1) := by decide +kernel
theorem dL_ring_117 : decode cL_ring 117 = .ok (.aload_n 0, 1) := by decide +kernel
theorem dL_ring_118 : decode cL_ring 118 = .ok (.iconst 3, 1) := by decide +kernel
theorem dL_ring_119 : decode cL_ring 119 = .ok (.invokestatic 28, 3) := by decide +kernel
theorem dL_ring_122 : decode cL_ring 122 = .ok (.iconst 5, 1) := by decide +kernel
theorem dL_ring_123 : decode cL_ring 123 = .ok (.iload_n 3, 1) := by decide +kernel
theorem dL_ring_124 : decode cL_ring 124 = .ok (.imul, 1) := by decide +kernel
theorem dL_ring_125 : decode cL_ring 125 = .ok (.ishr, 1) := by decide +kernel
theorem dL_ring_126 : decode cL_ring 126 = .ok (.bipush 24, 2) := by decide +kernel
theorem dL_ring_128 : decode cL_ring 128 = .ok (.invokestatic 31, 3) := by decide +kernel
theorem dL_ring_131 : decode cL_ring 131 = .ok (.iload_n 1, 1) := by decide +kernel
theorem dL_ring_132 : decode cL_ring 132 = .ok (.iadd, 1) := by decide +kernel
theorem dL_ring_133 : decode cL_ring 133 = .ok (.bipush 24, 2) := by decide +kernel
theorem dL_ring_135 : decode cL_ring 135 = .ok (.irem, 1) := by decide +kernel
theorem dL_ring_136 : decode cL_ring 136 = .ok (.aload_n 0, 1) := by decide +kernel
theorem dL_ring_137 : decode cL_ring 137 = .ok (.iconst 3, 1) := by decide +kernel
theorem dL_ring_138 : decode cL_ring 138 = .ok (.invokestatic 28, 3) := by decide +kernel
theorem dL_ring_141 : decode cL_ring 141 = .ok (.bipush 15, 2) := by decide +kernel
theorem dL_ring_143 : decode cL_ring 143 = .ok (.iload_n 3, 1) := by decide +kernel
theorem dL_ring_144 : decode cL_ring 144 = .ok (.iadd, 1) := by decide +kernel
theorem dL_ring_145 : decode cL_ring 145 = .ok (.ishr, 1) := by decide +kernel
theorem dL_ring_146 : decode cL_ring 146 = .ok (.iconst 2, 1) := by decide +kernel
theorem dL_ring_147 : decode cL_ring 147 = .ok (.invokestatic 31, 3) := by decide +kernel
theorem dL_ring_150 : decode cL_ring 150 = .ok (.iconst 1, 1) := by decide +kernel
theorem dL_ring_151 : decode cL_ring 151 = .ok (.if_icmp .ne 7, 3) := by decide +kernel
theorem dL_ring_154 : decode cL_ring 154 = .ok (.iconst 1, 1) := by decide +kernel
theorem dL_ring_155 : decode cL_ring 155 = .ok (.goto 4, 3) := by decide +kernel
theorem dL_ring_158 : decode cL_ring 158 = .ok (.iconst 0, 1) := by decide +kernel
theorem dL_ring_159 : decode cL_ring 159 = .ok (.invokevirtual 38, 3) := by decide +kernel
theorem dL_ring_162 : decode cL_ring 162 = .ok (.pop, 1) := by decide +kernel
theorem dL_ring_163 : decode cL_ring 163 = .ok (.iinc 3 1, 3) := by decide +kernel
theorem dL_ring_166 : decode cL_ring 166 = .ok (.goto (-55), 3) := by decide +kernel
theorem dL_ring_169 : decode cL_ring 169 = .ok (.aload_n 2, 1) := by decide +kernel
theorem dL_ring_170 : decode cL_ring 170 = .ok (.areturn, 1) := by decide +kernel
set_option maxRecDepth 20000 in
theorem ggL_coldOf_L_cell : GoodIn wsL_coldOf wsL_cell := goodIn_r _ [4, 5] (by decide +kernel) (by decide +kernel)
set_option maxRecDepth 20000 in
theorem gL_coldOf_L_cell : GoodIn wsL_coldOf (va_wsS RL 28 yL_cell wsL_cell) := goodIn_app (goodIn_of _ (by decide +kernel)) ggL_coldOf_L_cell
set_option maxRecDepth 20000 in
theorem ggL_coldOf_L_below : GoodIn wsL_coldOf wsL_below := goodIn_r _ [8, 9] (by decide +kernel) (by decide +kernel)
set_option maxRecDepth 20000 in
theorem gL_coldOf_L_below : GoodIn wsL_coldOf (va_wsS RL 31 yL_below wsL_below) := goodIn_app (goodIn_of _ (by decide +kernel)) ggL_coldOf_L_below
theorem dL_coldOf_0 : decode cL_coldOf 0 = .ok (.aload_n 0, 1) := by decide +kernel
theorem dL_coldOf_1 : decode cL_coldOf 1 = .ok (.iconst 0, 1) := by decide +kernel
theorem dL_coldOf_2 : decode cL_coldOf 2 = .ok (.invokestatic 28, 3) := by decide +kernel
theorem dL_coldOf_5 : decode cL_coldOf 5 = .ok (.iconst 2, 1) := by decide +kernel
theorem dL_coldOf_6 : decode cL_coldOf 6 = .ok (.iload_n 1, 1) := by decide +kernel
theorem dL_coldOf_7 : decode cL_coldOf 7 = .ok (.imul, 1) := by decide +kernel
theorem dL_coldOf_8 : decode cL_coldOf 8 = .ok (.ishr, 1) := by decide +kernel
theorem dL_coldOf_9 : decode cL_coldOf 9 = .ok (.iconst 4, 1) := by decide +kernel
theorem dL_coldOf_10 : decode cL_coldOf 10 = .ok (.invokestatic 31, 3) := by decide +kernel
theorem dL_coldOf_13 : decode cL_coldOf 13 = .ok (.ireturn, 1) := by decide +kernel
set_option maxRecDepth 20000 in
theorem ggL_swanOf_L_cell : GoodIn wsL_swanOf wsL_cell := goodIn_r _ [4, 5] (by decide +kernel) (by decide +kernel)
set_option maxRecDepth 20000 in
theorem gL_swanOf_L_cell : GoodIn wsL_swanOf (va_wsS RL 28 yL_cell wsL_cell) := goodIn_app (goodIn_of _ (by decide +kernel)) ggL_swanOf_L_cell
set_option maxRecDepth 20000 in
theorem ggL_swanOf_L_below : GoodIn wsL_swanOf wsL_below := goodIn_r _ [8, 9] (by decide +kernel) (by decide +kernel)
set_option maxRecDepth 20000 in
theorem gL_swanOf_L_below : GoodIn wsL_swanOf (va_wsS RL 31 yL_below wsL_below) := goodIn_app (goodIn_of _ (by decide +kernel)) ggL_swanOf_L_below
theorem dL_swanOf_0 : decode cL_swanOf 0 = .ok (.aload_n 0, 1) := by decide +kernel
theorem dL_swanOf_1 : decode cL_swanOf 1 = .ok (.iconst 1, 1) := by decide +kernel
theorem dL_swanOf_2 : decode cL_swanOf 2 = .ok (.invokestatic 28, 3) := by decide +kernel
theorem dL_swanOf_5 : decode cL_swanOf 5 = .ok (.iload_n 1, 1) := by decide +kernel
theorem dL_swanOf_6 : decode cL_swanOf 6 = .ok (.ishr, 1) := by decide +kernel
theorem dL_swanOf_7 : decode cL_swanOf 7 = .ok (.iconst 3, 1) := by decide +kernel
theorem dL_swanOf_8 : decode cL_swanOf 8 = .ok (.invokestatic 31, 3) := by decide +kernel
theorem dL_swanOf_11 : decode cL_swanOf 11 = .ok (.ifCond .ne 20, 3) := by decide +kernel
theorem dL_swanOf_14 : decode cL_swanOf 14 = .ok (.aload_n 0, 1) := by decide +kernel
theorem dL_swanOf_15 : decode cL_swanOf 15 = .ok (.iconst 1, 1) := by decide +kernel
theorem dL_swanOf_16 : decode cL_swanOf 16 = .ok (.invokestatic 28, 3) := by decide +kernel
theorem dL_swanOf_19 : decode cL_swanOf 19 = .ok (.iload_n 1, 1) := by decide +kernel
theorem dL_swanOf_20 : decode cL_swanOf 20 = .ok (.iconst 3, 1) := by decide +kernel
theorem dL_swanOf_21 : decode cL_swanOf 21 = .ok (.iadd, 1) := by decide +kernel
theorem dL_swanOf_22 : decode cL_swanOf 22 = .ok (.ishr, 1) := by decide +kernel
theorem dL_swanOf_23 : decode cL_swanOf 23 = .ok (.bipush 24, 2) := by decide +kernel
theorem dL_swanOf_25 : decode cL_swanOf 25 = .ok (.invokestatic 31, 3) := by decide +kernel
theorem dL_swanOf_28 : decode cL_swanOf 28 = .ok (.goto 4, 3) := by decide +kernel
theorem dL_swanOf_31 : decode cL_swanOf 31 = .ok (.iconst (-1), 1) := by decide +kernel
theorem dL_swanOf_32 : decode cL_swanOf 32 = .ok (.ireturn, 1) := by decide +kernel
set_option maxRecDepth 20000 in
theorem ggL_law_L_ring : GoodIn wsL_law wsL_ring := goodIn_ca (goodIn_ca (goodIn_ca (goodIn_r _ [3, 4, 5, 6, 7, 8, 9, 10, 11, 12, 13, 14, 15, 16, 17, 18, 19, 20, 21, 22, 23, 24, 25, 26, 27, 28, 29, 30, 31, 32, 33, 34, 35, 36, 37, 38, 39, 40, 41, 42, 43, 44, 45, 46, 47, 48, 49, 50, 51, 52, 53, 54, 55, 56, 57, 58, 2, 59, 60, 61, 62, 63, 64, 65, 66, 67, 68, 69, 70, 71, 72, 73, 74, 75, 76, 77, 78, 79, 80, 81, 82, 83, 84, 85, 86, 87, 88, 89, 90, 91, 92, 93, 94, 95, 96, 97, 98, 99, 100, 101, 102, 103, 104, 310, 311, 312, 313, 314, 315, 316, 317, 318, 319, 320, 321, 322, 323, 324, 325, 326, 327, 328, 329, 330, 331, 332, 333, 334, 335, 336] (by decide +kernel) (by decide +kernel)) (goodIn_sub (fun _ h => List.mem_append_left _ (List.mem_append_left _ (List.mem_append_right _ h))) (by decide +kernel))) (goodIn_sub (fun _ h => List.mem_append_left _ (List.mem_append_right _ h)) (by decide +kernel))) (goodIn_sub (fun _ h => List.mem_append_right _ h) (by decide +kernel))
set_option maxRecDepth 20000 in
theorem gL_law_L_ring : GoodIn wsL_law (va_wsS RL 42 yL_ring wsL_ring) := goodIn_app (goodIn_of _ (by decide +kernel)) ggL_law_L_ring
set_option maxRecDepth 20000 in
theorem ggL_law_L_cell : GoodIn wsL_law wsL_cell := goodIn_r _ [62, 63] (by decide +kernel) (by decide +kernel)
set_option maxRecDepth 20000 in
theorem gL_law_L_cell : GoodIn wsL_law (va_wsS RL 28 yL_cell wsL_cell) := goodIn_app (goodIn_of _ (by decide +kernel)) ggL_law_L_cell
set_option maxRecDepth 20000 in
theorem ggL_law_L_below : GoodIn wsL_law wsL_below := goodIn_r _ [66, 67] (by decide +kernel) (by decide +kernel)
set_option maxRecDepth 20000 in
theorem gL_law_L_below : GoodIn wsL_law (va_wsS RL 31 yL_below wsL_below) := goodIn_app (goodIn_of _ (by decide +kernel)) ggL_law_L_below
set_option maxRecDepth 20000 in
theorem ggL_law_X5_digest : GoodIn wsL_law wsX5_digest := goodIn_ca (goodIn_r _ [108, 109, 110, 20, 111, 112, 113, 6, 114, 115, 116, 117, 72, 73, 118, 19, 119, 120, 121, 122, 123, 36, 124, 125, 126, 127, 128, 129, 130, 131, 132, 133, 134, 135, 42, 136, 35, 137, 138, 139, 140, 141, 142, 48, 143, 144, 145, 146, 147, 148, 49, 149, 150, 151, 152, 153, 154, 155, 156, 16, 157, 158, 159, 160, 161, 39, 162, 163, 164, 165, 166, 167, 168, 169, 170, 171, 172, 53, 173, 174, 175, 176, 177, 96, 97, 98, 178, 179, 180, 181, 182, 183, 184, 185, 186, 187, 188, 189, 190, 191, 192, 193, 194, 195, 310, 311, 312, 317, 318, 319, 320, 321, 322, 331, 332, 333, 334, 335, 336, 323, 324, 313, 314, 315, 316, 325, 326, 327, 328, 329, 330] (by decide +kernel) (by decide +kernel)) (goodIn_sub (fun _ h => List.mem_append_left _ (List.mem_append_left _ (List.mem_append_right _ h))) (by decide +kernel))
set_option maxRecDepth 20000 in
theorem gL_law_X5_digest : GoodIn wsL_law (wsV RL 46 RX5 yX5_digest wsX5_digest) := goodIn_app (goodIn_of _ (by decide +kernel)) ggL_law_X5_digest
set_option maxRecDepth 20000 in
theorem ggL_law_X5_foresee : GoodIn wsL_law wsX5_foresee := goodIn_ca (goodIn_ca (goodIn_r _ [199, 72, 73, 21, 20, 16, 200, 201, 6, 202, 74, 75, 203, 19, 204, 205, 36, 40, 123, 42, 121, 122, 206, 35, 207, 208, 48, 209, 210, 211, 212, 49, 213, 39, 214, 215, 53, 216, 164, 173, 217, 218, 219, 220, 44, 221, 222, 102, 103, 104, 223, 224, 225, 226, 227, 228, 229, 230, 231, 232, 124, 125, 126, 127, 128, 129, 233, 234, 235, 236, 237, 166, 167, 168, 238, 239, 240, 241, 242, 243, 244, 245, 246, 247, 140, 141, 142, 248, 249, 250, 87, 15, 88, 89, 29, 28, 251, 252, 253, 254, 255, 256, 257, 258, 259, 260, 261, 165, 169, 170, 171, 172, 262, 263, 264, 265, 266, 267, 268, 269, 270, 271, 272, 273, 274, 118, 119, 120, 130, 131, 132, 133, 134, 135, 136, 137, 138, 139, 143, 144, 145, 146, 147, 148, 149, 150, 151, 152, 310, 311, 312, 317, 318, 319, 320, 321, 322, 323, 324, 325, 326, 327, 328, 329, 330, 331, 332, 333, 334, 335, 336, 313, 314, 315, 316] (by decide +kernel) (by decide +kernel)) (goodIn_sub (fun _ h => List.mem_append_left _ (List.mem_append_left _ (List.mem_append_right _ h))) (by decide +kernel))) (goodIn_sub (fun _ h => List.mem_append_left _ (List.mem_append_right _ h)) (by decide +kernel))
set_option maxRecDepth 20000 in
theorem gL_law_X5_foresee : GoodIn wsL_law (wsV RL 50 RX5 yX5_foresee wsX5_foresee) := goodIn_app (goodIn_of _ (by decide +kernel)) ggL_law_X5_foresee
set_option maxRecDepth 20000 in
theorem ggL_law_X5_falls : GoodIn wsL_law wsX5_falls := goodIn_ca (goodIn_r _ [278, 21, 20, 16, 96, 97, 6, 98, 72, 73, 203, 19, 204, 205, 36, 40, 123, 42, 121, 122, 206, 35, 207, 208, 48, 209, 210, 211, 212, 49, 213, 39, 214, 215, 53, 216, 164, 173, 217, 218, 219, 220, 44, 221, 222, 102, 103, 104, 223, 224, 225, 140, 141, 142, 226, 227, 228, 229, 230, 231, 232, 124, 125, 126, 127, 128, 129, 233, 234, 235, 236, 237, 166, 167, 168, 238, 239, 240, 241, 242, 243, 244, 245, 246, 247, 248, 249, 250, 87, 15, 88, 89, 29, 28, 251, 252, 253, 254, 255, 256, 257, 258, 259, 260, 261, 165, 169, 170, 171, 172, 262, 263, 264, 265, 266, 267, 268, 269, 270, 271, 272, 273, 274, 310, 311, 312, 317, 318, 319, 320, 321, 322, 323, 324, 325, 326, 327, 328, 329, 330, 331, 332, 333, 334, 335, 336, 313, 314, 315, 316] (by decide +kernel) (by decide +kernel)) (goodIn_sub (fun _ h => List.mem_append_left _ (List.mem_append_left _ (List.mem_append_right _ h))) (by decide +kernel))
set_option maxRecDepth 20000 in
theorem gL_law_X5_falls : GoodIn wsL_law (wsV RL 53 RX5 yX5_falls wsX5_falls) := goodIn_app (goodIn_of _ (by decide +kernel)) ggL_law_X5_falls
set_option maxRecDepth 20000 in
theorem ggL_law_X5_advise : GoodIn wsL_law wsX5_advise := goodIn_ca (goodIn_r _ [282, 200, 201, 6, 202, 74, 75, 283, 284, 285, 286, 21, 20, 16, 203, 19, 204, 205, 36, 40, 123, 42, 121, 122, 206, 35, 207, 208, 48, 209, 210, 211, 212, 49, 213, 39, 214, 215, 53, 216, 164, 173, 217, 218, 219, 220, 44, 221, 222, 102, 103, 104, 223, 224, 225, 287, 288, 289, 226, 227, 228, 229, 230, 231, 232, 124, 125, 126, 127, 128, 129, 233, 234, 235, 236, 237, 166, 167, 168, 238, 239, 240, 241, 242, 243, 244, 245, 246, 247, 140, 141, 142, 248, 249, 250, 87, 15, 88, 89, 29, 28, 251, 252, 253, 254, 255, 256, 257, 258, 259, 260, 261, 165, 169, 170, 171, 172, 262, 263, 264, 265, 266, 267, 268, 269, 270, 271, 272, 273, 274, 310, 311, 312, 317, 318, 319, 320, 321, 322, 323, 324, 325, 326, 327, 328, 329, 330, 331, 332, 333, 334, 335, 336, 313, 314, 315, 316] (by decide +kernel) (by decide +kernel)) (goodIn_sub (fun _ h => List.mem_append_left _ (List.mem_append_right _ h)) (by decide +kernel))
set_option maxRecDepth 20000 in
theorem gL_law_X5_advise : GoodIn wsL_law (wsV RL 57 RX5 yX5_advise wsX5_advise) := goodIn_app (goodIn_of _ (by decide +kernel)) ggL_law_X5_advise
set_option maxRecDepth 20000 in
theorem ggL_law_X5_span : GoodIn wsL_law wsX5_span := goodIn_ca (goodIn_r _ [177, 20, 96, 97, 6, 98, 72, 73, 115, 116, 117, 140, 35, 141, 142, 48, 178, 130, 131, 179, 19, 180, 181, 123, 42, 182, 39, 183, 184, 164, 53, 310, 311, 312, 317, 318, 319, 320, 321, 322, 323, 324, 331, 332, 333, 334, 335, 336, 325, 326, 327, 328, 329, 330] (by decide +kernel) (by decide +kernel)) (goodIn_sub (fun _ h => List.mem_append_left _ (List.mem_append_left _ (List.mem_append_right _ h))) (by decide +kernel))
set_option maxRecDepth 20000 in
theorem gL_law_X5_span : GoodIn wsL_law (wsV RL 60 RX5 yX5_span wsX5_span) := goodIn_app (goodIn_of _ (by decide +kernel)) ggL_law_X5_span
set_option maxRecDepth 20000 in
theorem ggL_law_X5_gang : GoodIn wsL_law wsX5_gang := goodIn_ca (goodIn_r _ [160, 20, 115, 116, 6, 117, 72, 73, 161, 39, 162, 163, 164, 165, 166, 167, 168, 169, 170, 171, 172, 53, 173, 310, 311, 312, 317, 318, 319, 320, 321, 322, 325, 326, 327, 328, 329, 330] (by decide +kernel) (by decide +kernel)) (goodIn_sub (fun _ h => List.mem_append_left _ (List.mem_append_left _ (List.mem_append_right _ h))) (by decide +kernel))
set_option maxRecDepth 20000 in
theorem gL_law_X5_gang : GoodIn wsL_law (wsV RL 63 RX5 yX5_gang wsX5_gang) := goodIn_app (goodIn_of _ (by decide +kernel)) ggL_law_X5_gang
set_option maxRecDepth 20000 in
theorem ggL_law_X5_order : GoodIn wsL_law wsX5_order := goodIn_ca (goodIn_ca (goodIn_r _ [295, 94, 95, 20, 96, 97, 6, 98, 72, 73, 182, 39, 183, 184, 164, 53, 310, 311, 312, 317, 318, 319, 320, 321, 322, 325, 326, 327, 328, 329, 330] (by decide +kernel) (by decide +kernel)) (goodIn_sub (fun _ h => List.mem_append_right _ h) (by decide +kernel))) (goodIn_sub (fun _ h => List.mem_append_left _ (List.mem_append_left _ (List.mem_append_right _ h))) (by decide +kernel))
set_option maxRecDepth 20000 in
theorem gL_law_X5_order : GoodIn wsL_law (wsV RL 66 RX5 yX5_order wsX5_order) := goodIn_app (goodIn_of _ (by decide +kernel)) ggL_law_X5_order
set_option maxRecDepth 20000 in
theorem ggL_law_X5_cancel : GoodIn wsL_law wsX5_cancel := goodIn_ca (goodIn_ca (goodIn_r _ [299, 94, 95, 20, 96, 97, 6, 98, 72, 73, 182, 39, 183, 184, 164, 53, 272, 273, 274, 217, 310, 311, 312, 317, 318, 319, 320, 321, 322, 325, 326, 327, 328, 329, 330] (by decide +kernel) (by decide +kernel)) (goodIn_sub (fun _ h => List.mem_append_right _ h) (by decide +kernel))) (goodIn_sub (fun _ h => List.mem_append_left _ (List.mem_append_left _ (List.mem_append_right _ h))) (by decide +kernel))
set_option maxRecDepth 20000 in
theorem gL_law_X5_cancel : GoodIn wsL_law (wsV RL 69 RX5 yX5_cancel wsX5_cancel) := goodIn_app (goodIn_of _ (by decide +kernel)) ggL_law_X5_cancel
set_option maxRecDepth 20000 in
theorem ggL_law_X5_park : GoodIn wsL_law wsX5_park := goodIn_ca (goodIn_r _ [303, 20, 189, 190, 191, 6, 192, 72, 73, 310, 311, 312, 317, 318, 319, 320, 321, 322, 331, 332, 333, 334, 335, 336] (by decide +kernel) (by decide +kernel)) (goodIn_sub (fun _ h => List.mem_append_left _ (List.mem_append_left _ (List.mem_append_right _ h))) (by decide +kernel))
set_option maxRecDepth 20000 in
theorem gL_law_X5_park : GoodIn wsL_law (wsV RL 72 RX5 yX5_park wsX5_park) := goodIn_app (goodIn_of _ (by decide +kernel)) ggL_law_X5_park
set_option maxRecDepth 20000 in
theorem ggL_law_X5_setSwan : GoodIn wsL_law wsX5_setSwan := goodIn_ca (goodIn_ca (goodIn_r _ [82, 72, 73, 74, 75, 16, 310, 311, 312, 313, 314, 315, 316] (by decide +kernel) (by decide +kernel)) (goodIn_sub (fun _ h => List.mem_append_left _ (List.mem_append_left _ (List.mem_append_right _ h))) (by decide +kernel))) (goodIn_sub (fun _ h => List.mem_append_left _ (List.mem_append_right _ h)) (by decide +kernel))
set_option maxRecDepth 20000 in
theorem gL_law_X5_setSwan : GoodIn wsL_law (wsV RL 25 RX5 yX5_setSwan wsX5_setSwan) := goodIn_app (goodIn_of _ (by decide +kernel)) ggL_law_X5_setSwan
set_option maxRecDepth 20000 in
theorem ggL_law_X5_pass : GoodIn wsL_law wsX5_pass := goodIn_ca (goodIn_r _ [307, 20, 16, 200, 201, 6, 202, 74, 75, 226, 19, 227, 228, 229, 230, 231, 232, 121, 36, 123, 42, 124, 125, 126, 127, 128, 129, 233, 234, 35, 235, 236, 49, 237, 166, 167, 168, 238, 239, 240, 241, 242, 243, 244, 245, 246, 247, 140, 141, 142, 48, 248, 249, 250, 87, 15, 88, 89, 29, 28, 251, 252, 253, 254, 122, 255, 256, 257, 258, 40, 259, 39, 260, 261, 165, 173, 169, 170, 171, 172, 53, 262, 263, 264, 265, 266, 267, 268, 269, 270, 271, 272, 273, 274, 164, 217, 310, 311, 312, 317, 318, 319, 320, 321, 322, 313, 314, 315, 316, 323, 324, 331, 332, 333, 334, 335, 336, 325, 326, 327, 328, 329, 330] (by decide +kernel) (by decide +kernel)) (goodIn_sub (fun _ h => List.mem_append_left _ (List.mem_append_right _ h)) (by decide +kernel))
set_option maxRecDepth 20000 in
theorem gL_law_X5_pass : GoodIn wsL_law (wsV RL 76 RX5 yX5_pass wsX5_pass) := goodIn_app (goodIn_of _ (by decide +kernel)) ggL_law_X5_pass
set_option maxRecDepth 20000 in
theorem ggL_law_X5_count : GoodIn wsL_law wsX5_count := goodIn_ca (goodIn_r _ [114, 20, 115, 116, 6, 117, 72, 73, 118, 19, 119, 120, 121, 122, 123, 36, 124, 125, 126, 127, 128, 129, 130, 131, 132, 133, 134, 135, 42, 136, 35, 137, 138, 139, 140, 141, 142, 48, 143, 144, 145, 146, 147, 148, 49, 149, 150, 151, 152, 310, 311, 312, 317, 318, 319, 320, 321, 322, 331, 332, 333, 334, 335, 336, 323, 324] (by decide +kernel) (by decide +kernel)) (goodIn_sub (fun _ h => List.mem_append_left _ (List.mem_append_left _ (List.mem_append_right _ h))) (by decide +kernel))
set_option maxRecDepth 20000 in
theorem gL_law_X5_count : GoodIn wsL_law (wsV RL 79 RX5 yX5_count wsX5_count) := goodIn_app (goodIn_of _ (by decide +kernel)) ggL_law_X5_count
set_option maxRecDepth 20000 in
theorem ggL_law_X5_told : GoodIn wsL_law wsX5_told := goodIn_ca (goodIn_r _ [188, 20, 189, 190, 191, 6, 192, 72, 73, 115, 116, 117, 178, 130, 131, 193, 35, 194, 195, 139, 140, 141, 142, 48, 310, 311, 312, 317, 318, 319, 320, 321, 322, 331, 332, 333, 334, 335, 336, 323, 324] (by decide +kernel) (by decide +kernel)) (goodIn_sub (fun _ h => List.mem_append_left _ (List.mem_append_left _ (List.mem_append_right _ h))) (by decide +kernel))
set_option maxRecDepth 20000 in
theorem gL_law_X5_told : GoodIn wsL_law (wsV RL 82 RX5 yX5_told wsX5_told) := goodIn_app (goodIn_of _ (by decide +kernel)) ggL_law_X5_told
theorem dL_law_0 : decode cL_law 0 = .ok (.aload_n 0, 1) := by decide +kernel
theorem dL_law_1 : decode cL_law 1 = .ok (.iconst 0, 1) := by decide +kernel
theorem dL_law_2 : decode cL_law 2 = .ok (.invokestatic 42, 3) := by decide +kernel
theorem dL_law_5 : decode cL_law 5 = .ok (.astore_n 1, 1) := by decide +kernel
theorem dL_law_6 : decode cL_law 6 = .ok (.iconst 0, 1) := by decide +kernel
theorem dL_law_7 : decode cL_law 7 = .ok (.istore_n 2, 1) := by decide +kernel
theorem dL_law_8 : decode cL_law 8 = .ok (.iload_n 2, 1) := by decide +kernel
theorem dL_law_9 : decode cL_law 9 = .ok (.bipush 16, 2) := by decide +kernel
theorem dL_law_11 : decode cL_law 11 = .ok (.if_icmp .ge 543, 3) := by decide +kernel
theorem dL_law_14 : decode cL_law 14 = .ok (.aload_n 0, 1) := by decide +kernel
theorem dL_law_15 : decode cL_law 15 = .ok (.iconst 4, 1) := by decide +kernel
theorem dL_law_16 : decode cL_law 16 = .ok (.iload_n 2, 1) := by decide +kernel
theorem dL_law_17 : decode cL_law 17 = .ok (.iadd, 1) := by decide +kernel
theorem dL_law_18 : decode cL_law 18 = .ok (.invokestatic 28, 3) := by decide +kernel
theorem dL_law_21 : decode cL_law 21 = .ok (.iconst 2, 1) := by decide +kernel
theorem dL_law_22 : decode cL_law 22 = .ok (.ishr, 1) := by decide +kernel
theorem dL_law_23 : decode cL_law 23 = .ok (.istore_n 3, 1) := by decide +kernel
theorem dL_law_24 : decode cL_law 24 = .ok (.iload_n 3, 1) := by decide +kernel
theorem dL_law_25 : decode cL_law 25 = .ok (.bipush 24, 2) := by decide +kernel
theorem dL_law_27 : decode cL_law 27 = .ok (.invokestatic 31, 3) := by decide +kernel
theorem dL_law_30 : decode cL_law 30 = .ok (.istore 4, 2) := by decide +kernel
theorem dL_law_32 : decode cL_law 32 = .ok (.aload_n 1, 1) := by decide +kernel
theorem dL_law_33 : decode cL_law 33 = .ok (.invokevirtual 46, 3) := by decide +kernel
theorem dL_law_36 : decode cL_law 36 = .ok (.lstore 5, 2) := by decide +kernel
theorem dL_law_38 : decode cL_law 38 = .ok (.aload_n 1, 1) := by decide +kernel
theorem dL_law_39 : decode cL_law 39 = .ok (.iconst 5, 1) := by decide +kernel
theorem dL_law_40 : decode cL_law 40 = .ok (.bipush 6, 2) := by decide +kernel
theorem dL_law_42 : decode cL_law 42 = .ok (.invokevirtual 50, 3) := by decide +kernel
theorem dL_law_45 : decode cL_law 45 = .ok (.istore 7, 2) := by decide +kernel
theorem dL_law_47 : decode cL_law 47 = .ok (.aload_n 1, 1) := by decide +kernel
theorem dL_law_48 : decode cL_law 48 = .ok (.iload 4, 2) := by decide +kernel
theorem dL_law_50 : decode cL_law 50 = .ok (.invokevirtual 53, 3) := by decide +kernel
theorem dL_law_53 : decode cL_law 53 = .ok (.istore 8, 2) := by decide +kernel
theorem dL_law_55 : decode cL_law 55 = .ok (.aload_n 1, 1) := by decide +kernel
theorem dL_law_56 : decode cL_law 56 = .ok (.iconst 3, 1) := by decide +kernel
theorem dL_law_57 : decode cL_law 57 = .ok (.invokevirtual 57, 3) := by decide +kernel
theorem dL_law_60 : decode cL_law 60 = .ok (.istore 9, 2) := by decide +kernel
theorem dL_law_62 : decode cL_law 62 = .ok (.aload_n 1, 1) := by decide +kernel
theorem dL_law_63 : decode cL_law 63 = .ok (.invokevirtual 46, 3) := by decide +kernel
theorem dL_law_66 : decode cL_law 66 = .ok (.lload 5, 2) := by decide +kernel
theorem dL_law_68 : decode cL_law 68 = .ok (.lcmp, 1) := by decide +kernel
theorem dL_law_69 : decode cL_law 69 = .ok (.ifCond .ne 46, 3) := by decide +kernel
theorem dL_law_72 : decode cL_law 72 = .ok (.iload 8, 2) := by decide +kernel
theorem dL_law_74 : decode cL_law 74 = .ok (.ifCond .ne 7, 3) := by decide +kernel
theorem dL_law_77 : decode cL_law 77 = .ok (.iconst 1, 1) := by decide +kernel
theorem dL_law_78 : decode cL_law 78 = .ok (.goto 4, 3) := by decide +kernel
theorem dL_law_81 : decode cL_law 81 = .ok (.iconst 0, 1) := by decide +kernel
theorem dL_law_82 : decode cL_law 82 = .ok (.aload_n 1, 1) := by decide +kernel
theorem dL_law_83 : decode cL_law 83 = .ok (.iload 4, 2) := by decide +kernel
theorem dL_law_85 : decode cL_law 85 = .ok (.iconst 2, 1) := by decide +kernel
theorem dL_law_86 : decode cL_law 86 = .ok (.invokevirtual 60, 3) := by decide +kernel
theorem dL_law_89 : decode cL_law 89 = .ok (.iconst 1, 1) := by decide +kernel
theorem dL_law_90 : decode cL_law 90 = .ok (.if_icmp .ne 7, 3) := by decide +kernel
theorem dL_law_93 : decode cL_law 93 = .ok (.iconst 1, 1) := by decide +kernel
theorem dL_law_94 : decode cL_law 94 = .ok (.goto 4, 3) := by decide +kernel
theorem dL_law_97 : decode cL_law 97 = .ok (.iconst 0, 1) := by decide +kernel
theorem dL_law_98 : decode cL_law 98 = .ok (.if_icmp .ne 17, 3) := by decide +kernel
theorem dL_law_101 : decode cL_law 101 = .ok (.iload 8, 2) := by decide +kernel
theorem dL_law_103 : decode cL_law 103 = .ok (.bipush 96, 2) := by decide +kernel
theorem dL_law_105 : decode cL_law 105 = .ok (.if_icmp .gt 10, 3) := by decide +kernel
theorem dL_law_108 : decode cL_law 108 = .ok (.iload 9, 2) := by decide +kernel
theorem dL_law_110 : decode cL_law 110 = .ok (.bipush 23, 2) := by decide +kernel
theorem dL_law_112 : decode cL_law 112 = .ok (.if_icmp .le 5, 3) := by decide +kernel
theorem dL_law_115 : decode cL_law 115 = .ok (.iconst 0, 1) := by decide +kernel
theorem dL_law_116 : decode cL_law 116 = .ok (.ireturn, 1) := by decide +kernel
theorem dL_law_117 : decode cL_law 117 = .ok (.iload_n 3, 1) := by decide +kernel
theorem dL_law_118 : decode cL_law 118 = .ok (.iconst 5, 1) := by decide +kernel
theorem dL_law_119 : decode cL_law 119 = .ok (.ishr, 1) := by decide +kernel
theorem dL_law_120 : decode cL_law 120 = .ok (.bipush 6, 2) := by decide +kernel
theorem dL_law_122 : decode cL_law 122 = .ok (.invokestatic 31, 3) := by decide +kernel
theorem dL_law_125 : decode cL_law 125 = .ok (.istore 10, 2) := by decide +kernel
theorem dL_law_127 : decode cL_law 127 = .ok (.iload 10, 2) := by decide +kernel
theorem dL_law_129 : decode cL_law 129 = .ok (.ifCond .ne 33, 3) := by decide +kernel
theorem dL_law_132 : decode cL_law 132 = .ok (.aload_n 1, 1) := by decide +kernel
theorem dL_law_133 : decode cL_law 133 = .ok (.iconst 2, 1) := by decide +kernel
theorem dL_law_134 : decode cL_law 134 = .ok (.invokevirtual 63, 3) := by decide +kernel
theorem dL_law_137 : decode cL_law 137 = .ok (.bipush 6, 2) := by decide +kernel
theorem dL_law_139 : decode cL_law 139 = .ok (.if_icmp .ge 23, 3) := by decide +kernel
theorem dL_law_142 : decode cL_law 142 = .ok (.aload_n 1, 1) := by decide +kernel
theorem dL_law_143 : decode cL_law 143 = .ok (.iload 4, 2) := by decide +kernel
theorem dL_law_145 : decode cL_law 145 = .ok (.iconst 4, 1) := by decide +kernel
theorem dL_law_146 : decode cL_law 146 = .ok (.invokevirtual 60, 3) := by decide +kernel
theorem dL_law_149 : decode cL_law 149 = .ok (.ifCond .ge 13, 3) := by decide +kernel
theorem dL_law_152 : decode cL_law 152 = .ok (.aload_n 1, 1) := by decide +kernel
theorem dL_law_153 : decode cL_law 153 = .ok (.iload 4, 2) := by decide +kernel
theorem dL_law_155 : decode cL_law 155 = .ok (.invokevirtual 66, 3) := by decide +kernel
theorem dL_law_158 : decode cL_law 158 = .ok (.pop, 1) := by decide +kernel
theorem dL_law_159 : decode cL_law 159 = .ok (.goto 99, 3) := by decide +kernel
theorem dL_law_162 : decode cL_law 162 = .ok (.iload 10, 2) := by decide +kernel
theorem dL_law_164 : decode cL_law 164 = .ok (.iconst 1, 1) := by decide +kernel
theorem dL_law_165 : decode cL_law 165 = .ok (.if_icmp .ne 23, 3) := by decide +kernel
theorem dL_law_168 : decode cL_law 168 = .ok (.aload_n 1, 1) := by decide +kernel
theorem dL_law_169 : decode cL_law 169 = .ok (.iload 4, 2) := by decide +kernel
theorem dL_law_171 : decode cL_law 171 = .ok (.iconst 4, 1) := by decide +kernel
theorem dL_law_172 : decode cL_law 172 = .ok (.invokevirtual 60, 3) := by decide +kernel
theorem dL_law_175 : decode cL_law 175 = .ok (.ifCond .lt 13, 3) := by decide +kernel
theorem dL_law_178 : decode cL_law 178 = .ok (.aload_n 1, 1) := by decide +kernel
theorem dL_law_179 : decode cL_law 179 = .ok (.iload 4, 2) := by decide +kernel
theorem dL_law_181 : decode cL_law 181 = .ok (.invokevirtual 69, 3) := by decide +kernel
theorem dL_law_184 : decode cL_law 184 = .ok (.pop, 1) := by decide +kernel
theorem dL_law_185 : decode cL_law 185 = .ok (.goto 73, 3) := by decide +kernel
theorem dL_law_188 : decode cL_law 188 = .ok (.iload 10, 2) := by decide +kernel
theorem dL_law_190 : decode cL_law 190 = .ok (.iconst 2, 1) := by decide +kernel
theorem dL_law_191 : decode cL_law 191 = .ok (.if_icmp .ne 19, 3) := by decide +kernel
theorem dL_law_194 : decode cL_law 194 = .ok (.aload_n 1, 1) := by decide +kernel
theorem dL_law_195 : decode cL_law 195 = .ok (.iload_n 3, 1) := by decide +kernel
theorem dL_law_196 : decode cL_law 196 = .ok (.bipush 8, 2) := by decide +kernel
theorem dL_law_198 : decode cL_law 198 = .ok (.ishr, 1) := by decide +kernel
theorem dL_law_199 : decode cL_law 199 = .ok (.iconst 3, 1) := by decide +kernel
theorem dL_law_200 : decode cL_law 200 = .ok (.invokestatic 31, 3) := by decide +kernel
theorem dL_law_203 : decode cL_law 203 = .ok (.invokevirtual 72, 3) := by decide +kernel
theorem dL_law_206 : decode cL_law 206 = .ok (.pop, 1) := by decide +kernel
theorem dL_law_207 : decode cL_law 207 = .ok (.goto 51, 3) := by decide +kernel
theorem dL_law_210 : decode cL_law 210 = .ok (.iload 10, 2) := by decide +kernel
theorem dL_law_212 : decode cL_law 212 = .ok (.iconst 3, 1) := by decide +kernel
theorem dL_law_213 : decode cL_law 213 = .ok (.if_icmp .ne 22, 3) := by decide +kernel
theorem dL_law_216 : decode cL_law 216 = .ok (.aload_n 1, 1) := by decide +kernel
theorem dL_law_217 : decode cL_law 217 = .ok (.iload_n 3, 1) := by decide +kernel
theorem dL_law_218 : decode cL_law 218 = .ok (.bipush 8, 2) := by decide +kernel
theorem dL_law_220 : decode cL_law 220 = .ok (.ishr, 1) := by decide +kernel
theorem dL_law_221 : decode cL_law 221 = .ok (.bipush 12, 2) := by decide +kernel
theorem dL_law_223 : decode cL_law 223 = .ok (.invokestatic 31, 3) := by decide +kernel
theorem dL_law_226 : decode cL_law 226 = .ok (.iload 4, 2) := by decide +kernel
theorem dL_law_228 : decode cL_law 228 = .ok (.invokevirtual 25, 3) := by decide +kernel
theorem dL_law_231 : decode cL_law 231 = .ok (.pop, 1) := by decide +kernel
theorem dL_law_232 : decode cL_law 232 = .ok (.goto 26, 3) := by decide +kernel
theorem dL_law_235 : decode cL_law 235 = .ok (.aload_n 1, 1) := by decide +kernel
theorem dL_law_236 : decode cL_law 236 = .ok (.iconst 5, 1) := by decide +kernel
theorem dL_law_237 : decode cL_law 237 = .ok (.invokevirtual 76, 3) := by decide +kernel
theorem dL_law_240 : decode cL_law 240 = .ok (.bipush (-10), 2) := by decide +kernel
theorem dL_law_242 : decode cL_law 242 = .ok (.if_icmp .lt 14, 3) := by decide +kernel
theorem dL_law_245 : decode cL_law 245 = .ok (.aload_n 1, 1) := by decide +kernel
theorem dL_law_246 : decode cL_law 246 = .ok (.bipush 6, 2) := by decide +kernel
theorem dL_law_248 : decode cL_law 248 = .ok (.invokevirtual 79, 3) := by decide +kernel
theorem dL_law_251 : decode cL_law 251 = .ok (.iload 7, 2) := by decide +kernel
theorem dL_law_253 : decode cL_law 253 = .ok (.if_icmp .eq 5, 3) := by decide +kernel
theorem dL_law_256 : decode cL_law 256 = .ok (.iconst 0, 1) := by decide +kernel
theorem dL_law_257 : decode cL_law 257 = .ok (.ireturn, 1) := by decide +kernel
theorem dL_law_258 : decode cL_law 258 = .ok (.iconst 0, 1) := by decide +kernel
theorem dL_law_259 : decode cL_law 259 = .ok (.istore 11, 2) := by decide +kernel
theorem dL_law_261 : decode cL_law 261 = .ok (.iconst 0, 1) := by decide +kernel
theorem dL_law_262 : decode cL_law 262 = .ok (.istore 12, 2) := by decide +kernel
theorem dL_law_264 : decode cL_law 264 = .ok (.iload 12, 2) := by decide +kernel
theorem dL_law_266 : decode cL_law 266 = .ok (.bipush 24, 2) := by decide +kernel
theorem dL_law_268 : decode cL_law 268 = .ok (.if_icmp .ge 94, 3) := by decide +kernel
theorem dL_law_271 : decode cL_law 271 = .ok (.iload 11, 2) := by decide +kernel
theorem dL_law_273 : decode cL_law 273 = .ok (.aload_n 1, 1) := by decide +kernel
theorem dL_law_274 : decode cL_law 274 = .ok (.iload 12, 2) := by decide +kernel
theorem dL_law_276 : decode cL_law 276 = .ok (.iconst 2, 1) := by decide +kernel
theorem dL_law_277 : decode cL_law 277 = .ok (.invokevirtual 60, 3) := by decide +kernel
theorem dL_law_280 : decode cL_law 280 = .ok (.iadd, 1) := by decide +kernel
theorem dL_law_281 : decode cL_law 281 = .ok (.istore 11, 2) := by decide +kernel
theorem dL_law_283 : decode cL_law 283 = .ok (.aload_n 1, 1) := by decide +kernel
theorem dL_law_284 : decode cL_law 284 = .ok (.iload 12, 2) := by decide +kernel
theorem dL_law_286 : decode cL_law 286 = .ok (.iconst 0, 1) := by decide +kernel
theorem dL_law_287 : decode cL_law 287 = .ok (.invokevirtual 60, 3) := by decide +kernel
theorem dL_law_290 : decode cL_law 290 = .ok (.ifCond .lt 64, 3) := by decide +kernel
theorem dL_law_293 : decode cL_law 293 = .ok (.aload_n 1, 1) := by decide +kernel
theorem dL_law_294 : decode cL_law 294 = .ok (.iload 12, 2) := by decide +kernel
theorem dL_law_296 : decode cL_law 296 = .ok (.iconst 0, 1) := by decide +kernel
theorem dL_law_297 : decode cL_law 297 = .ok (.invokevirtual 60, 3) := by decide +kernel
theorem dL_law_300 : decode cL_law 300 = .ok (.bipush 100, 2) := by decide +kernel
theorem dL_law_302 : decode cL_law 302 = .ok (.if_icmp .gt 52, 3) := by decide +kernel
theorem dL_law_305 : decode cL_law 305 = .ok (.aload_n 1, 1) := by decide +kernel
theorem dL_law_306 : decode cL_law 306 = .ok (.iload 12, 2) := by decide +kernel
theorem dL_law_308 : decode cL_law 308 = .ok (.iconst 1, 1) := by decide +kernel
theorem dL_law_309 : decode cL_law 309 = .ok (.invokevirtual 60, 3) := by decide +kernel
theorem dL_law_312 : decode cL_law 312 = .ok (.ifCond .lt 42, 3) := by decide +kernel
theorem dL_law_315 : decode cL_law 315 = .ok (.aload_n 1, 1) := by decide +kernel
theorem dL_law_316 : decode cL_law 316 = .ok (.iload 12, 2) := by decide +kernel
theorem dL_law_318 : decode cL_law 318 = .ok (.iconst 1, 1) := by decide +kernel
theorem dL_law_319 : decode cL_law 319 = .ok (.invokevirtual 60, 3) := by decide +kernel
theorem dL_law_322 : decode cL_law 322 = .ok (.bipush 9, 2) := by decide +kernel
theorem dL_law_324 : decode cL_law 324 = .ok (.if_icmp .gt 30, 3) := by decide +kernel
theorem dL_law_327 : decode cL_law 327 = .ok (.aload_n 1, 1) := by decide +kernel
theorem dL_law_328 : decode cL_law 328 = .ok (.iload 12, 2) := by decide +kernel
theorem dL_law_330 : decode cL_law 330 = .ok (.iconst 2, 1) := by decide +kernel
theorem dL_law_331 : decode cL_law 331 = .ok (.invokevirtual 60, 3) := by decide +kernel
theorem dL_law_334 : decode cL_law 334 = .ok (.aload_n 1, 1) := by decide +kernel
theorem dL_law_335 : decode cL_law 335 = .ok (.iload 12, 2) := by decide +kernel
theorem dL_law_337 : decode cL_law 337 = .ok (.iconst 0, 1) := by decide +kernel
theorem dL_law_338 : decode cL_law 338 = .ok (.invokevirtual 60, 3) := by decide +kernel
theorem dL_law_341 : decode cL_law 341 = .ok (.bipush 100, 2) := by decide +kernel
theorem dL_law_343 : decode cL_law 343 = .ok (.if_icmp .ne 7, 3) := by decide +kernel
theorem dL_law_346 : decode cL_law 346 = .ok (.iconst 1, 1) := by decide +kernel
theorem dL_law_347 : decode cL_law 347 = .ok (.goto 4, 3) := by decide +kernel
theorem dL_law_350 : decode cL_law 350 = .ok (.iconst 0, 1) := by decide +kernel
theorem dL_law_351 : decode cL_law 351 = .ok (.if_icmp .eq 5, 3) := by decide +kernel
theorem dL_law_354 : decode cL_law 354 = .ok (.iconst 0, 1) := by decide +kernel
theorem dL_law_355 : decode cL_law 355 = .ok (.ireturn, 1) := by decide +kernel
theorem dL_law_356 : decode cL_law 356 = .ok (.iinc 12 1, 3) := by decide +kernel
theorem dL_law_359 : decode cL_law 359 = .ok (.goto (-95), 3) := by decide +kernel
theorem dL_law_362 : decode cL_law 362 = .ok (.iload 11, 2) := by decide +kernel
theorem dL_law_364 : decode cL_law 364 = .ok (.aload_n 1, 1) := by decide +kernel
theorem dL_law_365 : decode cL_law 365 = .ok (.iconst 5, 1) := by decide +kernel
theorem dL_law_366 : decode cL_law 366 = .ok (.invokevirtual 79, 3) := by decide +kernel
theorem dL_law_369 : decode cL_law 369 = .ok (.if_icmp .ne 83, 3) := by decide +kernel
theorem dL_law_372 : decode cL_law 372 = .ok (.aload_n 1, 1) := by decide +kernel
theorem dL_law_373 : decode cL_law 373 = .ok (.iconst 2, 1) := by decide +kernel
theorem dL_law_374 : decode cL_law 374 = .ok (.invokevirtual 79, 3) := by decide +kernel
theorem dL_law_377 : decode cL_law 377 = .ok (.aload_n 1, 1) := by decide +kernel
theorem dL_law_378 : decode cL_law 378 = .ok (.iconst 0, 1) := by decide +kernel
theorem dL_law_379 : decode cL_law 379 = .ok (.iconst 4, 1) := by decide +kernel
theorem dL_law_380 : decode cL_law 380 = .ok (.invokevirtual 82, 3) := by decide +kernel
theorem dL_law_383 : decode cL_law 383 = .ok (.aload_n 1, 1) := by decide +kernel
theorem dL_law_384 : decode cL_law 384 = .ok (.iconst 1, 1) := by decide +kernel
theorem dL_law_385 : decode cL_law 385 = .ok (.iconst 4, 1) := by decide +kernel
theorem dL_law_386 : decode cL_law 386 = .ok (.invokevirtual 82, 3) := by decide +kernel
theorem dL_law_389 : decode cL_law 389 = .ok (.iadd, 1) := by decide +kernel
theorem dL_law_390 : decode cL_law 390 = .ok (.aload_n 1, 1) := by decide +kernel
theorem dL_law_391 : decode cL_law 391 = .ok (.iconst 2, 1) := by decide +kernel
theorem dL_law_392 : decode cL_law 392 = .ok (.iconst 4, 1) := by decide +kernel
theorem dL_law_393 : decode cL_law 393 = .ok (.invokevirtual 82, 3) := by decide +kernel
theorem dL_law_396 : decode cL_law 396 = .ok (.iadd, 1) := by decide +kernel
theorem dL_law_397 : decode cL_law 397 = .ok (.iconst 2, 1) := by decide +kernel
theorem dL_law_398 : decode cL_law 398 = .ok (.aload_n 1, 1) := by decide +kernel
theorem dL_law_399 : decode cL_law 399 = .ok (.iconst 4, 1) := by decide +kernel
theorem dL_law_400 : decode cL_law 400 = .ok (.invokevirtual 63, 3) := by decide +kernel
theorem dL_law_403 : decode cL_law 403 = .ok (.imul, 1) := by decide +kernel
theorem dL_law_404 : decode cL_law 404 = .ok (.isub, 1) := by decide +kernel
theorem dL_law_405 : decode cL_law 405 = .ok (.if_icmp .ne 47, 3) := by decide +kernel
theorem dL_law_408 : decode cL_law 408 = .ok (.aload_n 1, 1) := by decide +kernel
theorem dL_law_409 : decode cL_law 409 = .ok (.iconst 5, 1) := by decide +kernel
theorem dL_law_410 : decode cL_law 410 = .ok (.invokevirtual 63, 3) := by decide +kernel
theorem dL_law_413 : decode cL_law 413 = .ok (.aload_n 1, 1) := by decide +kernel
theorem dL_law_414 : decode cL_law 414 = .ok (.iconst 4, 1) := by decide +kernel
theorem dL_law_415 : decode cL_law 415 = .ok (.invokevirtual 63, 3) := by decide +kernel
theorem dL_law_418 : decode cL_law 418 = .ok (.iconst 2, 1) := by decide +kernel
theorem dL_law_419 : decode cL_law 419 = .ok (.idiv, 1) := by decide +kernel
theorem dL_law_420 : decode cL_law 420 = .ok (.if_icmp .gt 32, 3) := by decide +kernel
theorem dL_law_423 : decode cL_law 423 = .ok (.aload_n 1, 1) := by decide +kernel
theorem dL_law_424 : decode cL_law 424 = .ok (.iconst 3, 1) := by decide +kernel
theorem dL_law_425 : decode cL_law 425 = .ok (.invokevirtual 63, 3) := by decide +kernel
theorem dL_law_428 : decode cL_law 428 = .ok (.aload_n 1, 1) := by decide +kernel
theorem dL_law_429 : decode cL_law 429 = .ok (.iconst 4, 1) := by decide +kernel
theorem dL_law_430 : decode cL_law 430 = .ok (.invokevirtual 63, 3) := by decide +kernel
theorem dL_law_433 : decode cL_law 433 = .ok (.if_icmp .gt 19, 3) := by decide +kernel
theorem dL_law_436 : decode cL_law 436 = .ok (.aload_n 1, 1) := by decide +kernel
theorem dL_law_437 : decode cL_law 437 = .ok (.iconst 2, 1) := by decide +kernel
theorem dL_law_438 : decode cL_law 438 = .ok (.invokevirtual 63, 3) := by decide +kernel
theorem dL_law_441 : decode cL_law 441 = .ok (.ifCond .ne 13, 3) := by decide +kernel
theorem dL_law_444 : decode cL_law 444 = .ok (.aload_n 1, 1) := by decide +kernel
theorem dL_law_445 : decode cL_law 445 = .ok (.iconst 3, 1) := by decide +kernel
theorem dL_law_446 : decode cL_law 446 = .ok (.invokevirtual 63, 3) := by decide +kernel
theorem dL_law_449 : decode cL_law 449 = .ok (.ifCond .eq 5, 3) := by decide +kernel
theorem dL_law_452 : decode cL_law 452 = .ok (.iconst 0, 1) := by decide +kernel
theorem dL_law_453 : decode cL_law 453 = .ok (.ireturn, 1) := by decide +kernel
theorem dL_law_454 : decode cL_law 454 = .ok (.iconst 0, 1) := by decide +kernel
theorem dL_law_455 : decode cL_law 455 = .ok (.istore 12, 2) := by decide +kernel
theorem dL_law_457 : decode cL_law 457 = .ok (.iload 12, 2) := by decide +kernel
theorem dL_law_459 : decode cL_law 459 = .ok (.iconst 3, 1) := by decide +kernel
theorem dL_law_460 : decode cL_law 460 = .ok (.if_icmp .ge 88, 3) := by decide +kernel
theorem dL_law_463 : decode cL_law 463 = .ok (.aload_n 1, 1) := by decide +kernel
theorem dL_law_464 : decode cL_law 464 = .ok (.iload 12, 2) := by decide +kernel
theorem dL_law_466 : decode cL_law 466 = .ok (.iconst 3, 1) := by decide +kernel
theorem dL_law_467 : decode cL_law 467 = .ok (.invokevirtual 82, 3) := by decide +kernel
theorem dL_law_470 : decode cL_law 470 = .ok (.iconst 3, 1) := by decide +kernel
theorem dL_law_471 : decode cL_law 471 = .ok (.aload_n 1, 1) := by decide +kernel
theorem dL_law_472 : decode cL_law 472 = .ok (.iconst 0, 1) := by decide +kernel
theorem dL_law_473 : decode cL_law 473 = .ok (.invokevirtual 79, 3) := by decide +kernel
theorem dL_law_476 : decode cL_law 476 = .ok (.imul, 1) := by decide +kernel
theorem dL_law_477 : decode cL_law 477 = .ok (.if_icmp .gt 63, 3) := by decide +kernel
theorem dL_law_480 : decode cL_law 480 = .ok (.aload_n 1, 1) := by decide +kernel
theorem dL_law_481 : decode cL_law 481 = .ok (.iload 12, 2) := by decide +kernel
theorem dL_law_483 : decode cL_law 483 = .ok (.iconst 5, 1) := by decide +kernel
theorem dL_law_484 : decode cL_law 484 = .ok (.invokevirtual 82, 3) := by decide +kernel
theorem dL_law_487 : decode cL_law 487 = .ok (.aload_n 1, 1) := by decide +kernel
theorem dL_law_488 : decode cL_law 488 = .ok (.iconst 0, 1) := by decide +kernel
theorem dL_law_489 : decode cL_law 489 = .ok (.invokevirtual 79, 3) := by decide +kernel
theorem dL_law_492 : decode cL_law 492 = .ok (.if_icmp .gt 48, 3) := by decide +kernel
theorem dL_law_495 : decode cL_law 495 = .ok (.aload_n 1, 1) := by decide +kernel
theorem dL_law_496 : decode cL_law 496 = .ok (.iload 12, 2) := by decide +kernel
theorem dL_law_498 : decode cL_law 498 = .ok (.bipush 6, 2) := by decide +kernel
theorem dL_law_500 : decode cL_law 500 = .ok (.invokevirtual 82, 3) := by decide +kernel
theorem dL_law_503 : decode cL_law 503 = .ok (.ifCond .ne 7, 3) := by decide +kernel
theorem dL_law_506 : decode cL_law 506 = .ok (.iconst 1, 1) := by decide +kernel
theorem dL_law_507 : decode cL_law 507 = .ok (.goto 4, 3) := by decide +kernel
theorem dL_law_510 : decode cL_law 510 = .ok (.iconst 0, 1) := by decide +kernel
theorem dL_law_511 : decode cL_law 511 = .ok (.aload_n 1, 1) := by decide +kernel
theorem dL_law_512 : decode cL_law 512 = .ok (.aload_n 1, 1) := by decide +kernel
theorem dL_law_513 : decode cL_law 513 = .ok (.iload 12, 2) := by decide +kernel
theorem dL_law_515 : decode cL_law 515 = .ok (.iconst 0, 1) := by decide +kernel
theorem dL_law_516 : decode cL_law 516 = .ok (.invokevirtual 82, 3) := by decide +kernel
theorem dL_law_519 : decode cL_law 519 = .ok (.iconst 1, 1) := by decide +kernel
theorem dL_law_520 : decode cL_law 520 = .ok (.iadd, 1) := by decide +kernel
theorem dL_law_521 : decode cL_law 521 = .ok (.bipush 24, 2) := by decide +kernel
theorem dL_law_523 : decode cL_law 523 = .ok (.irem, 1) := by decide +kernel
theorem dL_law_524 : decode cL_law 524 = .ok (.iconst 2, 1) := by decide +kernel
theorem dL_law_525 : decode cL_law 525 = .ok (.invokevirtual 60, 3) := by decide +kernel
theorem dL_law_528 : decode cL_law 528 = .ok (.iconst 1, 1) := by decide +kernel
theorem dL_law_529 : decode cL_law 529 = .ok (.if_icmp .ne 7, 3) := by decide +kernel
theorem dL_law_532 : decode cL_law 532 = .ok (.iconst 1, 1) := by decide +kernel
theorem dL_law_533 : decode cL_law 533 = .ok (.goto 4, 3) := by decide +kernel
theorem dL_law_536 : decode cL_law 536 = .ok (.iconst 0, 1) := by decide +kernel
theorem dL_law_537 : decode cL_law 537 = .ok (.if_icmp .eq 5, 3) := by decide +kernel
theorem dL_law_540 : decode cL_law 540 = .ok (.iconst 0, 1) := by decide +kernel
theorem dL_law_541 : decode cL_law 541 = .ok (.ireturn, 1) := by decide +kernel
theorem dL_law_542 : decode cL_law 542 = .ok (.iinc 12 1, 3) := by decide +kernel
theorem dL_law_545 : decode cL_law 545 = .ok (.goto (-88), 3) := by decide +kernel
theorem dL_law_548 : decode cL_law 548 = .ok (.iinc 2 1, 3) := by decide +kernel
theorem dL_law_551 : decode cL_law 551 = .ok (.goto (-543), 3) := by decide +kernel
theorem dL_law_554 : decode cL_law 554 = .ok (.iconst 1, 1) := by decide +kernel
theorem dL_law_555 : decode cL_law 555 = .ok (.ireturn, 1) := by decide +kernel

