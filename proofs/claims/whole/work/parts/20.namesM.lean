theorem dX6_thrown_0 : decode cX6_thrown 0 = .ok (.aload_n 0, 1) := by decide +kernel
theorem dX6_thrown_1 : decode cX6_thrown 1 = .ok (.getfield 1, 3) := by decide +kernel
theorem dX6_thrown_4 : decode cX6_thrown 4 = .ok (.ireturn, 1) := by decide +kernel
theorem dX6_no_0 : decode cX6_no 0 = .ok (.aload_n 0, 1) := by decide +kernel
theorem dX6_no_1 : decode cX6_no 1 = .ok (.iload_n 1, 1) := by decide +kernel
theorem dX6_no_2 : decode cX6_no 2 = .ok (.putfield 1, 3) := by decide +kernel
theorem dX6_no_5 : decode cX6_no 5 = .ok (.iconst 0, 1) := by decide +kernel
theorem dX6_no_6 : decode cX6_no 6 = .ok (.ireturn, 1) := by decide +kernel
theorem dX6_isIn_0 : decode cX6_isIn 0 = .ok (.iload_n 0, 1) := by decide +kernel
theorem dX6_isIn_1 : decode cX6_isIn 1 = .ok (.iload_n 1, 1) := by decide +kernel
theorem dX6_isIn_2 : decode cX6_isIn 2 = .ok (.if_icmp .lt 12, 3) := by decide +kernel
theorem dX6_isIn_5 : decode cX6_isIn 5 = .ok (.iload_n 0, 1) := by decide +kernel
theorem dX6_isIn_6 : decode cX6_isIn 6 = .ok (.iload_n 2, 1) := by decide +kernel
theorem dX6_isIn_7 : decode cX6_isIn 7 = .ok (.if_icmp .gt 7, 3) := by decide +kernel
theorem dX6_isIn_10 : decode cX6_isIn 10 = .ok (.iconst 1, 1) := by decide +kernel
theorem dX6_isIn_11 : decode cX6_isIn 11 = .ok (.goto 4, 3) := by decide +kernel
theorem dX6_isIn_14 : decode cX6_isIn 14 = .ok (.iconst 0, 1) := by decide +kernel
theorem dX6_isIn_15 : decode cX6_isIn 15 = .ok (.ireturn, 1) := by decide +kernel
theorem dX6_init_0 : decode cX6_init 0 = .ok (.aload_n 0, 1) := by decide +kernel
theorem dX6_init_1 : decode cX6_init 1 = .ok (.invokespecial 7, 3) := by decide +kernel
theorem dX6_init_4 : decode cX6_init 4 = .ok (.aload_n 0, 1) := by decide +kernel
theorem dX6_init_5 : decode cX6_init 5 = .ok (.iconst 2, 1) := by decide +kernel
theorem dX6_init_6 : decode cX6_init 6 = .ok (.putfield 13, 3) := by decide +kernel
theorem dX6_init_9 : decode cX6_init 9 = .ok (.aload_n 0, 1) := by decide +kernel
theorem dX6_init_10 : decode cX6_init 10 = .ok (.iconst 3, 1) := by decide +kernel
theorem dX6_init_11 : decode cX6_init 11 = .ok (.putfield 16, 3) := by decide +kernel
theorem dX6_init_14 : decode cX6_init 14 = .ok (.aload_n 0, 1) := by decide +kernel
theorem dX6_init_15 : decode cX6_init 15 = .ok (.bipush 8, 2) := by decide +kernel
theorem dX6_init_17 : decode cX6_init 17 = .ok (.newarray .int, 2) := by decide +kernel
theorem dX6_init_19 : decode cX6_init 19 = .ok (.putfield 19, 3) := by decide +kernel
theorem dX6_init_22 : decode cX6_init 22 = .ok (.aload_n 0, 1) := by decide +kernel
theorem dX6_init_23 : decode cX6_init 23 = .ok (.bipush 12, 2) := by decide +kernel
theorem dX6_init_25 : decode cX6_init 25 = .ok (.newarray .int, 2) := by decide +kernel
theorem dX6_init_27 : decode cX6_init 27 = .ok (.putfield 23, 3) := by decide +kernel
theorem dX6_init_30 : decode cX6_init 30 = .ok (.aload_n 0, 1) := by decide +kernel
theorem dX6_init_31 : decode cX6_init 31 = .ok (.bipush 121, 2) := by decide +kernel
theorem dX6_init_33 : decode cX6_init 33 = .ok (.newarray .int, 2) := by decide +kernel
theorem dX6_init_35 : decode cX6_init 35 = .ok (.putfield 26, 3) := by decide +kernel
theorem dX6_init_38 : decode cX6_init 38 = .ok (.aload_n 0, 1) := by decide +kernel
theorem dX6_init_39 : decode cX6_init 39 = .ok (.bipush 121, 2) := by decide +kernel
theorem dX6_init_41 : decode cX6_init 41 = .ok (.newarray .int, 2) := by decide +kernel
theorem dX6_init_43 : decode cX6_init 43 = .ok (.putfield 29, 3) := by decide +kernel
theorem dX6_init_46 : decode cX6_init 46 = .ok (.iconst 0, 1) := by decide +kernel
theorem dX6_init_47 : decode cX6_init 47 = .ok (.istore_n 1, 1) := by decide +kernel
theorem dX6_init_48 : decode cX6_init 48 = .ok (.iload_n 1, 1) := by decide +kernel
theorem dX6_init_49 : decode cX6_init 49 = .ok (.aload_n 0, 1) := by decide +kernel
theorem dX6_init_50 : decode cX6_init 50 = .ok (.getfield 23, 3) := by decide +kernel
theorem dX6_init_53 : decode cX6_init 53 = .ok (.arraylength, 1) := by decide +kernel
theorem dX6_init_54 : decode cX6_init 54 = .ok (.if_icmp .ge 16, 3) := by decide +kernel
theorem dX6_init_57 : decode cX6_init 57 = .ok (.aload_n 0, 1) := by decide +kernel
theorem dX6_init_58 : decode cX6_init 58 = .ok (.getfield 23, 3) := by decide +kernel
theorem dX6_init_61 : decode cX6_init 61 = .ok (.iload_n 1, 1) := by decide +kernel
theorem dX6_init_62 : decode cX6_init 62 = .ok (.iconst (-1), 1) := by decide +kernel
theorem dX6_init_63 : decode cX6_init 63 = .ok (.iastore, 1) := by decide +kernel
theorem dX6_init_64 : decode cX6_init 64 = .ok (.iinc 1 1, 3) := by decide +kernel
theorem dX6_init_67 : decode cX6_init 67 = .ok (.goto (-19), 3) := by decide +kernel
theorem dX6_init_70 : decode cX6_init 70 = .ok (.return_, 1) := by decide +kernel
set_option maxRecDepth 20000 in
theorem ggX6_isSpan_X6_isIn : GoodIn wsX6_isSpan wsX6_isIn := goodIn_r _ [4] (by decide +kernel) (by decide +kernel)
set_option maxRecDepth 20000 in
theorem gX6_isSpan_X6_isIn : GoodIn wsX6_isSpan (va_wsS RX6 32 yX6_isIn wsX6_isIn) := goodIn_app (goodIn_of _ (by decide +kernel)) ggX6_isSpan_X6_isIn
theorem dX6_isSpan_0 : decode cX6_isSpan 0 = .ok (.iload_n 0, 1) := by decide +kernel
theorem dX6_isSpan_1 : decode cX6_isSpan 1 = .ok (.iconst 0, 1) := by decide +kernel
theorem dX6_isSpan_2 : decode cX6_isSpan 2 = .ok (.bipush 23, 2) := by decide +kernel
theorem dX6_isSpan_4 : decode cX6_isSpan 4 = .ok (.invokestatic 32, 3) := by decide +kernel
theorem dX6_isSpan_7 : decode cX6_isSpan 7 = .ok (.ireturn, 1) := by decide +kernel
set_option maxRecDepth 20000 in
theorem ggX6_isBus_X6_isIn : GoodIn wsX6_isBus wsX6_isIn := goodIn_r _ [5] (by decide +kernel) (by decide +kernel)
set_option maxRecDepth 20000 in
theorem gX6_isBus_X6_isIn : GoodIn wsX6_isBus (va_wsS RX6 32 yX6_isIn wsX6_isIn) := goodIn_app (goodIn_of _ (by decide +kernel)) ggX6_isBus_X6_isIn
theorem dX6_isBus_0 : decode cX6_isBus 0 = .ok (.iload_n 1, 1) := by decide +kernel
theorem dX6_isBus_1 : decode cX6_isBus 1 = .ok (.iconst 0, 1) := by decide +kernel
theorem dX6_isBus_2 : decode cX6_isBus 2 = .ok (.aload_n 0, 1) := by decide +kernel
theorem dX6_isBus_3 : decode cX6_isBus 3 = .ok (.getfield 36, 3) := by decide +kernel
theorem dX6_isBus_6 : decode cX6_isBus 6 = .ok (.iconst 1, 1) := by decide +kernel
theorem dX6_isBus_7 : decode cX6_isBus 7 = .ok (.isub, 1) := by decide +kernel
theorem dX6_isBus_8 : decode cX6_isBus 8 = .ok (.invokestatic 32, 3) := by decide +kernel
theorem dX6_isBus_11 : decode cX6_isBus 11 = .ok (.ireturn, 1) := by decide +kernel
theorem dX6_isNight_0 : decode cX6_isNight 0 = .ok (.iload_n 0, 1) := by decide +kernel
theorem dX6_isNight_1 : decode cX6_isNight 1 = .ok (.bipush 24, 2) := by decide +kernel
theorem dX6_isNight_3 : decode cX6_isNight 3 = .ok (.irem, 1) := by decide +kernel
theorem dX6_isNight_4 : decode cX6_isNight 4 = .ok (.bipush 6, 2) := by decide +kernel
theorem dX6_isNight_6 : decode cX6_isNight 6 = .ok (.if_icmp .lt 12, 3) := by decide +kernel
theorem dX6_isNight_9 : decode cX6_isNight 9 = .ok (.iload_n 0, 1) := by decide +kernel
theorem dX6_isNight_10 : decode cX6_isNight 10 = .ok (.bipush 24, 2) := by decide +kernel
theorem dX6_isNight_12 : decode cX6_isNight 12 = .ok (.irem, 1) := by decide +kernel
theorem dX6_isNight_13 : decode cX6_isNight 13 = .ok (.bipush 19, 2) := by decide +kernel
theorem dX6_isNight_15 : decode cX6_isNight 15 = .ok (.if_icmp .le 7, 3) := by decide +kernel
theorem dX6_isNight_18 : decode cX6_isNight 18 = .ok (.iconst 1, 1) := by decide +kernel
theorem dX6_isNight_19 : decode cX6_isNight 19 = .ok (.goto 4, 3) := by decide +kernel
theorem dX6_isNight_22 : decode cX6_isNight 22 = .ok (.iconst 0, 1) := by decide +kernel
theorem dX6_isNight_23 : decode cX6_isNight 23 = .ok (.ireturn, 1) := by decide +kernel
theorem dX6_put_0 : decode cX6_put 0 = .ok (.aload_n 0, 1) := by decide +kernel
theorem dX6_put_1 : decode cX6_put 1 = .ok (.iload_n 1, 1) := by decide +kernel
theorem dX6_put_2 : decode cX6_put 2 = .ok (.iaload, 1) := by decide +kernel
theorem dX6_put_3 : decode cX6_put 3 = .ok (.istore_n 3, 1) := by decide +kernel
theorem dX6_put_4 : decode cX6_put 4 = .ok (.aload_n 0, 1) := by decide +kernel
theorem dX6_put_5 : decode cX6_put 5 = .ok (.iload_n 1, 1) := by decide +kernel
theorem dX6_put_6 : decode cX6_put 6 = .ok (.iload_n 2, 1) := by decide +kernel
theorem dX6_put_7 : decode cX6_put 7 = .ok (.iastore, 1) := by decide +kernel
theorem dX6_put_8 : decode cX6_put 8 = .ok (.iload_n 3, 1) := by decide +kernel
theorem dX6_put_9 : decode cX6_put 9 = .ok (.ireturn, 1) := by decide +kernel
set_option maxRecDepth 20000 in
theorem ggX6_setCold_X6_isIn : GoodIn wsX6_setCold wsX6_isIn := goodIn_r _ [6] (by decide +kernel) (by decide +kernel)
set_option maxRecDepth 20000 in
theorem gX6_setCold_X6_isIn : GoodIn wsX6_setCold (va_wsS RX6 32 yX6_isIn wsX6_isIn) := goodIn_app (goodIn_of _ (by decide +kernel)) ggX6_setCold_X6_isIn
set_option maxRecDepth 20000 in
theorem ggX6_setCold_X6_no : GoodIn wsX6_setCold wsX6_no := goodIn_r _ [10, 1, 14, 15, 16, 17, 18, 19, 20, 21] (by decide +kernel) (by decide +kernel)
set_option maxRecDepth 20000 in
theorem gX6_setCold_X6_no : GoodIn wsX6_setCold (wsV RX6 39 RX6 yX6_no wsX6_no) := goodIn_app (goodIn_of _ (by decide +kernel)) ggX6_setCold_X6_no
set_option maxRecDepth 20000 in
theorem ggX6_setCold_X6_put : GoodIn wsX6_setCold wsX6_put := goodIn_r _ [13] (by decide +kernel) (by decide +kernel)
set_option maxRecDepth 20000 in
theorem gX6_setCold_X6_put : GoodIn wsX6_setCold (va_wsS RX6 43 yX6_put wsX6_put) := goodIn_app (goodIn_of _ (by decide +kernel)) ggX6_setCold_X6_put
theorem dX6_setCold_0 : decode cX6_setCold 0 = .ok (.aload_n 0, 1) := by decide +kernel
theorem dX6_setCold_1 : decode cX6_setCold 1 = .ok (.iconst 0, 1) := by decide +kernel
theorem dX6_setCold_2 : decode cX6_setCold 2 = .ok (.putfield 1, 3) := by decide +kernel
theorem dX6_setCold_5 : decode cX6_setCold 5 = .ok (.iload_n 1, 1) := by decide +kernel
theorem dX6_setCold_6 : decode cX6_setCold 6 = .ok (.iconst 0, 1) := by decide +kernel
theorem dX6_setCold_7 : decode cX6_setCold 7 = .ok (.bipush 7, 2) := by decide +kernel
theorem dX6_setCold_9 : decode cX6_setCold 9 = .ok (.invokestatic 32, 3) := by decide +kernel
theorem dX6_setCold_12 : decode cX6_setCold 12 = .ok (.ifCond .ne 9, 3) := by decide +kernel
theorem dX6_setCold_15 : decode cX6_setCold 15 = .ok (.aload_n 0, 1) := by decide +kernel
theorem dX6_setCold_16 : decode cX6_setCold 16 = .ok (.iconst 1, 1) := by decide +kernel
theorem dX6_setCold_17 : decode cX6_setCold 17 = .ok (.invokevirtual 39, 3) := by decide +kernel
theorem dX6_setCold_20 : decode cX6_setCold 20 = .ok (.ireturn, 1) := by decide +kernel
theorem dX6_setCold_21 : decode cX6_setCold 21 = .ok (.iload_n 2, 1) := by decide +kernel
theorem dX6_setCold_22 : decode cX6_setCold 22 = .ok (.iconst 0, 1) := by decide +kernel
theorem dX6_setCold_23 : decode cX6_setCold 23 = .ok (.iconst 3, 1) := by decide +kernel
theorem dX6_setCold_24 : decode cX6_setCold 24 = .ok (.invokestatic 32, 3) := by decide +kernel
theorem dX6_setCold_27 : decode cX6_setCold 27 = .ok (.ifCond .eq 15, 3) := by decide +kernel
theorem dX6_setCold_30 : decode cX6_setCold 30 = .ok (.aload_n 0, 1) := by decide +kernel
theorem dX6_setCold_31 : decode cX6_setCold 31 = .ok (.getfield 19, 3) := by decide +kernel
theorem dX6_setCold_34 : decode cX6_setCold 34 = .ok (.iload_n 1, 1) := by decide +kernel
theorem dX6_setCold_35 : decode cX6_setCold 35 = .ok (.iload_n 2, 1) := by decide +kernel
theorem dX6_setCold_36 : decode cX6_setCold 36 = .ok (.invokestatic 43, 3) := by decide +kernel
theorem dX6_setCold_39 : decode cX6_setCold 39 = .ok (.goto 8, 3) := by decide +kernel
theorem dX6_setCold_42 : decode cX6_setCold 42 = .ok (.aload_n 0, 1) := by decide +kernel
theorem dX6_setCold_43 : decode cX6_setCold 43 = .ok (.iconst 2, 1) := by decide +kernel
theorem dX6_setCold_44 : decode cX6_setCold 44 = .ok (.invokevirtual 39, 3) := by decide +kernel
theorem dX6_setCold_47 : decode cX6_setCold 47 = .ok (.ireturn, 1) := by decide +kernel
set_option maxRecDepth 20000 in
theorem ggX6_setSwan_X6_isIn : GoodIn wsX6_setSwan wsX6_isIn := goodIn_r _ [6] (by decide +kernel) (by decide +kernel)
set_option maxRecDepth 20000 in
theorem gX6_setSwan_X6_isIn : GoodIn wsX6_setSwan (va_wsS RX6 32 yX6_isIn wsX6_isIn) := goodIn_app (goodIn_of _ (by decide +kernel)) ggX6_setSwan_X6_isIn
set_option maxRecDepth 20000 in
theorem ggX6_setSwan_X6_no : GoodIn wsX6_setSwan wsX6_no := goodIn_r _ [10, 1, 14, 15, 16, 17, 18, 19, 20, 21] (by decide +kernel) (by decide +kernel)
set_option maxRecDepth 20000 in
theorem gX6_setSwan_X6_no : GoodIn wsX6_setSwan (wsV RX6 39 RX6 yX6_no wsX6_no) := goodIn_app (goodIn_of _ (by decide +kernel)) ggX6_setSwan_X6_no
set_option maxRecDepth 20000 in
theorem ggX6_setSwan_X6_put : GoodIn wsX6_setSwan wsX6_put := goodIn_r _ [13] (by decide +kernel) (by decide +kernel)
set_option maxRecDepth 20000 in
theorem gX6_setSwan_X6_put : GoodIn wsX6_setSwan (va_wsS RX6 43 yX6_put wsX6_put) := goodIn_app (goodIn_of _ (by decide +kernel)) ggX6_setSwan_X6_put
theorem dX6_setSwan_0 : decode cX6_setSwan 0 = .ok (.aload_n 0, 1) := by decide +kernel
theorem dX6_setSwan_1 : decode cX6_setSwan 1 = .ok (.iconst 0, 1) := by decide +kernel
theorem dX6_setSwan_2 : decode cX6_setSwan 2 = .ok (.putfield 1, 3) := by decide +kernel
theorem dX6_setSwan_5 : decode cX6_setSwan 5 = .ok (.iload_n 1, 1) := by decide +kernel
theorem dX6_setSwan_6 : decode cX6_setSwan 6 = .ok (.iconst 0, 1) := by decide +kernel
theorem dX6_setSwan_7 : decode cX6_setSwan 7 = .ok (.bipush 11, 2) := by decide +kernel
theorem dX6_setSwan_9 : decode cX6_setSwan 9 = .ok (.invokestatic 32, 3) := by decide +kernel
theorem dX6_setSwan_12 : decode cX6_setSwan 12 = .ok (.ifCond .ne 9, 3) := by decide +kernel
theorem dX6_setSwan_15 : decode cX6_setSwan 15 = .ok (.aload_n 0, 1) := by decide +kernel
theorem dX6_setSwan_16 : decode cX6_setSwan 16 = .ok (.iconst 1, 1) := by decide +kernel
theorem dX6_setSwan_17 : decode cX6_setSwan 17 = .ok (.invokevirtual 39, 3) := by decide +kernel
theorem dX6_setSwan_20 : decode cX6_setSwan 20 = .ok (.ireturn, 1) := by decide +kernel
theorem dX6_setSwan_21 : decode cX6_setSwan 21 = .ok (.iload_n 2, 1) := by decide +kernel
theorem dX6_setSwan_22 : decode cX6_setSwan 22 = .ok (.iconst (-1), 1) := by decide +kernel
theorem dX6_setSwan_23 : decode cX6_setSwan 23 = .ok (.bipush 23, 2) := by decide +kernel
theorem dX6_setSwan_25 : decode cX6_setSwan 25 = .ok (.invokestatic 32, 3) := by decide +kernel
theorem dX6_setSwan_28 : decode cX6_setSwan 28 = .ok (.ifCond .eq 15, 3) := by decide +kernel
theorem dX6_setSwan_31 : decode cX6_setSwan 31 = .ok (.aload_n 0, 1) := by decide +kernel
theorem dX6_setSwan_32 : decode cX6_setSwan 32 = .ok (.getfield 23, 3) := by decide +kernel
theorem dX6_setSwan_35 : decode cX6_setSwan 35 = .ok (.iload_n 1, 1) := by decide +kernel
theorem dX6_setSwan_36 : decode cX6_setSwan 36 = .ok (.iload_n 2, 1) := by decide +kernel
theorem dX6_setSwan_37 : decode cX6_setSwan 37 = .ok (.invokestatic 43, 3) := by decide +kernel
theorem dX6_setSwan_40 : decode cX6_setSwan 40 = .ok (.goto 8, 3) := by decide +kernel
theorem dX6_setSwan_43 : decode cX6_setSwan 43 = .ok (.aload_n 0, 1) := by decide +kernel
theorem dX6_setSwan_44 : decode cX6_setSwan 44 = .ok (.iconst 2, 1) := by decide +kernel
theorem dX6_setSwan_45 : decode cX6_setSwan 45 = .ok (.invokevirtual 39, 3) := by decide +kernel
theorem dX6_setSwan_48 : decode cX6_setSwan 48 = .ok (.ireturn, 1) := by decide +kernel
set_option maxRecDepth 20000 in
theorem ggX6_setFare_X6_isIn : GoodIn wsX6_setFare wsX6_isIn := goodIn_r _ [7] (by decide +kernel) (by decide +kernel)
set_option maxRecDepth 20000 in
theorem gX6_setFare_X6_isIn : GoodIn wsX6_setFare (va_wsS RX6 32 yX6_isIn wsX6_isIn) := goodIn_app (goodIn_of _ (by decide +kernel)) ggX6_setFare_X6_isIn
set_option maxRecDepth 20000 in
theorem ggX6_setFare_X6_no : GoodIn wsX6_setFare wsX6_no := goodIn_r _ [11, 1, 12, 13, 14, 15, 16, 17, 18, 19] (by decide +kernel) (by decide +kernel)
set_option maxRecDepth 20000 in
theorem gX6_setFare_X6_no : GoodIn wsX6_setFare (wsV RX6 39 RX6 yX6_no wsX6_no) := goodIn_app (goodIn_of _ (by decide +kernel)) ggX6_setFare_X6_no
theorem dX6_setFare_0 : decode cX6_setFare 0 = .ok (.aload_n 0, 1) := by decide +kernel
theorem dX6_setFare_1 : decode cX6_setFare 1 = .ok (.iconst 0, 1) := by decide +kernel
theorem dX6_setFare_2 : decode cX6_setFare 2 = .ok (.putfield 1, 3) := by decide +kernel
theorem dX6_setFare_5 : decode cX6_setFare 5 = .ok (.iload_n 2, 1) := by decide +kernel
theorem dX6_setFare_6 : decode cX6_setFare 6 = .ok (.iconst 0, 1) := by decide +kernel
theorem dX6_setFare_7 : decode cX6_setFare 7 = .ok (.bipush 9, 2) := by decide +kernel
theorem dX6_setFare_9 : decode cX6_setFare 9 = .ok (.invokestatic 32, 3) := by decide +kernel
theorem dX6_setFare_12 : decode cX6_setFare 12 = .ok (.ifCond .ne 9, 3) := by decide +kernel
theorem dX6_setFare_15 : decode cX6_setFare 15 = .ok (.aload_n 0, 1) := by decide +kernel
theorem dX6_setFare_16 : decode cX6_setFare 16 = .ok (.iconst 1, 1) := by decide +kernel
theorem dX6_setFare_17 : decode cX6_setFare 17 = .ok (.invokevirtual 39, 3) := by decide +kernel
theorem dX6_setFare_20 : decode cX6_setFare 20 = .ok (.ireturn, 1) := by decide +kernel
theorem dX6_setFare_21 : decode cX6_setFare 21 = .ok (.iload_n 1, 1) := by decide +kernel
theorem dX6_setFare_22 : decode cX6_setFare 22 = .ok (.ifCond .eq 10, 3) := by decide +kernel
theorem dX6_setFare_25 : decode cX6_setFare 25 = .ok (.aload_n 0, 1) := by decide +kernel
theorem dX6_setFare_26 : decode cX6_setFare 26 = .ok (.getfield 16, 3) := by decide +kernel
theorem dX6_setFare_29 : decode cX6_setFare 29 = .ok (.goto 7, 3) := by decide +kernel
theorem dX6_setFare_32 : decode cX6_setFare 32 = .ok (.aload_n 0, 1) := by decide +kernel
theorem dX6_setFare_33 : decode cX6_setFare 33 = .ok (.getfield 13, 3) := by decide +kernel
theorem dX6_setFare_36 : decode cX6_setFare 36 = .ok (.istore_n 3, 1) := by decide +kernel
theorem dX6_setFare_37 : decode cX6_setFare 37 = .ok (.iload_n 1, 1) := by decide +kernel
theorem dX6_setFare_38 : decode cX6_setFare 38 = .ok (.ifCond .eq 11, 3) := by decide +kernel
theorem dX6_setFare_41 : decode cX6_setFare 41 = .ok (.aload_n 0, 1) := by decide +kernel
theorem dX6_setFare_42 : decode cX6_setFare 42 = .ok (.iload_n 2, 1) := by decide +kernel
theorem dX6_setFare_43 : decode cX6_setFare 43 = .ok (.putfield 16, 3) := by decide +kernel
theorem dX6_setFare_46 : decode cX6_setFare 46 = .ok (.goto 8, 3) := by decide +kernel
theorem dX6_setFare_49 : decode cX6_setFare 49 = .ok (.aload_n 0, 1) := by decide +kernel
theorem dX6_setFare_50 : decode cX6_setFare 50 = .ok (.iload_n 2, 1) := by decide +kernel
theorem dX6_setFare_51 : decode cX6_setFare 51 = .ok (.putfield 13, 3) := by decide +kernel
theorem dX6_setFare_54 : decode cX6_setFare 54 = .ok (.iload_n 3, 1) := by decide +kernel
theorem dX6_setFare_55 : decode cX6_setFare 55 = .ok (.ireturn, 1) := by decide +kernel
set_option maxRecDepth 20000 in
theorem ggX6_bus_X6_isSpan : GoodIn wsX6_bus wsX6_isSpan := goodIn_r _ [7, 8, 9, 6, 10] (by decide +kernel) (by decide +kernel)
set_option maxRecDepth 20000 in
theorem gX6_bus_X6_isSpan : GoodIn wsX6_bus (va_wsS RX6 47 yX6_isSpan wsX6_isSpan) := goodIn_app (goodIn_of _ (by decide +kernel)) ggX6_bus_X6_isSpan
set_option maxRecDepth 20000 in
theorem ggX6_bus_X6_no : GoodIn wsX6_bus wsX6_no := goodIn_r _ [14, 1, 15, 16, 17, 18, 19, 20, 21, 22] (by decide +kernel) (by decide +kernel)
set_option maxRecDepth 20000 in
theorem gX6_bus_X6_no : GoodIn wsX6_bus (wsV RX6 39 RX6 yX6_no wsX6_no) := goodIn_app (goodIn_of _ (by decide +kernel)) ggX6_bus_X6_no
theorem dX6_bus_0 : decode cX6_bus 0 = .ok (.aload_n 0, 1) := by decide +kernel
theorem dX6_bus_1 : decode cX6_bus 1 = .ok (.iconst 0, 1) := by decide +kernel
theorem dX6_bus_2 : decode cX6_bus 2 = .ok (.putfield 1, 3) := by decide +kernel
theorem dX6_bus_5 : decode cX6_bus 5 = .ok (.iload_n 1, 1) := by decide +kernel
theorem dX6_bus_6 : decode cX6_bus 6 = .ok (.invokestatic 47, 3) := by decide +kernel
theorem dX6_bus_9 : decode cX6_bus 9 = .ok (.ifCond .ne 9, 3) := by decide +kernel
theorem dX6_bus_12 : decode cX6_bus 12 = .ok (.aload_n 0, 1) := by decide +kernel
theorem dX6_bus_13 : decode cX6_bus 13 = .ok (.iconst 1, 1) := by decide +kernel
theorem dX6_bus_14 : decode cX6_bus 14 = .ok (.invokevirtual 39, 3) := by decide +kernel
theorem dX6_bus_17 : decode cX6_bus 17 = .ok (.ireturn, 1) := by decide +kernel
theorem dX6_bus_18 : decode cX6_bus 18 = .ok (.aload_n 0, 1) := by decide +kernel
theorem dX6_bus_19 : decode cX6_bus 19 = .ok (.getfield 36, 3) := by decide +kernel
theorem dX6_bus_22 : decode cX6_bus 22 = .ok (.bipush 6, 2) := by decide +kernel
theorem dX6_bus_24 : decode cX6_bus 24 = .ok (.if_icmp .ne 9, 3) := by decide +kernel
theorem dX6_bus_27 : decode cX6_bus 27 = .ok (.aload_n 0, 1) := by decide +kernel
theorem dX6_bus_28 : decode cX6_bus 28 = .ok (.iconst 2, 1) := by decide +kernel
theorem dX6_bus_29 : decode cX6_bus 29 = .ok (.invokevirtual 39, 3) := by decide +kernel
theorem dX6_bus_32 : decode cX6_bus 32 = .ok (.ireturn, 1) := by decide +kernel
theorem dX6_bus_33 : decode cX6_bus 33 = .ok (.bipush 72, 2) := by decide +kernel
theorem dX6_bus_35 : decode cX6_bus 35 = .ok (.bipush 6, 2) := by decide +kernel
theorem dX6_bus_37 : decode cX6_bus 37 = .ok (.aload_n 0, 1) := by decide +kernel
theorem dX6_bus_38 : decode cX6_bus 38 = .ok (.getfield 36, 3) := by decide +kernel
theorem dX6_bus_41 : decode cX6_bus 41 = .ok (.imul, 1) := by decide +kernel
theorem dX6_bus_42 : decode cX6_bus 42 = .ok (.iadd, 1) := by decide +kernel
theorem dX6_bus_43 : decode cX6_bus 43 = .ok (.istore_n 3, 1) := by decide +kernel
theorem dX6_bus_44 : decode cX6_bus 44 = .ok (.aload_n 0, 1) := by decide +kernel
theorem dX6_bus_45 : decode cX6_bus 45 = .ok (.getfield 26, 3) := by decide +kernel
theorem dX6_bus_48 : decode cX6_bus 48 = .ok (.iload_n 3, 1) := by decide +kernel
theorem dX6_bus_49 : decode cX6_bus 49 = .ok (.iload_n 1, 1) := by decide +kernel
theorem dX6_bus_50 : decode cX6_bus 50 = .ok (.iastore, 1) := by decide +kernel
theorem dX6_bus_51 : decode cX6_bus 51 = .ok (.aload_n 0, 1) := by decide +kernel
theorem dX6_bus_52 : decode cX6_bus 52 = .ok (.getfield 26, 3) := by decide +kernel
theorem dX6_bus_55 : decode cX6_bus 55 = .ok (.iload_n 3, 1) := by decide +kernel
theorem dX6_bus_56 : decode cX6_bus 56 = .ok (.iconst 1, 1) := by decide +kernel
theorem dX6_bus_57 : decode cX6_bus 57 = .ok (.iadd, 1) := by decide +kernel
theorem dX6_bus_58 : decode cX6_bus 58 = .ok (.iload_n 2, 1) := by decide +kernel
theorem dX6_bus_59 : decode cX6_bus 59 = .ok (.ifCond .eq 7, 3) := by decide +kernel
theorem dX6_bus_62 : decode cX6_bus 62 = .ok (.iconst 1, 1) := by decide +kernel
theorem dX6_bus_63 : decode cX6_bus 63 = .ok (.goto 4, 3) := by decide +kernel
theorem dX6_bus_66 : decode cX6_bus 66 = .ok (.iconst 0, 1) := by decide +kernel
theorem dX6_bus_67 : decode cX6_bus 67 = .ok (.iastore, 1) := by decide +kernel
theorem dX6_bus_68 : decode cX6_bus 68 = .ok (.aload_n 0, 1) := by decide +kernel
theorem dX6_bus_69 : decode cX6_bus 69 = .ok (.getfield 26, 3) := by decide +kernel
theorem dX6_bus_72 : decode cX6_bus 72 = .ok (.iload_n 3, 1) := by decide +kernel
theorem dX6_bus_73 : decode cX6_bus 73 = .ok (.iconst 2, 1) := by decide +kernel
theorem dX6_bus_74 : decode cX6_bus 74 = .ok (.iadd, 1) := by decide +kernel
theorem dX6_bus_75 : decode cX6_bus 75 = .ok (.iconst 1, 1) := by decide +kernel
theorem dX6_bus_76 : decode cX6_bus 76 = .ok (.iastore, 1) := by decide +kernel
theorem dX6_bus_77 : decode cX6_bus 77 = .ok (.aload_n 0, 1) := by decide +kernel
theorem dX6_bus_78 : decode cX6_bus 78 = .ok (.dup, 1) := by decide +kernel
theorem dX6_bus_79 : decode cX6_bus 79 = .ok (.getfield 36, 3) := by decide +kernel
theorem dX6_bus_82 : decode cX6_bus 82 = .ok (.iconst 1, 1) := by decide +kernel
theorem dX6_bus_83 : decode cX6_bus 83 = .ok (.iadd, 1) := by decide +kernel
theorem dX6_bus_84 : decode cX6_bus 84 = .ok (.putfield 36, 3) := by decide +kernel
theorem dX6_bus_87 : decode cX6_bus 87 = .ok (.aload_n 0, 1) := by decide +kernel
theorem dX6_bus_88 : decode cX6_bus 88 = .ok (.getfield 36, 3) := by decide +kernel
theorem dX6_bus_91 : decode cX6_bus 91 = .ok (.iconst 1, 1) := by decide +kernel
theorem dX6_bus_92 : decode cX6_bus 92 = .ok (.isub, 1) := by decide +kernel
theorem dX6_bus_93 : decode cX6_bus 93 = .ok (.ireturn, 1) := by decide +kernel
set_option maxRecDepth 20000 in
theorem ggX6_fit_X6_isBus : GoodIn wsX6_fit wsX6_isBus := goodIn_r _ [7, 8, 9, 10, 6, 11, 16, 17, 18, 19, 20, 21, 22, 23] (by decide +kernel) (by decide +kernel)
set_option maxRecDepth 20000 in
theorem gX6_fit_X6_isBus : GoodIn wsX6_fit (wsV RX6 51 RX6 yX6_isBus wsX6_isBus) := goodIn_app (goodIn_of _ (by decide +kernel)) ggX6_fit_X6_isBus
set_option maxRecDepth 20000 in
theorem ggX6_fit_X6_no : GoodIn wsX6_fit wsX6_no := goodIn_r _ [15, 1, 16, 17, 18, 19, 20, 21, 22, 23] (by decide +kernel) (by decide +kernel)
set_option maxRecDepth 20000 in
theorem gX6_fit_X6_no : GoodIn wsX6_fit (wsV RX6 39 RX6 yX6_no wsX6_no) := goodIn_app (goodIn_of _ (by decide +kernel)) ggX6_fit_X6_no
theorem dX6_fit_0 : decode cX6_fit 0 = .ok (.aload_n 0, 1) := by decide +kernel
theorem dX6_fit_1 : decode cX6_fit 1 = .ok (.iconst 0, 1) := by decide +kernel
theorem dX6_fit_2 : decode cX6_fit 2 = .ok (.putfield 1, 3) := by decide +kernel
theorem dX6_fit_5 : decode cX6_fit 5 = .ok (.aload_n 0, 1) := by decide +kernel
theorem dX6_fit_6 : decode cX6_fit 6 = .ok (.iload_n 1, 1) := by decide +kernel
theorem dX6_fit_7 : decode cX6_fit 7 = .ok (.invokevirtual 51, 3) := by decide +kernel
theorem dX6_fit_10 : decode cX6_fit 10 = .ok (.ifCond .eq 11, 3) := by decide +kernel
theorem dX6_fit_13 : decode cX6_fit 13 = .ok (.aload_n 0, 1) := by decide +kernel
theorem dX6_fit_14 : decode cX6_fit 14 = .ok (.iload_n 2, 1) := by decide +kernel
theorem dX6_fit_15 : decode cX6_fit 15 = .ok (.invokevirtual 51, 3) := by decide +kernel
theorem dX6_fit_18 : decode cX6_fit 18 = .ok (.ifCond .ne 9, 3) := by decide +kernel
theorem dX6_fit_21 : decode cX6_fit 21 = .ok (.aload_n 0, 1) := by decide +kernel
theorem dX6_fit_22 : decode cX6_fit 22 = .ok (.iconst 1, 1) := by decide +kernel
theorem dX6_fit_23 : decode cX6_fit 23 = .ok (.invokevirtual 39, 3) := by decide +kernel
theorem dX6_fit_26 : decode cX6_fit 26 = .ok (.ireturn, 1) := by decide +kernel
theorem dX6_fit_27 : decode cX6_fit 27 = .ok (.aload_n 0, 1) := by decide +kernel
theorem dX6_fit_28 : decode cX6_fit 28 = .ok (.getfield 26, 3) := by decide +kernel
theorem dX6_fit_31 : decode cX6_fit 31 = .ok (.bipush 72, 2) := by decide +kernel
theorem dX6_fit_33 : decode cX6_fit 33 = .ok (.bipush 6, 2) := by decide +kernel
theorem dX6_fit_35 : decode cX6_fit 35 = .ok (.iload_n 1, 1) := by decide +kernel
theorem dX6_fit_36 : decode cX6_fit 36 = .ok (.imul, 1) := by decide +kernel
theorem dX6_fit_37 : decode cX6_fit 37 = .ok (.iadd, 1) := by decide +kernel
theorem dX6_fit_38 : decode cX6_fit 38 = .ok (.iconst 1, 1) := by decide +kernel
theorem dX6_fit_39 : decode cX6_fit 39 = .ok (.iadd, 1) := by decide +kernel
theorem dX6_fit_40 : decode cX6_fit 40 = .ok (.iaload, 1) := by decide +kernel
theorem dX6_fit_41 : decode cX6_fit 41 = .ok (.ifCond .eq 21, 3) := by decide +kernel
theorem dX6_fit_44 : decode cX6_fit 44 = .ok (.aload_n 0, 1) := by decide +kernel
theorem dX6_fit_45 : decode cX6_fit 45 = .ok (.getfield 26, 3) := by decide +kernel
theorem dX6_fit_48 : decode cX6_fit 48 = .ok (.bipush 72, 2) := by decide +kernel
theorem dX6_fit_50 : decode cX6_fit 50 = .ok (.bipush 6, 2) := by decide +kernel
theorem dX6_fit_52 : decode cX6_fit 52 = .ok (.iload_n 2, 1) := by decide +kernel
theorem dX6_fit_53 : decode cX6_fit 53 = .ok (.imul, 1) := by decide +kernel
theorem dX6_fit_54 : decode cX6_fit 54 = .ok (.iadd, 1) := by decide +kernel
theorem dX6_fit_55 : decode cX6_fit 55 = .ok (.iconst 1, 1) := by decide +kernel
theorem dX6_fit_56 : decode cX6_fit 56 = .ok (.iadd, 1) := by decide +kernel
theorem dX6_fit_57 : decode cX6_fit 57 = .ok (.iaload, 1) := by decide +kernel
theorem dX6_fit_58 : decode cX6_fit 58 = .ok (.iconst 1, 1) := by decide +kernel
theorem dX6_fit_59 : decode cX6_fit 59 = .ok (.if_icmp .ne 9, 3) := by decide +kernel
theorem dX6_fit_62 : decode cX6_fit 62 = .ok (.aload_n 0, 1) := by decide +kernel
theorem dX6_fit_63 : decode cX6_fit 63 = .ok (.iconst 2, 1) := by decide +kernel
theorem dX6_fit_64 : decode cX6_fit 64 = .ok (.invokevirtual 39, 3) := by decide +kernel
theorem dX6_fit_67 : decode cX6_fit 67 = .ok (.ireturn, 1) := by decide +kernel
theorem dX6_fit_68 : decode cX6_fit 68 = .ok (.aload_n 0, 1) := by decide +kernel
theorem dX6_fit_69 : decode cX6_fit 69 = .ok (.getfield 26, 3) := by decide +kernel
theorem dX6_fit_72 : decode cX6_fit 72 = .ok (.bipush 72, 2) := by decide +kernel
theorem dX6_fit_74 : decode cX6_fit 74 = .ok (.bipush 6, 2) := by decide +kernel
theorem dX6_fit_76 : decode cX6_fit 76 = .ok (.iload_n 1, 1) := by decide +kernel
theorem dX6_fit_77 : decode cX6_fit 77 = .ok (.imul, 1) := by decide +kernel
theorem dX6_fit_78 : decode cX6_fit 78 = .ok (.iadd, 1) := by decide +kernel
theorem dX6_fit_79 : decode cX6_fit 79 = .ok (.iconst 1, 1) := by decide +kernel
theorem dX6_fit_80 : decode cX6_fit 80 = .ok (.iadd, 1) := by decide +kernel
theorem dX6_fit_81 : decode cX6_fit 81 = .ok (.iconst 0, 1) := by decide +kernel
theorem dX6_fit_82 : decode cX6_fit 82 = .ok (.iastore, 1) := by decide +kernel
theorem dX6_fit_83 : decode cX6_fit 83 = .ok (.aload_n 0, 1) := by decide +kernel
theorem dX6_fit_84 : decode cX6_fit 84 = .ok (.getfield 26, 3) := by decide +kernel
theorem dX6_fit_87 : decode cX6_fit 87 = .ok (.bipush 72, 2) := by decide +kernel
theorem dX6_fit_89 : decode cX6_fit 89 = .ok (.bipush 6, 2) := by decide +kernel
theorem dX6_fit_91 : decode cX6_fit 91 = .ok (.iload_n 2, 1) := by decide +kernel
theorem dX6_fit_92 : decode cX6_fit 92 = .ok (.imul, 1) := by decide +kernel
theorem dX6_fit_93 : decode cX6_fit 93 = .ok (.iadd, 1) := by decide +kernel
theorem dX6_fit_94 : decode cX6_fit 94 = .ok (.iconst 1, 1) := by decide +kernel
theorem dX6_fit_95 : decode cX6_fit 95 = .ok (.iadd, 1) := by decide +kernel
theorem dX6_fit_96 : decode cX6_fit 96 = .ok (.iconst 1, 1) := by decide +kernel
theorem dX6_fit_97 : decode cX6_fit 97 = .ok (.iastore, 1) := by decide +kernel
theorem dX6_fit_98 : decode cX6_fit 98 = .ok (.aload_n 0, 1) := by decide +kernel
theorem dX6_fit_99 : decode cX6_fit 99 = .ok (.getfield 26, 3) := by decide +kernel
theorem dX6_fit_102 : decode cX6_fit 102 = .ok (.bipush 72, 2) := by decide +kernel
theorem dX6_fit_104 : decode cX6_fit 104 = .ok (.bipush 6, 2) := by decide +kernel
theorem dX6_fit_106 : decode cX6_fit 106 = .ok (.iload_n 2, 1) := by decide +kernel
theorem dX6_fit_107 : decode cX6_fit 107 = .ok (.imul, 1) := by decide +kernel
theorem dX6_fit_108 : decode cX6_fit 108 = .ok (.iadd, 1) := by decide +kernel
theorem dX6_fit_109 : decode cX6_fit 109 = .ok (.iaload, 1) := by decide +kernel
theorem dX6_fit_110 : decode cX6_fit 110 = .ok (.ireturn, 1) := by decide +kernel
set_option maxRecDepth 20000 in
theorem ggX6_park_X6_isBus : GoodIn wsX6_park wsX6_isBus := goodIn_r _ [7, 8, 9, 10, 6, 11, 16, 17, 18, 19, 20, 21, 22, 23] (by decide +kernel) (by decide +kernel)
set_option maxRecDepth 20000 in
theorem gX6_park_X6_isBus : GoodIn wsX6_park (wsV RX6 51 RX6 yX6_isBus wsX6_isBus) := goodIn_app (goodIn_of _ (by decide +kernel)) ggX6_park_X6_isBus
set_option maxRecDepth 20000 in
theorem ggX6_park_X6_no : GoodIn wsX6_park wsX6_no := goodIn_r _ [15, 1, 16, 17, 18, 19, 20, 21, 22, 23] (by decide +kernel) (by decide +kernel)
set_option maxRecDepth 20000 in
theorem gX6_park_X6_no : GoodIn wsX6_park (wsV RX6 39 RX6 yX6_no wsX6_no) := goodIn_app (goodIn_of _ (by decide +kernel)) ggX6_park_X6_no
theorem dX6_park_0 : decode cX6_park 0 = .ok (.aload_n 0, 1) := by decide +kernel
theorem dX6_park_1 : decode cX6_park 1 = .ok (.iconst 0, 1) := by decide +kernel
theorem dX6_park_2 : decode cX6_park 2 = .ok (.putfield 1, 3) := by decide +kernel
theorem dX6_park_5 : decode cX6_park 5 = .ok (.aload_n 0, 1) := by decide +kernel
theorem dX6_park_6 : decode cX6_park 6 = .ok (.iload_n 1, 1) := by decide +kernel
theorem dX6_park_7 : decode cX6_park 7 = .ok (.invokevirtual 51, 3) := by decide +kernel
theorem dX6_park_10 : decode cX6_park 10 = .ok (.ifCond .ne 17, 3) := by decide +kernel
theorem dX6_park_13 : decode cX6_park 13 = .ok (.aload_n 0, 1) := by decide +kernel
theorem dX6_park_14 : decode cX6_park 14 = .ok (.iconst 1, 1) := by decide +kernel
theorem dX6_park_15 : decode cX6_park 15 = .ok (.invokevirtual 39, 3) := by decide +kernel
theorem dX6_park_18 : decode cX6_park 18 = .ok (.ifCond .le 7, 3) := by decide +kernel
theorem dX6_park_21 : decode cX6_park 21 = .ok (.iconst 1, 1) := by decide +kernel
theorem dX6_park_22 : decode cX6_park 22 = .ok (.goto 4, 3) := by decide +kernel
theorem dX6_park_25 : decode cX6_park 25 = .ok (.iconst 0, 1) := by decide +kernel
theorem dX6_park_26 : decode cX6_park 26 = .ok (.ireturn, 1) := by decide +kernel
theorem dX6_park_27 : decode cX6_park 27 = .ok (.aload_n 0, 1) := by decide +kernel
theorem dX6_park_28 : decode cX6_park 28 = .ok (.getfield 26, 3) := by decide +kernel
theorem dX6_park_31 : decode cX6_park 31 = .ok (.bipush 72, 2) := by decide +kernel
theorem dX6_park_33 : decode cX6_park 33 = .ok (.bipush 6, 2) := by decide +kernel
theorem dX6_park_35 : decode cX6_park 35 = .ok (.iload_n 1, 1) := by decide +kernel
theorem dX6_park_36 : decode cX6_park 36 = .ok (.imul, 1) := by decide +kernel
theorem dX6_park_37 : decode cX6_park 37 = .ok (.iadd, 1) := by decide +kernel
theorem dX6_park_38 : decode cX6_park 38 = .ok (.iconst 2, 1) := by decide +kernel
theorem dX6_park_39 : decode cX6_park 39 = .ok (.iadd, 1) := by decide +kernel
theorem dX6_park_40 : decode cX6_park 40 = .ok (.iconst 1, 1) := by decide +kernel
theorem dX6_park_41 : decode cX6_park 41 = .ok (.aload_n 0, 1) := by decide +kernel
theorem dX6_park_42 : decode cX6_park 42 = .ok (.getfield 26, 3) := by decide +kernel
theorem dX6_park_45 : decode cX6_park 45 = .ok (.bipush 72, 2) := by decide +kernel
theorem dX6_park_47 : decode cX6_park 47 = .ok (.bipush 6, 2) := by decide +kernel
theorem dX6_park_49 : decode cX6_park 49 = .ok (.iload_n 1, 1) := by decide +kernel
theorem dX6_park_50 : decode cX6_park 50 = .ok (.imul, 1) := by decide +kernel
theorem dX6_park_51 : decode cX6_park 51 = .ok (.iadd, 1) := by decide +kernel
theorem dX6_park_52 : decode cX6_park 52 = .ok (.iconst 2, 1) := by decide +kernel
theorem dX6_park_53 : decode cX6_park 53 = .ok (.iadd, 1) := by decide +kernel
theorem dX6_park_54 : decode cX6_park 54 = .ok (.iaload, 1) := by decide +kernel
theorem dX6_park_55 : decode cX6_park 55 = .ok (.isub, 1) := by decide +kernel
theorem dX6_park_56 : decode cX6_park 56 = .ok (.iastore, 1) := by decide +kernel
theorem dX6_park_57 : decode cX6_park 57 = .ok (.aload_n 0, 1) := by decide +kernel
theorem dX6_park_58 : decode cX6_park 58 = .ok (.getfield 26, 3) := by decide +kernel
theorem dX6_park_61 : decode cX6_park 61 = .ok (.bipush 72, 2) := by decide +kernel
theorem dX6_park_63 : decode cX6_park 63 = .ok (.bipush 6, 2) := by decide +kernel
theorem dX6_park_65 : decode cX6_park 65 = .ok (.iload_n 1, 1) := by decide +kernel
theorem dX6_park_66 : decode cX6_park 66 = .ok (.imul, 1) := by decide +kernel
theorem dX6_park_67 : decode cX6_park 67 = .ok (.iadd, 1) := by decide +kernel
theorem dX6_park_68 : decode cX6_park 68 = .ok (.iconst 2, 1) := by decide +kernel
theorem dX6_park_69 : decode cX6_park 69 = .ok (.iadd, 1) := by decide +kernel
theorem dX6_park_70 : decode cX6_park 70 = .ok (.iaload, 1) := by decide +kernel
theorem dX6_park_71 : decode cX6_park 71 = .ok (.iconst 1, 1) := by decide +kernel
theorem dX6_park_72 : decode cX6_park 72 = .ok (.if_icmp .ne 7, 3) := by decide +kernel
theorem dX6_park_75 : decode cX6_park 75 = .ok (.iconst 1, 1) := by decide +kernel
theorem dX6_park_76 : decode cX6_park 76 = .ok (.goto 4, 3) := by decide +kernel
theorem dX6_park_79 : decode cX6_park 79 = .ok (.iconst 0, 1) := by decide +kernel
theorem dX6_park_80 : decode cX6_park 80 = .ok (.ireturn, 1) := by decide +kernel
theorem dX6_free_0 : decode cX6_free 0 = .ok (.iconst 1, 1) := by decide +kernel
theorem dX6_free_1 : decode cX6_free 1 = .ok (.istore_n 2, 1) := by decide +kernel
theorem dX6_free_2 : decode cX6_free 2 = .ok (.iload_n 2, 1) := by decide +kernel
theorem dX6_free_3 : decode cX6_free 3 = .ok (.bipush 24, 2) := by decide +kernel
theorem dX6_free_5 : decode cX6_free 5 = .ok (.if_icmp .gt 31, 3) := by decide +kernel
theorem dX6_free_8 : decode cX6_free 8 = .ok (.aload_n 0, 1) := by decide +kernel
theorem dX6_free_9 : decode cX6_free 9 = .ok (.getfield 26, 3) := by decide +kernel
theorem dX6_free_12 : decode cX6_free 12 = .ok (.bipush 48, 2) := by decide +kernel
theorem dX6_free_14 : decode cX6_free 14 = .ok (.iload_n 1, 1) := by decide +kernel
theorem dX6_free_15 : decode cX6_free 15 = .ok (.iload_n 2, 1) := by decide +kernel
theorem dX6_free_16 : decode cX6_free 16 = .ok (.iadd, 1) := by decide +kernel
theorem dX6_free_17 : decode cX6_free 17 = .ok (.bipush 24, 2) := by decide +kernel
theorem dX6_free_19 : decode cX6_free 19 = .ok (.irem, 1) := by decide +kernel
theorem dX6_free_20 : decode cX6_free 20 = .ok (.iadd, 1) := by decide +kernel
theorem dX6_free_21 : decode cX6_free 21 = .ok (.iaload, 1) := by decide +kernel
theorem dX6_free_22 : decode cX6_free 22 = .ok (.iconst 1, 1) := by decide +kernel
theorem dX6_free_23 : decode cX6_free 23 = .ok (.if_icmp .ne 7, 3) := by decide +kernel
theorem dX6_free_26 : decode cX6_free 26 = .ok (.iload_n 2, 1) := by decide +kernel
theorem dX6_free_27 : decode cX6_free 27 = .ok (.iconst 1, 1) := by decide +kernel
theorem dX6_free_28 : decode cX6_free 28 = .ok (.isub, 1) := by decide +kernel
theorem dX6_free_29 : decode cX6_free 29 = .ok (.ireturn, 1) := by decide +kernel
theorem dX6_free_30 : decode cX6_free 30 = .ok (.iinc 2 1, 3) := by decide +kernel
theorem dX6_free_33 : decode cX6_free 33 = .ok (.goto (-31), 3) := by decide +kernel
theorem dX6_free_36 : decode cX6_free 36 = .ok (.bipush 24, 2) := by decide +kernel
theorem dX6_free_38 : decode cX6_free 38 = .ok (.ireturn, 1) := by decide +kernel
set_option maxRecDepth 20000 in
theorem ggX6_busTold_X6_free : GoodIn wsX6_busTold wsX6_free := goodIn_r _ [6, 1, 7, 8, 9, 10, 11, 12, 13, 14] (by decide +kernel) (by decide +kernel)
set_option maxRecDepth 20000 in
theorem gX6_busTold_X6_free : GoodIn wsX6_busTold (wsV RX6 54 RX6 yX6_free wsX6_free) := goodIn_app (goodIn_of _ (by decide +kernel)) ggX6_busTold_X6_free
theorem dX6_busTold_0 : decode cX6_busTold 0 = .ok (.iload_n 2, 1) := by decide +kernel
theorem dX6_busTold_1 : decode cX6_busTold 1 = .ok (.bipush 6, 2) := by decide +kernel
theorem dX6_busTold_3 : decode cX6_busTold 3 = .ok (.if_icmp .ne 22, 3) := by decide +kernel
theorem dX6_busTold_6 : decode cX6_busTold 6 = .ok (.aload_n 0, 1) := by decide +kernel
theorem dX6_busTold_7 : decode cX6_busTold 7 = .ok (.aload_n 0, 1) := by decide +kernel
theorem dX6_busTold_8 : decode cX6_busTold 8 = .ok (.getfield 26, 3) := by decide +kernel
theorem dX6_busTold_11 : decode cX6_busTold 11 = .ok (.bipush 72, 2) := by decide +kernel
theorem dX6_busTold_13 : decode cX6_busTold 13 = .ok (.bipush 6, 2) := by decide +kernel
theorem dX6_busTold_15 : decode cX6_busTold 15 = .ok (.iload_n 1, 1) := by decide +kernel
theorem dX6_busTold_16 : decode cX6_busTold 16 = .ok (.imul, 1) := by decide +kernel
theorem dX6_busTold_17 : decode cX6_busTold 17 = .ok (.iadd, 1) := by decide +kernel
theorem dX6_busTold_18 : decode cX6_busTold 18 = .ok (.iaload, 1) := by decide +kernel
theorem dX6_busTold_19 : decode cX6_busTold 19 = .ok (.invokevirtual 54, 3) := by decide +kernel
theorem dX6_busTold_22 : decode cX6_busTold 22 = .ok (.goto 17, 3) := by decide +kernel
theorem dX6_busTold_25 : decode cX6_busTold 25 = .ok (.aload_n 0, 1) := by decide +kernel
theorem dX6_busTold_26 : decode cX6_busTold 26 = .ok (.getfield 26, 3) := by decide +kernel
theorem dX6_busTold_29 : decode cX6_busTold 29 = .ok (.bipush 72, 2) := by decide +kernel
theorem dX6_busTold_31 : decode cX6_busTold 31 = .ok (.bipush 6, 2) := by decide +kernel
theorem dX6_busTold_33 : decode cX6_busTold 33 = .ok (.iload_n 1, 1) := by decide +kernel
theorem dX6_busTold_34 : decode cX6_busTold 34 = .ok (.imul, 1) := by decide +kernel
theorem dX6_busTold_35 : decode cX6_busTold 35 = .ok (.iadd, 1) := by decide +kernel
theorem dX6_busTold_36 : decode cX6_busTold 36 = .ok (.iload_n 2, 1) := by decide +kernel
theorem dX6_busTold_37 : decode cX6_busTold 37 = .ok (.iadd, 1) := by decide +kernel
theorem dX6_busTold_38 : decode cX6_busTold 38 = .ok (.iaload, 1) := by decide +kernel
theorem dX6_busTold_39 : decode cX6_busTold 39 = .ok (.ireturn, 1) := by decide +kernel
set_option maxRecDepth 20000 in
theorem ggX6_told_X6_isBus : GoodIn wsX6_told wsX6_isBus := goodIn_r _ [6, 7, 8, 9, 5, 10, 24, 25, 26, 27, 28, 29, 30, 31] (by decide +kernel) (by decide +kernel)
set_option maxRecDepth 20000 in
theorem gX6_told_X6_isBus : GoodIn wsX6_told (wsV RX6 51 RX6 yX6_isBus wsX6_isBus) := goodIn_app (goodIn_of _ (by decide +kernel)) ggX6_told_X6_isBus
set_option maxRecDepth 20000 in
theorem ggX6_told_X6_isIn : GoodIn wsX6_told wsX6_isIn := goodIn_r _ [10] (by decide +kernel) (by decide +kernel)
set_option maxRecDepth 20000 in
theorem gX6_told_X6_isIn : GoodIn wsX6_told (va_wsS RX6 32 yX6_isIn wsX6_isIn) := goodIn_app (goodIn_of _ (by decide +kernel)) ggX6_told_X6_isIn
set_option maxRecDepth 20000 in
theorem ggX6_told_X6_busTold : GoodIn wsX6_told wsX6_busTold := goodIn_r _ [14, 15, 16, 17, 18, 5, 19, 24, 25, 26, 27, 28, 29, 30, 31] (by decide +kernel) (by decide +kernel)
set_option maxRecDepth 20000 in
theorem gX6_told_X6_busTold : GoodIn wsX6_told (wsV RX6 57 RX6 yX6_busTold wsX6_busTold) := goodIn_app (goodIn_of _ (by decide +kernel)) ggX6_told_X6_busTold
set_option maxRecDepth 20000 in
theorem ggX6_told_X6_no : GoodIn wsX6_told wsX6_no := goodIn_r _ [23, 1, 24, 25, 26, 27, 28, 29, 30, 31] (by decide +kernel) (by decide +kernel)
set_option maxRecDepth 20000 in
theorem gX6_told_X6_no : GoodIn wsX6_told (wsV RX6 39 RX6 yX6_no wsX6_no) := goodIn_app (goodIn_of _ (by decide +kernel)) ggX6_told_X6_no
theorem dX6_told_0 : decode cX6_told 0 = .ok (.aload_n 0, 1) := by decide +kernel
theorem dX6_told_1 : decode cX6_told 1 = .ok (.iconst 0, 1) := by decide +kernel
theorem dX6_told_2 : decode cX6_told 2 = .ok (.putfield 1, 3) := by decide +kernel
theorem dX6_told_5 : decode cX6_told 5 = .ok (.aload_n 0, 1) := by decide +kernel
theorem dX6_told_6 : decode cX6_told 6 = .ok (.iload_n 1, 1) := by decide +kernel
theorem dX6_told_7 : decode cX6_told 7 = .ok (.invokevirtual 51, 3) := by decide +kernel
theorem dX6_told_10 : decode cX6_told 10 = .ok (.ifCond .eq 22, 3) := by decide +kernel
theorem dX6_told_13 : decode cX6_told 13 = .ok (.iload_n 2, 1) := by decide +kernel
theorem dX6_told_14 : decode cX6_told 14 = .ok (.iconst 0, 1) := by decide +kernel
theorem dX6_told_15 : decode cX6_told 15 = .ok (.bipush 6, 2) := by decide +kernel
theorem dX6_told_17 : decode cX6_told 17 = .ok (.invokestatic 32, 3) := by decide +kernel
theorem dX6_told_20 : decode cX6_told 20 = .ok (.ifCond .eq 12, 3) := by decide +kernel
theorem dX6_told_23 : decode cX6_told 23 = .ok (.aload_n 0, 1) := by decide +kernel
theorem dX6_told_24 : decode cX6_told 24 = .ok (.iload_n 1, 1) := by decide +kernel
theorem dX6_told_25 : decode cX6_told 25 = .ok (.iload_n 2, 1) := by decide +kernel
theorem dX6_told_26 : decode cX6_told 26 = .ok (.invokevirtual 57, 3) := by decide +kernel
theorem dX6_told_29 : decode cX6_told 29 = .ok (.goto 8, 3) := by decide +kernel
theorem dX6_told_32 : decode cX6_told 32 = .ok (.aload_n 0, 1) := by decide +kernel
theorem dX6_told_33 : decode cX6_told 33 = .ok (.iconst 1, 1) := by decide +kernel
theorem dX6_told_34 : decode cX6_told 34 = .ok (.invokevirtual 39, 3) := by decide +kernel
theorem dX6_told_37 : decode cX6_told 37 = .ok (.ireturn, 1) := by decide +kernel
theorem dX6_busesAt_0 : decode cX6_busesAt 0 = .ok (.iconst 0, 1) := by decide +kernel
theorem dX6_busesAt_1 : decode cX6_busesAt 1 = .ok (.istore_n 2, 1) := by decide +kernel
theorem dX6_busesAt_2 : decode cX6_busesAt 2 = .ok (.iconst 0, 1) := by decide +kernel
theorem dX6_busesAt_3 : decode cX6_busesAt 3 = .ok (.istore_n 3, 1) := by decide +kernel
theorem dX6_busesAt_4 : decode cX6_busesAt 4 = .ok (.iload_n 3, 1) := by decide +kernel
theorem dX6_busesAt_5 : decode cX6_busesAt 5 = .ok (.aload_n 0, 1) := by decide +kernel
theorem dX6_busesAt_6 : decode cX6_busesAt 6 = .ok (.getfield 36, 3) := by decide +kernel
theorem dX6_busesAt_9 : decode cX6_busesAt 9 = .ok (.if_icmp .ge 33, 3) := by decide +kernel
theorem dX6_busesAt_12 : decode cX6_busesAt 12 = .ok (.iload_n 2, 1) := by decide +kernel
theorem dX6_busesAt_13 : decode cX6_busesAt 13 = .ok (.aload_n 0, 1) := by decide +kernel
theorem dX6_busesAt_14 : decode cX6_busesAt 14 = .ok (.getfield 26, 3) := by decide +kernel
theorem dX6_busesAt_17 : decode cX6_busesAt 17 = .ok (.bipush 72, 2) := by decide +kernel
theorem dX6_busesAt_19 : decode cX6_busesAt 19 = .ok (.bipush 6, 2) := by decide +kernel
theorem dX6_busesAt_21 : decode cX6_busesAt 21 = .ok (.iload_n 3, 1) := by decide +kernel
theorem dX6_busesAt_22 : decode cX6_busesAt 22 = .ok (.imul, 1) := by decide +kernel
theorem dX6_busesAt_23 : decode cX6_busesAt 23 = .ok (.iadd, 1) := by decide +kernel
theorem dX6_busesAt_24 : decode cX6_busesAt 24 = .ok (.iaload, 1) := by decide +kernel
theorem dX6_busesAt_25 : decode cX6_busesAt 25 = .ok (.iload_n 1, 1) := by decide +kernel
theorem dX6_busesAt_26 : decode cX6_busesAt 26 = .ok (.if_icmp .ne 7, 3) := by decide +kernel
theorem dX6_busesAt_29 : decode cX6_busesAt 29 = .ok (.iconst 1, 1) := by decide +kernel
theorem dX6_busesAt_30 : decode cX6_busesAt 30 = .ok (.goto 4, 3) := by decide +kernel
theorem dX6_busesAt_33 : decode cX6_busesAt 33 = .ok (.iconst 0, 1) := by decide +kernel
theorem dX6_busesAt_34 : decode cX6_busesAt 34 = .ok (.iadd, 1) := by decide +kernel
theorem dX6_busesAt_35 : decode cX6_busesAt 35 = .ok (.istore_n 2, 1) := by decide +kernel
theorem dX6_busesAt_36 : decode cX6_busesAt 36 = .ok (.iinc 3 1, 3) := by decide +kernel
theorem dX6_busesAt_39 : decode cX6_busesAt 39 = .ok (.goto (-35), 3) := by decide +kernel
theorem dX6_busesAt_42 : decode cX6_busesAt 42 = .ok (.iload_n 2, 1) := by decide +kernel
theorem dX6_busesAt_43 : decode cX6_busesAt 43 = .ok (.ireturn, 1) := by decide +kernel
theorem dX6_placeOf_0 : decode cX6_placeOf 0 = .ok (.iconst 0, 1) := by decide +kernel
theorem dX6_placeOf_1 : decode cX6_placeOf 1 = .ok (.istore_n 2, 1) := by decide +kernel
theorem dX6_placeOf_2 : decode cX6_placeOf 2 = .ok (.iload_n 2, 1) := by decide +kernel
theorem dX6_placeOf_3 : decode cX6_placeOf 3 = .ok (.aload_n 0, 1) := by decide +kernel
theorem dX6_placeOf_4 : decode cX6_placeOf 4 = .ok (.getfield 26, 3) := by decide +kernel
theorem dX6_placeOf_7 : decode cX6_placeOf 7 = .ok (.bipush 109, 2) := by decide +kernel
theorem dX6_placeOf_9 : decode cX6_placeOf 9 = .ok (.iaload, 1) := by decide +kernel
theorem dX6_placeOf_10 : decode cX6_placeOf 10 = .ok (.if_icmp .ge 24, 3) := by decide +kernel
theorem dX6_placeOf_13 : decode cX6_placeOf 13 = .ok (.aload_n 0, 1) := by decide +kernel
theorem dX6_placeOf_14 : decode cX6_placeOf 14 = .ok (.getfield 26, 3) := by decide +kernel
theorem dX6_placeOf_17 : decode cX6_placeOf 17 = .ok (.bipush 113, 2) := by decide +kernel
theorem dX6_placeOf_19 : decode cX6_placeOf 19 = .ok (.iload_n 2, 1) := by decide +kernel
theorem dX6_placeOf_20 : decode cX6_placeOf 20 = .ok (.iadd, 1) := by decide +kernel
theorem dX6_placeOf_21 : decode cX6_placeOf 21 = .ok (.iaload, 1) := by decide +kernel
theorem dX6_placeOf_22 : decode cX6_placeOf 22 = .ok (.iload_n 1, 1) := by decide +kernel
theorem dX6_placeOf_23 : decode cX6_placeOf 23 = .ok (.if_icmp .ne 5, 3) := by decide +kernel
theorem dX6_placeOf_26 : decode cX6_placeOf 26 = .ok (.iload_n 2, 1) := by decide +kernel
theorem dX6_placeOf_27 : decode cX6_placeOf 27 = .ok (.ireturn, 1) := by decide +kernel
theorem dX6_placeOf_28 : decode cX6_placeOf 28 = .ok (.iinc 2 1, 3) := by decide +kernel
theorem dX6_placeOf_31 : decode cX6_placeOf 31 = .ok (.goto (-29), 3) := by decide +kernel
theorem dX6_placeOf_34 : decode cX6_placeOf 34 = .ok (.iconst (-1), 1) := by decide +kernel
theorem dX6_placeOf_35 : decode cX6_placeOf 35 = .ok (.ireturn, 1) := by decide +kernel
set_option maxRecDepth 20000 in
theorem ggX6_spanTold_X6_busesAt : GoodIn wsX6_spanTold wsX6_busesAt := goodIn_r _ [6, 7, 1, 12, 13, 14, 15, 16, 17, 18, 19] (by decide +kernel) (by decide +kernel)
set_option maxRecDepth 20000 in
theorem gX6_spanTold_X6_busesAt : GoodIn wsX6_spanTold (wsV RX6 61 RX6 yX6_busesAt wsX6_busesAt) := goodIn_app (goodIn_of _ (by decide +kernel)) ggX6_spanTold_X6_busesAt
set_option maxRecDepth 20000 in
theorem ggX6_spanTold_X6_placeOf : GoodIn wsX6_spanTold wsX6_placeOf := goodIn_r _ [11, 1, 12, 13, 14, 15, 16, 17, 18, 19] (by decide +kernel) (by decide +kernel)
set_option maxRecDepth 20000 in
theorem gX6_spanTold_X6_placeOf : GoodIn wsX6_spanTold (wsV RX6 64 RX6 yX6_placeOf wsX6_placeOf) := goodIn_app (goodIn_of _ (by decide +kernel)) ggX6_spanTold_X6_placeOf
theorem dX6_spanTold_0 : decode cX6_spanTold 0 = .ok (.iload_n 2, 1) := by decide +kernel
theorem dX6_spanTold_1 : decode cX6_spanTold 1 = .ok (.iconst 3, 1) := by decide +kernel
theorem dX6_spanTold_2 : decode cX6_spanTold 2 = .ok (.if_icmp .ge 17, 3) := by decide +kernel
theorem dX6_spanTold_5 : decode cX6_spanTold 5 = .ok (.aload_n 0, 1) := by decide +kernel
theorem dX6_spanTold_6 : decode cX6_spanTold 6 = .ok (.getfield 26, 3) := by decide +kernel
theorem dX6_spanTold_9 : decode cX6_spanTold 9 = .ok (.bipush 24, 2) := by decide +kernel
theorem dX6_spanTold_11 : decode cX6_spanTold 11 = .ok (.iload_n 2, 1) := by decide +kernel
theorem dX6_spanTold_12 : decode cX6_spanTold 12 = .ok (.imul, 1) := by decide +kernel
theorem dX6_spanTold_13 : decode cX6_spanTold 13 = .ok (.iload_n 1, 1) := by decide +kernel
theorem dX6_spanTold_14 : decode cX6_spanTold 14 = .ok (.iadd, 1) := by decide +kernel
theorem dX6_spanTold_15 : decode cX6_spanTold 15 = .ok (.iaload, 1) := by decide +kernel
theorem dX6_spanTold_16 : decode cX6_spanTold 16 = .ok (.goto 21, 3) := by decide +kernel
theorem dX6_spanTold_19 : decode cX6_spanTold 19 = .ok (.iload_n 2, 1) := by decide +kernel
theorem dX6_spanTold_20 : decode cX6_spanTold 20 = .ok (.iconst 3, 1) := by decide +kernel
theorem dX6_spanTold_21 : decode cX6_spanTold 21 = .ok (.if_icmp .ne 11, 3) := by decide +kernel
theorem dX6_spanTold_24 : decode cX6_spanTold 24 = .ok (.aload_n 0, 1) := by decide +kernel
theorem dX6_spanTold_25 : decode cX6_spanTold 25 = .ok (.iload_n 1, 1) := by decide +kernel
theorem dX6_spanTold_26 : decode cX6_spanTold 26 = .ok (.invokevirtual 61, 3) := by decide +kernel
theorem dX6_spanTold_29 : decode cX6_spanTold 29 = .ok (.goto 8, 3) := by decide +kernel
theorem dX6_spanTold_32 : decode cX6_spanTold 32 = .ok (.aload_n 0, 1) := by decide +kernel
theorem dX6_spanTold_33 : decode cX6_spanTold 33 = .ok (.iload_n 1, 1) := by decide +kernel
theorem dX6_spanTold_34 : decode cX6_spanTold 34 = .ok (.invokevirtual 64, 3) := by decide +kernel
theorem dX6_spanTold_37 : decode cX6_spanTold 37 = .ok (.ireturn, 1) := by decide +kernel
set_option maxRecDepth 20000 in
theorem ggX6_span_X6_isSpan : GoodIn wsX6_span wsX6_isSpan := goodIn_r _ [5, 6, 7, 4, 8] (by decide +kernel) (by decide +kernel)
set_option maxRecDepth 20000 in
theorem gX6_span_X6_isSpan : GoodIn wsX6_span (va_wsS RX6 47 yX6_isSpan wsX6_isSpan) := goodIn_app (goodIn_of _ (by decide +kernel)) ggX6_span_X6_isSpan
set_option maxRecDepth 20000 in
theorem ggX6_span_X6_isIn : GoodIn wsX6_span wsX6_isIn := goodIn_r _ [8] (by decide +kernel) (by decide +kernel)
set_option maxRecDepth 20000 in
theorem gX6_span_X6_isIn : GoodIn wsX6_span (va_wsS RX6 32 yX6_isIn wsX6_isIn) := goodIn_app (goodIn_of _ (by decide +kernel)) ggX6_span_X6_isIn
set_option maxRecDepth 20000 in
theorem ggX6_span_X6_spanTold : GoodIn wsX6_span wsX6_spanTold := goodIn_r _ [12, 13, 14, 15, 16, 4, 17, 18, 19, 20, 21, 22, 27, 28, 29, 30, 31, 32, 33, 34] (by decide +kernel) (by decide +kernel)
set_option maxRecDepth 20000 in
theorem gX6_span_X6_spanTold : GoodIn wsX6_span (wsV RX6 67 RX6 yX6_spanTold wsX6_spanTold) := goodIn_app (goodIn_of _ (by decide +kernel)) ggX6_span_X6_spanTold
set_option maxRecDepth 20000 in
theorem ggX6_span_X6_no : GoodIn wsX6_span wsX6_no := goodIn_r _ [26, 1, 27, 28, 29, 30, 31, 32, 33, 34] (by decide +kernel) (by decide +kernel)
set_option maxRecDepth 20000 in
theorem gX6_span_X6_no : GoodIn wsX6_span (wsV RX6 39 RX6 yX6_no wsX6_no) := goodIn_app (goodIn_of _ (by decide +kernel)) ggX6_span_X6_no
theorem dX6_span_0 : decode cX6_span 0 = .ok (.aload_n 0, 1) := by decide +kernel
theorem dX6_span_1 : decode cX6_span 1 = .ok (.iconst 0, 1) := by decide +kernel
theorem dX6_span_2 : decode cX6_span 2 = .ok (.putfield 1, 3) := by decide +kernel
theorem dX6_span_5 : decode cX6_span 5 = .ok (.iload_n 1, 1) := by decide +kernel
theorem dX6_span_6 : decode cX6_span 6 = .ok (.invokestatic 47, 3) := by decide +kernel
theorem dX6_span_9 : decode cX6_span 9 = .ok (.ifCond .eq 21, 3) := by decide +kernel
theorem dX6_span_12 : decode cX6_span 12 = .ok (.iload_n 2, 1) := by decide +kernel
theorem dX6_span_13 : decode cX6_span 13 = .ok (.iconst 0, 1) := by decide +kernel
theorem dX6_span_14 : decode cX6_span 14 = .ok (.iconst 4, 1) := by decide +kernel
theorem dX6_span_15 : decode cX6_span 15 = .ok (.invokestatic 32, 3) := by decide +kernel
theorem dX6_span_18 : decode cX6_span 18 = .ok (.ifCond .eq 12, 3) := by decide +kernel
theorem dX6_span_21 : decode cX6_span 21 = .ok (.aload_n 0, 1) := by decide +kernel
theorem dX6_span_22 : decode cX6_span 22 = .ok (.iload_n 1, 1) := by decide +kernel
theorem dX6_span_23 : decode cX6_span 23 = .ok (.iload_n 2, 1) := by decide +kernel
theorem dX6_span_24 : decode cX6_span 24 = .ok (.invokevirtual 67, 3) := by decide +kernel
theorem dX6_span_27 : decode cX6_span 27 = .ok (.goto 8, 3) := by decide +kernel
theorem dX6_span_30 : decode cX6_span 30 = .ok (.aload_n 0, 1) := by decide +kernel
theorem dX6_span_31 : decode cX6_span 31 = .ok (.iconst 1, 1) := by decide +kernel
theorem dX6_span_32 : decode cX6_span 32 = .ok (.invokevirtual 39, 3) := by decide +kernel
theorem dX6_span_35 : decode cX6_span 35 = .ok (.ireturn, 1) := by decide +kernel
set_option maxRecDepth 20000 in
theorem ggX6_order_X6_isSpan : GoodIn wsX6_order wsX6_isSpan := goodIn_r _ [6, 7, 8, 5, 9] (by decide +kernel) (by decide +kernel)
set_option maxRecDepth 20000 in
theorem gX6_order_X6_isSpan : GoodIn wsX6_order (va_wsS RX6 47 yX6_isSpan wsX6_isSpan) := goodIn_app (goodIn_of _ (by decide +kernel)) ggX6_order_X6_isSpan
set_option maxRecDepth 20000 in
theorem ggX6_order_X6_no : GoodIn wsX6_order wsX6_no := goodIn_r _ [13, 1, 18, 19, 20, 21, 22, 23, 24, 25] (by decide +kernel) (by decide +kernel)
set_option maxRecDepth 20000 in
theorem gX6_order_X6_no : GoodIn wsX6_order (wsV RX6 39 RX6 yX6_no wsX6_no) := goodIn_app (goodIn_of _ (by decide +kernel)) ggX6_order_X6_no
set_option maxRecDepth 20000 in
theorem ggX6_order_X6_placeOf : GoodIn wsX6_order wsX6_placeOf := goodIn_r _ [17, 2, 18, 19, 20, 21, 22, 23, 24, 25] (by decide +kernel) (by decide +kernel)
set_option maxRecDepth 20000 in
theorem gX6_order_X6_placeOf : GoodIn wsX6_order (wsV RX6 64 RX6 yX6_placeOf wsX6_placeOf) := goodIn_app (goodIn_of _ (by decide +kernel)) ggX6_order_X6_placeOf
theorem dX6_order_0 : decode cX6_order 0 = .ok (.aload_n 0, 1) := by decide +kernel
theorem dX6_order_1 : decode cX6_order 1 = .ok (.iconst 0, 1) := by decide +kernel
theorem dX6_order_2 : decode cX6_order 2 = .ok (.putfield 1, 3) := by decide +kernel
theorem dX6_order_5 : decode cX6_order 5 = .ok (.iload_n 1, 1) := by decide +kernel
theorem dX6_order_6 : decode cX6_order 6 = .ok (.invokestatic 47, 3) := by decide +kernel
theorem dX6_order_9 : decode cX6_order 9 = .ok (.ifCond .ne 9, 3) := by decide +kernel
theorem dX6_order_12 : decode cX6_order 12 = .ok (.aload_n 0, 1) := by decide +kernel
theorem dX6_order_13 : decode cX6_order 13 = .ok (.iconst 1, 1) := by decide +kernel
theorem dX6_order_14 : decode cX6_order 14 = .ok (.invokevirtual 39, 3) := by decide +kernel
theorem dX6_order_17 : decode cX6_order 17 = .ok (.ireturn, 1) := by decide +kernel
theorem dX6_order_18 : decode cX6_order 18 = .ok (.aload_n 0, 1) := by decide +kernel
theorem dX6_order_19 : decode cX6_order 19 = .ok (.getfield 26, 3) := by decide +kernel
theorem dX6_order_22 : decode cX6_order 22 = .ok (.bipush 109, 2) := by decide +kernel
theorem dX6_order_24 : decode cX6_order 24 = .ok (.iaload, 1) := by decide +kernel
theorem dX6_order_25 : decode cX6_order 25 = .ok (.bipush 6, 2) := by decide +kernel
theorem dX6_order_27 : decode cX6_order 27 = .ok (.if_icmp .eq 11, 3) := by decide +kernel
theorem dX6_order_30 : decode cX6_order 30 = .ok (.aload_n 0, 1) := by decide +kernel
theorem dX6_order_31 : decode cX6_order 31 = .ok (.iload_n 1, 1) := by decide +kernel
theorem dX6_order_32 : decode cX6_order 32 = .ok (.invokevirtual 64, 3) := by decide +kernel
theorem dX6_order_35 : decode cX6_order 35 = .ok (.ifCond .lt 9, 3) := by decide +kernel
theorem dX6_order_38 : decode cX6_order 38 = .ok (.aload_n 0, 1) := by decide +kernel
theorem dX6_order_39 : decode cX6_order 39 = .ok (.iconst 2, 1) := by decide +kernel
theorem dX6_order_40 : decode cX6_order 40 = .ok (.invokevirtual 39, 3) := by decide +kernel
theorem dX6_order_43 : decode cX6_order 43 = .ok (.ireturn, 1) := by decide +kernel
theorem dX6_order_44 : decode cX6_order 44 = .ok (.aload_n 0, 1) := by decide +kernel
theorem dX6_order_45 : decode cX6_order 45 = .ok (.getfield 26, 3) := by decide +kernel
theorem dX6_order_48 : decode cX6_order 48 = .ok (.bipush 113, 2) := by decide +kernel
theorem dX6_order_50 : decode cX6_order 50 = .ok (.aload_n 0, 1) := by decide +kernel
theorem dX6_order_51 : decode cX6_order 51 = .ok (.getfield 26, 3) := by decide +kernel
theorem dX6_order_54 : decode cX6_order 54 = .ok (.bipush 109, 2) := by decide +kernel
theorem dX6_order_56 : decode cX6_order 56 = .ok (.iaload, 1) := by decide +kernel
theorem dX6_order_57 : decode cX6_order 57 = .ok (.iadd, 1) := by decide +kernel
theorem dX6_order_58 : decode cX6_order 58 = .ok (.iload_n 1, 1) := by decide +kernel
theorem dX6_order_59 : decode cX6_order 59 = .ok (.iastore, 1) := by decide +kernel
theorem dX6_order_60 : decode cX6_order 60 = .ok (.aload_n 0, 1) := by decide +kernel
theorem dX6_order_61 : decode cX6_order 61 = .ok (.getfield 26, 3) := by decide +kernel
theorem dX6_order_64 : decode cX6_order 64 = .ok (.bipush 109, 2) := by decide +kernel
theorem dX6_order_66 : decode cX6_order 66 = .ok (.dup2, 1) := by decide +kernel
theorem dX6_order_67 : decode cX6_order 67 = .ok (.iaload, 1) := by decide +kernel
theorem dX6_order_68 : decode cX6_order 68 = .ok (.iconst 1, 1) := by decide +kernel
theorem dX6_order_69 : decode cX6_order 69 = .ok (.iadd, 1) := by decide +kernel
theorem dX6_order_70 : decode cX6_order 70 = .ok (.iastore, 1) := by decide +kernel
theorem dX6_order_71 : decode cX6_order 71 = .ok (.aload_n 0, 1) := by decide +kernel
theorem dX6_order_72 : decode cX6_order 72 = .ok (.getfield 26, 3) := by decide +kernel
theorem dX6_order_75 : decode cX6_order 75 = .ok (.bipush 109, 2) := by decide +kernel
theorem dX6_order_77 : decode cX6_order 77 = .ok (.iaload, 1) := by decide +kernel
theorem dX6_order_78 : decode cX6_order 78 = .ok (.ireturn, 1) := by decide +kernel
theorem dX6_remove_0 : decode cX6_remove 0 = .ok (.iload_n 1, 1) := by decide +kernel
theorem dX6_remove_1 : decode cX6_remove 1 = .ok (.istore_n 2, 1) := by decide +kernel
theorem dX6_remove_2 : decode cX6_remove 2 = .ok (.iload_n 2, 1) := by decide +kernel
theorem dX6_remove_3 : decode cX6_remove 3 = .ok (.iconst 1, 1) := by decide +kernel
theorem dX6_remove_4 : decode cX6_remove 4 = .ok (.iadd, 1) := by decide +kernel
theorem dX6_remove_5 : decode cX6_remove 5 = .ok (.aload_n 0, 1) := by decide +kernel
theorem dX6_remove_6 : decode cX6_remove 6 = .ok (.bipush 109, 2) := by decide +kernel
theorem dX6_remove_8 : decode cX6_remove 8 = .ok (.iaload, 1) := by decide +kernel
theorem dX6_remove_9 : decode cX6_remove 9 = .ok (.if_icmp .ge 23, 3) := by decide +kernel
theorem dX6_remove_12 : decode cX6_remove 12 = .ok (.aload_n 0, 1) := by decide +kernel
theorem dX6_remove_13 : decode cX6_remove 13 = .ok (.bipush 113, 2) := by decide +kernel
theorem dX6_remove_15 : decode cX6_remove 15 = .ok (.iload_n 2, 1) := by decide +kernel
theorem dX6_remove_16 : decode cX6_remove 16 = .ok (.iadd, 1) := by decide +kernel
theorem dX6_remove_17 : decode cX6_remove 17 = .ok (.aload_n 0, 1) := by decide +kernel
theorem dX6_remove_18 : decode cX6_remove 18 = .ok (.bipush 113, 2) := by decide +kernel
theorem dX6_remove_20 : decode cX6_remove 20 = .ok (.iload_n 2, 1) := by decide +kernel
theorem dX6_remove_21 : decode cX6_remove 21 = .ok (.iadd, 1) := by decide +kernel
theorem dX6_remove_22 : decode cX6_remove 22 = .ok (.iconst 1, 1) := by decide +kernel
theorem dX6_remove_23 : decode cX6_remove 23 = .ok (.iadd, 1) := by decide +kernel
theorem dX6_remove_24 : decode cX6_remove 24 = .ok (.iaload, 1) := by decide +kernel
theorem dX6_remove_25 : decode cX6_remove 25 = .ok (.iastore, 1) := by decide +kernel
theorem dX6_remove_26 : decode cX6_remove 26 = .ok (.iinc 2 1, 3) := by decide +kernel
theorem dX6_remove_29 : decode cX6_remove 29 = .ok (.goto (-27), 3) := by decide +kernel
theorem dX6_remove_32 : decode cX6_remove 32 = .ok (.aload_n 0, 1) := by decide +kernel
theorem dX6_remove_33 : decode cX6_remove 33 = .ok (.bipush 109, 2) := by decide +kernel
theorem dX6_remove_35 : decode cX6_remove 35 = .ok (.dup2, 1) := by decide +kernel
theorem dX6_remove_36 : decode cX6_remove 36 = .ok (.iaload, 1) := by decide +kernel
theorem dX6_remove_37 : decode cX6_remove 37 = .ok (.iconst 1, 1) := by decide +kernel
theorem dX6_remove_38 : decode cX6_remove 38 = .ok (.isub, 1) := by decide +kernel
theorem dX6_remove_39 : decode cX6_remove 39 = .ok (.iastore, 1) := by decide +kernel
theorem dX6_remove_40 : decode cX6_remove 40 = .ok (.iload_n 1, 1) := by decide +kernel
theorem dX6_remove_41 : decode cX6_remove 41 = .ok (.ifCond .ne 8, 3) := by decide +kernel
theorem dX6_remove_44 : decode cX6_remove 44 = .ok (.aload_n 0, 1) := by decide +kernel
theorem dX6_remove_45 : decode cX6_remove 45 = .ok (.bipush 110, 2) := by decide +kernel
theorem dX6_remove_47 : decode cX6_remove 47 = .ok (.iconst 0, 1) := by decide +kernel
theorem dX6_remove_48 : decode cX6_remove 48 = .ok (.iastore, 1) := by decide +kernel
theorem dX6_remove_49 : decode cX6_remove 49 = .ok (.return_, 1) := by decide +kernel
set_option maxRecDepth 20000 in
theorem ggX6_cancel_X6_isSpan : GoodIn wsX6_cancel wsX6_isSpan := goodIn_r _ [6, 7, 8, 5, 9] (by decide +kernel) (by decide +kernel)
set_option maxRecDepth 20000 in
theorem gX6_cancel_X6_isSpan : GoodIn wsX6_cancel (va_wsS RX6 47 yX6_isSpan wsX6_isSpan) := goodIn_app (goodIn_of _ (by decide +kernel)) ggX6_cancel_X6_isSpan
set_option maxRecDepth 20000 in
theorem ggX6_cancel_X6_no : GoodIn wsX6_cancel wsX6_no := goodIn_r _ [13, 1, 21, 22, 23, 24, 25, 26, 27, 28] (by decide +kernel) (by decide +kernel)
set_option maxRecDepth 20000 in
theorem gX6_cancel_X6_no : GoodIn wsX6_cancel (wsV RX6 39 RX6 yX6_no wsX6_no) := goodIn_app (goodIn_of _ (by decide +kernel)) ggX6_cancel_X6_no
set_option maxRecDepth 20000 in
theorem ggX6_cancel_X6_placeOf : GoodIn wsX6_cancel wsX6_placeOf := goodIn_r _ [17, 2, 21, 22, 23, 24, 25, 26, 27, 28] (by decide +kernel) (by decide +kernel)
set_option maxRecDepth 20000 in
theorem gX6_cancel_X6_placeOf : GoodIn wsX6_cancel (wsV RX6 64 RX6 yX6_placeOf wsX6_placeOf) := goodIn_app (goodIn_of _ (by decide +kernel)) ggX6_cancel_X6_placeOf
set_option maxRecDepth 20000 in
theorem ggX6_cancel_X6_remove : GoodIn wsX6_cancel wsX6_remove := goodIn_r _ [20] (by decide +kernel) (by decide +kernel)
set_option maxRecDepth 20000 in
theorem gX6_cancel_X6_remove : GoodIn wsX6_cancel (va_wsS RX6 70 yX6_remove wsX6_remove) := goodIn_app (goodIn_of _ (by decide +kernel)) ggX6_cancel_X6_remove
theorem dX6_cancel_0 : decode cX6_cancel 0 = .ok (.aload_n 0, 1) := by decide +kernel
theorem dX6_cancel_1 : decode cX6_cancel 1 = .ok (.iconst 0, 1) := by decide +kernel
theorem dX6_cancel_2 : decode cX6_cancel 2 = .ok (.putfield 1, 3) := by decide +kernel
theorem dX6_cancel_5 : decode cX6_cancel 5 = .ok (.iload_n 1, 1) := by decide +kernel
theorem dX6_cancel_6 : decode cX6_cancel 6 = .ok (.invokestatic 47, 3) := by decide +kernel
theorem dX6_cancel_9 : decode cX6_cancel 9 = .ok (.ifCond .ne 9, 3) := by decide +kernel
theorem dX6_cancel_12 : decode cX6_cancel 12 = .ok (.aload_n 0, 1) := by decide +kernel
theorem dX6_cancel_13 : decode cX6_cancel 13 = .ok (.iconst 1, 1) := by decide +kernel
theorem dX6_cancel_14 : decode cX6_cancel 14 = .ok (.invokevirtual 39, 3) := by decide +kernel
theorem dX6_cancel_17 : decode cX6_cancel 17 = .ok (.ireturn, 1) := by decide +kernel
theorem dX6_cancel_18 : decode cX6_cancel 18 = .ok (.aload_n 0, 1) := by decide +kernel
theorem dX6_cancel_19 : decode cX6_cancel 19 = .ok (.iload_n 1, 1) := by decide +kernel
theorem dX6_cancel_20 : decode cX6_cancel 20 = .ok (.invokevirtual 64, 3) := by decide +kernel
theorem dX6_cancel_23 : decode cX6_cancel 23 = .ok (.istore_n 2, 1) := by decide +kernel
theorem dX6_cancel_24 : decode cX6_cancel 24 = .ok (.iload_n 2, 1) := by decide +kernel
theorem dX6_cancel_25 : decode cX6_cancel 25 = .ok (.ifCond .ge 9, 3) := by decide +kernel
theorem dX6_cancel_28 : decode cX6_cancel 28 = .ok (.aload_n 0, 1) := by decide +kernel
theorem dX6_cancel_29 : decode cX6_cancel 29 = .ok (.iconst 2, 1) := by decide +kernel
theorem dX6_cancel_30 : decode cX6_cancel 30 = .ok (.invokevirtual 39, 3) := by decide +kernel
theorem dX6_cancel_33 : decode cX6_cancel 33 = .ok (.ireturn, 1) := by decide +kernel
theorem dX6_cancel_34 : decode cX6_cancel 34 = .ok (.aload_n 0, 1) := by decide +kernel
theorem dX6_cancel_35 : decode cX6_cancel 35 = .ok (.getfield 26, 3) := by decide +kernel
theorem dX6_cancel_38 : decode cX6_cancel 38 = .ok (.iload_n 2, 1) := by decide +kernel
theorem dX6_cancel_39 : decode cX6_cancel 39 = .ok (.invokestatic 70, 3) := by decide +kernel
theorem dX6_cancel_42 : decode cX6_cancel 42 = .ok (.iload_n 2, 1) := by decide +kernel
theorem dX6_cancel_43 : decode cX6_cancel 43 = .ok (.ireturn, 1) := by decide +kernel
theorem dX6_upwards_0 : decode cX6_upwards 0 = .ok (.iload_n 1, 1) := by decide +kernel
theorem dX6_upwards_1 : decode cX6_upwards 1 = .ok (.iload_n 0, 1) := by decide +kernel
theorem dX6_upwards_2 : decode cX6_upwards 2 = .ok (.isub, 1) := by decide +kernel
theorem dX6_upwards_3 : decode cX6_upwards 3 = .ok (.bipush 24, 2) := by decide +kernel
theorem dX6_upwards_5 : decode cX6_upwards 5 = .ok (.iadd, 1) := by decide +kernel
theorem dX6_upwards_6 : decode cX6_upwards 6 = .ok (.bipush 24, 2) := by decide +kernel
theorem dX6_upwards_8 : decode cX6_upwards 8 = .ok (.irem, 1) := by decide +kernel
theorem dX6_upwards_9 : decode cX6_upwards 9 = .ok (.ireturn, 1) := by decide +kernel
set_option maxRecDepth 20000 in
theorem ggX6_hoursTill_X6_upwards : GoodIn wsX6_hoursTill wsX6_upwards := goodIn_r _ [9] (by decide +kernel) (by decide +kernel)
set_option maxRecDepth 20000 in
theorem gX6_hoursTill_X6_upwards : GoodIn wsX6_hoursTill (va_wsS RX6 74 yX6_upwards wsX6_upwards) := goodIn_app (goodIn_of _ (by decide +kernel)) ggX6_hoursTill_X6_upwards
theorem dX6_hoursTill_0 : decode cX6_hoursTill 0 = .ok (.aload_n 0, 1) := by decide +kernel
theorem dX6_hoursTill_1 : decode cX6_hoursTill 1 = .ok (.getfield 26, 3) := by decide +kernel
theorem dX6_hoursTill_4 : decode cX6_hoursTill 4 = .ok (.bipush 108, 2) := by decide +kernel
theorem dX6_hoursTill_6 : decode cX6_hoursTill 6 = .ok (.iaload, 1) := by decide +kernel
theorem dX6_hoursTill_7 : decode cX6_hoursTill 7 = .ok (.iload_n 1, 1) := by decide +kernel
theorem dX6_hoursTill_8 : decode cX6_hoursTill 8 = .ok (.invokestatic 74, 3) := by decide +kernel
theorem dX6_hoursTill_11 : decode cX6_hoursTill 11 = .ok (.istore_n 2, 1) := by decide +kernel
theorem dX6_hoursTill_12 : decode cX6_hoursTill 12 = .ok (.iload_n 2, 1) := by decide +kernel
theorem dX6_hoursTill_13 : decode cX6_hoursTill 13 = .ok (.bipush 24, 2) := by decide +kernel
theorem dX6_hoursTill_15 : decode cX6_hoursTill 15 = .ok (.iload_n 2, 1) := by decide +kernel
theorem dX6_hoursTill_16 : decode cX6_hoursTill 16 = .ok (.isub, 1) := by decide +kernel
theorem dX6_hoursTill_17 : decode cX6_hoursTill 17 = .ok (.invokestatic 77, 3) := by decide +kernel
theorem dX6_hoursTill_20 : decode cX6_hoursTill 20 = .ok (.iconst 3, 1) := by decide +kernel
theorem dX6_hoursTill_21 : decode cX6_hoursTill 21 = .ok (.iadd, 1) := by decide +kernel
theorem dX6_hoursTill_22 : decode cX6_hoursTill 22 = .ok (.iconst 4, 1) := by decide +kernel
theorem dX6_hoursTill_23 : decode cX6_hoursTill 23 = .ok (.idiv, 1) := by decide +kernel
theorem dX6_hoursTill_24 : decode cX6_hoursTill 24 = .ok (.ireturn, 1) := by decide +kernel
set_option maxRecDepth 20000 in
theorem ggX6_gangTold_X6_hoursTill : GoodIn wsX6_gangTold wsX6_hoursTill := goodIn_r _ [6, 1, 7, 8, 9, 10, 11, 12, 5, 13, 14, 15, 16, 17, 18, 19, 20, 21] (by decide +kernel) (by decide +kernel)
set_option maxRecDepth 20000 in
theorem gX6_gangTold_X6_hoursTill : GoodIn wsX6_gangTold (wsV RX6 82 RX6 yX6_hoursTill wsX6_hoursTill) := goodIn_app (goodIn_of _ (by decide +kernel)) ggX6_gangTold_X6_hoursTill
theorem dX6_gangTold_0 : decode cX6_gangTold 0 = .ok (.aload_n 0, 1) := by decide +kernel
theorem dX6_gangTold_1 : decode cX6_gangTold 1 = .ok (.getfield 26, 3) := by decide +kernel
theorem dX6_gangTold_4 : decode cX6_gangTold 4 = .ok (.bipush 109, 2) := by decide +kernel
theorem dX6_gangTold_6 : decode cX6_gangTold 6 = .ok (.iaload, 1) := by decide +kernel
theorem dX6_gangTold_7 : decode cX6_gangTold 7 = .ok (.ifCond .le 7, 3) := by decide +kernel
theorem dX6_gangTold_10 : decode cX6_gangTold 10 = .ok (.iconst 1, 1) := by decide +kernel
theorem dX6_gangTold_11 : decode cX6_gangTold 11 = .ok (.goto 4, 3) := by decide +kernel
theorem dX6_gangTold_14 : decode cX6_gangTold 14 = .ok (.iconst 0, 1) := by decide +kernel
theorem dX6_gangTold_15 : decode cX6_gangTold 15 = .ok (.istore_n 2, 1) := by decide +kernel
theorem dX6_gangTold_16 : decode cX6_gangTold 16 = .ok (.iload_n 1, 1) := by decide +kernel
theorem dX6_gangTold_17 : decode cX6_gangTold 17 = .ok (.tableswitch 95 0 6 #[43, 51, 67, 95, 95, 95, 75], 43) := by decide +kernel
theorem dX6_gangTold_60 : decode cX6_gangTold 60 = .ok (.aload_n 0, 1) := by decide +kernel
theorem dX6_gangTold_61 : decode cX6_gangTold 61 = .ok (.getfield 26, 3) := by decide +kernel
theorem dX6_gangTold_64 : decode cX6_gangTold 64 = .ok (.bipush 108, 2) := by decide +kernel
theorem dX6_gangTold_66 : decode cX6_gangTold 66 = .ok (.iaload, 1) := by decide +kernel
theorem dX6_gangTold_67 : decode cX6_gangTold 67 = .ok (.ireturn, 1) := by decide +kernel
theorem dX6_gangTold_68 : decode cX6_gangTold 68 = .ok (.iload_n 2, 1) := by decide +kernel
theorem dX6_gangTold_69 : decode cX6_gangTold 69 = .ok (.ifCond .eq 13, 3) := by decide +kernel
theorem dX6_gangTold_72 : decode cX6_gangTold 72 = .ok (.aload_n 0, 1) := by decide +kernel
theorem dX6_gangTold_73 : decode cX6_gangTold 73 = .ok (.getfield 26, 3) := by decide +kernel
theorem dX6_gangTold_76 : decode cX6_gangTold 76 = .ok (.bipush 113, 2) := by decide +kernel
theorem dX6_gangTold_78 : decode cX6_gangTold 78 = .ok (.iaload, 1) := by decide +kernel
theorem dX6_gangTold_79 : decode cX6_gangTold 79 = .ok (.goto 4, 3) := by decide +kernel
theorem dX6_gangTold_82 : decode cX6_gangTold 82 = .ok (.iconst (-1), 1) := by decide +kernel
theorem dX6_gangTold_83 : decode cX6_gangTold 83 = .ok (.ireturn, 1) := by decide +kernel
theorem dX6_gangTold_84 : decode cX6_gangTold 84 = .ok (.aload_n 0, 1) := by decide +kernel
theorem dX6_gangTold_85 : decode cX6_gangTold 85 = .ok (.getfield 26, 3) := by decide +kernel
theorem dX6_gangTold_88 : decode cX6_gangTold 88 = .ok (.bipush 109, 2) := by decide +kernel
theorem dX6_gangTold_90 : decode cX6_gangTold 90 = .ok (.iaload, 1) := by decide +kernel
theorem dX6_gangTold_91 : decode cX6_gangTold 91 = .ok (.ireturn, 1) := by decide +kernel
theorem dX6_gangTold_92 : decode cX6_gangTold 92 = .ok (.iload_n 2, 1) := by decide +kernel
theorem dX6_gangTold_93 : decode cX6_gangTold 93 = .ok (.ifCond .eq 17, 3) := by decide +kernel
theorem dX6_gangTold_96 : decode cX6_gangTold 96 = .ok (.aload_n 0, 1) := by decide +kernel
theorem dX6_gangTold_97 : decode cX6_gangTold 97 = .ok (.aload_n 0, 1) := by decide +kernel
theorem dX6_gangTold_98 : decode cX6_gangTold 98 = .ok (.getfield 26, 3) := by decide +kernel
theorem dX6_gangTold_101 : decode cX6_gangTold 101 = .ok (.bipush 113, 2) := by decide +kernel
theorem dX6_gangTold_103 : decode cX6_gangTold 103 = .ok (.iaload, 1) := by decide +kernel
theorem dX6_gangTold_104 : decode cX6_gangTold 104 = .ok (.invokevirtual 82, 3) := by decide +kernel
theorem dX6_gangTold_107 : decode cX6_gangTold 107 = .ok (.goto 4, 3) := by decide +kernel
theorem dX6_gangTold_110 : decode cX6_gangTold 110 = .ok (.iconst (-1), 1) := by decide +kernel
theorem dX6_gangTold_111 : decode cX6_gangTold 111 = .ok (.ireturn, 1) := by decide +kernel
theorem dX6_gangTold_112 : decode cX6_gangTold 112 = .ok (.aload_n 0, 1) := by decide +kernel
theorem dX6_gangTold_113 : decode cX6_gangTold 113 = .ok (.getfield 26, 3) := by decide +kernel
theorem dX6_gangTold_116 : decode cX6_gangTold 116 = .ok (.bipush 108, 2) := by decide +kernel
theorem dX6_gangTold_118 : decode cX6_gangTold 118 = .ok (.iload_n 1, 1) := by decide +kernel
theorem dX6_gangTold_119 : decode cX6_gangTold 119 = .ok (.iadd, 1) := by decide +kernel
theorem dX6_gangTold_120 : decode cX6_gangTold 120 = .ok (.iconst 1, 1) := by decide +kernel
theorem dX6_gangTold_121 : decode cX6_gangTold 121 = .ok (.isub, 1) := by decide +kernel
theorem dX6_gangTold_122 : decode cX6_gangTold 122 = .ok (.iaload, 1) := by decide +kernel
theorem dX6_gangTold_123 : decode cX6_gangTold 123 = .ok (.ireturn, 1) := by decide +kernel
set_option maxRecDepth 20000 in
theorem ggX6_gang_X6_isIn : GoodIn wsX6_gang wsX6_isIn := goodIn_r _ [5] (by decide +kernel) (by decide +kernel)
set_option maxRecDepth 20000 in
theorem gX6_gang_X6_isIn : GoodIn wsX6_gang (va_wsS RX6 32 yX6_isIn wsX6_isIn) := goodIn_app (goodIn_of _ (by decide +kernel)) ggX6_gang_X6_isIn
set_option maxRecDepth 20000 in
theorem ggX6_gang_X6_gangTold : GoodIn wsX6_gang wsX6_gangTold := goodIn_r _ [9, 10, 11, 12, 13, 4, 14, 15, 16, 17, 18, 19, 20, 21, 26, 27, 28, 29, 30, 31, 32, 33] (by decide +kernel) (by decide +kernel)
set_option maxRecDepth 20000 in
theorem gX6_gang_X6_gangTold : GoodIn wsX6_gang (wsV RX6 85 RX6 yX6_gangTold wsX6_gangTold) := goodIn_app (goodIn_of _ (by decide +kernel)) ggX6_gang_X6_gangTold
set_option maxRecDepth 20000 in
theorem ggX6_gang_X6_no : GoodIn wsX6_gang wsX6_no := goodIn_r _ [25, 1, 26, 27, 28, 29, 30, 31, 32, 33] (by decide +kernel) (by decide +kernel)
set_option maxRecDepth 20000 in
theorem gX6_gang_X6_no : GoodIn wsX6_gang (wsV RX6 39 RX6 yX6_no wsX6_no) := goodIn_app (goodIn_of _ (by decide +kernel)) ggX6_gang_X6_no
theorem dX6_gang_0 : decode cX6_gang 0 = .ok (.aload_n 0, 1) := by decide +kernel
theorem dX6_gang_1 : decode cX6_gang 1 = .ok (.iconst 0, 1) := by decide +kernel
theorem dX6_gang_2 : decode cX6_gang 2 = .ok (.putfield 1, 3) := by decide +kernel
theorem dX6_gang_5 : decode cX6_gang 5 = .ok (.iload_n 1, 1) := by decide +kernel
theorem dX6_gang_6 : decode cX6_gang 6 = .ok (.iconst 0, 1) := by decide +kernel
theorem dX6_gang_7 : decode cX6_gang 7 = .ok (.bipush 6, 2) := by decide +kernel
theorem dX6_gang_9 : decode cX6_gang 9 = .ok (.invokestatic 32, 3) := by decide +kernel
theorem dX6_gang_12 : decode cX6_gang 12 = .ok (.ifCond .eq 11, 3) := by decide +kernel
theorem dX6_gang_15 : decode cX6_gang 15 = .ok (.aload_n 0, 1) := by decide +kernel
theorem dX6_gang_16 : decode cX6_gang 16 = .ok (.iload_n 1, 1) := by decide +kernel
theorem dX6_gang_17 : decode cX6_gang 17 = .ok (.invokevirtual 85, 3) := by decide +kernel
theorem dX6_gang_20 : decode cX6_gang 20 = .ok (.goto 8, 3) := by decide +kernel
theorem dX6_gang_23 : decode cX6_gang 23 = .ok (.aload_n 0, 1) := by decide +kernel
theorem dX6_gang_24 : decode cX6_gang 24 = .ok (.iconst 1, 1) := by decide +kernel
theorem dX6_gang_25 : decode cX6_gang 25 = .ok (.invokevirtual 39, 3) := by decide +kernel
theorem dX6_gang_28 : decode cX6_gang 28 = .ok (.ireturn, 1) := by decide +kernel
theorem dX6_sum_0 : decode cX6_sum 0 = .ok (.iconst 0, 1) := by decide +kernel
theorem dX6_sum_1 : decode cX6_sum 1 = .ok (.istore_n 2, 1) := by decide +kernel
theorem dX6_sum_2 : decode cX6_sum 2 = .ok (.iconst 0, 1) := by decide +kernel
theorem dX6_sum_3 : decode cX6_sum 3 = .ok (.istore_n 3, 1) := by decide +kernel
theorem dX6_sum_4 : decode cX6_sum 4 = .ok (.iload_n 3, 1) := by decide +kernel
theorem dX6_sum_5 : decode cX6_sum 5 = .ok (.bipush 24, 2) := by decide +kernel
theorem dX6_sum_7 : decode cX6_sum 7 = .ok (.if_icmp .ge 17, 3) := by decide +kernel
theorem dX6_sum_10 : decode cX6_sum 10 = .ok (.iload_n 2, 1) := by decide +kernel
theorem dX6_sum_11 : decode cX6_sum 11 = .ok (.aload_n 0, 1) := by decide +kernel
theorem dX6_sum_12 : decode cX6_sum 12 = .ok (.iload_n 1, 1) := by decide +kernel
theorem dX6_sum_13 : decode cX6_sum 13 = .ok (.iload_n 3, 1) := by decide +kernel
theorem dX6_sum_14 : decode cX6_sum 14 = .ok (.iadd, 1) := by decide +kernel
theorem dX6_sum_15 : decode cX6_sum 15 = .ok (.iaload, 1) := by decide +kernel
theorem dX6_sum_16 : decode cX6_sum 16 = .ok (.iadd, 1) := by decide +kernel
theorem dX6_sum_17 : decode cX6_sum 17 = .ok (.istore_n 2, 1) := by decide +kernel
theorem dX6_sum_18 : decode cX6_sum 18 = .ok (.iinc 3 1, 3) := by decide +kernel
theorem dX6_sum_21 : decode cX6_sum 21 = .ok (.goto (-17), 3) := by decide +kernel
theorem dX6_sum_24 : decode cX6_sum 24 = .ok (.iload_n 2, 1) := by decide +kernel
theorem dX6_sum_25 : decode cX6_sum 25 = .ok (.ireturn, 1) := by decide +kernel
theorem dX6_ofBuses_0 : decode cX6_ofBuses 0 = .ok (.iconst 0, 1) := by decide +kernel
theorem dX6_ofBuses_1 : decode cX6_ofBuses 1 = .ok (.istore_n 3, 1) := by decide +kernel
theorem dX6_ofBuses_2 : decode cX6_ofBuses 2 = .ok (.iconst 0, 1) := by decide +kernel
theorem dX6_ofBuses_3 : decode cX6_ofBuses 3 = .ok (.istore 4, 2) := by decide +kernel
theorem dX6_ofBuses_5 : decode cX6_ofBuses 5 = .ok (.iload 4, 2) := by decide +kernel
theorem dX6_ofBuses_7 : decode cX6_ofBuses 7 = .ok (.aload_n 0, 1) := by decide +kernel
theorem dX6_ofBuses_8 : decode cX6_ofBuses 8 = .ok (.getfield 36, 3) := by decide +kernel
theorem dX6_ofBuses_11 : decode cX6_ofBuses 11 = .ok (.if_icmp .ge 24, 3) := by decide +kernel
theorem dX6_ofBuses_14 : decode cX6_ofBuses 14 = .ok (.iload_n 3, 1) := by decide +kernel
theorem dX6_ofBuses_15 : decode cX6_ofBuses 15 = .ok (.aload_n 1, 1) := by decide +kernel
theorem dX6_ofBuses_16 : decode cX6_ofBuses 16 = .ok (.bipush 72, 2) := by decide +kernel
theorem dX6_ofBuses_18 : decode cX6_ofBuses 18 = .ok (.bipush 6, 2) := by decide +kernel
theorem dX6_ofBuses_20 : decode cX6_ofBuses 20 = .ok (.iload 4, 2) := by decide +kernel
theorem dX6_ofBuses_22 : decode cX6_ofBuses 22 = .ok (.imul, 1) := by decide +kernel
theorem dX6_ofBuses_23 : decode cX6_ofBuses 23 = .ok (.iadd, 1) := by decide +kernel
theorem dX6_ofBuses_24 : decode cX6_ofBuses 24 = .ok (.iload_n 2, 1) := by decide +kernel
theorem dX6_ofBuses_25 : decode cX6_ofBuses 25 = .ok (.iadd, 1) := by decide +kernel
theorem dX6_ofBuses_26 : decode cX6_ofBuses 26 = .ok (.iaload, 1) := by decide +kernel
theorem dX6_ofBuses_27 : decode cX6_ofBuses 27 = .ok (.iadd, 1) := by decide +kernel
theorem dX6_ofBuses_28 : decode cX6_ofBuses 28 = .ok (.istore_n 3, 1) := by decide +kernel
theorem dX6_ofBuses_29 : decode cX6_ofBuses 29 = .ok (.iinc 4 1, 3) := by decide +kernel
theorem dX6_ofBuses_32 : decode cX6_ofBuses 32 = .ok (.goto (-27), 3) := by decide +kernel
theorem dX6_ofBuses_35 : decode cX6_ofBuses 35 = .ok (.iload_n 3, 1) := by decide +kernel
theorem dX6_ofBuses_36 : decode cX6_ofBuses 36 = .ok (.ireturn, 1) := by decide +kernel
set_option maxRecDepth 20000 in
theorem ggX6_summed_X6_sum : GoodIn wsX6_summed wsX6_sum := goodIn_r _ [4] (by decide +kernel) (by decide +kernel)
set_option maxRecDepth 20000 in
theorem gX6_summed_X6_sum : GoodIn wsX6_summed (va_wsS RX6 88 yX6_sum wsX6_sum) := goodIn_app (goodIn_of _ (by decide +kernel)) ggX6_summed_X6_sum
set_option maxRecDepth 20000 in
theorem ggX6_summed_X6_ofBuses : GoodIn wsX6_summed wsX6_ofBuses := goodIn_r _ [8, 9, 10, 11, 12, 13, 14, 15, 16, 17] (by decide +kernel) (by decide +kernel)
set_option maxRecDepth 20000 in
theorem gX6_summed_X6_ofBuses : GoodIn wsX6_summed (wsV RX6 92 RX6 yX6_ofBuses wsX6_ofBuses) := goodIn_app (goodIn_of _ (by decide +kernel)) ggX6_summed_X6_ofBuses
theorem dX6_summed_0 : decode cX6_summed 0 = .ok (.iload_n 2, 1) := by decide +kernel
theorem dX6_summed_1 : decode cX6_summed 1 = .ok (.tableswitch 64 2 7 #[39, 64, 64, 44, 51, 57], 39) := by decide +kernel
theorem dX6_summed_40 : decode cX6_summed 40 = .ok (.aload_n 1, 1) := by decide +kernel
theorem dX6_summed_41 : decode cX6_summed 41 = .ok (.bipush 119, 2) := by decide +kernel
theorem dX6_summed_43 : decode cX6_summed 43 = .ok (.iaload, 1) := by decide +kernel
theorem dX6_summed_44 : decode cX6_summed 44 = .ok (.ireturn, 1) := by decide +kernel
theorem dX6_summed_45 : decode cX6_summed 45 = .ok (.aload_n 1, 1) := by decide +kernel
theorem dX6_summed_46 : decode cX6_summed 46 = .ok (.bipush 48, 2) := by decide +kernel
theorem dX6_summed_48 : decode cX6_summed 48 = .ok (.invokestatic 88, 3) := by decide +kernel
theorem dX6_summed_51 : decode cX6_summed 51 = .ok (.ireturn, 1) := by decide +kernel
theorem dX6_summed_52 : decode cX6_summed 52 = .ok (.aload_n 1, 1) := by decide +kernel
theorem dX6_summed_53 : decode cX6_summed 53 = .ok (.iconst 0, 1) := by decide +kernel
theorem dX6_summed_54 : decode cX6_summed 54 = .ok (.invokestatic 88, 3) := by decide +kernel
theorem dX6_summed_57 : decode cX6_summed 57 = .ok (.ireturn, 1) := by decide +kernel
theorem dX6_summed_58 : decode cX6_summed 58 = .ok (.aload_n 1, 1) := by decide +kernel
theorem dX6_summed_59 : decode cX6_summed 59 = .ok (.bipush 24, 2) := by decide +kernel
theorem dX6_summed_61 : decode cX6_summed 61 = .ok (.invokestatic 88, 3) := by decide +kernel
theorem dX6_summed_64 : decode cX6_summed 64 = .ok (.ireturn, 1) := by decide +kernel
theorem dX6_summed_65 : decode cX6_summed 65 = .ok (.aload_n 0, 1) := by decide +kernel
theorem dX6_summed_66 : decode cX6_summed 66 = .ok (.aload_n 1, 1) := by decide +kernel
theorem dX6_summed_67 : decode cX6_summed 67 = .ok (.iconst 5, 1) := by decide +kernel
theorem dX6_summed_68 : decode cX6_summed 68 = .ok (.invokevirtual 92, 3) := by decide +kernel
theorem dX6_summed_71 : decode cX6_summed 71 = .ok (.ireturn, 1) := by decide +kernel
set_option maxRecDepth 20000 in
theorem ggX6_counted_X6_isNight : GoodIn wsX6_counted wsX6_isNight := goodIn_r _ [6] (by decide +kernel) (by decide +kernel)
set_option maxRecDepth 20000 in
theorem gX6_counted_X6_isNight : GoodIn wsX6_counted (va_wsS RX6 95 yX6_isNight wsX6_isNight) := goodIn_app (goodIn_of _ (by decide +kernel)) ggX6_counted_X6_isNight
set_option maxRecDepth 20000 in
theorem ggX6_counted_X6_ofBuses : GoodIn wsX6_counted wsX6_ofBuses := goodIn_r _ [10, 2, 18, 19, 20, 21, 22, 23, 24, 25] (by decide +kernel) (by decide +kernel)
set_option maxRecDepth 20000 in
theorem gX6_counted_X6_ofBuses : GoodIn wsX6_counted (wsV RX6 92 RX6 yX6_ofBuses wsX6_ofBuses) := goodIn_app (goodIn_of _ (by decide +kernel)) ggX6_counted_X6_ofBuses
set_option maxRecDepth 20000 in
theorem ggX6_counted_X6_summed : GoodIn wsX6_counted wsX6_summed := goodIn_r _ [14, 15, 16, 5, 17, 7, 8, 9, 10, 2, 18, 19, 20, 21, 22, 23, 24, 25] (by decide +kernel) (by decide +kernel)
set_option maxRecDepth 20000 in
theorem gX6_counted_X6_summed : GoodIn wsX6_counted (wsV RX6 98 RX6 yX6_summed wsX6_summed) := goodIn_app (goodIn_of _ (by decide +kernel)) ggX6_counted_X6_summed
theorem dX6_counted_0 : decode cX6_counted 0 = .ok (.iload_n 1, 1) := by decide +kernel
theorem dX6_counted_1 : decode cX6_counted 1 = .ok (.ifCond .ne 13, 3) := by decide +kernel
theorem dX6_counted_4 : decode cX6_counted 4 = .ok (.aload_n 0, 1) := by decide +kernel
theorem dX6_counted_5 : decode cX6_counted 5 = .ok (.getfield 26, 3) := by decide +kernel
theorem dX6_counted_8 : decode cX6_counted 8 = .ok (.bipush 120, 2) := by decide +kernel
theorem dX6_counted_10 : decode cX6_counted 10 = .ok (.iaload, 1) := by decide +kernel
theorem dX6_counted_11 : decode cX6_counted 11 = .ok (.goto 67, 3) := by decide +kernel
theorem dX6_counted_14 : decode cX6_counted 14 = .ok (.iload_n 1, 1) := by decide +kernel
theorem dX6_counted_15 : decode cX6_counted 15 = .ok (.iconst 1, 1) := by decide +kernel
theorem dX6_counted_16 : decode cX6_counted 16 = .ok (.if_icmp .ne 24, 3) := by decide +kernel
theorem dX6_counted_19 : decode cX6_counted 19 = .ok (.aload_n 0, 1) := by decide +kernel
theorem dX6_counted_20 : decode cX6_counted 20 = .ok (.getfield 26, 3) := by decide +kernel
theorem dX6_counted_23 : decode cX6_counted 23 = .ok (.bipush 120, 2) := by decide +kernel
theorem dX6_counted_25 : decode cX6_counted 25 = .ok (.iaload, 1) := by decide +kernel
theorem dX6_counted_26 : decode cX6_counted 26 = .ok (.invokestatic 95, 3) := by decide +kernel
theorem dX6_counted_29 : decode cX6_counted 29 = .ok (.ifCond .eq 7, 3) := by decide +kernel
theorem dX6_counted_32 : decode cX6_counted 32 = .ok (.iconst 1, 1) := by decide +kernel
theorem dX6_counted_33 : decode cX6_counted 33 = .ok (.goto 45, 3) := by decide +kernel
theorem dX6_counted_36 : decode cX6_counted 36 = .ok (.iconst 0, 1) := by decide +kernel
theorem dX6_counted_37 : decode cX6_counted 37 = .ok (.goto 41, 3) := by decide +kernel
theorem dX6_counted_40 : decode cX6_counted 40 = .ok (.iload_n 1, 1) := by decide +kernel
theorem dX6_counted_41 : decode cX6_counted 41 = .ok (.iconst 3, 1) := by decide +kernel
theorem dX6_counted_42 : decode cX6_counted 42 = .ok (.if_icmp .ne 10, 3) := by decide +kernel
theorem dX6_counted_45 : decode cX6_counted 45 = .ok (.aload_n 0, 1) := by decide +kernel
theorem dX6_counted_46 : decode cX6_counted 46 = .ok (.getfield 36, 3) := by decide +kernel
theorem dX6_counted_49 : decode cX6_counted 49 = .ok (.goto 29, 3) := by decide +kernel
theorem dX6_counted_52 : decode cX6_counted 52 = .ok (.iload_n 1, 1) := by decide +kernel
theorem dX6_counted_53 : decode cX6_counted 53 = .ok (.iconst 4, 1) := by decide +kernel
theorem dX6_counted_54 : decode cX6_counted 54 = .ok (.if_icmp .ne 15, 3) := by decide +kernel
theorem dX6_counted_57 : decode cX6_counted 57 = .ok (.aload_n 0, 1) := by decide +kernel
theorem dX6_counted_58 : decode cX6_counted 58 = .ok (.aload_n 0, 1) := by decide +kernel
theorem dX6_counted_59 : decode cX6_counted 59 = .ok (.getfield 26, 3) := by decide +kernel
theorem dX6_counted_62 : decode cX6_counted 62 = .ok (.iconst 2, 1) := by decide +kernel
theorem dX6_counted_63 : decode cX6_counted 63 = .ok (.invokevirtual 92, 3) := by decide +kernel
theorem dX6_counted_66 : decode cX6_counted 66 = .ok (.goto 12, 3) := by decide +kernel
theorem dX6_counted_69 : decode cX6_counted 69 = .ok (.aload_n 0, 1) := by decide +kernel
theorem dX6_counted_70 : decode cX6_counted 70 = .ok (.aload_n 0, 1) := by decide +kernel
theorem dX6_counted_71 : decode cX6_counted 71 = .ok (.getfield 26, 3) := by decide +kernel
theorem dX6_counted_74 : decode cX6_counted 74 = .ok (.iload_n 1, 1) := by decide +kernel
theorem dX6_counted_75 : decode cX6_counted 75 = .ok (.invokevirtual 98, 3) := by decide +kernel
theorem dX6_counted_78 : decode cX6_counted 78 = .ok (.ireturn, 1) := by decide +kernel
set_option maxRecDepth 20000 in
theorem ggX6_count_X6_isIn : GoodIn wsX6_count wsX6_isIn := goodIn_r _ [5] (by decide +kernel) (by decide +kernel)
set_option maxRecDepth 20000 in
theorem gX6_count_X6_isIn : GoodIn wsX6_count (va_wsS RX6 32 yX6_isIn wsX6_isIn) := goodIn_app (goodIn_of _ (by decide +kernel)) ggX6_count_X6_isIn
set_option maxRecDepth 20000 in
theorem ggX6_count_X6_counted : GoodIn wsX6_count wsX6_counted := goodIn_r _ [9, 10, 11, 12, 13, 4, 14, 15, 16, 17, 18, 19, 20, 21, 22, 23, 24, 25, 30, 31, 32, 33, 34, 35, 36, 37] (by decide +kernel) (by decide +kernel)
set_option maxRecDepth 20000 in
theorem gX6_count_X6_counted : GoodIn wsX6_count (wsV RX6 101 RX6 yX6_counted wsX6_counted) := goodIn_app (goodIn_of _ (by decide +kernel)) ggX6_count_X6_counted
set_option maxRecDepth 20000 in
theorem ggX6_count_X6_no : GoodIn wsX6_count wsX6_no := goodIn_r _ [29, 1, 30, 31, 32, 33, 34, 35, 36, 37] (by decide +kernel) (by decide +kernel)
set_option maxRecDepth 20000 in
theorem gX6_count_X6_no : GoodIn wsX6_count (wsV RX6 39 RX6 yX6_no wsX6_no) := goodIn_app (goodIn_of _ (by decide +kernel)) ggX6_count_X6_no
theorem dX6_count_0 : decode cX6_count 0 = .ok (.aload_n 0, 1) := by decide +kernel
theorem dX6_count_1 : decode cX6_count 1 = .ok (.iconst 0, 1) := by decide +kernel
theorem dX6_count_2 : decode cX6_count 2 = .ok (.putfield 1, 3) := by decide +kernel
theorem dX6_count_5 : decode cX6_count 5 = .ok (.iload_n 1, 1) := by decide +kernel
theorem dX6_count_6 : decode cX6_count 6 = .ok (.iconst 0, 1) := by decide +kernel
theorem dX6_count_7 : decode cX6_count 7 = .ok (.bipush 8, 2) := by decide +kernel
theorem dX6_count_9 : decode cX6_count 9 = .ok (.invokestatic 32, 3) := by decide +kernel
theorem dX6_count_12 : decode cX6_count 12 = .ok (.ifCond .eq 11, 3) := by decide +kernel
theorem dX6_count_15 : decode cX6_count 15 = .ok (.aload_n 0, 1) := by decide +kernel
theorem dX6_count_16 : decode cX6_count 16 = .ok (.iload_n 1, 1) := by decide +kernel
theorem dX6_count_17 : decode cX6_count 17 = .ok (.invokevirtual 101, 3) := by decide +kernel
theorem dX6_count_20 : decode cX6_count 20 = .ok (.goto 8, 3) := by decide +kernel
theorem dX6_count_23 : decode cX6_count 23 = .ok (.aload_n 0, 1) := by decide +kernel
theorem dX6_count_24 : decode cX6_count 24 = .ok (.iconst 1, 1) := by decide +kernel
theorem dX6_count_25 : decode cX6_count 25 = .ok (.invokevirtual 39, 3) := by decide +kernel
theorem dX6_count_28 : decode cX6_count 28 = .ok (.ireturn, 1) := by decide +kernel
theorem dX6_wear_0 : decode cX6_wear 0 = .ok (.aload_n 0, 1) := by decide +kernel
theorem dX6_wear_1 : decode cX6_wear 1 = .ok (.iconst 0, 1) := by decide +kernel
theorem dX6_wear_2 : decode cX6_wear 2 = .ok (.iload_n 1, 1) := by decide +kernel
theorem dX6_wear_3 : decode cX6_wear 3 = .ok (.iadd, 1) := by decide +kernel
theorem dX6_wear_4 : decode cX6_wear 4 = .ok (.bipush 100, 2) := by decide +kernel
theorem dX6_wear_6 : decode cX6_wear 6 = .ok (.aload_n 0, 1) := by decide +kernel
theorem dX6_wear_7 : decode cX6_wear 7 = .ok (.iconst 0, 1) := by decide +kernel
theorem dX6_wear_8 : decode cX6_wear 8 = .ok (.iload_n 1, 1) := by decide +kernel
theorem dX6_wear_9 : decode cX6_wear 9 = .ok (.iadd, 1) := by decide +kernel
theorem dX6_wear_10 : decode cX6_wear 10 = .ok (.iaload, 1) := by decide +kernel
theorem dX6_wear_11 : decode cX6_wear 11 = .ok (.iload_n 2, 1) := by decide +kernel
theorem dX6_wear_12 : decode cX6_wear 12 = .ok (.iadd, 1) := by decide +kernel
theorem dX6_wear_13 : decode cX6_wear 13 = .ok (.invokestatic 77, 3) := by decide +kernel
theorem dX6_wear_16 : decode cX6_wear 16 = .ok (.iastore, 1) := by decide +kernel
theorem dX6_wear_17 : decode cX6_wear 17 = .ok (.aload_n 0, 1) := by decide +kernel
theorem dX6_wear_18 : decode cX6_wear 18 = .ok (.iconst 0, 1) := by decide +kernel
theorem dX6_wear_19 : decode cX6_wear 19 = .ok (.iload_n 1, 1) := by decide +kernel
theorem dX6_wear_20 : decode cX6_wear 20 = .ok (.iadd, 1) := by decide +kernel
theorem dX6_wear_21 : decode cX6_wear 21 = .ok (.iaload, 1) := by decide +kernel
theorem dX6_wear_22 : decode cX6_wear 22 = .ok (.bipush 100, 2) := by decide +kernel
theorem dX6_wear_24 : decode cX6_wear 24 = .ok (.if_icmp .ne 10, 3) := by decide +kernel
theorem dX6_wear_27 : decode cX6_wear 27 = .ok (.aload_n 0, 1) := by decide +kernel
theorem dX6_wear_28 : decode cX6_wear 28 = .ok (.bipush 48, 2) := by decide +kernel
theorem dX6_wear_30 : decode cX6_wear 30 = .ok (.iload_n 1, 1) := by decide +kernel
theorem dX6_wear_31 : decode cX6_wear 31 = .ok (.iadd, 1) := by decide +kernel
theorem dX6_wear_32 : decode cX6_wear 32 = .ok (.iconst 1, 1) := by decide +kernel
theorem dX6_wear_33 : decode cX6_wear 33 = .ok (.iastore, 1) := by decide +kernel
theorem dX6_wear_34 : decode cX6_wear 34 = .ok (.return_, 1) := by decide +kernel
set_option maxRecDepth 20000 in
theorem ggX6_freeze_X6_isNight : GoodIn wsX6_freeze wsX6_isNight := goodIn_r _ [12] (by decide +kernel) (by decide +kernel)
set_option maxRecDepth 20000 in
theorem gX6_freeze_X6_isNight : GoodIn wsX6_freeze (va_wsS RX6 95 yX6_isNight wsX6_isNight) := goodIn_app (goodIn_of _ (by decide +kernel)) ggX6_freeze_X6_isNight
theorem dX6_freeze_0 : decode cX6_freeze 0 = .ok (.aload_n 1, 1) := by decide +kernel
theorem dX6_freeze_1 : decode cX6_freeze 1 = .ok (.bipush 120, 2) := by decide +kernel
theorem dX6_freeze_3 : decode cX6_freeze 3 = .ok (.iaload, 1) := by decide +kernel
theorem dX6_freeze_4 : decode cX6_freeze 4 = .ok (.istore_n 2, 1) := by decide +kernel
theorem dX6_freeze_5 : decode cX6_freeze 5 = .ok (.bipush 24, 2) := by decide +kernel
theorem dX6_freeze_7 : decode cX6_freeze 7 = .ok (.istore_n 3, 1) := by decide +kernel
theorem dX6_freeze_8 : decode cX6_freeze 8 = .ok (.iload_n 3, 1) := by decide +kernel
theorem dX6_freeze_9 : decode cX6_freeze 9 = .ok (.bipush 48, 2) := by decide +kernel
theorem dX6_freeze_11 : decode cX6_freeze 11 = .ok (.if_icmp .ge 49, 3) := by decide +kernel
theorem dX6_freeze_14 : decode cX6_freeze 14 = .ok (.aload_n 1, 1) := by decide +kernel
theorem dX6_freeze_15 : decode cX6_freeze 15 = .ok (.iload_n 3, 1) := by decide +kernel
theorem dX6_freeze_16 : decode cX6_freeze 16 = .ok (.iload_n 2, 1) := by decide +kernel
theorem dX6_freeze_17 : decode cX6_freeze 17 = .ok (.invokestatic 95, 3) := by decide +kernel
theorem dX6_freeze_20 : decode cX6_freeze 20 = .ok (.ifCond .eq 24, 3) := by decide +kernel
theorem dX6_freeze_23 : decode cX6_freeze 23 = .ok (.bipush 9, 2) := by decide +kernel
theorem dX6_freeze_25 : decode cX6_freeze 25 = .ok (.aload_n 1, 1) := by decide +kernel
theorem dX6_freeze_26 : decode cX6_freeze 26 = .ok (.iload_n 3, 1) := by decide +kernel
theorem dX6_freeze_27 : decode cX6_freeze 27 = .ok (.iaload, 1) := by decide +kernel
theorem dX6_freeze_28 : decode cX6_freeze 28 = .ok (.aload_n 0, 1) := by decide +kernel
theorem dX6_freeze_29 : decode cX6_freeze 29 = .ok (.getfield 19, 3) := by decide +kernel
theorem dX6_freeze_32 : decode cX6_freeze 32 = .ok (.iload_n 2, 1) := by decide +kernel
theorem dX6_freeze_33 : decode cX6_freeze 33 = .ok (.bipush 8, 2) := by decide +kernel
theorem dX6_freeze_35 : decode cX6_freeze 35 = .ok (.irem, 1) := by decide +kernel
theorem dX6_freeze_36 : decode cX6_freeze 36 = .ok (.iaload, 1) := by decide +kernel
theorem dX6_freeze_37 : decode cX6_freeze 37 = .ok (.iadd, 1) := by decide +kernel
theorem dX6_freeze_38 : decode cX6_freeze 38 = .ok (.invokestatic 77, 3) := by decide +kernel
theorem dX6_freeze_41 : decode cX6_freeze 41 = .ok (.goto 12, 3) := by decide +kernel
theorem dX6_freeze_44 : decode cX6_freeze 44 = .ok (.iconst 0, 1) := by decide +kernel
theorem dX6_freeze_45 : decode cX6_freeze 45 = .ok (.aload_n 1, 1) := by decide +kernel
theorem dX6_freeze_46 : decode cX6_freeze 46 = .ok (.iload_n 3, 1) := by decide +kernel
theorem dX6_freeze_47 : decode cX6_freeze 47 = .ok (.iaload, 1) := by decide +kernel
theorem dX6_freeze_48 : decode cX6_freeze 48 = .ok (.iconst 2, 1) := by decide +kernel
theorem dX6_freeze_49 : decode cX6_freeze 49 = .ok (.isub, 1) := by decide +kernel
theorem dX6_freeze_50 : decode cX6_freeze 50 = .ok (.invokestatic 104, 3) := by decide +kernel
theorem dX6_freeze_53 : decode cX6_freeze 53 = .ok (.iastore, 1) := by decide +kernel
theorem dX6_freeze_54 : decode cX6_freeze 54 = .ok (.iinc 3 1, 3) := by decide +kernel
theorem dX6_freeze_57 : decode cX6_freeze 57 = .ok (.goto (-49), 3) := by decide +kernel
theorem dX6_freeze_60 : decode cX6_freeze 60 = .ok (.return_, 1) := by decide +kernel
set_option maxRecDepth 20000 in
theorem ggX6_run_X6_isNight : GoodIn wsX6_run wsX6_isNight := goodIn_r _ [6] (by decide +kernel) (by decide +kernel)
set_option maxRecDepth 20000 in
theorem gX6_run_X6_isNight : GoodIn wsX6_run (va_wsS RX6 95 yX6_isNight wsX6_isNight) := goodIn_app (goodIn_of _ (by decide +kernel)) ggX6_run_X6_isNight
set_option maxRecDepth 20000 in
theorem ggX6_run_X6_wear : GoodIn wsX6_run wsX6_wear := goodIn_r _ [9, 10, 11, 12, 13] (by decide +kernel) (by decide +kernel)
set_option maxRecDepth 20000 in
theorem gX6_run_X6_wear : GoodIn wsX6_run (va_wsS RX6 107 yX6_wear wsX6_wear) := goodIn_app (goodIn_of _ (by decide +kernel)) ggX6_run_X6_wear
theorem dX6_run_0 : decode cX6_run 0 = .ok (.aload_n 1, 1) := by decide +kernel
theorem dX6_run_1 : decode cX6_run 1 = .ok (.bipush 120, 2) := by decide +kernel
theorem dX6_run_3 : decode cX6_run 3 = .ok (.iaload, 1) := by decide +kernel
theorem dX6_run_4 : decode cX6_run 4 = .ok (.invokestatic 95, 3) := by decide +kernel
theorem dX6_run_7 : decode cX6_run 7 = .ok (.ifCond .eq 10, 3) := by decide +kernel
theorem dX6_run_10 : decode cX6_run 10 = .ok (.aload_n 0, 1) := by decide +kernel
theorem dX6_run_11 : decode cX6_run 11 = .ok (.getfield 16, 3) := by decide +kernel
theorem dX6_run_14 : decode cX6_run 14 = .ok (.goto 7, 3) := by decide +kernel
theorem dX6_run_17 : decode cX6_run 17 = .ok (.aload_n 0, 1) := by decide +kernel
theorem dX6_run_18 : decode cX6_run 18 = .ok (.getfield 13, 3) := by decide +kernel
theorem dX6_run_21 : decode cX6_run 21 = .ok (.istore_n 3, 1) := by decide +kernel
theorem dX6_run_22 : decode cX6_run 22 = .ok (.iconst 0, 1) := by decide +kernel
theorem dX6_run_23 : decode cX6_run 23 = .ok (.istore 4, 2) := by decide +kernel
theorem dX6_run_25 : decode cX6_run 25 = .ok (.iload 4, 2) := by decide +kernel
theorem dX6_run_27 : decode cX6_run 27 = .ok (.iconst 3, 1) := by decide +kernel
theorem dX6_run_28 : decode cX6_run 28 = .ok (.if_icmp .ge 134, 3) := by decide +kernel
theorem dX6_run_31 : decode cX6_run 31 = .ok (.aload_n 1, 1) := by decide +kernel
theorem dX6_run_32 : decode cX6_run 32 = .ok (.iload_n 2, 1) := by decide +kernel
theorem dX6_run_33 : decode cX6_run 33 = .ok (.iaload, 1) := by decide +kernel
theorem dX6_run_34 : decode cX6_run 34 = .ok (.iconst 1, 1) := by decide +kernel
theorem dX6_run_35 : decode cX6_run 35 = .ok (.iadd, 1) := by decide +kernel
theorem dX6_run_36 : decode cX6_run 36 = .ok (.bipush 24, 2) := by decide +kernel
theorem dX6_run_38 : decode cX6_run 38 = .ok (.irem, 1) := by decide +kernel
theorem dX6_run_39 : decode cX6_run 39 = .ok (.istore 5, 2) := by decide +kernel
theorem dX6_run_41 : decode cX6_run 41 = .ok (.aload_n 1, 1) := by decide +kernel
theorem dX6_run_42 : decode cX6_run 42 = .ok (.bipush 48, 2) := by decide +kernel
theorem dX6_run_44 : decode cX6_run 44 = .ok (.iload 5, 2) := by decide +kernel
theorem dX6_run_46 : decode cX6_run 46 = .ok (.iadd, 1) := by decide +kernel
theorem dX6_run_47 : decode cX6_run 47 = .ok (.iaload, 1) := by decide +kernel
theorem dX6_run_48 : decode cX6_run 48 = .ok (.iconst 1, 1) := by decide +kernel
theorem dX6_run_49 : decode cX6_run 49 = .ok (.if_icmp .ne 13, 3) := by decide +kernel
theorem dX6_run_52 : decode cX6_run 52 = .ok (.aload_n 1, 1) := by decide +kernel
theorem dX6_run_53 : decode cX6_run 53 = .ok (.iload_n 2, 1) := by decide +kernel
theorem dX6_run_54 : decode cX6_run 54 = .ok (.iconst 5, 1) := by decide +kernel
theorem dX6_run_55 : decode cX6_run 55 = .ok (.iadd, 1) := by decide +kernel
theorem dX6_run_56 : decode cX6_run 56 = .ok (.dup2, 1) := by decide +kernel
theorem dX6_run_57 : decode cX6_run 57 = .ok (.iaload, 1) := by decide +kernel
theorem dX6_run_58 : decode cX6_run 58 = .ok (.iconst 1, 1) := by decide +kernel
theorem dX6_run_59 : decode cX6_run 59 = .ok (.iadd, 1) := by decide +kernel
theorem dX6_run_60 : decode cX6_run 60 = .ok (.iastore, 1) := by decide +kernel
theorem dX6_run_61 : decode cX6_run 61 = .ok (.return_, 1) := by decide +kernel
theorem dX6_run_62 : decode cX6_run 62 = .ok (.aload_n 1, 1) := by decide +kernel
theorem dX6_run_63 : decode cX6_run 63 = .ok (.iload_n 2, 1) := by decide +kernel
theorem dX6_run_64 : decode cX6_run 64 = .ok (.iload 5, 2) := by decide +kernel
theorem dX6_run_66 : decode cX6_run 66 = .ok (.iastore, 1) := by decide +kernel
theorem dX6_run_67 : decode cX6_run 67 = .ok (.aload_n 1, 1) := by decide +kernel
theorem dX6_run_68 : decode cX6_run 68 = .ok (.iload_n 2, 1) := by decide +kernel
theorem dX6_run_69 : decode cX6_run 69 = .ok (.iconst 3, 1) := by decide +kernel
theorem dX6_run_70 : decode cX6_run 70 = .ok (.iadd, 1) := by decide +kernel
theorem dX6_run_71 : decode cX6_run 71 = .ok (.dup2, 1) := by decide +kernel
theorem dX6_run_72 : decode cX6_run 72 = .ok (.iaload, 1) := by decide +kernel
theorem dX6_run_73 : decode cX6_run 73 = .ok (.iconst 1, 1) := by decide +kernel
theorem dX6_run_74 : decode cX6_run 74 = .ok (.iadd, 1) := by decide +kernel
theorem dX6_run_75 : decode cX6_run 75 = .ok (.iastore, 1) := by decide +kernel
theorem dX6_run_76 : decode cX6_run 76 = .ok (.aload_n 1, 1) := by decide +kernel
theorem dX6_run_77 : decode cX6_run 77 = .ok (.iload_n 2, 1) := by decide +kernel
theorem dX6_run_78 : decode cX6_run 78 = .ok (.iconst 4, 1) := by decide +kernel
theorem dX6_run_79 : decode cX6_run 79 = .ok (.iadd, 1) := by decide +kernel
theorem dX6_run_80 : decode cX6_run 80 = .ok (.dup2, 1) := by decide +kernel
theorem dX6_run_81 : decode cX6_run 81 = .ok (.iaload, 1) := by decide +kernel
theorem dX6_run_82 : decode cX6_run 82 = .ok (.iload_n 3, 1) := by decide +kernel
theorem dX6_run_83 : decode cX6_run 83 = .ok (.iadd, 1) := by decide +kernel
theorem dX6_run_84 : decode cX6_run 84 = .ok (.iastore, 1) := by decide +kernel
theorem dX6_run_85 : decode cX6_run 85 = .ok (.aload_n 1, 1) := by decide +kernel
theorem dX6_run_86 : decode cX6_run 86 = .ok (.bipush 119, 2) := by decide +kernel
theorem dX6_run_88 : decode cX6_run 88 = .ok (.dup2, 1) := by decide +kernel
theorem dX6_run_89 : decode cX6_run 89 = .ok (.iaload, 1) := by decide +kernel
theorem dX6_run_90 : decode cX6_run 90 = .ok (.iload_n 3, 1) := by decide +kernel
theorem dX6_run_91 : decode cX6_run 91 = .ok (.iadd, 1) := by decide +kernel
theorem dX6_run_92 : decode cX6_run 92 = .ok (.iastore, 1) := by decide +kernel
theorem dX6_run_93 : decode cX6_run 93 = .ok (.aload_n 1, 1) := by decide +kernel
theorem dX6_run_94 : decode cX6_run 94 = .ok (.iload_n 2, 1) := by decide +kernel
theorem dX6_run_95 : decode cX6_run 95 = .ok (.iconst 1, 1) := by decide +kernel
theorem dX6_run_96 : decode cX6_run 96 = .ok (.iadd, 1) := by decide +kernel
theorem dX6_run_97 : decode cX6_run 97 = .ok (.iaload, 1) := by decide +kernel
theorem dX6_run_98 : decode cX6_run 98 = .ok (.iconst 1, 1) := by decide +kernel
theorem dX6_run_99 : decode cX6_run 99 = .ok (.if_icmp .ne 7, 3) := by decide +kernel
theorem dX6_run_102 : decode cX6_run 102 = .ok (.iconst 2, 1) := by decide +kernel
theorem dX6_run_103 : decode cX6_run 103 = .ok (.goto 14, 3) := by decide +kernel
theorem dX6_run_106 : decode cX6_run 106 = .ok (.iconst 1, 1) := by decide +kernel
theorem dX6_run_107 : decode cX6_run 107 = .ok (.aload_n 1, 1) := by decide +kernel
theorem dX6_run_108 : decode cX6_run 108 = .ok (.bipush 24, 2) := by decide +kernel
theorem dX6_run_110 : decode cX6_run 110 = .ok (.iload 5, 2) := by decide +kernel
theorem dX6_run_112 : decode cX6_run 112 = .ok (.iadd, 1) := by decide +kernel
theorem dX6_run_113 : decode cX6_run 113 = .ok (.iaload, 1) := by decide +kernel
theorem dX6_run_114 : decode cX6_run 114 = .ok (.iconst 2, 1) := by decide +kernel
theorem dX6_run_115 : decode cX6_run 115 = .ok (.idiv, 1) := by decide +kernel
theorem dX6_run_116 : decode cX6_run 116 = .ok (.iadd, 1) := by decide +kernel
theorem dX6_run_117 : decode cX6_run 117 = .ok (.istore 6, 2) := by decide +kernel
theorem dX6_run_119 : decode cX6_run 119 = .ok (.aload_n 1, 1) := by decide +kernel
theorem dX6_run_120 : decode cX6_run 120 = .ok (.iload_n 2, 1) := by decide +kernel
theorem dX6_run_121 : decode cX6_run 121 = .ok (.iconst 1, 1) := by decide +kernel
theorem dX6_run_122 : decode cX6_run 122 = .ok (.iadd, 1) := by decide +kernel
theorem dX6_run_123 : decode cX6_run 123 = .ok (.iaload, 1) := by decide +kernel
theorem dX6_run_124 : decode cX6_run 124 = .ok (.iconst 1, 1) := by decide +kernel
theorem dX6_run_125 : decode cX6_run 125 = .ok (.if_icmp .ne 11, 3) := by decide +kernel
theorem dX6_run_128 : decode cX6_run 128 = .ok (.aload_n 1, 1) := by decide +kernel
theorem dX6_run_129 : decode cX6_run 129 = .ok (.bipush 24, 2) := by decide +kernel
theorem dX6_run_131 : decode cX6_run 131 = .ok (.iload 5, 2) := by decide +kernel
theorem dX6_run_133 : decode cX6_run 133 = .ok (.iadd, 1) := by decide +kernel
theorem dX6_run_134 : decode cX6_run 134 = .ok (.iconst 0, 1) := by decide +kernel
theorem dX6_run_135 : decode cX6_run 135 = .ok (.iastore, 1) := by decide +kernel
theorem dX6_run_136 : decode cX6_run 136 = .ok (.aload_n 1, 1) := by decide +kernel
theorem dX6_run_137 : decode cX6_run 137 = .ok (.iload 5, 2) := by decide +kernel
theorem dX6_run_139 : decode cX6_run 139 = .ok (.iload 6, 2) := by decide +kernel
theorem dX6_run_141 : decode cX6_run 141 = .ok (.invokestatic 107, 3) := by decide +kernel
theorem dX6_run_144 : decode cX6_run 144 = .ok (.aload_n 1, 1) := by decide +kernel
theorem dX6_run_145 : decode cX6_run 145 = .ok (.bipush 48, 2) := by decide +kernel
theorem dX6_run_147 : decode cX6_run 147 = .ok (.iload 5, 2) := by decide +kernel
theorem dX6_run_149 : decode cX6_run 149 = .ok (.iadd, 1) := by decide +kernel
theorem dX6_run_150 : decode cX6_run 150 = .ok (.iaload, 1) := by decide +kernel
theorem dX6_run_151 : decode cX6_run 151 = .ok (.iconst 1, 1) := by decide +kernel
theorem dX6_run_152 : decode cX6_run 152 = .ok (.if_icmp .ne 4, 3) := by decide +kernel
theorem dX6_run_155 : decode cX6_run 155 = .ok (.return_, 1) := by decide +kernel
theorem dX6_run_156 : decode cX6_run 156 = .ok (.iinc 4 1, 3) := by decide +kernel
theorem dX6_run_159 : decode cX6_run 159 = .ok (.goto (-134), 3) := by decide +kernel
theorem dX6_run_162 : decode cX6_run 162 = .ok (.return_, 1) := by decide +kernel
set_option maxRecDepth 20000 in
theorem ggX6_work_X6_upwards : GoodIn wsX6_work wsX6_upwards := goodIn_r _ [11] (by decide +kernel) (by decide +kernel)
set_option maxRecDepth 20000 in
theorem gX6_work_X6_upwards : GoodIn wsX6_work (va_wsS RX6 74 yX6_upwards wsX6_upwards) := goodIn_app (goodIn_of _ (by decide +kernel)) ggX6_work_X6_upwards
set_option maxRecDepth 20000 in
theorem ggX6_work_X6_remove : GoodIn wsX6_work wsX6_remove := goodIn_r _ [14] (by decide +kernel) (by decide +kernel)
set_option maxRecDepth 20000 in
theorem gX6_work_X6_remove : GoodIn wsX6_work (va_wsS RX6 70 yX6_remove wsX6_remove) := goodIn_app (goodIn_of _ (by decide +kernel)) ggX6_work_X6_remove
theorem dX6_work_0 : decode cX6_work 0 = .ok (.aload_n 0, 1) := by decide +kernel
theorem dX6_work_1 : decode cX6_work 1 = .ok (.bipush 109, 2) := by decide +kernel
theorem dX6_work_3 : decode cX6_work 3 = .ok (.iaload, 1) := by decide +kernel
theorem dX6_work_4 : decode cX6_work 4 = .ok (.ifCond .ne 4, 3) := by decide +kernel
theorem dX6_work_7 : decode cX6_work 7 = .ok (.return_, 1) := by decide +kernel
theorem dX6_work_8 : decode cX6_work 8 = .ok (.aload_n 0, 1) := by decide +kernel
theorem dX6_work_9 : decode cX6_work 9 = .ok (.bipush 113, 2) := by decide +kernel
theorem dX6_work_11 : decode cX6_work 11 = .ok (.iaload, 1) := by decide +kernel
theorem dX6_work_12 : decode cX6_work 12 = .ok (.istore_n 1, 1) := by decide +kernel
theorem dX6_work_13 : decode cX6_work 13 = .ok (.aload_n 0, 1) := by decide +kernel
theorem dX6_work_14 : decode cX6_work 14 = .ok (.bipush 108, 2) := by decide +kernel
theorem dX6_work_16 : decode cX6_work 16 = .ok (.iaload, 1) := by decide +kernel
theorem dX6_work_17 : decode cX6_work 17 = .ok (.iload_n 1, 1) := by decide +kernel
theorem dX6_work_18 : decode cX6_work 18 = .ok (.invokestatic 74, 3) := by decide +kernel
theorem dX6_work_21 : decode cX6_work 21 = .ok (.istore_n 2, 1) := by decide +kernel
theorem dX6_work_22 : decode cX6_work 22 = .ok (.iconst 4, 1) := by decide +kernel
theorem dX6_work_23 : decode cX6_work 23 = .ok (.iload_n 2, 1) := by decide +kernel
theorem dX6_work_24 : decode cX6_work 24 = .ok (.bipush 24, 2) := by decide +kernel
theorem dX6_work_26 : decode cX6_work 26 = .ok (.iload_n 2, 1) := by decide +kernel
theorem dX6_work_27 : decode cX6_work 27 = .ok (.isub, 1) := by decide +kernel
theorem dX6_work_28 : decode cX6_work 28 = .ok (.invokestatic 77, 3) := by decide +kernel
theorem dX6_work_31 : decode cX6_work 31 = .ok (.invokestatic 77, 3) := by decide +kernel
theorem dX6_work_34 : decode cX6_work 34 = .ok (.istore_n 3, 1) := by decide +kernel
theorem dX6_work_35 : decode cX6_work 35 = .ok (.aload_n 0, 1) := by decide +kernel
theorem dX6_work_36 : decode cX6_work 36 = .ok (.bipush 108, 2) := by decide +kernel
theorem dX6_work_38 : decode cX6_work 38 = .ok (.aload_n 0, 1) := by decide +kernel
theorem dX6_work_39 : decode cX6_work 39 = .ok (.bipush 108, 2) := by decide +kernel
theorem dX6_work_41 : decode cX6_work 41 = .ok (.iaload, 1) := by decide +kernel
theorem dX6_work_42 : decode cX6_work 42 = .ok (.iload_n 2, 1) := by decide +kernel
theorem dX6_work_43 : decode cX6_work 43 = .ok (.bipush 24, 2) := by decide +kernel
theorem dX6_work_45 : decode cX6_work 45 = .ok (.iload_n 2, 1) := by decide +kernel
theorem dX6_work_46 : decode cX6_work 46 = .ok (.isub, 1) := by decide +kernel
theorem dX6_work_47 : decode cX6_work 47 = .ok (.if_icmp .gt 7, 3) := by decide +kernel
theorem dX6_work_50 : decode cX6_work 50 = .ok (.iload_n 3, 1) := by decide +kernel
theorem dX6_work_51 : decode cX6_work 51 = .ok (.goto 7, 3) := by decide +kernel
theorem dX6_work_54 : decode cX6_work 54 = .ok (.bipush 24, 2) := by decide +kernel
theorem dX6_work_56 : decode cX6_work 56 = .ok (.iload_n 3, 1) := by decide +kernel
theorem dX6_work_57 : decode cX6_work 57 = .ok (.isub, 1) := by decide +kernel
theorem dX6_work_58 : decode cX6_work 58 = .ok (.iadd, 1) := by decide +kernel
theorem dX6_work_59 : decode cX6_work 59 = .ok (.bipush 24, 2) := by decide +kernel
theorem dX6_work_61 : decode cX6_work 61 = .ok (.irem, 1) := by decide +kernel
theorem dX6_work_62 : decode cX6_work 62 = .ok (.iastore, 1) := by decide +kernel
theorem dX6_work_63 : decode cX6_work 63 = .ok (.aload_n 0, 1) := by decide +kernel
theorem dX6_work_64 : decode cX6_work 64 = .ok (.bipush 108, 2) := by decide +kernel
theorem dX6_work_66 : decode cX6_work 66 = .ok (.iaload, 1) := by decide +kernel
theorem dX6_work_67 : decode cX6_work 67 = .ok (.iload_n 1, 1) := by decide +kernel
theorem dX6_work_68 : decode cX6_work 68 = .ok (.if_icmp .eq 4, 3) := by decide +kernel
theorem dX6_work_71 : decode cX6_work 71 = .ok (.return_, 1) := by decide +kernel
theorem dX6_work_72 : decode cX6_work 72 = .ok (.aload_n 0, 1) := by decide +kernel
theorem dX6_work_73 : decode cX6_work 73 = .ok (.bipush 119, 2) := by decide +kernel
theorem dX6_work_75 : decode cX6_work 75 = .ok (.dup2, 1) := by decide +kernel
theorem dX6_work_76 : decode cX6_work 76 = .ok (.iaload, 1) := by decide +kernel
theorem dX6_work_77 : decode cX6_work 77 = .ok (.iconst 2, 1) := by decide +kernel
theorem dX6_work_78 : decode cX6_work 78 = .ok (.isub, 1) := by decide +kernel
theorem dX6_work_79 : decode cX6_work 79 = .ok (.iastore, 1) := by decide +kernel
theorem dX6_work_80 : decode cX6_work 80 = .ok (.aload_n 0, 1) := by decide +kernel
theorem dX6_work_81 : decode cX6_work 81 = .ok (.bipush 110, 2) := by decide +kernel
theorem dX6_work_83 : decode cX6_work 83 = .ok (.dup2, 1) := by decide +kernel
theorem dX6_work_84 : decode cX6_work 84 = .ok (.iaload, 1) := by decide +kernel
theorem dX6_work_85 : decode cX6_work 85 = .ok (.iconst 1, 1) := by decide +kernel
theorem dX6_work_86 : decode cX6_work 86 = .ok (.iadd, 1) := by decide +kernel
theorem dX6_work_87 : decode cX6_work 87 = .ok (.iastore, 1) := by decide +kernel
theorem dX6_work_88 : decode cX6_work 88 = .ok (.aload_n 0, 1) := by decide +kernel
theorem dX6_work_89 : decode cX6_work 89 = .ok (.bipush 111, 2) := by decide +kernel
theorem dX6_work_91 : decode cX6_work 91 = .ok (.dup2, 1) := by decide +kernel
theorem dX6_work_92 : decode cX6_work 92 = .ok (.iaload, 1) := by decide +kernel
theorem dX6_work_93 : decode cX6_work 93 = .ok (.iconst 1, 1) := by decide +kernel
theorem dX6_work_94 : decode cX6_work 94 = .ok (.iadd, 1) := by decide +kernel
theorem dX6_work_95 : decode cX6_work 95 = .ok (.iastore, 1) := by decide +kernel
theorem dX6_work_96 : decode cX6_work 96 = .ok (.aload_n 0, 1) := by decide +kernel
theorem dX6_work_97 : decode cX6_work 97 = .ok (.bipush 48, 2) := by decide +kernel
theorem dX6_work_99 : decode cX6_work 99 = .ok (.iload_n 1, 1) := by decide +kernel
theorem dX6_work_100 : decode cX6_work 100 = .ok (.iadd, 1) := by decide +kernel
theorem dX6_work_101 : decode cX6_work 101 = .ok (.iaload, 1) := by decide +kernel
theorem dX6_work_102 : decode cX6_work 102 = .ok (.ifCond .ne 38, 3) := by decide +kernel
theorem dX6_work_105 : decode cX6_work 105 = .ok (.aload_n 0, 1) := by decide +kernel
theorem dX6_work_106 : decode cX6_work 106 = .ok (.iconst 0, 1) := by decide +kernel
theorem dX6_work_107 : decode cX6_work 107 = .ok (.iload_n 1, 1) := by decide +kernel
theorem dX6_work_108 : decode cX6_work 108 = .ok (.iadd, 1) := by decide +kernel
theorem dX6_work_109 : decode cX6_work 109 = .ok (.iconst 0, 1) := by decide +kernel
theorem dX6_work_110 : decode cX6_work 110 = .ok (.aload_n 0, 1) := by decide +kernel
theorem dX6_work_111 : decode cX6_work 111 = .ok (.iconst 0, 1) := by decide +kernel
theorem dX6_work_112 : decode cX6_work 112 = .ok (.iload_n 1, 1) := by decide +kernel
theorem dX6_work_113 : decode cX6_work 113 = .ok (.iadd, 1) := by decide +kernel
theorem dX6_work_114 : decode cX6_work 114 = .ok (.iaload, 1) := by decide +kernel
theorem dX6_work_115 : decode cX6_work 115 = .ok (.bipush 30, 2) := by decide +kernel
theorem dX6_work_117 : decode cX6_work 117 = .ok (.isub, 1) := by decide +kernel
theorem dX6_work_118 : decode cX6_work 118 = .ok (.invokestatic 104, 3) := by decide +kernel
theorem dX6_work_121 : decode cX6_work 121 = .ok (.iastore, 1) := by decide +kernel
theorem dX6_work_122 : decode cX6_work 122 = .ok (.aload_n 0, 1) := by decide +kernel
theorem dX6_work_123 : decode cX6_work 123 = .ok (.iconst 0, 1) := by decide +kernel
theorem dX6_work_124 : decode cX6_work 124 = .ok (.iload_n 1, 1) := by decide +kernel
theorem dX6_work_125 : decode cX6_work 125 = .ok (.iadd, 1) := by decide +kernel
theorem dX6_work_126 : decode cX6_work 126 = .ok (.iaload, 1) := by decide +kernel
theorem dX6_work_127 : decode cX6_work 127 = .ok (.bipush 30, 2) := by decide +kernel
theorem dX6_work_129 : decode cX6_work 129 = .ok (.if_icmp .ge 46, 3) := by decide +kernel
theorem dX6_work_132 : decode cX6_work 132 = .ok (.aload_n 0, 1) := by decide +kernel
theorem dX6_work_133 : decode cX6_work 133 = .ok (.iconst 0, 1) := by decide +kernel
theorem dX6_work_134 : decode cX6_work 134 = .ok (.invokestatic 70, 3) := by decide +kernel
theorem dX6_work_137 : decode cX6_work 137 = .ok (.goto 38, 3) := by decide +kernel
theorem dX6_work_140 : decode cX6_work 140 = .ok (.aload_n 0, 1) := by decide +kernel
theorem dX6_work_141 : decode cX6_work 141 = .ok (.bipush 110, 2) := by decide +kernel
theorem dX6_work_143 : decode cX6_work 143 = .ok (.iaload, 1) := by decide +kernel
theorem dX6_work_144 : decode cX6_work 144 = .ok (.iconst 2, 1) := by decide +kernel
theorem dX6_work_145 : decode cX6_work 145 = .ok (.if_icmp .lt 30, 3) := by decide +kernel
theorem dX6_work_148 : decode cX6_work 148 = .ok (.aload_n 0, 1) := by decide +kernel
theorem dX6_work_149 : decode cX6_work 149 = .ok (.bipush 48, 2) := by decide +kernel
theorem dX6_work_151 : decode cX6_work 151 = .ok (.iload_n 1, 1) := by decide +kernel
theorem dX6_work_152 : decode cX6_work 152 = .ok (.iadd, 1) := by decide +kernel
theorem dX6_work_153 : decode cX6_work 153 = .ok (.iconst 0, 1) := by decide +kernel
theorem dX6_work_154 : decode cX6_work 154 = .ok (.iastore, 1) := by decide +kernel
theorem dX6_work_155 : decode cX6_work 155 = .ok (.aload_n 0, 1) := by decide +kernel
theorem dX6_work_156 : decode cX6_work 156 = .ok (.iconst 0, 1) := by decide +kernel
theorem dX6_work_157 : decode cX6_work 157 = .ok (.iload_n 1, 1) := by decide +kernel
theorem dX6_work_158 : decode cX6_work 158 = .ok (.iadd, 1) := by decide +kernel
theorem dX6_work_159 : decode cX6_work 159 = .ok (.bipush 50, 2) := by decide +kernel
theorem dX6_work_161 : decode cX6_work 161 = .ok (.iastore, 1) := by decide +kernel
theorem dX6_work_162 : decode cX6_work 162 = .ok (.aload_n 0, 1) := by decide +kernel
theorem dX6_work_163 : decode cX6_work 163 = .ok (.bipush 112, 2) := by decide +kernel
theorem dX6_work_165 : decode cX6_work 165 = .ok (.dup2, 1) := by decide +kernel
theorem dX6_work_166 : decode cX6_work 166 = .ok (.iaload, 1) := by decide +kernel
theorem dX6_work_167 : decode cX6_work 167 = .ok (.iconst 1, 1) := by decide +kernel
theorem dX6_work_168 : decode cX6_work 168 = .ok (.iadd, 1) := by decide +kernel
theorem dX6_work_169 : decode cX6_work 169 = .ok (.iastore, 1) := by decide +kernel
theorem dX6_work_170 : decode cX6_work 170 = .ok (.aload_n 0, 1) := by decide +kernel
theorem dX6_work_171 : decode cX6_work 171 = .ok (.iconst 0, 1) := by decide +kernel
theorem dX6_work_172 : decode cX6_work 172 = .ok (.invokestatic 70, 3) := by decide +kernel
theorem dX6_work_175 : decode cX6_work 175 = .ok (.return_, 1) := by decide +kernel
set_option maxRecDepth 20000 in
theorem ggX6_pass_X6_freeze : GoodIn wsX6_pass wsX6_freeze := goodIn_r _ [7, 8, 9, 10, 11, 12, 13, 14, 15, 16, 17, 6, 18, 37, 38, 39, 40, 41, 42, 43, 44] (by decide +kernel) (by decide +kernel)
set_option maxRecDepth 20000 in
theorem gX6_pass_X6_freeze : GoodIn wsX6_pass (wsV RX6 111 RX6 yX6_freeze wsX6_freeze) := goodIn_app (goodIn_of _ (by decide +kernel)) ggX6_pass_X6_freeze
set_option maxRecDepth 20000 in
theorem ggX6_pass_X6_wear : GoodIn wsX6_pass wsX6_wear := goodIn_r _ [21, 9, 10, 11, 12] (by decide +kernel) (by decide +kernel)
set_option maxRecDepth 20000 in
theorem gX6_pass_X6_wear : GoodIn wsX6_pass (va_wsS RX6 107 yX6_wear wsX6_wear) := goodIn_app (goodIn_of _ (by decide +kernel)) ggX6_pass_X6_wear
set_option maxRecDepth 20000 in
theorem ggX6_pass_X6_run : GoodIn wsX6_pass wsX6_run := goodIn_r _ [25, 26, 27, 16, 17, 6, 18, 19, 20, 21, 9, 10, 11, 12, 37, 38, 39, 40, 41, 42, 43, 44] (by decide +kernel) (by decide +kernel)
set_option maxRecDepth 20000 in
theorem gX6_pass_X6_run : GoodIn wsX6_pass (wsV RX6 115 RX6 yX6_run wsX6_run) := goodIn_app (goodIn_of _ (by decide +kernel)) ggX6_pass_X6_run
set_option maxRecDepth 20000 in
theorem ggX6_pass_X6_work : GoodIn wsX6_pass wsX6_work := goodIn_r _ [30, 9, 10, 11, 12, 13, 14, 15, 31, 32, 6, 33, 34, 35, 36] (by decide +kernel) (by decide +kernel)
set_option maxRecDepth 20000 in
theorem gX6_pass_X6_work : GoodIn wsX6_pass (va_wsS RX6 118 yX6_work wsX6_work) := goodIn_app (goodIn_of _ (by decide +kernel)) ggX6_pass_X6_work
theorem dX6_pass_0 : decode cX6_pass 0 = .ok (.aload_n 0, 1) := by decide +kernel
theorem dX6_pass_1 : decode cX6_pass 1 = .ok (.aload_n 1, 1) := by decide +kernel
theorem dX6_pass_2 : decode cX6_pass 2 = .ok (.invokevirtual 111, 3) := by decide +kernel
theorem dX6_pass_5 : decode cX6_pass 5 = .ok (.aload_n 0, 1) := by decide +kernel
theorem dX6_pass_6 : decode cX6_pass 6 = .ok (.getfield 23, 3) := by decide +kernel
theorem dX6_pass_9 : decode cX6_pass 9 = .ok (.aload_n 1, 1) := by decide +kernel
theorem dX6_pass_10 : decode cX6_pass 10 = .ok (.bipush 120, 2) := by decide +kernel
theorem dX6_pass_12 : decode cX6_pass 12 = .ok (.iaload, 1) := by decide +kernel
theorem dX6_pass_13 : decode cX6_pass 13 = .ok (.bipush 12, 2) := by decide +kernel
theorem dX6_pass_15 : decode cX6_pass 15 = .ok (.irem, 1) := by decide +kernel
theorem dX6_pass_16 : decode cX6_pass 16 = .ok (.iaload, 1) := by decide +kernel
theorem dX6_pass_17 : decode cX6_pass 17 = .ok (.istore_n 2, 1) := by decide +kernel
theorem dX6_pass_18 : decode cX6_pass 18 = .ok (.iload_n 2, 1) := by decide +kernel
theorem dX6_pass_19 : decode cX6_pass 19 = .ok (.ifCond .lt 19, 3) := by decide +kernel
theorem dX6_pass_22 : decode cX6_pass 22 = .ok (.aload_n 1, 1) := by decide +kernel
theorem dX6_pass_23 : decode cX6_pass 23 = .ok (.bipush 48, 2) := by decide +kernel
theorem dX6_pass_25 : decode cX6_pass 25 = .ok (.iload_n 2, 1) := by decide +kernel
theorem dX6_pass_26 : decode cX6_pass 26 = .ok (.iadd, 1) := by decide +kernel
theorem dX6_pass_27 : decode cX6_pass 27 = .ok (.iaload, 1) := by decide +kernel
theorem dX6_pass_28 : decode cX6_pass 28 = .ok (.ifCond .ne 10, 3) := by decide +kernel
theorem dX6_pass_31 : decode cX6_pass 31 = .ok (.aload_n 1, 1) := by decide +kernel
theorem dX6_pass_32 : decode cX6_pass 32 = .ok (.iload_n 2, 1) := by decide +kernel
theorem dX6_pass_33 : decode cX6_pass 33 = .ok (.bipush 25, 2) := by decide +kernel
theorem dX6_pass_35 : decode cX6_pass 35 = .ok (.invokestatic 107, 3) := by decide +kernel
theorem dX6_pass_38 : decode cX6_pass 38 = .ok (.iconst 0, 1) := by decide +kernel
theorem dX6_pass_39 : decode cX6_pass 39 = .ok (.istore_n 3, 1) := by decide +kernel
theorem dX6_pass_40 : decode cX6_pass 40 = .ok (.iload_n 3, 1) := by decide +kernel
theorem dX6_pass_41 : decode cX6_pass 41 = .ok (.aload_n 0, 1) := by decide +kernel
theorem dX6_pass_42 : decode cX6_pass 42 = .ok (.getfield 36, 3) := by decide +kernel
theorem dX6_pass_45 : decode cX6_pass 45 = .ok (.if_icmp .ge 36, 3) := by decide +kernel
theorem dX6_pass_48 : decode cX6_pass 48 = .ok (.aload_n 1, 1) := by decide +kernel
theorem dX6_pass_49 : decode cX6_pass 49 = .ok (.bipush 72, 2) := by decide +kernel
theorem dX6_pass_51 : decode cX6_pass 51 = .ok (.bipush 6, 2) := by decide +kernel
theorem dX6_pass_53 : decode cX6_pass 53 = .ok (.iload_n 3, 1) := by decide +kernel
theorem dX6_pass_54 : decode cX6_pass 54 = .ok (.imul, 1) := by decide +kernel
theorem dX6_pass_55 : decode cX6_pass 55 = .ok (.iadd, 1) := by decide +kernel
theorem dX6_pass_56 : decode cX6_pass 56 = .ok (.iconst 2, 1) := by decide +kernel
theorem dX6_pass_57 : decode cX6_pass 57 = .ok (.iadd, 1) := by decide +kernel
theorem dX6_pass_58 : decode cX6_pass 58 = .ok (.iaload, 1) := by decide +kernel
theorem dX6_pass_59 : decode cX6_pass 59 = .ok (.iconst 1, 1) := by decide +kernel
theorem dX6_pass_60 : decode cX6_pass 60 = .ok (.if_icmp .ne 15, 3) := by decide +kernel
theorem dX6_pass_63 : decode cX6_pass 63 = .ok (.aload_n 0, 1) := by decide +kernel
theorem dX6_pass_64 : decode cX6_pass 64 = .ok (.aload_n 1, 1) := by decide +kernel
theorem dX6_pass_65 : decode cX6_pass 65 = .ok (.bipush 72, 2) := by decide +kernel
theorem dX6_pass_67 : decode cX6_pass 67 = .ok (.bipush 6, 2) := by decide +kernel
theorem dX6_pass_69 : decode cX6_pass 69 = .ok (.iload_n 3, 1) := by decide +kernel
theorem dX6_pass_70 : decode cX6_pass 70 = .ok (.imul, 1) := by decide +kernel
theorem dX6_pass_71 : decode cX6_pass 71 = .ok (.iadd, 1) := by decide +kernel
theorem dX6_pass_72 : decode cX6_pass 72 = .ok (.invokevirtual 115, 3) := by decide +kernel
theorem dX6_pass_75 : decode cX6_pass 75 = .ok (.iinc 3 1, 3) := by decide +kernel
theorem dX6_pass_78 : decode cX6_pass 78 = .ok (.goto (-38), 3) := by decide +kernel
theorem dX6_pass_81 : decode cX6_pass 81 = .ok (.aload_n 1, 1) := by decide +kernel
theorem dX6_pass_82 : decode cX6_pass 82 = .ok (.invokestatic 118, 3) := by decide +kernel
theorem dX6_pass_85 : decode cX6_pass 85 = .ok (.aload_n 1, 1) := by decide +kernel
theorem dX6_pass_86 : decode cX6_pass 86 = .ok (.bipush 120, 2) := by decide +kernel
theorem dX6_pass_88 : decode cX6_pass 88 = .ok (.dup2, 1) := by decide +kernel
theorem dX6_pass_89 : decode cX6_pass 89 = .ok (.iaload, 1) := by decide +kernel
theorem dX6_pass_90 : decode cX6_pass 90 = .ok (.iconst 1, 1) := by decide +kernel
theorem dX6_pass_91 : decode cX6_pass 91 = .ok (.iadd, 1) := by decide +kernel
theorem dX6_pass_92 : decode cX6_pass 92 = .ok (.iastore, 1) := by decide +kernel
theorem dX6_pass_93 : decode cX6_pass 93 = .ok (.return_, 1) := by decide +kernel
set_option maxRecDepth 20000 in
theorem ggX6_passAll_X6_pass : GoodIn wsX6_passAll wsX6_pass := goodIn_r _ [5, 6, 7, 8, 9, 10, 4, 11, 12, 13, 14, 15, 16, 17, 18, 19, 20, 21, 22, 23, 24, 25, 26, 27, 28, 29, 30, 31, 32, 33, 34, 35, 36, 37, 38, 39, 40, 41, 42, 43, 44, 45, 46, 47, 48] (by decide +kernel) (by decide +kernel)
set_option maxRecDepth 20000 in
theorem gX6_passAll_X6_pass : GoodIn wsX6_passAll (wsV RX6 121 RX6 yX6_pass wsX6_pass) := goodIn_app (goodIn_of _ (by decide +kernel)) ggX6_passAll_X6_pass
theorem dX6_passAll_0 : decode cX6_passAll 0 = .ok (.iconst 0, 1) := by decide +kernel
theorem dX6_passAll_1 : decode cX6_passAll 1 = .ok (.istore_n 3, 1) := by decide +kernel
theorem dX6_passAll_2 : decode cX6_passAll 2 = .ok (.iload_n 3, 1) := by decide +kernel
theorem dX6_passAll_3 : decode cX6_passAll 3 = .ok (.iload_n 2, 1) := by decide +kernel
theorem dX6_passAll_4 : decode cX6_passAll 4 = .ok (.if_icmp .ge 14, 3) := by decide +kernel
theorem dX6_passAll_7 : decode cX6_passAll 7 = .ok (.aload_n 0, 1) := by decide +kernel
theorem dX6_passAll_8 : decode cX6_passAll 8 = .ok (.aload_n 1, 1) := by decide +kernel
theorem dX6_passAll_9 : decode cX6_passAll 9 = .ok (.invokevirtual 121, 3) := by decide +kernel
theorem dX6_passAll_12 : decode cX6_passAll 12 = .ok (.iinc 3 1, 3) := by decide +kernel
theorem dX6_passAll_15 : decode cX6_passAll 15 = .ok (.goto (-13), 3) := by decide +kernel
theorem dX6_passAll_18 : decode cX6_passAll 18 = .ok (.return_, 1) := by decide +kernel
theorem dX6_lookAhead_0 : decode cX6_lookAhead 0 = .ok (.aload_n 0, 1) := by decide +kernel
theorem dX6_lookAhead_1 : decode cX6_lookAhead 1 = .ok (.getfield 26, 3) := by decide +kernel
theorem dX6_lookAhead_4 : decode cX6_lookAhead 4 = .ok (.iconst 0, 1) := by decide +kernel
theorem dX6_lookAhead_5 : decode cX6_lookAhead 5 = .ok (.aload_n 0, 1) := by decide +kernel
theorem dX6_lookAhead_6 : decode cX6_lookAhead 6 = .ok (.getfield 29, 3) := by decide +kernel
theorem dX6_lookAhead_9 : decode cX6_lookAhead 9 = .ok (.iconst 0, 1) := by decide +kernel
theorem dX6_lookAhead_10 : decode cX6_lookAhead 10 = .ok (.aload_n 0, 1) := by decide +kernel
theorem dX6_lookAhead_11 : decode cX6_lookAhead 11 = .ok (.getfield 26, 3) := by decide +kernel
theorem dX6_lookAhead_14 : decode cX6_lookAhead 14 = .ok (.arraylength, 1) := by decide +kernel
theorem dX6_lookAhead_15 : decode cX6_lookAhead 15 = .ok (.invokestatic 124, 3) := by decide +kernel
theorem dX6_lookAhead_18 : decode cX6_lookAhead 18 = .ok (.return_, 1) := by decide +kernel
set_option maxRecDepth 20000 in
theorem ggX6_pass__X6_isIn : GoodIn wsX6_pass_ wsX6_isIn := goodIn_r _ [6] (by decide +kernel) (by decide +kernel)
set_option maxRecDepth 20000 in
theorem gX6_pass__X6_isIn : GoodIn wsX6_pass_ (va_wsS RX6 32 yX6_isIn wsX6_isIn) := goodIn_app (goodIn_of _ (by decide +kernel)) ggX6_pass__X6_isIn
set_option maxRecDepth 20000 in
theorem ggX6_pass__X6_no : GoodIn wsX6_pass_ wsX6_no := goodIn_r _ [10, 1, 54, 55, 56, 57, 58, 59, 60, 61] (by decide +kernel) (by decide +kernel)
set_option maxRecDepth 20000 in
theorem gX6_pass__X6_no : GoodIn wsX6_pass_ (wsV RX6 39 RX6 yX6_no wsX6_no) := goodIn_app (goodIn_of _ (by decide +kernel)) ggX6_pass__X6_no
set_option maxRecDepth 20000 in
theorem ggX6_pass__X6_passAll : GoodIn wsX6_pass_ wsX6_passAll := goodIn_r _ [14, 15, 16, 17, 5, 18, 19, 20, 21, 22, 23, 24, 25, 26, 27, 28, 29, 30, 31, 32, 33, 34, 35, 36, 37, 38, 39, 40, 41, 42, 43, 44, 45, 46, 47, 48, 49, 50, 51, 52, 53, 54, 55, 56, 57, 58, 59, 60, 61] (by decide +kernel) (by decide +kernel)
set_option maxRecDepth 20000 in
theorem gX6_pass__X6_passAll : GoodIn wsX6_pass_ (wsV RX6 130 RX6 yX6_passAll wsX6_passAll) := goodIn_app (goodIn_of _ (by decide +kernel)) ggX6_pass__X6_passAll
theorem dX6_pass__0 : decode cX6_pass_ 0 = .ok (.aload_n 0, 1) := by decide +kernel
theorem dX6_pass__1 : decode cX6_pass_ 1 = .ok (.iconst 0, 1) := by decide +kernel
theorem dX6_pass__2 : decode cX6_pass_ 2 = .ok (.putfield 1, 3) := by decide +kernel
theorem dX6_pass__5 : decode cX6_pass_ 5 = .ok (.iload_n 1, 1) := by decide +kernel
theorem dX6_pass__6 : decode cX6_pass_ 6 = .ok (.iconst 1, 1) := by decide +kernel
theorem dX6_pass__7 : decode cX6_pass_ 7 = .ok (.bipush 72, 2) := by decide +kernel
theorem dX6_pass__9 : decode cX6_pass_ 9 = .ok (.invokestatic 32, 3) := by decide +kernel
theorem dX6_pass__12 : decode cX6_pass_ 12 = .ok (.ifCond .ne 9, 3) := by decide +kernel
theorem dX6_pass__15 : decode cX6_pass_ 15 = .ok (.aload_n 0, 1) := by decide +kernel
theorem dX6_pass__16 : decode cX6_pass_ 16 = .ok (.iconst 1, 1) := by decide +kernel
theorem dX6_pass__17 : decode cX6_pass_ 17 = .ok (.invokevirtual 39, 3) := by decide +kernel
theorem dX6_pass__20 : decode cX6_pass_ 20 = .ok (.ireturn, 1) := by decide +kernel
theorem dX6_pass__21 : decode cX6_pass_ 21 = .ok (.aload_n 0, 1) := by decide +kernel
theorem dX6_pass__22 : decode cX6_pass_ 22 = .ok (.getfield 26, 3) := by decide +kernel
theorem dX6_pass__25 : decode cX6_pass_ 25 = .ok (.bipush 119, 2) := by decide +kernel
theorem dX6_pass__27 : decode cX6_pass_ 27 = .ok (.iaload, 1) := by decide +kernel
theorem dX6_pass__28 : decode cX6_pass_ 28 = .ok (.istore_n 2, 1) := by decide +kernel
theorem dX6_pass__29 : decode cX6_pass_ 29 = .ok (.aload_n 0, 1) := by decide +kernel
theorem dX6_pass__30 : decode cX6_pass_ 30 = .ok (.aload_n 0, 1) := by decide +kernel
theorem dX6_pass__31 : decode cX6_pass_ 31 = .ok (.getfield 26, 3) := by decide +kernel
theorem dX6_pass__34 : decode cX6_pass_ 34 = .ok (.iload_n 1, 1) := by decide +kernel
theorem dX6_pass__35 : decode cX6_pass_ 35 = .ok (.invokevirtual 130, 3) := by decide +kernel
theorem dX6_pass__38 : decode cX6_pass_ 38 = .ok (.aload_n 0, 1) := by decide +kernel
theorem dX6_pass__39 : decode cX6_pass_ 39 = .ok (.getfield 26, 3) := by decide +kernel
theorem dX6_pass__42 : decode cX6_pass_ 42 = .ok (.bipush 119, 2) := by decide +kernel
theorem dX6_pass__44 : decode cX6_pass_ 44 = .ok (.iaload, 1) := by decide +kernel
theorem dX6_pass__45 : decode cX6_pass_ 45 = .ok (.iload_n 2, 1) := by decide +kernel
theorem dX6_pass__46 : decode cX6_pass_ 46 = .ok (.isub, 1) := by decide +kernel
theorem dX6_pass__47 : decode cX6_pass_ 47 = .ok (.ireturn, 1) := by decide +kernel
set_option maxRecDepth 20000 in
theorem ggX6_falls_X6_isSpan : GoodIn wsX6_falls wsX6_isSpan := goodIn_r _ [6, 7, 8, 5, 9] (by decide +kernel) (by decide +kernel)
set_option maxRecDepth 20000 in
theorem gX6_falls_X6_isSpan : GoodIn wsX6_falls (va_wsS RX6 47 yX6_isSpan wsX6_isSpan) := goodIn_app (goodIn_of _ (by decide +kernel)) ggX6_falls_X6_isSpan
set_option maxRecDepth 20000 in
theorem ggX6_falls_X6_no : GoodIn wsX6_falls wsX6_no := goodIn_r _ [13, 1, 62, 63, 64, 65, 66, 67, 68, 69] (by decide +kernel) (by decide +kernel)
set_option maxRecDepth 20000 in
theorem gX6_falls_X6_no : GoodIn wsX6_falls (wsV RX6 39 RX6 yX6_no wsX6_no) := goodIn_app (goodIn_of _ (by decide +kernel)) ggX6_falls_X6_no
set_option maxRecDepth 20000 in
theorem ggX6_falls_X6_lookAhead : GoodIn wsX6_falls wsX6_lookAhead := goodIn_r _ [17, 18, 2, 19, 20, 21, 22, 62, 63, 64, 65, 66, 67, 68, 69] (by decide +kernel) (by decide +kernel)
set_option maxRecDepth 20000 in
theorem gX6_falls_X6_lookAhead : GoodIn wsX6_falls (wsV RX6 133 RX6 yX6_lookAhead wsX6_lookAhead) := goodIn_app (goodIn_of _ (by decide +kernel)) ggX6_falls_X6_lookAhead
set_option maxRecDepth 20000 in
theorem ggX6_falls_X6_pass : GoodIn wsX6_falls wsX6_pass := goodIn_r _ [26, 27, 28, 29, 30, 31, 5, 32, 33, 34, 35, 36, 37, 38, 39, 40, 41, 42, 43, 44, 45, 46, 47, 48, 49, 50, 51, 52, 53, 54, 55, 56, 57, 58, 59, 60, 61, 62, 63, 64, 65, 66, 67, 68, 69] (by decide +kernel) (by decide +kernel)
set_option maxRecDepth 20000 in
theorem gX6_falls_X6_pass : GoodIn wsX6_falls (wsV RX6 121 RX6 yX6_pass wsX6_pass) := goodIn_app (goodIn_of _ (by decide +kernel)) ggX6_falls_X6_pass
theorem dX6_falls_0 : decode cX6_falls 0 = .ok (.aload_n 0, 1) := by decide +kernel
theorem dX6_falls_1 : decode cX6_falls 1 = .ok (.iconst 0, 1) := by decide +kernel
theorem dX6_falls_2 : decode cX6_falls 2 = .ok (.putfield 1, 3) := by decide +kernel
theorem dX6_falls_5 : decode cX6_falls 5 = .ok (.iload_n 1, 1) := by decide +kernel
theorem dX6_falls_6 : decode cX6_falls 6 = .ok (.invokestatic 47, 3) := by decide +kernel
theorem dX6_falls_9 : decode cX6_falls 9 = .ok (.ifCond .ne 9, 3) := by decide +kernel
theorem dX6_falls_12 : decode cX6_falls 12 = .ok (.aload_n 0, 1) := by decide +kernel
theorem dX6_falls_13 : decode cX6_falls 13 = .ok (.iconst 1, 1) := by decide +kernel
theorem dX6_falls_14 : decode cX6_falls 14 = .ok (.invokevirtual 39, 3) := by decide +kernel
theorem dX6_falls_17 : decode cX6_falls 17 = .ok (.ireturn, 1) := by decide +kernel
theorem dX6_falls_18 : decode cX6_falls 18 = .ok (.aload_n 0, 1) := by decide +kernel
theorem dX6_falls_19 : decode cX6_falls 19 = .ok (.invokevirtual 133, 3) := by decide +kernel
theorem dX6_falls_22 : decode cX6_falls 22 = .ok (.iconst 0, 1) := by decide +kernel
theorem dX6_falls_23 : decode cX6_falls 23 = .ok (.istore_n 2, 1) := by decide +kernel
theorem dX6_falls_24 : decode cX6_falls 24 = .ok (.iload_n 2, 1) := by decide +kernel
theorem dX6_falls_25 : decode cX6_falls 25 = .ok (.bipush 96, 2) := by decide +kernel
theorem dX6_falls_27 : decode cX6_falls 27 = .ok (.if_icmp .gt 32, 3) := by decide +kernel
theorem dX6_falls_30 : decode cX6_falls 30 = .ok (.aload_n 0, 1) := by decide +kernel
theorem dX6_falls_31 : decode cX6_falls 31 = .ok (.getfield 29, 3) := by decide +kernel
theorem dX6_falls_34 : decode cX6_falls 34 = .ok (.bipush 48, 2) := by decide +kernel
theorem dX6_falls_36 : decode cX6_falls 36 = .ok (.iload_n 1, 1) := by decide +kernel
theorem dX6_falls_37 : decode cX6_falls 37 = .ok (.iadd, 1) := by decide +kernel
theorem dX6_falls_38 : decode cX6_falls 38 = .ok (.iaload, 1) := by decide +kernel
theorem dX6_falls_39 : decode cX6_falls 39 = .ok (.iconst 1, 1) := by decide +kernel
theorem dX6_falls_40 : decode cX6_falls 40 = .ok (.if_icmp .ne 5, 3) := by decide +kernel
theorem dX6_falls_43 : decode cX6_falls 43 = .ok (.iload_n 2, 1) := by decide +kernel
theorem dX6_falls_44 : decode cX6_falls 44 = .ok (.ireturn, 1) := by decide +kernel
theorem dX6_falls_45 : decode cX6_falls 45 = .ok (.aload_n 0, 1) := by decide +kernel
theorem dX6_falls_46 : decode cX6_falls 46 = .ok (.aload_n 0, 1) := by decide +kernel
theorem dX6_falls_47 : decode cX6_falls 47 = .ok (.getfield 29, 3) := by decide +kernel
theorem dX6_falls_50 : decode cX6_falls 50 = .ok (.invokevirtual 121, 3) := by decide +kernel
theorem dX6_falls_53 : decode cX6_falls 53 = .ok (.iinc 2 1, 3) := by decide +kernel
theorem dX6_falls_56 : decode cX6_falls 56 = .ok (.goto (-32), 3) := by decide +kernel
theorem dX6_falls_59 : decode cX6_falls 59 = .ok (.iconst (-1), 1) := by decide +kernel
theorem dX6_falls_60 : decode cX6_falls 60 = .ok (.ireturn, 1) := by decide +kernel
set_option maxRecDepth 20000 in
theorem ggX6_foresee_X6_isIn : GoodIn wsX6_foresee wsX6_isIn := goodIn_r _ [6] (by decide +kernel) (by decide +kernel)
set_option maxRecDepth 20000 in
theorem gX6_foresee_X6_isIn : GoodIn wsX6_foresee (va_wsS RX6 32 yX6_isIn wsX6_isIn) := goodIn_app (goodIn_of _ (by decide +kernel)) ggX6_foresee_X6_isIn
set_option maxRecDepth 20000 in
theorem ggX6_foresee_X6_no : GoodIn wsX6_foresee wsX6_no := goodIn_r _ [10, 1, 74, 75, 76, 77, 78, 79, 80, 81] (by decide +kernel) (by decide +kernel)
set_option maxRecDepth 20000 in
theorem gX6_foresee_X6_no : GoodIn wsX6_foresee (wsV RX6 39 RX6 yX6_no wsX6_no) := goodIn_app (goodIn_of _ (by decide +kernel)) ggX6_foresee_X6_no
set_option maxRecDepth 20000 in
theorem ggX6_foresee_X6_lookAhead : GoodIn wsX6_foresee wsX6_lookAhead := goodIn_r _ [14, 15, 2, 16, 17, 18, 19, 74, 75, 76, 77, 78, 79, 80, 81] (by decide +kernel) (by decide +kernel)
set_option maxRecDepth 20000 in
theorem gX6_foresee_X6_lookAhead : GoodIn wsX6_foresee (wsV RX6 133 RX6 yX6_lookAhead wsX6_lookAhead) := goodIn_app (goodIn_of _ (by decide +kernel)) ggX6_foresee_X6_lookAhead
set_option maxRecDepth 20000 in
theorem ggX6_foresee_X6_passAll : GoodIn wsX6_foresee wsX6_passAll := goodIn_r _ [23, 24, 25, 26, 5, 27, 28, 29, 30, 31, 32, 33, 34, 35, 36, 37, 38, 39, 40, 41, 42, 43, 44, 45, 46, 47, 48, 49, 50, 51, 52, 53, 54, 55, 56, 57, 58, 59, 60, 61, 62, 74, 75, 76, 77, 78, 79, 80, 81] (by decide +kernel) (by decide +kernel)
set_option maxRecDepth 20000 in
theorem gX6_foresee_X6_passAll : GoodIn wsX6_foresee (wsV RX6 130 RX6 yX6_passAll wsX6_passAll) := goodIn_app (goodIn_of _ (by decide +kernel)) ggX6_foresee_X6_passAll
set_option maxRecDepth 20000 in
theorem ggX6_foresee_X6_summed : GoodIn wsX6_foresee wsX6_summed := goodIn_r _ [66, 67, 68, 5, 69, 70, 71, 72, 73, 29, 74, 75, 76, 77, 78, 79, 80, 81] (by decide +kernel) (by decide +kernel)
set_option maxRecDepth 20000 in
theorem gX6_foresee_X6_summed : GoodIn wsX6_foresee (wsV RX6 98 RX6 yX6_summed wsX6_summed) := goodIn_app (goodIn_of _ (by decide +kernel)) ggX6_foresee_X6_summed
theorem dX6_foresee_0 : decode cX6_foresee 0 = .ok (.aload_n 0, 1) := by decide +kernel
theorem dX6_foresee_1 : decode cX6_foresee 1 = .ok (.iconst 0, 1) := by decide +kernel
theorem dX6_foresee_2 : decode cX6_foresee 2 = .ok (.putfield 1, 3) := by decide +kernel
theorem dX6_foresee_5 : decode cX6_foresee 5 = .ok (.iload_n 1, 1) := by decide +kernel
theorem dX6_foresee_6 : decode cX6_foresee 6 = .ok (.iconst 1, 1) := by decide +kernel
theorem dX6_foresee_7 : decode cX6_foresee 7 = .ok (.bipush 72, 2) := by decide +kernel
theorem dX6_foresee_9 : decode cX6_foresee 9 = .ok (.invokestatic 32, 3) := by decide +kernel
theorem dX6_foresee_12 : decode cX6_foresee 12 = .ok (.ifCond .ne 9, 3) := by decide +kernel
theorem dX6_foresee_15 : decode cX6_foresee 15 = .ok (.aload_n 0, 1) := by decide +kernel
theorem dX6_foresee_16 : decode cX6_foresee 16 = .ok (.iconst 1, 1) := by decide +kernel
theorem dX6_foresee_17 : decode cX6_foresee 17 = .ok (.invokevirtual 39, 3) := by decide +kernel
theorem dX6_foresee_20 : decode cX6_foresee 20 = .ok (.ireturn, 1) := by decide +kernel
theorem dX6_foresee_21 : decode cX6_foresee 21 = .ok (.iload_n 2, 1) := by decide +kernel
theorem dX6_foresee_22 : decode cX6_foresee 22 = .ok (.iconst 2, 1) := by decide +kernel
theorem dX6_foresee_23 : decode cX6_foresee 23 = .ok (.if_icmp .eq 19, 3) := by decide +kernel
theorem dX6_foresee_26 : decode cX6_foresee 26 = .ok (.iload_n 2, 1) := by decide +kernel
theorem dX6_foresee_27 : decode cX6_foresee 27 = .ok (.iconst 5, 1) := by decide +kernel
theorem dX6_foresee_28 : decode cX6_foresee 28 = .ok (.bipush 8, 2) := by decide +kernel
theorem dX6_foresee_30 : decode cX6_foresee 30 = .ok (.invokestatic 32, 3) := by decide +kernel
theorem dX6_foresee_33 : decode cX6_foresee 33 = .ok (.ifCond .ne 9, 3) := by decide +kernel
theorem dX6_foresee_36 : decode cX6_foresee 36 = .ok (.aload_n 0, 1) := by decide +kernel
theorem dX6_foresee_37 : decode cX6_foresee 37 = .ok (.iconst 2, 1) := by decide +kernel
theorem dX6_foresee_38 : decode cX6_foresee 38 = .ok (.invokevirtual 39, 3) := by decide +kernel
theorem dX6_foresee_41 : decode cX6_foresee 41 = .ok (.ireturn, 1) := by decide +kernel
theorem dX6_foresee_42 : decode cX6_foresee 42 = .ok (.aload_n 0, 1) := by decide +kernel
theorem dX6_foresee_43 : decode cX6_foresee 43 = .ok (.invokevirtual 133, 3) := by decide +kernel
theorem dX6_foresee_46 : decode cX6_foresee 46 = .ok (.aload_n 0, 1) := by decide +kernel
theorem dX6_foresee_47 : decode cX6_foresee 47 = .ok (.aload_n 0, 1) := by decide +kernel
theorem dX6_foresee_48 : decode cX6_foresee 48 = .ok (.getfield 29, 3) := by decide +kernel
theorem dX6_foresee_51 : decode cX6_foresee 51 = .ok (.iload_n 1, 1) := by decide +kernel
theorem dX6_foresee_52 : decode cX6_foresee 52 = .ok (.invokevirtual 130, 3) := by decide +kernel
theorem dX6_foresee_55 : decode cX6_foresee 55 = .ok (.aload_n 0, 1) := by decide +kernel
theorem dX6_foresee_56 : decode cX6_foresee 56 = .ok (.aload_n 0, 1) := by decide +kernel
theorem dX6_foresee_57 : decode cX6_foresee 57 = .ok (.getfield 29, 3) := by decide +kernel
theorem dX6_foresee_60 : decode cX6_foresee 60 = .ok (.iload_n 2, 1) := by decide +kernel
theorem dX6_foresee_61 : decode cX6_foresee 61 = .ok (.invokevirtual 98, 3) := by decide +kernel
theorem dX6_foresee_64 : decode cX6_foresee 64 = .ok (.ireturn, 1) := by decide +kernel
set_option maxRecDepth 20000 in
theorem ggX6_coinsWith_X6_lookAhead : GoodIn wsX6_coinsWith wsX6_lookAhead := goodIn_r _ [6, 7, 1, 8, 9, 10, 11, 55, 56, 57, 58, 59, 60, 61, 62] (by decide +kernel) (by decide +kernel)
set_option maxRecDepth 20000 in
theorem gX6_coinsWith_X6_lookAhead : GoodIn wsX6_coinsWith (wsV RX6 133 RX6 yX6_lookAhead wsX6_lookAhead) := goodIn_app (goodIn_of _ (by decide +kernel)) ggX6_coinsWith_X6_lookAhead
set_option maxRecDepth 20000 in
theorem ggX6_coinsWith_X6_passAll : GoodIn wsX6_coinsWith wsX6_passAll := goodIn_r _ [15, 16, 17, 18, 5, 19, 20, 21, 22, 23, 24, 25, 26, 27, 28, 29, 30, 31, 32, 33, 34, 35, 36, 37, 38, 39, 40, 41, 42, 43, 44, 45, 46, 47, 48, 49, 50, 51, 52, 53, 54, 55, 56, 57, 58, 59, 60, 61, 62] (by decide +kernel) (by decide +kernel)
set_option maxRecDepth 20000 in
theorem gX6_coinsWith_X6_passAll : GoodIn wsX6_coinsWith (wsV RX6 130 RX6 yX6_passAll wsX6_passAll) := goodIn_app (goodIn_of _ (by decide +kernel)) ggX6_coinsWith_X6_passAll
theorem dX6_coinsWith_0 : decode cX6_coinsWith 0 = .ok (.aload_n 0, 1) := by decide +kernel
theorem dX6_coinsWith_1 : decode cX6_coinsWith 1 = .ok (.invokevirtual 133, 3) := by decide +kernel
theorem dX6_coinsWith_4 : decode cX6_coinsWith 4 = .ok (.aload_n 0, 1) := by decide +kernel
theorem dX6_coinsWith_5 : decode cX6_coinsWith 5 = .ok (.getfield 29, 3) := by decide +kernel
theorem dX6_coinsWith_8 : decode cX6_coinsWith 8 = .ok (.bipush 109, 2) := by decide +kernel
theorem dX6_coinsWith_10 : decode cX6_coinsWith 10 = .ok (.iload_n 1, 1) := by decide +kernel
theorem dX6_coinsWith_11 : decode cX6_coinsWith 11 = .ok (.ifCond .ge 7, 3) := by decide +kernel
theorem dX6_coinsWith_14 : decode cX6_coinsWith 14 = .ok (.iconst 0, 1) := by decide +kernel
theorem dX6_coinsWith_15 : decode cX6_coinsWith 15 = .ok (.goto 4, 3) := by decide +kernel
theorem dX6_coinsWith_18 : decode cX6_coinsWith 18 = .ok (.iconst 1, 1) := by decide +kernel
theorem dX6_coinsWith_19 : decode cX6_coinsWith 19 = .ok (.iastore, 1) := by decide +kernel
theorem dX6_coinsWith_20 : decode cX6_coinsWith 20 = .ok (.aload_n 0, 1) := by decide +kernel
theorem dX6_coinsWith_21 : decode cX6_coinsWith 21 = .ok (.getfield 29, 3) := by decide +kernel
theorem dX6_coinsWith_24 : decode cX6_coinsWith 24 = .ok (.bipush 113, 2) := by decide +kernel
theorem dX6_coinsWith_26 : decode cX6_coinsWith 26 = .ok (.iload_n 1, 1) := by decide +kernel
theorem dX6_coinsWith_27 : decode cX6_coinsWith 27 = .ok (.iastore, 1) := by decide +kernel
theorem dX6_coinsWith_28 : decode cX6_coinsWith 28 = .ok (.aload_n 0, 1) := by decide +kernel
theorem dX6_coinsWith_29 : decode cX6_coinsWith 29 = .ok (.getfield 29, 3) := by decide +kernel
theorem dX6_coinsWith_32 : decode cX6_coinsWith 32 = .ok (.bipush 110, 2) := by decide +kernel
theorem dX6_coinsWith_34 : decode cX6_coinsWith 34 = .ok (.iconst 0, 1) := by decide +kernel
theorem dX6_coinsWith_35 : decode cX6_coinsWith 35 = .ok (.iastore, 1) := by decide +kernel
theorem dX6_coinsWith_36 : decode cX6_coinsWith 36 = .ok (.aload_n 0, 1) := by decide +kernel
theorem dX6_coinsWith_37 : decode cX6_coinsWith 37 = .ok (.aload_n 0, 1) := by decide +kernel
theorem dX6_coinsWith_38 : decode cX6_coinsWith 38 = .ok (.getfield 29, 3) := by decide +kernel
theorem dX6_coinsWith_41 : decode cX6_coinsWith 41 = .ok (.iload_n 2, 1) := by decide +kernel
theorem dX6_coinsWith_42 : decode cX6_coinsWith 42 = .ok (.invokevirtual 130, 3) := by decide +kernel
theorem dX6_coinsWith_45 : decode cX6_coinsWith 45 = .ok (.aload_n 0, 1) := by decide +kernel
theorem dX6_coinsWith_46 : decode cX6_coinsWith 46 = .ok (.getfield 29, 3) := by decide +kernel
theorem dX6_coinsWith_49 : decode cX6_coinsWith 49 = .ok (.bipush 119, 2) := by decide +kernel
theorem dX6_coinsWith_51 : decode cX6_coinsWith 51 = .ok (.iaload, 1) := by decide +kernel
theorem dX6_coinsWith_52 : decode cX6_coinsWith 52 = .ok (.ireturn, 1) := by decide +kernel
set_option maxRecDepth 20000 in
theorem ggX6_advise_X6_isIn : GoodIn wsX6_advise wsX6_isIn := goodIn_r _ [5] (by decide +kernel) (by decide +kernel)
set_option maxRecDepth 20000 in
theorem gX6_advise_X6_isIn : GoodIn wsX6_advise (va_wsS RX6 32 yX6_isIn wsX6_isIn) := goodIn_app (goodIn_of _ (by decide +kernel)) ggX6_advise_X6_isIn
set_option maxRecDepth 20000 in
theorem ggX6_advise_X6_no : GoodIn wsX6_advise wsX6_no := goodIn_r _ [9, 1, 67, 68, 69, 70, 71, 72, 73, 74] (by decide +kernel) (by decide +kernel)
set_option maxRecDepth 20000 in
theorem gX6_advise_X6_no : GoodIn wsX6_advise (wsV RX6 39 RX6 yX6_no wsX6_no) := goodIn_app (goodIn_of _ (by decide +kernel)) ggX6_advise_X6_no
set_option maxRecDepth 20000 in
theorem ggX6_advise_X6_coinsWith : GoodIn wsX6_advise wsX6_coinsWith := goodIn_r _ [13, 14, 15, 16, 17, 4, 18, 19, 20, 21, 22, 23, 24, 25, 26, 27, 28, 29, 30, 31, 32, 33, 34, 35, 36, 37, 38, 39, 40, 41, 42, 43, 44, 45, 46, 47, 48, 49, 50, 51, 52, 53, 54, 55, 56, 57, 58, 59, 60, 61, 62, 63, 64, 65, 66, 67, 68, 69, 70, 71, 72, 73, 74] (by decide +kernel) (by decide +kernel)
set_option maxRecDepth 20000 in
theorem gX6_advise_X6_coinsWith : GoodIn wsX6_advise (wsV RX6 136 RX6 yX6_coinsWith wsX6_coinsWith) := goodIn_app (goodIn_of _ (by decide +kernel)) ggX6_advise_X6_coinsWith
theorem dX6_advise_0 : decode cX6_advise 0 = .ok (.aload_n 0, 1) := by decide +kernel
theorem dX6_advise_1 : decode cX6_advise 1 = .ok (.iconst 0, 1) := by decide +kernel
theorem dX6_advise_2 : decode cX6_advise 2 = .ok (.putfield 1, 3) := by decide +kernel
theorem dX6_advise_5 : decode cX6_advise 5 = .ok (.iload_n 1, 1) := by decide +kernel
theorem dX6_advise_6 : decode cX6_advise 6 = .ok (.iconst 1, 1) := by decide +kernel
theorem dX6_advise_7 : decode cX6_advise 7 = .ok (.bipush 48, 2) := by decide +kernel
theorem dX6_advise_9 : decode cX6_advise 9 = .ok (.invokestatic 32, 3) := by decide +kernel
theorem dX6_advise_12 : decode cX6_advise 12 = .ok (.ifCond .ne 9, 3) := by decide +kernel
theorem dX6_advise_15 : decode cX6_advise 15 = .ok (.aload_n 0, 1) := by decide +kernel
theorem dX6_advise_16 : decode cX6_advise 16 = .ok (.iconst 1, 1) := by decide +kernel
theorem dX6_advise_17 : decode cX6_advise 17 = .ok (.invokevirtual 39, 3) := by decide +kernel
theorem dX6_advise_20 : decode cX6_advise 20 = .ok (.ireturn, 1) := by decide +kernel
theorem dX6_advise_21 : decode cX6_advise 21 = .ok (.iconst (-1), 1) := by decide +kernel
theorem dX6_advise_22 : decode cX6_advise 22 = .ok (.istore_n 2, 1) := by decide +kernel
theorem dX6_advise_23 : decode cX6_advise 23 = .ok (.aload_n 0, 1) := by decide +kernel
theorem dX6_advise_24 : decode cX6_advise 24 = .ok (.iconst (-1), 1) := by decide +kernel
theorem dX6_advise_25 : decode cX6_advise 25 = .ok (.iload_n 1, 1) := by decide +kernel
theorem dX6_advise_26 : decode cX6_advise 26 = .ok (.invokevirtual 136, 3) := by decide +kernel
theorem dX6_advise_29 : decode cX6_advise 29 = .ok (.istore_n 3, 1) := by decide +kernel
theorem dX6_advise_30 : decode cX6_advise 30 = .ok (.iconst 0, 1) := by decide +kernel
theorem dX6_advise_31 : decode cX6_advise 31 = .ok (.istore 4, 2) := by decide +kernel
theorem dX6_advise_33 : decode cX6_advise 33 = .ok (.iload 4, 2) := by decide +kernel
theorem dX6_advise_35 : decode cX6_advise 35 = .ok (.bipush 24, 2) := by decide +kernel
theorem dX6_advise_37 : decode cX6_advise 37 = .ok (.if_icmp .ge 33, 3) := by decide +kernel
theorem dX6_advise_40 : decode cX6_advise 40 = .ok (.aload_n 0, 1) := by decide +kernel
theorem dX6_advise_41 : decode cX6_advise 41 = .ok (.iload 4, 2) := by decide +kernel
theorem dX6_advise_43 : decode cX6_advise 43 = .ok (.iload_n 1, 1) := by decide +kernel
theorem dX6_advise_44 : decode cX6_advise 44 = .ok (.invokevirtual 136, 3) := by decide +kernel
theorem dX6_advise_47 : decode cX6_advise 47 = .ok (.istore 5, 2) := by decide +kernel
theorem dX6_advise_49 : decode cX6_advise 49 = .ok (.iload 5, 2) := by decide +kernel
theorem dX6_advise_51 : decode cX6_advise 51 = .ok (.iload_n 3, 1) := by decide +kernel
theorem dX6_advise_52 : decode cX6_advise 52 = .ok (.if_icmp .gt 6, 3) := by decide +kernel
theorem dX6_advise_55 : decode cX6_advise 55 = .ok (.goto 9, 3) := by decide +kernel
theorem dX6_advise_58 : decode cX6_advise 58 = .ok (.iload 4, 2) := by decide +kernel
theorem dX6_advise_60 : decode cX6_advise 60 = .ok (.istore_n 2, 1) := by decide +kernel
theorem dX6_advise_61 : decode cX6_advise 61 = .ok (.iload 5, 2) := by decide +kernel
theorem dX6_advise_63 : decode cX6_advise 63 = .ok (.istore_n 3, 1) := by decide +kernel
theorem dX6_advise_64 : decode cX6_advise 64 = .ok (.iinc 4 1, 3) := by decide +kernel
theorem dX6_advise_67 : decode cX6_advise 67 = .ok (.goto (-34), 3) := by decide +kernel
theorem dX6_advise_70 : decode cX6_advise 70 = .ok (.iload_n 2, 1) := by decide +kernel
theorem dX6_advise_71 : decode cX6_advise 71 = .ok (.ireturn, 1) := by decide +kernel
set_option maxRecDepth 20000 in
theorem ggX6_mean_X6_sum : GoodIn wsX6_mean wsX6_sum := goodIn_r _ [7] (by decide +kernel) (by decide +kernel)
set_option maxRecDepth 20000 in
theorem gX6_mean_X6_sum : GoodIn wsX6_mean (va_wsS RX6 88 yX6_sum wsX6_sum) := goodIn_app (goodIn_of _ (by decide +kernel)) ggX6_mean_X6_sum
theorem dX6_mean_0 : decode cX6_mean 0 = .ok (.aload_n 0, 1) := by decide +kernel
theorem dX6_mean_1 : decode cX6_mean 1 = .ok (.iconst 0, 1) := by decide +kernel
theorem dX6_mean_2 : decode cX6_mean 2 = .ok (.putfield 1, 3) := by decide +kernel
theorem dX6_mean_5 : decode cX6_mean 5 = .ok (.aload_n 0, 1) := by decide +kernel
theorem dX6_mean_6 : decode cX6_mean 6 = .ok (.getfield 26, 3) := by decide +kernel
theorem dX6_mean_9 : decode cX6_mean 9 = .ok (.iconst 0, 1) := by decide +kernel
theorem dX6_mean_10 : decode cX6_mean 10 = .ok (.invokestatic 88, 3) := by decide +kernel
theorem dX6_mean_13 : decode cX6_mean 13 = .ok (.i2d, 1) := by decide +kernel
theorem dX6_mean_14 : decode cX6_mean 14 = .ok (.ldc2_w 139, 3) := by decide +kernel
theorem dX6_mean_17 : decode cX6_mean 17 = .ok (.ddiv, 1) := by decide +kernel
theorem dX6_mean_18 : decode cX6_mean 18 = .ok (.dreturn, 1) := by decide +kernel
set_option maxRecDepth 20000 in
theorem ggX6_digest_X6_counted : GoodIn wsX6_digest wsX6_counted := goodIn_r _ [13, 14, 8, 15, 16, 12, 17, 18, 19, 20, 21, 22, 23, 24, 25, 26, 27, 28, 64, 65, 66, 67, 68, 69, 70, 71] (by decide +kernel) (by decide +kernel)
set_option maxRecDepth 20000 in
theorem gX6_digest_X6_counted : GoodIn wsX6_digest (wsV RX6 101 RX6 yX6_counted wsX6_counted) := goodIn_app (goodIn_of _ (by decide +kernel)) ggX6_digest_X6_counted
set_option maxRecDepth 20000 in
theorem ggX6_digest_X6_gangTold : GoodIn wsX6_digest wsX6_gangTold := goodIn_r _ [32, 14, 33, 34, 35, 12, 36, 37, 38, 39, 40, 41, 42, 43, 64, 65, 66, 67, 68, 69, 70, 71] (by decide +kernel) (by decide +kernel)
set_option maxRecDepth 20000 in
theorem gX6_digest_X6_gangTold : GoodIn wsX6_digest (wsV RX6 85 RX6 yX6_gangTold wsX6_gangTold) := goodIn_app (goodIn_of _ (by decide +kernel)) ggX6_digest_X6_gangTold
set_option maxRecDepth 20000 in
theorem ggX6_digest_X6_spanTold : GoodIn wsX6_digest wsX6_spanTold := goodIn_r _ [47, 14, 48, 49, 50, 12, 51, 8, 52, 53, 54, 55, 64, 65, 66, 67, 68, 69, 70, 71] (by decide +kernel) (by decide +kernel)
set_option maxRecDepth 20000 in
theorem gX6_digest_X6_spanTold : GoodIn wsX6_digest (wsV RX6 67 RX6 yX6_spanTold wsX6_spanTold) := goodIn_app (goodIn_of _ (by decide +kernel)) ggX6_digest_X6_spanTold
set_option maxRecDepth 20000 in
theorem ggX6_digest_X6_busTold : GoodIn wsX6_digest wsX6_busTold := goodIn_r _ [59, 14, 60, 61, 62, 12, 63, 64, 65, 66, 67, 68, 69, 70, 71] (by decide +kernel) (by decide +kernel)
set_option maxRecDepth 20000 in
theorem gX6_digest_X6_busTold : GoodIn wsX6_digest (wsV RX6 57 RX6 yX6_busTold wsX6_busTold) := goodIn_app (goodIn_of _ (by decide +kernel)) ggX6_digest_X6_busTold
theorem dX6_digest_0 : decode cX6_digest 0 = .ok (.aload_n 0, 1) := by decide +kernel
theorem dX6_digest_1 : decode cX6_digest 1 = .ok (.iconst 0, 1) := by decide +kernel
theorem dX6_digest_2 : decode cX6_digest 2 = .ok (.putfield 1, 3) := by decide +kernel
theorem dX6_digest_5 : decode cX6_digest 5 = .ok (.ldc2_w 141, 3) := by decide +kernel
theorem dX6_digest_8 : decode cX6_digest 8 = .ok (.lstore_n 1, 1) := by decide +kernel
theorem dX6_digest_9 : decode cX6_digest 9 = .ok (.iconst 0, 1) := by decide +kernel
theorem dX6_digest_10 : decode cX6_digest 10 = .ok (.istore_n 3, 1) := by decide +kernel
theorem dX6_digest_11 : decode cX6_digest 11 = .ok (.iload_n 3, 1) := by decide +kernel
theorem dX6_digest_12 : decode cX6_digest 12 = .ok (.bipush 9, 2) := by decide +kernel
theorem dX6_digest_14 : decode cX6_digest 14 = .ok (.if_icmp .ge 22, 3) := by decide +kernel
theorem dX6_digest_17 : decode cX6_digest 17 = .ok (.lload_n 1, 1) := by decide +kernel
theorem dX6_digest_18 : decode cX6_digest 18 = .ok (.ldc2_w 143, 3) := by decide +kernel
theorem dX6_digest_21 : decode cX6_digest 21 = .ok (.lmul, 1) := by decide +kernel
theorem dX6_digest_22 : decode cX6_digest 22 = .ok (.aload_n 0, 1) := by decide +kernel
theorem dX6_digest_23 : decode cX6_digest 23 = .ok (.iload_n 3, 1) := by decide +kernel
theorem dX6_digest_24 : decode cX6_digest 24 = .ok (.invokevirtual 101, 3) := by decide +kernel
theorem dX6_digest_27 : decode cX6_digest 27 = .ok (.i2l, 1) := by decide +kernel
theorem dX6_digest_28 : decode cX6_digest 28 = .ok (.ladd, 1) := by decide +kernel
theorem dX6_digest_29 : decode cX6_digest 29 = .ok (.lstore_n 1, 1) := by decide +kernel
theorem dX6_digest_30 : decode cX6_digest 30 = .ok (.iinc 3 1, 3) := by decide +kernel
theorem dX6_digest_33 : decode cX6_digest 33 = .ok (.goto (-22), 3) := by decide +kernel
theorem dX6_digest_36 : decode cX6_digest 36 = .ok (.aload_n 0, 1) := by decide +kernel
theorem dX6_digest_37 : decode cX6_digest 37 = .ok (.getfield 19, 3) := by decide +kernel
theorem dX6_digest_40 : decode cX6_digest 40 = .ok (.astore_n 3, 1) := by decide +kernel
theorem dX6_digest_41 : decode cX6_digest 41 = .ok (.aload_n 3, 1) := by decide +kernel
theorem dX6_digest_42 : decode cX6_digest 42 = .ok (.arraylength, 1) := by decide +kernel
theorem dX6_digest_43 : decode cX6_digest 43 = .ok (.istore 4, 2) := by decide +kernel
theorem dX6_digest_45 : decode cX6_digest 45 = .ok (.iconst 0, 1) := by decide +kernel
theorem dX6_digest_46 : decode cX6_digest 46 = .ok (.istore 5, 2) := by decide +kernel
theorem dX6_digest_48 : decode cX6_digest 48 = .ok (.iload 5, 2) := by decide +kernel
theorem dX6_digest_50 : decode cX6_digest 50 = .ok (.iload 4, 2) := by decide +kernel
theorem dX6_digest_52 : decode cX6_digest 52 = .ok (.if_icmp .ge 25, 3) := by decide +kernel
theorem dX6_digest_55 : decode cX6_digest 55 = .ok (.aload_n 3, 1) := by decide +kernel
theorem dX6_digest_56 : decode cX6_digest 56 = .ok (.iload 5, 2) := by decide +kernel
theorem dX6_digest_58 : decode cX6_digest 58 = .ok (.iaload, 1) := by decide +kernel
theorem dX6_digest_59 : decode cX6_digest 59 = .ok (.istore 6, 2) := by decide +kernel
theorem dX6_digest_61 : decode cX6_digest 61 = .ok (.lload_n 1, 1) := by decide +kernel
theorem dX6_digest_62 : decode cX6_digest 62 = .ok (.ldc2_w 143, 3) := by decide +kernel
theorem dX6_digest_65 : decode cX6_digest 65 = .ok (.lmul, 1) := by decide +kernel
theorem dX6_digest_66 : decode cX6_digest 66 = .ok (.iload 6, 2) := by decide +kernel
theorem dX6_digest_68 : decode cX6_digest 68 = .ok (.i2l, 1) := by decide +kernel
theorem dX6_digest_69 : decode cX6_digest 69 = .ok (.ladd, 1) := by decide +kernel
theorem dX6_digest_70 : decode cX6_digest 70 = .ok (.lstore_n 1, 1) := by decide +kernel
theorem dX6_digest_71 : decode cX6_digest 71 = .ok (.iinc 5 1, 3) := by decide +kernel
theorem dX6_digest_74 : decode cX6_digest 74 = .ok (.goto (-26), 3) := by decide +kernel
theorem dX6_digest_77 : decode cX6_digest 77 = .ok (.aload_n 0, 1) := by decide +kernel
theorem dX6_digest_78 : decode cX6_digest 78 = .ok (.getfield 23, 3) := by decide +kernel
theorem dX6_digest_81 : decode cX6_digest 81 = .ok (.astore_n 3, 1) := by decide +kernel
theorem dX6_digest_82 : decode cX6_digest 82 = .ok (.aload_n 3, 1) := by decide +kernel
theorem dX6_digest_83 : decode cX6_digest 83 = .ok (.arraylength, 1) := by decide +kernel
theorem dX6_digest_84 : decode cX6_digest 84 = .ok (.istore 4, 2) := by decide +kernel
theorem dX6_digest_86 : decode cX6_digest 86 = .ok (.iconst 0, 1) := by decide +kernel
theorem dX6_digest_87 : decode cX6_digest 87 = .ok (.istore 5, 2) := by decide +kernel
theorem dX6_digest_89 : decode cX6_digest 89 = .ok (.iload 5, 2) := by decide +kernel
theorem dX6_digest_91 : decode cX6_digest 91 = .ok (.iload 4, 2) := by decide +kernel
theorem dX6_digest_93 : decode cX6_digest 93 = .ok (.if_icmp .ge 25, 3) := by decide +kernel
theorem dX6_digest_96 : decode cX6_digest 96 = .ok (.aload_n 3, 1) := by decide +kernel
theorem dX6_digest_97 : decode cX6_digest 97 = .ok (.iload 5, 2) := by decide +kernel
theorem dX6_digest_99 : decode cX6_digest 99 = .ok (.iaload, 1) := by decide +kernel
theorem dX6_digest_100 : decode cX6_digest 100 = .ok (.istore 6, 2) := by decide +kernel
theorem dX6_digest_102 : decode cX6_digest 102 = .ok (.lload_n 1, 1) := by decide +kernel
theorem dX6_digest_103 : decode cX6_digest 103 = .ok (.ldc2_w 143, 3) := by decide +kernel
theorem dX6_digest_106 : decode cX6_digest 106 = .ok (.lmul, 1) := by decide +kernel
theorem dX6_digest_107 : decode cX6_digest 107 = .ok (.iload 6, 2) := by decide +kernel
theorem dX6_digest_109 : decode cX6_digest 109 = .ok (.i2l, 1) := by decide +kernel
theorem dX6_digest_110 : decode cX6_digest 110 = .ok (.ladd, 1) := by decide +kernel
theorem dX6_digest_111 : decode cX6_digest 111 = .ok (.lstore_n 1, 1) := by decide +kernel
theorem dX6_digest_112 : decode cX6_digest 112 = .ok (.iinc 5 1, 3) := by decide +kernel
theorem dX6_digest_115 : decode cX6_digest 115 = .ok (.goto (-26), 3) := by decide +kernel
theorem dX6_digest_118 : decode cX6_digest 118 = .ok (.lload_n 1, 1) := by decide +kernel
theorem dX6_digest_119 : decode cX6_digest 119 = .ok (.ldc2_w 143, 3) := by decide +kernel
theorem dX6_digest_122 : decode cX6_digest 122 = .ok (.lmul, 1) := by decide +kernel
theorem dX6_digest_123 : decode cX6_digest 123 = .ok (.aload_n 0, 1) := by decide +kernel
theorem dX6_digest_124 : decode cX6_digest 124 = .ok (.getfield 13, 3) := by decide +kernel
theorem dX6_digest_127 : decode cX6_digest 127 = .ok (.i2l, 1) := by decide +kernel
theorem dX6_digest_128 : decode cX6_digest 128 = .ok (.ladd, 1) := by decide +kernel
theorem dX6_digest_129 : decode cX6_digest 129 = .ok (.ldc2_w 143, 3) := by decide +kernel
theorem dX6_digest_132 : decode cX6_digest 132 = .ok (.lmul, 1) := by decide +kernel
theorem dX6_digest_133 : decode cX6_digest 133 = .ok (.aload_n 0, 1) := by decide +kernel
theorem dX6_digest_134 : decode cX6_digest 134 = .ok (.getfield 16, 3) := by decide +kernel
theorem dX6_digest_137 : decode cX6_digest 137 = .ok (.i2l, 1) := by decide +kernel
theorem dX6_digest_138 : decode cX6_digest 138 = .ok (.ladd, 1) := by decide +kernel
theorem dX6_digest_139 : decode cX6_digest 139 = .ok (.lstore_n 1, 1) := by decide +kernel
theorem dX6_digest_140 : decode cX6_digest 140 = .ok (.iconst 0, 1) := by decide +kernel
theorem dX6_digest_141 : decode cX6_digest 141 = .ok (.istore_n 3, 1) := by decide +kernel
theorem dX6_digest_142 : decode cX6_digest 142 = .ok (.iload_n 3, 1) := by decide +kernel
theorem dX6_digest_143 : decode cX6_digest 143 = .ok (.bipush 7, 2) := by decide +kernel
theorem dX6_digest_145 : decode cX6_digest 145 = .ok (.if_icmp .ge 22, 3) := by decide +kernel
theorem dX6_digest_148 : decode cX6_digest 148 = .ok (.lload_n 1, 1) := by decide +kernel
theorem dX6_digest_149 : decode cX6_digest 149 = .ok (.ldc2_w 143, 3) := by decide +kernel
theorem dX6_digest_152 : decode cX6_digest 152 = .ok (.lmul, 1) := by decide +kernel
theorem dX6_digest_153 : decode cX6_digest 153 = .ok (.aload_n 0, 1) := by decide +kernel
theorem dX6_digest_154 : decode cX6_digest 154 = .ok (.iload_n 3, 1) := by decide +kernel
theorem dX6_digest_155 : decode cX6_digest 155 = .ok (.invokevirtual 85, 3) := by decide +kernel
theorem dX6_digest_158 : decode cX6_digest 158 = .ok (.i2l, 1) := by decide +kernel
theorem dX6_digest_159 : decode cX6_digest 159 = .ok (.ladd, 1) := by decide +kernel
theorem dX6_digest_160 : decode cX6_digest 160 = .ok (.lstore_n 1, 1) := by decide +kernel
theorem dX6_digest_161 : decode cX6_digest 161 = .ok (.iinc 3 1, 3) := by decide +kernel
theorem dX6_digest_164 : decode cX6_digest 164 = .ok (.goto (-22), 3) := by decide +kernel
theorem dX6_digest_167 : decode cX6_digest 167 = .ok (.iconst 0, 1) := by decide +kernel
theorem dX6_digest_168 : decode cX6_digest 168 = .ok (.istore_n 3, 1) := by decide +kernel
theorem dX6_digest_169 : decode cX6_digest 169 = .ok (.iload_n 3, 1) := by decide +kernel
theorem dX6_digest_170 : decode cX6_digest 170 = .ok (.bipush 120, 2) := by decide +kernel
theorem dX6_digest_172 : decode cX6_digest 172 = .ok (.if_icmp .ge 27, 3) := by decide +kernel
theorem dX6_digest_175 : decode cX6_digest 175 = .ok (.lload_n 1, 1) := by decide +kernel
theorem dX6_digest_176 : decode cX6_digest 176 = .ok (.ldc2_w 143, 3) := by decide +kernel
theorem dX6_digest_179 : decode cX6_digest 179 = .ok (.lmul, 1) := by decide +kernel
theorem dX6_digest_180 : decode cX6_digest 180 = .ok (.aload_n 0, 1) := by decide +kernel
theorem dX6_digest_181 : decode cX6_digest 181 = .ok (.iload_n 3, 1) := by decide +kernel
theorem dX6_digest_182 : decode cX6_digest 182 = .ok (.iconst 5, 1) := by decide +kernel
theorem dX6_digest_183 : decode cX6_digest 183 = .ok (.idiv, 1) := by decide +kernel
theorem dX6_digest_184 : decode cX6_digest 184 = .ok (.iload_n 3, 1) := by decide +kernel
theorem dX6_digest_185 : decode cX6_digest 185 = .ok (.iconst 5, 1) := by decide +kernel
theorem dX6_digest_186 : decode cX6_digest 186 = .ok (.irem, 1) := by decide +kernel
theorem dX6_digest_187 : decode cX6_digest 187 = .ok (.invokevirtual 67, 3) := by decide +kernel
theorem dX6_digest_190 : decode cX6_digest 190 = .ok (.i2l, 1) := by decide +kernel
theorem dX6_digest_191 : decode cX6_digest 191 = .ok (.ladd, 1) := by decide +kernel
theorem dX6_digest_192 : decode cX6_digest 192 = .ok (.lstore_n 1, 1) := by decide +kernel
theorem dX6_digest_193 : decode cX6_digest 193 = .ok (.iinc 3 1, 3) := by decide +kernel
theorem dX6_digest_196 : decode cX6_digest 196 = .ok (.goto (-27), 3) := by decide +kernel
theorem dX6_digest_199 : decode cX6_digest 199 = .ok (.iconst 0, 1) := by decide +kernel
theorem dX6_digest_200 : decode cX6_digest 200 = .ok (.istore_n 3, 1) := by decide +kernel
theorem dX6_digest_201 : decode cX6_digest 201 = .ok (.iload_n 3, 1) := by decide +kernel
theorem dX6_digest_202 : decode cX6_digest 202 = .ok (.bipush 7, 2) := by decide +kernel
theorem dX6_digest_204 : decode cX6_digest 204 = .ok (.aload_n 0, 1) := by decide +kernel
theorem dX6_digest_205 : decode cX6_digest 205 = .ok (.getfield 36, 3) := by decide +kernel
theorem dX6_digest_208 : decode cX6_digest 208 = .ok (.imul, 1) := by decide +kernel
theorem dX6_digest_209 : decode cX6_digest 209 = .ok (.if_icmp .ge 29, 3) := by decide +kernel
theorem dX6_digest_212 : decode cX6_digest 212 = .ok (.lload_n 1, 1) := by decide +kernel
theorem dX6_digest_213 : decode cX6_digest 213 = .ok (.ldc2_w 143, 3) := by decide +kernel
theorem dX6_digest_216 : decode cX6_digest 216 = .ok (.lmul, 1) := by decide +kernel
theorem dX6_digest_217 : decode cX6_digest 217 = .ok (.aload_n 0, 1) := by decide +kernel
theorem dX6_digest_218 : decode cX6_digest 218 = .ok (.iload_n 3, 1) := by decide +kernel
theorem dX6_digest_219 : decode cX6_digest 219 = .ok (.bipush 7, 2) := by decide +kernel
theorem dX6_digest_221 : decode cX6_digest 221 = .ok (.idiv, 1) := by decide +kernel
theorem dX6_digest_222 : decode cX6_digest 222 = .ok (.iload_n 3, 1) := by decide +kernel
theorem dX6_digest_223 : decode cX6_digest 223 = .ok (.bipush 7, 2) := by decide +kernel
theorem dX6_digest_225 : decode cX6_digest 225 = .ok (.irem, 1) := by decide +kernel
theorem dX6_digest_226 : decode cX6_digest 226 = .ok (.invokevirtual 57, 3) := by decide +kernel
theorem dX6_digest_229 : decode cX6_digest 229 = .ok (.i2l, 1) := by decide +kernel
theorem dX6_digest_230 : decode cX6_digest 230 = .ok (.ladd, 1) := by decide +kernel
theorem dX6_digest_231 : decode cX6_digest 231 = .ok (.lstore_n 1, 1) := by decide +kernel
theorem dX6_digest_232 : decode cX6_digest 232 = .ok (.iinc 3 1, 3) := by decide +kernel
theorem dX6_digest_235 : decode cX6_digest 235 = .ok (.goto (-34), 3) := by decide +kernel
theorem dX6_digest_238 : decode cX6_digest 238 = .ok (.lload_n 1, 1) := by decide +kernel
theorem dX6_digest_239 : decode cX6_digest 239 = .ok (.lreturn, 1) := by decide +kernel
