theorem dX6_look_89 : decode cX6_look 89 = .ok (.ireturn, 1) := by decide +kernel
theorem dX6_look_90 : decode cX6_look 90 = .ok (.aload 4, 2) := by decide +kernel
theorem dX6_look_92 : decode cX6_look 92 = .ok (.getfield 188, 3) := by decide +kernel
theorem dX6_look_95 : decode cX6_look 95 = .ok (.ireturn, 1) := by decide +kernel
theorem dX6_look_96 : decode cX6_look 96 = .ok (.aload 4, 2) := by decide +kernel
theorem dX6_look_98 : decode cX6_look 98 = .ok (.getfield 191, 3) := by decide +kernel
theorem dX6_look_101 : decode cX6_look 101 = .ok (.ireturn, 1) := by decide +kernel
theorem dX6_look_102 : decode cX6_look 102 = .ok (.aload 4, 2) := by decide +kernel
theorem dX6_look_104 : decode cX6_look 104 = .ok (.getfield 194, 3) := by decide +kernel
theorem dX6_look_107 : decode cX6_look 107 = .ok (.ireturn, 1) := by decide +kernel
theorem dX6_look_108 : decode cX6_look 108 = .ok (.aload 4, 2) := by decide +kernel
theorem dX6_look_110 : decode cX6_look 110 = .ok (.getfield 197, 3) := by decide +kernel
theorem dX6_look_113 : decode cX6_look 113 = .ok (.ireturn, 1) := by decide +kernel
theorem dX6_look_114 : decode cX6_look 114 = .ok (.aload_n 0, 1) := by decide +kernel
theorem dX6_look_115 : decode cX6_look 115 = .ok (.iload_n 1, 1) := by decide +kernel
theorem dX6_look_116 : decode cX6_look 116 = .ok (.iload_n 2, 1) := by decide +kernel
theorem dX6_look_117 : decode cX6_look 117 = .ok (.invokevirtual 200, 3) := by decide +kernel
theorem dX6_look_120 : decode cX6_look 120 = .ok (.ireturn, 1) := by decide +kernel
set_option maxRecDepth 20000 in
theorem ggX6_buys_X6_needTown : GoodIn wsX6_buys wsX6_needTown := goodIn_ca (goodIn_r _ [13, 14, 15, 16, 110, 111, 112, 113, 114, 115, 116, 117, 118, 119, 120] (by decide +kernel) (by decide +kernel)) (goodIn_sub (fun _ h => List.mem_cons_of_mem _ (List.mem_append_left _ (List.mem_append_right _ h))) (by decide +kernel))
set_option maxRecDepth 20000 in
theorem gX6_buys_X6_needTown : GoodIn wsX6_buys (wsV RX6 146 RX6 yX6_needTown wsX6_needTown) := goodIn_app (goodIn_of _ (by decide +kernel)) ggX6_buys_X6_needTown
set_option maxRecDepth 20000 in
theorem ggX6_buys_X6_needThing : GoodIn wsX6_buys wsX6_needThing := goodIn_ca (goodIn_r _ [19, 14, 15] (by decide +kernel) (by decide +kernel)) (goodIn_sub (fun _ h => List.mem_cons_of_mem _ (List.mem_append_left _ (List.mem_append_right _ h))) (by decide +kernel))
set_option maxRecDepth 20000 in
theorem gX6_buys_X6_needThing : GoodIn wsX6_buys (va_wsS RX6 152 yX6_needThing wsX6_needThing) := goodIn_app (goodIn_of _ (by decide +kernel)) ggX6_buys_X6_needThing
set_option maxRecDepth 20000 in
theorem ggX6_buys_X6_needWithin : GoodIn wsX6_buys wsX6_needWithin := goodIn_ca (goodIn_r _ [22, 23, 24] (by decide +kernel) (by decide +kernel)) (goodIn_sub (fun _ h => List.mem_cons_of_mem _ (List.mem_append_right _ h)) (by decide +kernel))
set_option maxRecDepth 20000 in
theorem gX6_buys_X6_needWithin : GoodIn wsX6_buys (va_wsS RX6 74 yX6_needWithin wsX6_needWithin) := goodIn_app (goodIn_of _ (by decide +kernel)) ggX6_buys_X6_needWithin
set_option maxRecDepth 20000 in
theorem ggX6_buys_X6_priceToday : GoodIn wsX6_buys wsX6_priceToday := goodIn_r _ [28, 2, 3, 29, 30, 5, 6, 7, 8, 31, 32, 33, 12, 34, 35, 36, 37, 38, 39, 40, 41, 42, 43, 44, 45, 46, 47, 48, 49, 50, 51, 52, 53, 54, 55, 56, 57, 58, 59, 60, 61, 62, 63, 64, 65, 66, 67, 68, 69, 70, 71, 72, 73, 74, 75, 76, 77, 78, 79, 80, 81, 82, 83, 84, 85, 86, 87, 88, 89, 90, 91, 92, 93, 94, 95, 96, 97, 98, 99, 100, 101, 102, 103, 104, 105, 106, 107, 108, 109, 110, 111, 112, 113, 114, 115, 116, 117, 118, 119, 120, 121, 122, 123, 124, 125, 126, 127, 128, 129, 130, 131, 132, 133, 134, 135, 136, 137, 138, 139, 140, 141, 142, 143, 144, 145, 146, 147, 148, 149, 150] (by decide +kernel) (by decide +kernel)
set_option maxRecDepth 20000 in
theorem gX6_buys_X6_priceToday : GoodIn wsX6_buys (wsV RX6 200 RX6 yX6_priceToday wsX6_priceToday) := goodIn_app (goodIn_of _ (by decide +kernel)) ggX6_buys_X6_priceToday
theorem dX6_buys_0 : decode cX6_buys 0 = .ok (.aload_n 0, 1) := by decide +kernel
theorem dX6_buys_1 : decode cX6_buys 1 = .ok (.iload_n 1, 1) := by decide +kernel
theorem dX6_buys_2 : decode cX6_buys 2 = .ok (.invokevirtual 146, 3) := by decide +kernel
theorem dX6_buys_5 : decode cX6_buys 5 = .ok (.iload_n 2, 1) := by decide +kernel
theorem dX6_buys_6 : decode cX6_buys 6 = .ok (.invokestatic 152, 3) := by decide +kernel
theorem dX6_buys_9 : decode cX6_buys 9 = .ok (.iload_n 3, 1) := by decide +kernel
theorem dX6_buys_10 : decode cX6_buys 10 = .ok (.iconst 0, 1) := by decide +kernel
theorem dX6_buys_11 : decode cX6_buys 11 = .ok (.ldc 203, 2) := by decide +kernel
theorem dX6_buys_13 : decode cX6_buys 13 = .ok (.invokestatic 74, 3) := by decide +kernel
theorem dX6_buys_16 : decode cX6_buys 16 = .ok (.aload_n 0, 1) := by decide +kernel
theorem dX6_buys_17 : decode cX6_buys 17 = .ok (.getfield 38, 3) := by decide +kernel
theorem dX6_buys_20 : decode cX6_buys 20 = .ok (.iload_n 1, 1) := by decide +kernel
theorem dX6_buys_21 : decode cX6_buys 21 = .ok (.aaload, 1) := by decide +kernel
theorem dX6_buys_22 : decode cX6_buys 22 = .ok (.getfield 166, 3) := by decide +kernel
theorem dX6_buys_25 : decode cX6_buys 25 = .ok (.iload_n 2, 1) := by decide +kernel
theorem dX6_buys_26 : decode cX6_buys 26 = .ok (.aaload, 1) := by decide +kernel
theorem dX6_buys_27 : decode cX6_buys 27 = .ok (.getfield 179, 3) := by decide +kernel
theorem dX6_buys_30 : decode cX6_buys 30 = .ok (.istore 4, 2) := by decide +kernel
theorem dX6_buys_32 : decode cX6_buys 32 = .ok (.aload_n 0, 1) := by decide +kernel
theorem dX6_buys_33 : decode cX6_buys 33 = .ok (.iload_n 1, 1) := by decide +kernel
theorem dX6_buys_34 : decode cX6_buys 34 = .ok (.iload_n 2, 1) := by decide +kernel
theorem dX6_buys_35 : decode cX6_buys 35 = .ok (.invokevirtual 200, 3) := by decide +kernel
theorem dX6_buys_38 : decode cX6_buys 38 = .ok (.istore 5, 2) := by decide +kernel
theorem dX6_buys_40 : decode cX6_buys 40 = .ok (.iload 5, 2) := by decide +kernel
theorem dX6_buys_42 : decode cX6_buys 42 = .ok (.ifCond .le 15, 3) := by decide +kernel
theorem dX6_buys_45 : decode cX6_buys 45 = .ok (.iload_n 3, 1) := by decide +kernel
theorem dX6_buys_46 : decode cX6_buys 46 = .ok (.iload 5, 2) := by decide +kernel
theorem dX6_buys_48 : decode cX6_buys 48 = .ok (.idiv, 1) := by decide +kernel
theorem dX6_buys_49 : decode cX6_buys 49 = .ok (.iload 4, 2) := by decide +kernel
theorem dX6_buys_51 : decode cX6_buys 51 = .ok (.invokestatic 126, 3) := by decide +kernel
theorem dX6_buys_54 : decode cX6_buys 54 = .ok (.goto 5, 3) := by decide +kernel
theorem dX6_buys_57 : decode cX6_buys 57 = .ok (.iload 4, 2) := by decide +kernel
theorem dX6_buys_59 : decode cX6_buys 59 = .ok (.ireturn, 1) := by decide +kernel
set_option maxRecDepth 20000 in
theorem ggX6_count_X6_stockOfAll : GoodIn wsX6_count wsX6_stockOfAll := goodIn_r _ [12, 7, 13, 14, 15, 56, 57, 58, 59, 60, 61, 62, 63, 64, 65, 66, 76, 77, 78, 79, 80, 81, 82, 83, 84, 85, 86, 87, 88] (by decide +kernel) (by decide +kernel)
set_option maxRecDepth 20000 in
theorem gX6_count_X6_stockOfAll : GoodIn wsX6_count (wsV RX6 210 RX6 yX6_stockOfAll wsX6_stockOfAll) := goodIn_app (goodIn_of _ (by decide +kernel)) ggX6_count_X6_stockOfAll
set_option maxRecDepth 20000 in
theorem ggX6_count_X6_hiddenOfAll : GoodIn wsX6_count wsX6_hiddenOfAll := goodIn_r _ [19, 7, 13, 14, 20, 56, 57, 58, 59, 60, 61, 62, 63, 64, 65, 66, 76, 77, 78, 79, 80, 81, 82, 83, 84, 85, 86, 87, 88] (by decide +kernel) (by decide +kernel)
set_option maxRecDepth 20000 in
theorem gX6_count_X6_hiddenOfAll : GoodIn wsX6_count (wsV RX6 213 RX6 yX6_hiddenOfAll wsX6_hiddenOfAll) := goodIn_app (goodIn_of _ (by decide +kernel)) ggX6_count_X6_hiddenOfAll
set_option maxRecDepth 20000 in
theorem ggX6_count_X6_settledLines : GoodIn wsX6_count wsX6_settledLines := goodIn_r _ [24, 2, 1, 25, 26, 27, 28, 29, 30, 31, 32, 33, 34, 35, 36, 37, 38, 39, 40, 41, 42, 43, 44, 45, 46, 47, 48, 49, 50, 51, 52, 53, 54, 55, 56, 57, 58, 59, 60, 61, 62, 63, 64, 65, 66, 67, 68, 69, 70, 71, 72, 73, 74, 75] (by decide +kernel) (by decide +kernel)
set_option maxRecDepth 20000 in
theorem gX6_count_X6_settledLines : GoodIn wsX6_count (wsV RX6 216 RX6 yX6_settledLines wsX6_settledLines) := goodIn_app (goodIn_of _ (by decide +kernel)) ggX6_count_X6_settledLines
theorem dX6_count_0 : decode cX6_count 0 = .ok (.iload_n 1, 1) := by decide +kernel
theorem dX6_count_1 : decode cX6_count 1 = .ok (.tableswitch 113 0 8 #[51, 56, 64, 80, 88, 93, 98, 103, 108], 51) := by decide +kernel
theorem dX6_count_52 : decode cX6_count 52 = .ok (.aload_n 0, 1) := by decide +kernel
theorem dX6_count_53 : decode cX6_count 53 = .ok (.getfield 56, 3) := by decide +kernel
theorem dX6_count_56 : decode cX6_count 56 = .ok (.ireturn, 1) := by decide +kernel
theorem dX6_count_57 : decode cX6_count 57 = .ok (.aload_n 0, 1) := by decide +kernel
theorem dX6_count_58 : decode cX6_count 58 = .ok (.getfield 19, 3) := by decide +kernel
theorem dX6_count_61 : decode cX6_count 61 = .ok (.getfield 78, 3) := by decide +kernel
theorem dX6_count_64 : decode cX6_count 64 = .ok (.ireturn, 1) := by decide +kernel
theorem dX6_count_65 : decode cX6_count 65 = .ok (.aload_n 0, 1) := by decide +kernel
theorem dX6_count_66 : decode cX6_count 66 = .ok (.getfield 19, 3) := by decide +kernel
theorem dX6_count_69 : decode cX6_count 69 = .ok (.getfield 78, 3) := by decide +kernel
theorem dX6_count_72 : decode cX6_count 72 = .ok (.aload_n 0, 1) := by decide +kernel
theorem dX6_count_73 : decode cX6_count 73 = .ok (.getfield 19, 3) := by decide +kernel
theorem dX6_count_76 : decode cX6_count 76 = .ok (.getfield 204, 3) := by decide +kernel
theorem dX6_count_79 : decode cX6_count 79 = .ok (.isub, 1) := by decide +kernel
theorem dX6_count_80 : decode cX6_count 80 = .ok (.ireturn, 1) := by decide +kernel
theorem dX6_count_81 : decode cX6_count 81 = .ok (.aload_n 0, 1) := by decide +kernel
theorem dX6_count_82 : decode cX6_count 82 = .ok (.getfield 19, 3) := by decide +kernel
theorem dX6_count_85 : decode cX6_count 85 = .ok (.getfield 207, 3) := by decide +kernel
theorem dX6_count_88 : decode cX6_count 88 = .ok (.ireturn, 1) := by decide +kernel
theorem dX6_count_89 : decode cX6_count 89 = .ok (.aload_n 0, 1) := by decide +kernel
theorem dX6_count_90 : decode cX6_count 90 = .ok (.getfield 46, 3) := by decide +kernel
theorem dX6_count_93 : decode cX6_count 93 = .ok (.ireturn, 1) := by decide +kernel
theorem dX6_count_94 : decode cX6_count 94 = .ok (.aload_n 0, 1) := by decide +kernel
theorem dX6_count_95 : decode cX6_count 95 = .ok (.getfield 50, 3) := by decide +kernel
theorem dX6_count_98 : decode cX6_count 98 = .ok (.ireturn, 1) := by decide +kernel
theorem dX6_count_99 : decode cX6_count 99 = .ok (.aload_n 0, 1) := by decide +kernel
theorem dX6_count_100 : decode cX6_count 100 = .ok (.invokevirtual 210, 3) := by decide +kernel
theorem dX6_count_103 : decode cX6_count 103 = .ok (.ireturn, 1) := by decide +kernel
theorem dX6_count_104 : decode cX6_count 104 = .ok (.aload_n 0, 1) := by decide +kernel
theorem dX6_count_105 : decode cX6_count 105 = .ok (.invokevirtual 213, 3) := by decide +kernel
theorem dX6_count_108 : decode cX6_count 108 = .ok (.ireturn, 1) := by decide +kernel
theorem dX6_count_109 : decode cX6_count 109 = .ok (.aload_n 0, 1) := by decide +kernel
theorem dX6_count_110 : decode cX6_count 110 = .ok (.invokevirtual 216, 3) := by decide +kernel
theorem dX6_count_113 : decode cX6_count 113 = .ok (.ireturn, 1) := by decide +kernel
theorem dX6_count_114 : decode cX6_count 114 = .ok (.iconst (-1), 1) := by decide +kernel
theorem dX6_count_115 : decode cX6_count 115 = .ok (.ireturn, 1) := by decide +kernel
theorem dX6_needLine_0 : decode cX6_needLine 0 = .ok (.iload_n 0, 1) := by decide +kernel
theorem dX6_needLine_1 : decode cX6_needLine 1 = .ok (.ifCond .lt 9, 3) := by decide +kernel
theorem dX6_needLine_4 : decode cX6_needLine 4 = .ok (.iload_n 0, 1) := by decide +kernel
theorem dX6_needLine_5 : decode cX6_needLine 5 = .ok (.bipush 30, 2) := by decide +kernel
theorem dX6_needLine_7 : decode cX6_needLine 7 = .ok (.if_icmp .lt 13, 3) := by decide +kernel
theorem dX6_needLine_10 : decode cX6_needLine 10 = .ok (.new 92, 3) := by decide +kernel
theorem dX6_needLine_13 : decode cX6_needLine 13 = .ok (.dup, 1) := by decide +kernel
theorem dX6_needLine_14 : decode cX6_needLine 14 = .ok (.ldc 219, 2) := by decide +kernel
theorem dX6_needLine_16 : decode cX6_needLine 16 = .ok (.invokespecial 96, 3) := by decide +kernel
theorem dX6_needLine_19 : decode cX6_needLine 19 = .ok (.athrow, 1) := by decide +kernel
theorem dX6_needLine_20 : decode cX6_needLine 20 = .ok (.return_, 1) := by decide +kernel
theorem dX6_needThing_0 : decode cX6_needThing 0 = .ok (.iload_n 0, 1) := by decide +kernel
theorem dX6_needThing_1 : decode cX6_needThing 1 = .ok (.ifCond .lt 9, 3) := by decide +kernel
theorem dX6_needThing_4 : decode cX6_needThing 4 = .ok (.iload_n 0, 1) := by decide +kernel
theorem dX6_needThing_5 : decode cX6_needThing 5 = .ok (.bipush 6, 2) := by decide +kernel
theorem dX6_needThing_7 : decode cX6_needThing 7 = .ok (.if_icmp .lt 13, 3) := by decide +kernel
theorem dX6_needThing_10 : decode cX6_needThing 10 = .ok (.new 92, 3) := by decide +kernel
theorem dX6_needThing_13 : decode cX6_needThing 13 = .ok (.dup, 1) := by decide +kernel
theorem dX6_needThing_14 : decode cX6_needThing 14 = .ok (.ldc 221, 2) := by decide +kernel
theorem dX6_needThing_16 : decode cX6_needThing 16 = .ok (.invokespecial 96, 3) := by decide +kernel
theorem dX6_needThing_19 : decode cX6_needThing 19 = .ok (.athrow, 1) := by decide +kernel
theorem dX6_needThing_20 : decode cX6_needThing 20 = .ok (.return_, 1) := by decide +kernel
theorem dX6_needTown_0 : decode cX6_needTown 0 = .ok (.iload_n 1, 1) := by decide +kernel
theorem dX6_needTown_1 : decode cX6_needTown 1 = .ok (.ifCond .lt 11, 3) := by decide +kernel
theorem dX6_needTown_4 : decode cX6_needTown 4 = .ok (.iload_n 1, 1) := by decide +kernel
theorem dX6_needTown_5 : decode cX6_needTown 5 = .ok (.aload_n 0, 1) := by decide +kernel
theorem dX6_needTown_6 : decode cX6_needTown 6 = .ok (.getfield 50, 3) := by decide +kernel
theorem dX6_needTown_9 : decode cX6_needTown 9 = .ok (.if_icmp .lt 13, 3) := by decide +kernel
theorem dX6_needTown_12 : decode cX6_needTown 12 = .ok (.new 92, 3) := by decide +kernel
theorem dX6_needTown_15 : decode cX6_needTown 15 = .ok (.dup, 1) := by decide +kernel
theorem dX6_needTown_16 : decode cX6_needTown 16 = .ok (.ldc 223, 2) := by decide +kernel
theorem dX6_needTown_18 : decode cX6_needTown 18 = .ok (.invokespecial 96, 3) := by decide +kernel
theorem dX6_needTown_21 : decode cX6_needTown 21 = .ok (.athrow, 1) := by decide +kernel
theorem dX6_needTown_22 : decode cX6_needTown 22 = .ok (.return_, 1) := by decide +kernel
theorem dX6_needWithin_0 : decode cX6_needWithin 0 = .ok (.iload_n 0, 1) := by decide +kernel
theorem dX6_needWithin_1 : decode cX6_needWithin 1 = .ok (.iload_n 1, 1) := by decide +kernel
theorem dX6_needWithin_2 : decode cX6_needWithin 2 = .ok (.if_icmp .lt 8, 3) := by decide +kernel
theorem dX6_needWithin_5 : decode cX6_needWithin 5 = .ok (.iload_n 0, 1) := by decide +kernel
theorem dX6_needWithin_6 : decode cX6_needWithin 6 = .ok (.iload_n 2, 1) := by decide +kernel
theorem dX6_needWithin_7 : decode cX6_needWithin 7 = .ok (.if_icmp .le 13, 3) := by decide +kernel
theorem dX6_needWithin_10 : decode cX6_needWithin 10 = .ok (.new 101, 3) := by decide +kernel
theorem dX6_needWithin_13 : decode cX6_needWithin 13 = .ok (.dup, 1) := by decide +kernel
theorem dX6_needWithin_14 : decode cX6_needWithin 14 = .ok (.ldc 225, 2) := by decide +kernel
theorem dX6_needWithin_16 : decode cX6_needWithin 16 = .ok (.invokespecial 105, 3) := by decide +kernel
theorem dX6_needWithin_19 : decode cX6_needWithin 19 = .ok (.athrow, 1) := by decide +kernel
theorem dX6_needWithin_20 : decode cX6_needWithin 20 = .ok (.return_, 1) := by decide +kernel
theorem dX6_needWhat_0 : decode cX6_needWhat 0 = .ok (.iload_n 0, 1) := by decide +kernel
theorem dX6_needWhat_1 : decode cX6_needWhat 1 = .ok (.ifCond .lt 8, 3) := by decide +kernel
theorem dX6_needWhat_4 : decode cX6_needWhat 4 = .ok (.iload_n 0, 1) := by decide +kernel
theorem dX6_needWhat_5 : decode cX6_needWhat 5 = .ok (.iload_n 1, 1) := by decide +kernel
theorem dX6_needWhat_6 : decode cX6_needWhat 6 = .ok (.if_icmp .le 13, 3) := by decide +kernel
theorem dX6_needWhat_9 : decode cX6_needWhat 9 = .ok (.new 227, 3) := by decide +kernel
theorem dX6_needWhat_12 : decode cX6_needWhat 12 = .ok (.dup, 1) := by decide +kernel
theorem dX6_needWhat_13 : decode cX6_needWhat 13 = .ok (.ldc 229, 2) := by decide +kernel
theorem dX6_needWhat_15 : decode cX6_needWhat 15 = .ok (.invokespecial 231, 3) := by decide +kernel
theorem dX6_needWhat_18 : decode cX6_needWhat 18 = .ok (.athrow, 1) := by decide +kernel
theorem dX6_needWhat_19 : decode cX6_needWhat 19 = .ok (.return_, 1) := by decide +kernel
set_option maxRecDepth 20000 in
theorem ggX6_inForce_X4_tensOfMiles : GoodIn wsX6_inForce wsX4_tensOfMiles := goodIn_r _ [7, 8, 28, 29] (by decide +kernel) (by decide +kernel)
set_option maxRecDepth 20000 in
theorem gX6_inForce_X4_tensOfMiles : GoodIn wsX6_inForce (wsV RX6 232 RX4 yX4_tensOfMiles wsX4_tensOfMiles) := goodIn_app (goodIn_of _ (by decide +kernel)) ggX6_inForce_X4_tensOfMiles
set_option maxRecDepth 20000 in
theorem ggX6_inForce_X1_heard : GoodIn wsX6_inForce wsX1_heard := goodIn_r _ [13, 14, 15, 16, 30, 31, 32] (by decide +kernel) (by decide +kernel)
set_option maxRecDepth 20000 in
theorem gX6_inForce_X1_heard : GoodIn wsX6_inForce (wsV RX6 235 RX1 yX1_heard wsX1_heard) := goodIn_app (goodIn_of _ (by decide +kernel)) ggX6_inForce_X1_heard
theorem dX6_inForce_0 : decode cX6_inForce 0 = .ok (.aload_n 0, 1) := by decide +kernel
theorem dX6_inForce_1 : decode cX6_inForce 1 = .ok (.getfield 32, 3) := by decide +kernel
theorem dX6_inForce_4 : decode cX6_inForce 4 = .ok (.aload_n 0, 1) := by decide +kernel
theorem dX6_inForce_5 : decode cX6_inForce 5 = .ok (.getfield 38, 3) := by decide +kernel
theorem dX6_inForce_8 : decode cX6_inForce 8 = .ok (.iload_n 1, 1) := by decide +kernel
theorem dX6_inForce_9 : decode cX6_inForce 9 = .ok (.aaload, 1) := by decide +kernel
theorem dX6_inForce_10 : decode cX6_inForce 10 = .ok (.invokevirtual 232, 3) := by decide +kernel
theorem dX6_inForce_13 : decode cX6_inForce 13 = .ok (.iload_n 2, 1) := by decide +kernel
theorem dX6_inForce_14 : decode cX6_inForce 14 = .ok (.invokevirtual 235, 3) := by decide +kernel
theorem dX6_inForce_17 : decode cX6_inForce 17 = .ok (.ireturn, 1) := by decide +kernel
set_option maxRecDepth 20000 in
theorem ggX6_highest_X6_inForce : GoodIn wsX6_highest wsX6_inForce := goodIn_r _ [10, 11, 4, 12, 13, 14, 15, 16, 17, 18, 19, 20, 21, 22, 23, 24, 25, 78, 79, 80, 81, 82, 83, 84, 85, 86, 87, 88, 94, 95, 96, 97, 98] (by decide +kernel) (by decide +kernel)
set_option maxRecDepth 20000 in
theorem gX6_highest_X6_inForce : GoodIn wsX6_highest (wsV RX6 149 RX6 yX6_inForce wsX6_inForce) := goodIn_app (goodIn_of _ (by decide +kernel)) ggX6_highest_X6_inForce
set_option maxRecDepth 20000 in
theorem ggX6_highest_X0_frees : GoodIn wsX6_highest wsX0_frees := goodIn_r _ [30, 31, 89, 90, 91, 92, 93] (by decide +kernel) (by decide +kernel)
set_option maxRecDepth 20000 in
theorem gX6_highest_X0_frees : GoodIn wsX6_highest (wsV RX6 238 RX0 yX0_frees wsX0_frees) := goodIn_app (goodIn_of _ (by decide +kernel)) ggX6_highest_X0_frees
set_option maxRecDepth 20000 in
theorem ggX6_highest_X6_toldCap : GoodIn wsX6_highest wsX6_toldCap := goodIn_r _ [35, 36, 37, 38, 39, 40, 41, 42, 43, 44, 45, 46, 47, 48, 49, 50, 51, 52, 53, 54, 55, 56, 57, 58, 59, 60, 61, 62, 63, 64, 65, 66, 67, 68, 69, 70, 71, 72, 73, 74, 75, 76, 77, 89, 90, 91, 92, 93, 78, 79, 80, 81, 82, 83, 84, 85, 86, 87, 88, 99, 100, 101, 102, 103, 104, 105, 106, 107] (by decide +kernel) (by decide +kernel)
set_option maxRecDepth 20000 in
theorem gX6_highest_X6_toldCap : GoodIn wsX6_highest (wsV RX6 242 RX6 yX6_toldCap wsX6_toldCap) := goodIn_app (goodIn_of _ (by decide +kernel)) ggX6_highest_X6_toldCap
set_option maxRecDepth 20000 in
theorem ggX6_highest_X4_tensOfMiles : GoodIn wsX6_highest wsX4_tensOfMiles := goodIn_r _ [16, 17, 94, 95] (by decide +kernel) (by decide +kernel)
set_option maxRecDepth 20000 in
theorem gX6_highest_X4_tensOfMiles : GoodIn wsX6_highest (wsV RX6 232 RX4 yX4_tensOfMiles wsX4_tensOfMiles) := goodIn_app (goodIn_of _ (by decide +kernel)) ggX6_highest_X4_tensOfMiles
theorem dX6_highest_0 : decode cX6_highest 0 = .ok (.aload_n 0, 1) := by decide +kernel
theorem dX6_highest_1 : decode cX6_highest 1 = .ok (.iload_n 1, 1) := by decide +kernel
theorem dX6_highest_2 : decode cX6_highest 2 = .ok (.iload 4, 2) := by decide +kernel
theorem dX6_highest_4 : decode cX6_highest 4 = .ok (.invokevirtual 149, 3) := by decide +kernel
theorem dX6_highest_7 : decode cX6_highest 7 = .ok (.istore 5, 2) := by decide +kernel
theorem dX6_highest_9 : decode cX6_highest 9 = .ok (.iload 5, 2) := by decide +kernel
theorem dX6_highest_11 : decode cX6_highest 11 = .ok (.ifCond .lt 12, 3) := by decide +kernel
theorem dX6_highest_14 : decode cX6_highest 14 = .ok (.iload 5, 2) := by decide +kernel
theorem dX6_highest_16 : decode cX6_highest 16 = .ok (.aload_n 0, 1) := by decide +kernel
theorem dX6_highest_17 : decode cX6_highest 17 = .ok (.getfield 46, 3) := by decide +kernel
theorem dX6_highest_20 : decode cX6_highest 20 = .ok (.if_icmp .lt 5, 3) := by decide +kernel
theorem dX6_highest_23 : decode cX6_highest 23 = .ok (.iconst (-1), 1) := by decide +kernel
theorem dX6_highest_24 : decode cX6_highest 24 = .ok (.ireturn, 1) := by decide +kernel
theorem dX6_highest_25 : decode cX6_highest 25 = .ok (.aload_n 0, 1) := by decide +kernel
theorem dX6_highest_26 : decode cX6_highest 26 = .ok (.getfield 25, 3) := by decide +kernel
theorem dX6_highest_29 : decode cX6_highest 29 = .ok (.iload 5, 2) := by decide +kernel
theorem dX6_highest_31 : decode cX6_highest 31 = .ok (.aaload, 1) := by decide +kernel
theorem dX6_highest_32 : decode cX6_highest 32 = .ok (.astore 6, 2) := by decide +kernel
theorem dX6_highest_34 : decode cX6_highest 34 = .ok (.aload 6, 2) := by decide +kernel
theorem dX6_highest_36 : decode cX6_highest 36 = .ok (.iload_n 1, 1) := by decide +kernel
theorem dX6_highest_37 : decode cX6_highest 37 = .ok (.invokevirtual 238, 3) := by decide +kernel
theorem dX6_highest_40 : decode cX6_highest 40 = .ok (.ifCond .eq 7, 3) := by decide +kernel
theorem dX6_highest_43 : decode cX6_highest 43 = .ok (.iconst (-1), 1) := by decide +kernel
theorem dX6_highest_44 : decode cX6_highest 44 = .ok (.goto 12, 3) := by decide +kernel
theorem dX6_highest_47 : decode cX6_highest 47 = .ok (.aload_n 0, 1) := by decide +kernel
theorem dX6_highest_48 : decode cX6_highest 48 = .ok (.aload 6, 2) := by decide +kernel
theorem dX6_highest_50 : decode cX6_highest 50 = .ok (.iload_n 2, 1) := by decide +kernel
theorem dX6_highest_51 : decode cX6_highest 51 = .ok (.iload 4, 2) := by decide +kernel
theorem dX6_highest_53 : decode cX6_highest 53 = .ok (.invokevirtual 242, 3) := by decide +kernel
theorem dX6_highest_56 : decode cX6_highest 56 = .ok (.istore 7, 2) := by decide +kernel
theorem dX6_highest_58 : decode cX6_highest 58 = .ok (.iload 7, 2) := by decide +kernel
theorem dX6_highest_60 : decode cX6_highest 60 = .ok (.iconst (-1), 1) := by decide +kernel
theorem dX6_highest_61 : decode cX6_highest 61 = .ok (.if_icmp .ne 5, 3) := by decide +kernel
theorem dX6_highest_64 : decode cX6_highest 64 = .ok (.iconst (-1), 1) := by decide +kernel
theorem dX6_highest_65 : decode cX6_highest 65 = .ok (.ireturn, 1) := by decide +kernel
theorem dX6_highest_66 : decode cX6_highest 66 = .ok (.iload 7, 2) := by decide +kernel
theorem dX6_highest_68 : decode cX6_highest 68 = .ok (.aload 6, 2) := by decide +kernel
theorem dX6_highest_70 : decode cX6_highest 70 = .ok (.getfield 246, 3) := by decide +kernel
theorem dX6_highest_73 : decode cX6_highest 73 = .ok (.aload_n 0, 1) := by decide +kernel
theorem dX6_highest_74 : decode cX6_highest 74 = .ok (.getfield 38, 3) := by decide +kernel
theorem dX6_highest_77 : decode cX6_highest 77 = .ok (.iload_n 1, 1) := by decide +kernel
theorem dX6_highest_78 : decode cX6_highest 78 = .ok (.aaload, 1) := by decide +kernel
theorem dX6_highest_79 : decode cX6_highest 79 = .ok (.invokevirtual 232, 3) := by decide +kernel
theorem dX6_highest_82 : decode cX6_highest 82 = .ok (.imul, 1) := by decide +kernel
theorem dX6_highest_83 : decode cX6_highest 83 = .ok (.iadd, 1) := by decide +kernel
theorem dX6_highest_84 : decode cX6_highest 84 = .ok (.istore 8, 2) := by decide +kernel
theorem dX6_highest_86 : decode cX6_highest 86 = .ok (.iload_n 3, 1) := by decide +kernel
theorem dX6_highest_87 : decode cX6_highest 87 = .ok (.ifCond .eq 20, 3) := by decide +kernel
theorem dX6_highest_90 : decode cX6_highest 90 = .ok (.iload 8, 2) := by decide +kernel
theorem dX6_highest_92 : decode cX6_highest 92 = .ok (.iload 8, 2) := by decide +kernel
theorem dX6_highest_94 : decode cX6_highest 94 = .ok (.aload 6, 2) := by decide +kernel
theorem dX6_highest_96 : decode cX6_highest 96 = .ok (.getfield 249, 3) := by decide +kernel
theorem dX6_highest_99 : decode cX6_highest 99 = .ok (.imul, 1) := by decide +kernel
theorem dX6_highest_100 : decode cX6_highest 100 = .ok (.bipush 100, 2) := by decide +kernel
theorem dX6_highest_102 : decode cX6_highest 102 = .ok (.idiv, 1) := by decide +kernel
theorem dX6_highest_103 : decode cX6_highest 103 = .ok (.iadd, 1) := by decide +kernel
theorem dX6_highest_104 : decode cX6_highest 104 = .ok (.goto 5, 3) := by decide +kernel
theorem dX6_highest_107 : decode cX6_highest 107 = .ok (.iload 8, 2) := by decide +kernel
theorem dX6_highest_109 : decode cX6_highest 109 = .ok (.ireturn, 1) := by decide +kernel
set_option maxRecDepth 20000 in
theorem ggX6_toldCap_X2_compare : GoodIn wsX6_toldCap wsX2_compare := goodIn_r _ [8, 9, 10, 11, 12, 13, 14, 7, 15, 16, 17, 18, 19, 20, 21, 22, 23, 59, 60, 61, 62, 63, 64, 65, 66, 67] (by decide +kernel) (by decide +kernel)
set_option maxRecDepth 20000 in
theorem gX6_toldCap_X2_compare : GoodIn wsX6_toldCap (wsV RX6 113 RX2 yX2_compare wsX2_compare) := goodIn_app (goodIn_of _ (by decide +kernel)) ggX6_toldCap_X2_compare
set_option maxRecDepth 20000 in
theorem ggX6_toldCap_X2_agreeing : GoodIn wsX6_toldCap wsX2_agreeing := goodIn_r _ [27, 9, 28, 29, 30, 31, 32, 33, 34, 59, 60, 61, 62, 63, 64, 65, 66, 67] (by decide +kernel) (by decide +kernel)
set_option maxRecDepth 20000 in
theorem gX6_toldCap_X2_agreeing : GoodIn wsX6_toldCap (wsV RX6 116 RX2 yX2_agreeing wsX2_agreeing) := goodIn_app (goodIn_of _ (by decide +kernel)) ggX6_toldCap_X2_agreeing
set_option maxRecDepth 20000 in
theorem ggX6_toldCap_X2_greatest : GoodIn wsX6_toldCap wsX2_greatest := goodIn_r _ [38, 9, 39, 25, 26, 7, 27, 28, 29, 30, 31, 32, 33, 34, 40, 41, 42, 59, 60, 61, 62, 63, 64, 65, 66, 67] (by decide +kernel) (by decide +kernel)
set_option maxRecDepth 20000 in
theorem gX6_toldCap_X2_greatest : GoodIn wsX6_toldCap (wsV RX6 123 RX2 yX2_greatest wsX2_greatest) := goodIn_app (goodIn_of _ (by decide +kernel)) ggX6_toldCap_X2_greatest
theorem dX6_toldCap_0 : decode cX6_toldCap 0 = .ok (.aload_n 1, 1) := by decide +kernel
theorem dX6_toldCap_1 : decode cX6_toldCap 1 = .ok (.getfield 252, 3) := by decide +kernel
theorem dX6_toldCap_4 : decode cX6_toldCap 4 = .ok (.iload_n 2, 1) := by decide +kernel
theorem dX6_toldCap_5 : decode cX6_toldCap 5 = .ok (.iaload, 1) := by decide +kernel
theorem dX6_toldCap_6 : decode cX6_toldCap 6 = .ok (.istore 4, 2) := by decide +kernel
theorem dX6_toldCap_8 : decode cX6_toldCap 8 = .ok (.iload 4, 2) := by decide +kernel
theorem dX6_toldCap_10 : decode cX6_toldCap 10 = .ok (.iconst (-1), 1) := by decide +kernel
theorem dX6_toldCap_11 : decode cX6_toldCap 11 = .ok (.if_icmp .ne 10, 3) := by decide +kernel
theorem dX6_toldCap_14 : decode cX6_toldCap 14 = .ok (.aload_n 1, 1) := by decide +kernel
theorem dX6_toldCap_15 : decode cX6_toldCap 15 = .ok (.getfield 255, 3) := by decide +kernel
theorem dX6_toldCap_18 : decode cX6_toldCap 18 = .ok (.iload_n 2, 1) := by decide +kernel
theorem dX6_toldCap_19 : decode cX6_toldCap 19 = .ok (.iaload, 1) := by decide +kernel
theorem dX6_toldCap_20 : decode cX6_toldCap 20 = .ok (.ireturn, 1) := by decide +kernel
theorem dX6_toldCap_21 : decode cX6_toldCap 21 = .ok (.aload_n 0, 1) := by decide +kernel
theorem dX6_toldCap_22 : decode cX6_toldCap 22 = .ok (.getfield 19, 3) := by decide +kernel
theorem dX6_toldCap_25 : decode cX6_toldCap 25 = .ok (.iload 4, 2) := by decide +kernel
theorem dX6_toldCap_27 : decode cX6_toldCap 27 = .ok (.iload_n 3, 1) := by decide +kernel
theorem dX6_toldCap_28 : decode cX6_toldCap 28 = .ok (.invokevirtual 113, 3) := by decide +kernel
theorem dX6_toldCap_31 : decode cX6_toldCap 31 = .ok (.aload_n 0, 1) := by decide +kernel
theorem dX6_toldCap_32 : decode cX6_toldCap 32 = .ok (.getfield 19, 3) := by decide +kernel
theorem dX6_toldCap_35 : decode cX6_toldCap 35 = .ok (.invokevirtual 116, 3) := by decide +kernel
theorem dX6_toldCap_38 : decode cX6_toldCap 38 = .ok (.ifCond .ne 9, 3) := by decide +kernel
theorem dX6_toldCap_41 : decode cX6_toldCap 41 = .ok (.sipush 9999, 3) := by decide +kernel
theorem dX6_toldCap_44 : decode cX6_toldCap 44 = .ok (.goto 10, 3) := by decide +kernel
theorem dX6_toldCap_47 : decode cX6_toldCap 47 = .ok (.aload_n 0, 1) := by decide +kernel
theorem dX6_toldCap_48 : decode cX6_toldCap 48 = .ok (.getfield 19, 3) := by decide +kernel
theorem dX6_toldCap_51 : decode cX6_toldCap 51 = .ok (.invokevirtual 123, 3) := by decide +kernel
theorem dX6_toldCap_54 : decode cX6_toldCap 54 = .ok (.ireturn, 1) := by decide +kernel
set_option maxRecDepth 20000 in
theorem ggX6_priceToday_X6_highest : GoodIn wsX6_priceToday wsX6_highest := goodIn_r _ [13, 14, 15, 16, 1, 17, 18, 19, 20, 12, 21, 22, 23, 24, 25, 26, 27, 28, 29, 30, 31, 32, 33, 34, 35, 36, 37, 38, 39, 40, 41, 42, 43, 44, 45, 46, 47, 48, 49, 50, 51, 52, 53, 54, 55, 56, 57, 58, 59, 60, 61, 62, 63, 64, 65, 66, 67, 68, 69, 70, 71, 72, 73, 74, 75, 76, 77, 78, 79, 80, 81, 82, 83, 84, 85, 86, 87, 88, 89, 90, 91, 92, 93, 94, 95, 96, 97, 98, 99, 113, 114, 115, 116, 117, 100, 101, 118, 119, 120, 121, 122, 123, 124, 125, 126, 127, 128, 129] (by decide +kernel) (by decide +kernel)
set_option maxRecDepth 20000 in
theorem gX6_priceToday_X6_highest : GoodIn wsX6_priceToday (wsV RX6 155 RX6 yX6_highest wsX6_highest) := goodIn_app (goodIn_of _ (by decide +kernel)) ggX6_priceToday_X6_highest
theorem dX6_priceToday_0 : decode cX6_priceToday 0 = .ok (.aload_n 0, 1) := by decide +kernel
theorem dX6_priceToday_1 : decode cX6_priceToday 1 = .ok (.getfield 38, 3) := by decide +kernel
theorem dX6_priceToday_4 : decode cX6_priceToday 4 = .ok (.iload_n 1, 1) := by decide +kernel
theorem dX6_priceToday_5 : decode cX6_priceToday 5 = .ok (.aaload, 1) := by decide +kernel
theorem dX6_priceToday_6 : decode cX6_priceToday 6 = .ok (.getfield 166, 3) := by decide +kernel
theorem dX6_priceToday_9 : decode cX6_priceToday 9 = .ok (.iload_n 2, 1) := by decide +kernel
theorem dX6_priceToday_10 : decode cX6_priceToday 10 = .ok (.aaload, 1) := by decide +kernel
theorem dX6_priceToday_11 : decode cX6_priceToday 11 = .ok (.getfield 258, 3) := by decide +kernel
theorem dX6_priceToday_14 : decode cX6_priceToday 14 = .ok (.istore_n 3, 1) := by decide +kernel
theorem dX6_priceToday_15 : decode cX6_priceToday 15 = .ok (.aload_n 0, 1) := by decide +kernel
theorem dX6_priceToday_16 : decode cX6_priceToday 16 = .ok (.iload_n 1, 1) := by decide +kernel
theorem dX6_priceToday_17 : decode cX6_priceToday 17 = .ok (.iload_n 2, 1) := by decide +kernel
theorem dX6_priceToday_18 : decode cX6_priceToday 18 = .ok (.iconst 0, 1) := by decide +kernel
theorem dX6_priceToday_19 : decode cX6_priceToday 19 = .ok (.aload_n 0, 1) := by decide +kernel
theorem dX6_priceToday_20 : decode cX6_priceToday 20 = .ok (.getfield 56, 3) := by decide +kernel
theorem dX6_priceToday_23 : decode cX6_priceToday 23 = .ok (.invokevirtual 155, 3) := by decide +kernel
theorem dX6_priceToday_26 : decode cX6_priceToday 26 = .ok (.istore 4, 2) := by decide +kernel
theorem dX6_priceToday_28 : decode cX6_priceToday 28 = .ok (.iload 4, 2) := by decide +kernel
theorem dX6_priceToday_30 : decode cX6_priceToday 30 = .ok (.iconst (-1), 1) := by decide +kernel
theorem dX6_priceToday_31 : decode cX6_priceToday 31 = .ok (.if_icmp .ne 7, 3) := by decide +kernel
theorem dX6_priceToday_34 : decode cX6_priceToday 34 = .ok (.iload_n 3, 1) := by decide +kernel
theorem dX6_priceToday_35 : decode cX6_priceToday 35 = .ok (.goto 9, 3) := by decide +kernel
theorem dX6_priceToday_38 : decode cX6_priceToday 38 = .ok (.iload_n 3, 1) := by decide +kernel
theorem dX6_priceToday_39 : decode cX6_priceToday 39 = .ok (.iload 4, 2) := by decide +kernel
theorem dX6_priceToday_41 : decode cX6_priceToday 41 = .ok (.invokestatic 126, 3) := by decide +kernel
theorem dX6_priceToday_44 : decode cX6_priceToday 44 = .ok (.ireturn, 1) := by decide +kernel
set_option maxRecDepth 20000 in
theorem ggX6_holdMarkets_X6_priceToday : GoodIn wsX6_holdMarkets wsX6_priceToday := goodIn_r _ [11, 3, 5, 12, 13, 14, 15, 16, 17, 18, 19, 20, 10, 21, 22, 23, 24, 25, 26, 27, 28, 29, 30, 31, 32, 33, 34, 35, 36, 37, 38, 39, 40, 41, 42, 43, 44, 45, 46, 47, 48, 49, 50, 51, 52, 53, 54, 55, 56, 57, 58, 59, 60, 61, 62, 63, 64, 65, 66, 67, 68, 69, 70, 71, 72, 73, 74, 75, 76, 77, 78, 79, 80, 81, 82, 83, 84, 85, 86, 87, 88, 89, 90, 91, 92, 93, 94, 95, 96, 141, 142, 143, 144, 145, 146, 147, 148, 149, 150, 151, 152, 153, 154, 155, 156, 157, 158, 159, 160, 161, 162, 163, 164, 165, 166, 167, 168, 169, 170, 171, 172, 173, 174, 175, 176, 177, 178, 179, 180, 181] (by decide +kernel) (by decide +kernel)
set_option maxRecDepth 20000 in
theorem gX6_holdMarkets_X6_priceToday : GoodIn wsX6_holdMarkets (wsV RX6 200 RX6 yX6_priceToday wsX6_priceToday) := goodIn_app (goodIn_of _ (by decide +kernel)) ggX6_holdMarkets_X6_priceToday
set_option maxRecDepth 20000 in
theorem ggX6_holdMarkets_X5_passWeek : GoodIn wsX6_holdMarkets wsX5_passWeek := goodIn_r _ [101, 102, 103, 104, 105, 106, 100, 107, 108, 109, 110, 111, 112, 113, 114, 115, 116, 117, 118, 119, 120, 121, 122, 123, 124, 125, 15, 16, 17, 126, 127, 128, 129, 130, 131, 132, 133, 134, 135, 136, 137, 138, 139, 140, 154, 155, 156, 157, 158, 159, 160, 161, 162, 163, 164] (by decide +kernel) (by decide +kernel)
set_option maxRecDepth 20000 in
theorem gX6_holdMarkets_X5_passWeek : GoodIn wsX6_holdMarkets (wsV RX6 261 RX5 yX5_passWeek wsX5_passWeek) := goodIn_app (goodIn_of _ (by decide +kernel)) ggX6_holdMarkets_X5_passWeek
theorem dX6_holdMarkets_0 : decode cX6_holdMarkets 0 = .ok (.iconst 0, 1) := by decide +kernel
theorem dX6_holdMarkets_1 : decode cX6_holdMarkets 1 = .ok (.istore_n 1, 1) := by decide +kernel
theorem dX6_holdMarkets_2 : decode cX6_holdMarkets 2 = .ok (.iload_n 1, 1) := by decide +kernel
theorem dX6_holdMarkets_3 : decode cX6_holdMarkets 3 = .ok (.aload_n 0, 1) := by decide +kernel
theorem dX6_holdMarkets_4 : decode cX6_holdMarkets 4 = .ok (.getfield 50, 3) := by decide +kernel
theorem dX6_holdMarkets_7 : decode cX6_holdMarkets 7 = .ok (.if_icmp .ge 72, 3) := by decide +kernel
theorem dX6_holdMarkets_10 : decode cX6_holdMarkets 10 = .ok (.aload_n 0, 1) := by decide +kernel
theorem dX6_holdMarkets_11 : decode cX6_holdMarkets 11 = .ok (.getfield 53, 3) := by decide +kernel
theorem dX6_holdMarkets_14 : decode cX6_holdMarkets 14 = .ok (.aload_n 0, 1) := by decide +kernel
theorem dX6_holdMarkets_15 : decode cX6_holdMarkets 15 = .ok (.getfield 38, 3) := by decide +kernel
theorem dX6_holdMarkets_18 : decode cX6_holdMarkets 18 = .ok (.iload_n 1, 1) := by decide +kernel
theorem dX6_holdMarkets_19 : decode cX6_holdMarkets 19 = .ok (.aaload, 1) := by decide +kernel
theorem dX6_holdMarkets_20 : decode cX6_holdMarkets 20 = .ok (.getfield 163, 3) := by decide +kernel
theorem dX6_holdMarkets_23 : decode cX6_holdMarkets 23 = .ok (.imul, 1) := by decide +kernel
theorem dX6_holdMarkets_24 : decode cX6_holdMarkets 24 = .ok (.bipush 10, 2) := by decide +kernel
theorem dX6_holdMarkets_26 : decode cX6_holdMarkets 26 = .ok (.idiv, 1) := by decide +kernel
theorem dX6_holdMarkets_27 : decode cX6_holdMarkets 27 = .ok (.istore_n 2, 1) := by decide +kernel
theorem dX6_holdMarkets_28 : decode cX6_holdMarkets 28 = .ok (.iconst 0, 1) := by decide +kernel
theorem dX6_holdMarkets_29 : decode cX6_holdMarkets 29 = .ok (.istore_n 3, 1) := by decide +kernel
theorem dX6_holdMarkets_30 : decode cX6_holdMarkets 30 = .ok (.iload_n 3, 1) := by decide +kernel
theorem dX6_holdMarkets_31 : decode cX6_holdMarkets 31 = .ok (.bipush 6, 2) := by decide +kernel
theorem dX6_holdMarkets_33 : decode cX6_holdMarkets 33 = .ok (.if_icmp .ge 40, 3) := by decide +kernel
theorem dX6_holdMarkets_36 : decode cX6_holdMarkets 36 = .ok (.aload_n 0, 1) := by decide +kernel
theorem dX6_holdMarkets_37 : decode cX6_holdMarkets 37 = .ok (.iload_n 1, 1) := by decide +kernel
theorem dX6_holdMarkets_38 : decode cX6_holdMarkets 38 = .ok (.iload_n 3, 1) := by decide +kernel
theorem dX6_holdMarkets_39 : decode cX6_holdMarkets 39 = .ok (.invokevirtual 200, 3) := by decide +kernel
theorem dX6_holdMarkets_42 : decode cX6_holdMarkets 42 = .ok (.istore 4, 2) := by decide +kernel
theorem dX6_holdMarkets_44 : decode cX6_holdMarkets 44 = .ok (.aload_n 0, 1) := by decide +kernel
theorem dX6_holdMarkets_45 : decode cX6_holdMarkets 45 = .ok (.getfield 38, 3) := by decide +kernel
theorem dX6_holdMarkets_48 : decode cX6_holdMarkets 48 = .ok (.iload_n 1, 1) := by decide +kernel
theorem dX6_holdMarkets_49 : decode cX6_holdMarkets 49 = .ok (.aaload, 1) := by decide +kernel
theorem dX6_holdMarkets_50 : decode cX6_holdMarkets 50 = .ok (.getfield 166, 3) := by decide +kernel
theorem dX6_holdMarkets_53 : decode cX6_holdMarkets 53 = .ok (.iload_n 3, 1) := by decide +kernel
theorem dX6_holdMarkets_54 : decode cX6_holdMarkets 54 = .ok (.aaload, 1) := by decide +kernel
theorem dX6_holdMarkets_55 : decode cX6_holdMarkets 55 = .ok (.iload 4, 2) := by decide +kernel
theorem dX6_holdMarkets_57 : decode cX6_holdMarkets 57 = .ok (.iload_n 2, 1) := by decide +kernel
theorem dX6_holdMarkets_58 : decode cX6_holdMarkets 58 = .ok (.aload_n 0, 1) := by decide +kernel
theorem dX6_holdMarkets_59 : decode cX6_holdMarkets 59 = .ok (.getfield 42, 3) := by decide +kernel
theorem dX6_holdMarkets_62 : decode cX6_holdMarkets 62 = .ok (.iload_n 3, 1) := by decide +kernel
theorem dX6_holdMarkets_63 : decode cX6_holdMarkets 63 = .ok (.iaload, 1) := by decide +kernel
theorem dX6_holdMarkets_64 : decode cX6_holdMarkets 64 = .ok (.invokevirtual 261, 3) := by decide +kernel
theorem dX6_holdMarkets_67 : decode cX6_holdMarkets 67 = .ok (.iinc 3 1, 3) := by decide +kernel
theorem dX6_holdMarkets_70 : decode cX6_holdMarkets 70 = .ok (.goto (-40), 3) := by decide +kernel
theorem dX6_holdMarkets_73 : decode cX6_holdMarkets 73 = .ok (.iinc 1 1, 3) := by decide +kernel
theorem dX6_holdMarkets_76 : decode cX6_holdMarkets 76 = .ok (.goto (-74), 3) := by decide +kernel
theorem dX6_holdMarkets_79 : decode cX6_holdMarkets 79 = .ok (.return_, 1) := by decide +kernel
theorem dX6_stockOfAll_0 : decode cX6_stockOfAll 0 = .ok (.iconst 0, 1) := by decide +kernel
theorem dX6_stockOfAll_1 : decode cX6_stockOfAll 1 = .ok (.istore_n 1, 1) := by decide +kernel
theorem dX6_stockOfAll_2 : decode cX6_stockOfAll 2 = .ok (.iconst 0, 1) := by decide +kernel
theorem dX6_stockOfAll_3 : decode cX6_stockOfAll 3 = .ok (.istore_n 2, 1) := by decide +kernel
theorem dX6_stockOfAll_4 : decode cX6_stockOfAll 4 = .ok (.iload_n 2, 1) := by decide +kernel
theorem dX6_stockOfAll_5 : decode cX6_stockOfAll 5 = .ok (.aload_n 0, 1) := by decide +kernel
theorem dX6_stockOfAll_6 : decode cX6_stockOfAll 6 = .ok (.getfield 50, 3) := by decide +kernel
theorem dX6_stockOfAll_9 : decode cX6_stockOfAll 9 = .ok (.if_icmp .ge 40, 3) := by decide +kernel
theorem dX6_stockOfAll_12 : decode cX6_stockOfAll 12 = .ok (.iconst 0, 1) := by decide +kernel
theorem dX6_stockOfAll_13 : decode cX6_stockOfAll 13 = .ok (.istore_n 3, 1) := by decide +kernel
theorem dX6_stockOfAll_14 : decode cX6_stockOfAll 14 = .ok (.iload_n 3, 1) := by decide +kernel
theorem dX6_stockOfAll_15 : decode cX6_stockOfAll 15 = .ok (.bipush 6, 2) := by decide +kernel
theorem dX6_stockOfAll_17 : decode cX6_stockOfAll 17 = .ok (.if_icmp .ge 26, 3) := by decide +kernel
theorem dX6_stockOfAll_20 : decode cX6_stockOfAll 20 = .ok (.iload_n 1, 1) := by decide +kernel
theorem dX6_stockOfAll_21 : decode cX6_stockOfAll 21 = .ok (.aload_n 0, 1) := by decide +kernel
theorem dX6_stockOfAll_22 : decode cX6_stockOfAll 22 = .ok (.getfield 38, 3) := by decide +kernel
theorem dX6_stockOfAll_25 : decode cX6_stockOfAll 25 = .ok (.iload_n 2, 1) := by decide +kernel
theorem dX6_stockOfAll_26 : decode cX6_stockOfAll 26 = .ok (.aaload, 1) := by decide +kernel
theorem dX6_stockOfAll_27 : decode cX6_stockOfAll 27 = .ok (.getfield 166, 3) := by decide +kernel
theorem dX6_stockOfAll_30 : decode cX6_stockOfAll 30 = .ok (.iload_n 3, 1) := by decide +kernel
theorem dX6_stockOfAll_31 : decode cX6_stockOfAll 31 = .ok (.aaload, 1) := by decide +kernel
theorem dX6_stockOfAll_32 : decode cX6_stockOfAll 32 = .ok (.getfield 179, 3) := by decide +kernel
theorem dX6_stockOfAll_35 : decode cX6_stockOfAll 35 = .ok (.iadd, 1) := by decide +kernel
theorem dX6_stockOfAll_36 : decode cX6_stockOfAll 36 = .ok (.istore_n 1, 1) := by decide +kernel
theorem dX6_stockOfAll_37 : decode cX6_stockOfAll 37 = .ok (.iinc 3 1, 3) := by decide +kernel
theorem dX6_stockOfAll_40 : decode cX6_stockOfAll 40 = .ok (.goto (-26), 3) := by decide +kernel
theorem dX6_stockOfAll_43 : decode cX6_stockOfAll 43 = .ok (.iinc 2 1, 3) := by decide +kernel
theorem dX6_stockOfAll_46 : decode cX6_stockOfAll 46 = .ok (.goto (-42), 3) := by decide +kernel
theorem dX6_stockOfAll_49 : decode cX6_stockOfAll 49 = .ok (.iload_n 1, 1) := by decide +kernel
theorem dX6_stockOfAll_50 : decode cX6_stockOfAll 50 = .ok (.ireturn, 1) := by decide +kernel
theorem dX6_hiddenOfAll_0 : decode cX6_hiddenOfAll 0 = .ok (.iconst 0, 1) := by decide +kernel
theorem dX6_hiddenOfAll_1 : decode cX6_hiddenOfAll 1 = .ok (.istore_n 1, 1) := by decide +kernel
theorem dX6_hiddenOfAll_2 : decode cX6_hiddenOfAll 2 = .ok (.iconst 0, 1) := by decide +kernel
theorem dX6_hiddenOfAll_3 : decode cX6_hiddenOfAll 3 = .ok (.istore_n 2, 1) := by decide +kernel
theorem dX6_hiddenOfAll_4 : decode cX6_hiddenOfAll 4 = .ok (.iload_n 2, 1) := by decide +kernel
theorem dX6_hiddenOfAll_5 : decode cX6_hiddenOfAll 5 = .ok (.aload_n 0, 1) := by decide +kernel
theorem dX6_hiddenOfAll_6 : decode cX6_hiddenOfAll 6 = .ok (.getfield 50, 3) := by decide +kernel
theorem dX6_hiddenOfAll_9 : decode cX6_hiddenOfAll 9 = .ok (.if_icmp .ge 40, 3) := by decide +kernel
theorem dX6_hiddenOfAll_12 : decode cX6_hiddenOfAll 12 = .ok (.iconst 0, 1) := by decide +kernel
theorem dX6_hiddenOfAll_13 : decode cX6_hiddenOfAll 13 = .ok (.istore_n 3, 1) := by decide +kernel
theorem dX6_hiddenOfAll_14 : decode cX6_hiddenOfAll 14 = .ok (.iload_n 3, 1) := by decide +kernel
theorem dX6_hiddenOfAll_15 : decode cX6_hiddenOfAll 15 = .ok (.bipush 6, 2) := by decide +kernel
theorem dX6_hiddenOfAll_17 : decode cX6_hiddenOfAll 17 = .ok (.if_icmp .ge 26, 3) := by decide +kernel
theorem dX6_hiddenOfAll_20 : decode cX6_hiddenOfAll 20 = .ok (.iload_n 1, 1) := by decide +kernel
theorem dX6_hiddenOfAll_21 : decode cX6_hiddenOfAll 21 = .ok (.aload_n 0, 1) := by decide +kernel
theorem dX6_hiddenOfAll_22 : decode cX6_hiddenOfAll 22 = .ok (.getfield 38, 3) := by decide +kernel
theorem dX6_hiddenOfAll_25 : decode cX6_hiddenOfAll 25 = .ok (.iload_n 2, 1) := by decide +kernel
theorem dX6_hiddenOfAll_26 : decode cX6_hiddenOfAll 26 = .ok (.aaload, 1) := by decide +kernel
theorem dX6_hiddenOfAll_27 : decode cX6_hiddenOfAll 27 = .ok (.getfield 166, 3) := by decide +kernel
theorem dX6_hiddenOfAll_30 : decode cX6_hiddenOfAll 30 = .ok (.iload_n 3, 1) := by decide +kernel
theorem dX6_hiddenOfAll_31 : decode cX6_hiddenOfAll 31 = .ok (.aaload, 1) := by decide +kernel
theorem dX6_hiddenOfAll_32 : decode cX6_hiddenOfAll 32 = .ok (.getfield 182, 3) := by decide +kernel
theorem dX6_hiddenOfAll_35 : decode cX6_hiddenOfAll 35 = .ok (.iadd, 1) := by decide +kernel
theorem dX6_hiddenOfAll_36 : decode cX6_hiddenOfAll 36 = .ok (.istore_n 1, 1) := by decide +kernel
theorem dX6_hiddenOfAll_37 : decode cX6_hiddenOfAll 37 = .ok (.iinc 3 1, 3) := by decide +kernel
theorem dX6_hiddenOfAll_40 : decode cX6_hiddenOfAll 40 = .ok (.goto (-26), 3) := by decide +kernel
theorem dX6_hiddenOfAll_43 : decode cX6_hiddenOfAll 43 = .ok (.iinc 2 1, 3) := by decide +kernel
theorem dX6_hiddenOfAll_46 : decode cX6_hiddenOfAll 46 = .ok (.goto (-42), 3) := by decide +kernel
theorem dX6_hiddenOfAll_49 : decode cX6_hiddenOfAll 49 = .ok (.iload_n 1, 1) := by decide +kernel
theorem dX6_hiddenOfAll_50 : decode cX6_hiddenOfAll 50 = .ok (.ireturn, 1) := by decide +kernel
set_option maxRecDepth 20000 in
theorem ggX6_settledLines_X2_compare : GoodIn wsX6_settledLines wsX2_compare := goodIn_r _ [7, 8, 9, 10, 11, 12, 13, 6, 14, 15, 16, 17, 18, 19, 20, 21, 22, 45, 46, 47, 48, 49, 50, 51, 52, 53] (by decide +kernel) (by decide +kernel)
set_option maxRecDepth 20000 in
theorem gX6_settledLines_X2_compare : GoodIn wsX6_settledLines (wsV RX6 113 RX2 yX2_compare wsX2_compare) := goodIn_app (goodIn_of _ (by decide +kernel)) ggX6_settledLines_X2_compare
set_option maxRecDepth 20000 in
theorem ggX6_settledLines_X2_agreeing : GoodIn wsX6_settledLines wsX2_agreeing := goodIn_r _ [26, 8, 27, 28, 29, 30, 31, 32, 33, 45, 46, 47, 48, 49, 50, 51, 52, 53] (by decide +kernel) (by decide +kernel)
set_option maxRecDepth 20000 in
theorem gX6_settledLines_X2_agreeing : GoodIn wsX6_settledLines (wsV RX6 116 RX2 yX2_agreeing wsX2_agreeing) := goodIn_app (goodIn_of _ (by decide +kernel)) ggX6_settledLines_X2_agreeing
theorem dX6_settledLines_0 : decode cX6_settledLines 0 = .ok (.iconst 0, 1) := by decide +kernel
theorem dX6_settledLines_1 : decode cX6_settledLines 1 = .ok (.istore_n 1, 1) := by decide +kernel
theorem dX6_settledLines_2 : decode cX6_settledLines 2 = .ok (.iconst 0, 1) := by decide +kernel
theorem dX6_settledLines_3 : decode cX6_settledLines 3 = .ok (.istore_n 2, 1) := by decide +kernel
theorem dX6_settledLines_4 : decode cX6_settledLines 4 = .ok (.iload_n 2, 1) := by decide +kernel
theorem dX6_settledLines_5 : decode cX6_settledLines 5 = .ok (.bipush 30, 2) := by decide +kernel
theorem dX6_settledLines_7 : decode cX6_settledLines 7 = .ok (.if_icmp .ge 35, 3) := by decide +kernel
theorem dX6_settledLines_10 : decode cX6_settledLines 10 = .ok (.aload_n 0, 1) := by decide +kernel
theorem dX6_settledLines_11 : decode cX6_settledLines 11 = .ok (.getfield 19, 3) := by decide +kernel
theorem dX6_settledLines_14 : decode cX6_settledLines 14 = .ok (.iload_n 2, 1) := by decide +kernel
theorem dX6_settledLines_15 : decode cX6_settledLines 15 = .ok (.aload_n 0, 1) := by decide +kernel
theorem dX6_settledLines_16 : decode cX6_settledLines 16 = .ok (.getfield 56, 3) := by decide +kernel
theorem dX6_settledLines_19 : decode cX6_settledLines 19 = .ok (.invokevirtual 113, 3) := by decide +kernel
theorem dX6_settledLines_22 : decode cX6_settledLines 22 = .ok (.aload_n 0, 1) := by decide +kernel
theorem dX6_settledLines_23 : decode cX6_settledLines 23 = .ok (.getfield 19, 3) := by decide +kernel
theorem dX6_settledLines_26 : decode cX6_settledLines 26 = .ok (.invokevirtual 116, 3) := by decide +kernel
theorem dX6_settledLines_29 : decode cX6_settledLines 29 = .ok (.iconst 1, 1) := by decide +kernel
theorem dX6_settledLines_30 : decode cX6_settledLines 30 = .ok (.if_icmp .ne 6, 3) := by decide +kernel
theorem dX6_settledLines_33 : decode cX6_settledLines 33 = .ok (.iinc 1 1, 3) := by decide +kernel
theorem dX6_settledLines_36 : decode cX6_settledLines 36 = .ok (.iinc 2 1, 3) := by decide +kernel
theorem dX6_settledLines_39 : decode cX6_settledLines 39 = .ok (.goto (-35), 3) := by decide +kernel
theorem dX6_settledLines_42 : decode cX6_settledLines 42 = .ok (.iload_n 1, 1) := by decide +kernel
theorem dX6_settledLines_43 : decode cX6_settledLines 43 = .ok (.ireturn, 1) := by decide +kernel
theorem dX7_init_0 : decode cX7_init 0 = .ok (.aload_n 0, 1) := by decide +kernel
theorem dX7_init_1 : decode cX7_init 1 = .ok (.invokespecial 1, 3) := by decide +kernel
theorem dX7_init_4 : decode cX7_init 4 = .ok (.aload_n 0, 1) := by decide +kernel
theorem dX7_init_5 : decode cX7_init 5 = .ok (.bipush 60, 2) := by decide +kernel
theorem dX7_init_7 : decode cX7_init 7 = .ok (.newarray .int, 2) := by decide +kernel
theorem dX7_init_9 : decode cX7_init 9 = .ok (.putfield 9, 3) := by decide +kernel
theorem dX7_init_12 : decode cX7_init 12 = .ok (.aload_n 0, 1) := by decide +kernel
theorem dX7_init_13 : decode cX7_init 13 = .ok (.sipush 240, 3) := by decide +kernel
theorem dX7_init_16 : decode cX7_init 16 = .ok (.newarray .int, 2) := by decide +kernel
theorem dX7_init_18 : decode cX7_init 18 = .ok (.putfield 13, 3) := by decide +kernel
theorem dX7_init_21 : decode cX7_init 21 = .ok (.aload_n 0, 1) := by decide +kernel
theorem dX7_init_22 : decode cX7_init 22 = .ok (.bipush 60, 2) := by decide +kernel
theorem dX7_init_24 : decode cX7_init 24 = .ok (.newarray .int, 2) := by decide +kernel
theorem dX7_init_26 : decode cX7_init 26 = .ok (.putfield 16, 3) := by decide +kernel
theorem dX7_init_29 : decode cX7_init 29 = .ok (.aload_n 0, 1) := by decide +kernel
theorem dX7_init_30 : decode cX7_init 30 = .ok (.bipush 60, 2) := by decide +kernel
theorem dX7_init_32 : decode cX7_init 32 = .ok (.newarray .int, 2) := by decide +kernel
theorem dX7_init_34 : decode cX7_init 34 = .ok (.putfield 19, 3) := by decide +kernel
theorem dX7_init_37 : decode cX7_init 37 = .ok (.aload_n 0, 1) := by decide +kernel
theorem dX7_init_38 : decode cX7_init 38 = .ok (.bipush 10, 2) := by decide +kernel
theorem dX7_init_40 : decode cX7_init 40 = .ok (.newarray .int, 2) := by decide +kernel
theorem dX7_init_42 : decode cX7_init 42 = .ok (.dup, 1) := by decide +kernel
theorem dX7_init_43 : decode cX7_init 43 = .ok (.iconst 0, 1) := by decide +kernel
theorem dX7_init_44 : decode cX7_init 44 = .ok (.iconst 1, 1) := by decide +kernel
theorem dX7_init_45 : decode cX7_init 45 = .ok (.iastore, 1) := by decide +kernel
theorem dX7_init_46 : decode cX7_init 46 = .ok (.dup, 1) := by decide +kernel
theorem dX7_init_47 : decode cX7_init 47 = .ok (.iconst 1, 1) := by decide +kernel
theorem dX7_init_48 : decode cX7_init 48 = .ok (.iconst 2, 1) := by decide +kernel
theorem dX7_init_49 : decode cX7_init 49 = .ok (.iastore, 1) := by decide +kernel
theorem dX7_init_50 : decode cX7_init 50 = .ok (.dup, 1) := by decide +kernel
theorem dX7_init_51 : decode cX7_init 51 = .ok (.iconst 2, 1) := by decide +kernel
theorem dX7_init_52 : decode cX7_init 52 = .ok (.iconst 4, 1) := by decide +kernel
theorem dX7_init_53 : decode cX7_init 53 = .ok (.iastore, 1) := by decide +kernel
theorem dX7_init_54 : decode cX7_init 54 = .ok (.dup, 1) := by decide +kernel
theorem dX7_init_55 : decode cX7_init 55 = .ok (.iconst 3, 1) := by decide +kernel
theorem dX7_init_56 : decode cX7_init 56 = .ok (.bipush 8, 2) := by decide +kernel
theorem dX7_init_58 : decode cX7_init 58 = .ok (.iastore, 1) := by decide +kernel
theorem dX7_init_59 : decode cX7_init 59 = .ok (.dup, 1) := by decide +kernel
theorem dX7_init_60 : decode cX7_init 60 = .ok (.iconst 4, 1) := by decide +kernel
theorem dX7_init_61 : decode cX7_init 61 = .ok (.bipush 16, 2) := by decide +kernel
theorem dX7_init_63 : decode cX7_init 63 = .ok (.iastore, 1) := by decide +kernel
theorem dX7_init_64 : decode cX7_init 64 = .ok (.dup, 1) := by decide +kernel
theorem dX7_init_65 : decode cX7_init 65 = .ok (.iconst 5, 1) := by decide +kernel
theorem dX7_init_66 : decode cX7_init 66 = .ok (.bipush 32, 2) := by decide +kernel
theorem dX7_init_68 : decode cX7_init 68 = .ok (.iastore, 1) := by decide +kernel
theorem dX7_init_69 : decode cX7_init 69 = .ok (.dup, 1) := by decide +kernel
theorem dX7_init_70 : decode cX7_init 70 = .ok (.bipush 6, 2) := by decide +kernel
theorem dX7_init_72 : decode cX7_init 72 = .ok (.bipush 64, 2) := by decide +kernel
theorem dX7_init_74 : decode cX7_init 74 = .ok (.iastore, 1) := by decide +kernel
theorem dX7_init_75 : decode cX7_init 75 = .ok (.dup, 1) := by decide +kernel
theorem dX7_init_76 : decode cX7_init 76 = .ok (.bipush 7, 2) := by decide +kernel
theorem dX7_init_78 : decode cX7_init 78 = .ok (.sipush 128, 3) := by decide +kernel
theorem dX7_init_81 : decode cX7_init 81 = .ok (.iastore, 1) := by decide +kernel
theorem dX7_init_82 : decode cX7_init 82 = .ok (.dup, 1) := by decide +kernel
theorem dX7_init_83 : decode cX7_init 83 = .ok (.bipush 8, 2) := by decide +kernel
theorem dX7_init_85 : decode cX7_init 85 = .ok (.sipush 256, 3) := by decide +kernel
theorem dX7_init_88 : decode cX7_init 88 = .ok (.iastore, 1) := by decide +kernel
theorem dX7_init_89 : decode cX7_init 89 = .ok (.dup, 1) := by decide +kernel
theorem dX7_init_90 : decode cX7_init 90 = .ok (.bipush 9, 2) := by decide +kernel
theorem dX7_init_92 : decode cX7_init 92 = .ok (.sipush 512, 3) := by decide +kernel
theorem dX7_init_95 : decode cX7_init 95 = .ok (.iastore, 1) := by decide +kernel
theorem dX7_init_96 : decode cX7_init 96 = .ok (.putfield 22, 3) := by decide +kernel
theorem dX7_init_99 : decode cX7_init 99 = .ok (.aload_n 0, 1) := by decide +kernel
theorem dX7_init_100 : decode cX7_init 100 = .ok (.bipush 126, 2) := by decide +kernel
theorem dX7_init_102 : decode cX7_init 102 = .ok (.newarray .int, 2) := by decide +kernel
theorem dX7_init_104 : decode cX7_init 104 = .ok (.putfield 25, 3) := by decide +kernel
theorem dX7_init_107 : decode cX7_init 107 = .ok (.aload_n 0, 1) := by decide +kernel
theorem dX7_init_108 : decode cX7_init 108 = .ok (.bipush 126, 2) := by decide +kernel
theorem dX7_init_110 : decode cX7_init 110 = .ok (.newarray .int, 2) := by decide +kernel
theorem dX7_init_112 : decode cX7_init 112 = .ok (.putfield 28, 3) := by decide +kernel
theorem dX7_init_115 : decode cX7_init 115 = .ok (.aload_n 0, 1) := by decide +kernel
theorem dX7_init_116 : decode cX7_init 116 = .ok (.bipush 21, 2) := by decide +kernel
theorem dX7_init_118 : decode cX7_init 118 = .ok (.newarray .int, 2) := by decide +kernel
theorem dX7_init_120 : decode cX7_init 120 = .ok (.putfield 31, 3) := by decide +kernel
theorem dX7_init_123 : decode cX7_init 123 = .ok (.aload_n 0, 1) := by decide +kernel
theorem dX7_init_124 : decode cX7_init 124 = .ok (.bipush 21, 2) := by decide +kernel
theorem dX7_init_126 : decode cX7_init 126 = .ok (.newarray .int, 2) := by decide +kernel
theorem dX7_init_128 : decode cX7_init 128 = .ok (.putfield 34, 3) := by decide +kernel
theorem dX7_init_131 : decode cX7_init 131 = .ok (.aload_n 0, 1) := by decide +kernel
theorem dX7_init_132 : decode cX7_init 132 = .ok (.bipush 21, 2) := by decide +kernel
theorem dX7_init_134 : decode cX7_init 134 = .ok (.newarray .int, 2) := by decide +kernel
theorem dX7_init_136 : decode cX7_init 136 = .ok (.putfield 37, 3) := by decide +kernel
theorem dX7_init_139 : decode cX7_init 139 = .ok (.aload_n 0, 1) := by decide +kernel
theorem dX7_init_140 : decode cX7_init 140 = .ok (.bipush 40, 2) := by decide +kernel
theorem dX7_init_142 : decode cX7_init 142 = .ok (.newarray .int, 2) := by decide +kernel
theorem dX7_init_144 : decode cX7_init 144 = .ok (.putfield 40, 3) := by decide +kernel
theorem dX7_init_147 : decode cX7_init 147 = .ok (.aload_n 0, 1) := by decide +kernel
theorem dX7_init_148 : decode cX7_init 148 = .ok (.bipush 40, 2) := by decide +kernel
theorem dX7_init_150 : decode cX7_init 150 = .ok (.newarray .int, 2) := by decide +kernel
theorem dX7_init_152 : decode cX7_init 152 = .ok (.putfield 43, 3) := by decide +kernel
theorem dX7_init_155 : decode cX7_init 155 = .ok (.aload_n 0, 1) := by decide +kernel
theorem dX7_init_156 : decode cX7_init 156 = .ok (.sipush 400, 3) := by decide +kernel
theorem dX7_init_159 : decode cX7_init 159 = .ok (.newarray .byte, 2) := by decide +kernel
theorem dX7_init_161 : decode cX7_init 161 = .ok (.putfield 46, 3) := by decide +kernel
theorem dX7_init_164 : decode cX7_init 164 = .ok (.aload_n 0, 1) := by decide +kernel
theorem dX7_init_165 : decode cX7_init 165 = .ok (.iconst (-1), 1) := by decide +kernel
theorem dX7_init_166 : decode cX7_init 166 = .ok (.putfield 50, 3) := by decide +kernel
theorem dX7_init_169 : decode cX7_init 169 = .ok (.aload_n 0, 1) := by decide +kernel
theorem dX7_init_170 : decode cX7_init 170 = .ok (.iconst 5, 1) := by decide +kernel
theorem dX7_init_171 : decode cX7_init 171 = .ok (.newarray .int, 2) := by decide +kernel
theorem dX7_init_173 : decode cX7_init 173 = .ok (.putfield 54, 3) := by decide +kernel
theorem dX7_init_176 : decode cX7_init 176 = .ok (.aload_n 0, 1) := by decide +kernel
theorem dX7_init_177 : decode cX7_init 177 = .ok (.bipush 8, 2) := by decide +kernel
theorem dX7_init_179 : decode cX7_init 179 = .ok (.newarray .int, 2) := by decide +kernel
theorem dX7_init_181 : decode cX7_init 181 = .ok (.putfield 57, 3) := by decide +kernel
theorem dX7_init_184 : decode cX7_init 184 = .ok (.aload_n 0, 1) := by decide +kernel
theorem dX7_init_185 : decode cX7_init 185 = .ok (.bipush 48, 2) := by decide +kernel
theorem dX7_init_187 : decode cX7_init 187 = .ok (.newarray .int, 2) := by decide +kernel
theorem dX7_init_189 : decode cX7_init 189 = .ok (.putfield 60, 3) := by decide +kernel
theorem dX7_init_192 : decode cX7_init 192 = .ok (.aload_n 0, 1) := by decide +kernel
theorem dX7_init_193 : decode cX7_init 193 = .ok (.bipush 48, 2) := by decide +kernel
theorem dX7_init_195 : decode cX7_init 195 = .ok (.newarray .int, 2) := by decide +kernel
theorem dX7_init_197 : decode cX7_init 197 = .ok (.putfield 63, 3) := by decide +kernel
theorem dX7_init_200 : decode cX7_init 200 = .ok (.aload_n 0, 1) := by decide +kernel
theorem dX7_init_201 : decode cX7_init 201 = .ok (.bipush 48, 2) := by decide +kernel
theorem dX7_init_203 : decode cX7_init 203 = .ok (.newarray .int, 2) := by decide +kernel
theorem dX7_init_205 : decode cX7_init 205 = .ok (.putfield 66, 3) := by decide +kernel
theorem dX7_init_208 : decode cX7_init 208 = .ok (.aload_n 0, 1) := by decide +kernel
theorem dX7_init_209 : decode cX7_init 209 = .ok (.bipush 48, 2) := by decide +kernel
theorem dX7_init_211 : decode cX7_init 211 = .ok (.newarray .int, 2) := by decide +kernel
theorem dX7_init_213 : decode cX7_init 213 = .ok (.putfield 69, 3) := by decide +kernel
theorem dX7_init_216 : decode cX7_init 216 = .ok (.aload_n 0, 1) := by decide +kernel
theorem dX7_init_217 : decode cX7_init 217 = .ok (.bipush 48, 2) := by decide +kernel
theorem dX7_init_219 : decode cX7_init 219 = .ok (.newarray .int, 2) := by decide +kernel
theorem dX7_init_221 : decode cX7_init 221 = .ok (.putfield 72, 3) := by decide +kernel
theorem dX7_init_224 : decode cX7_init 224 = .ok (.aload_n 0, 1) := by decide +kernel
theorem dX7_init_225 : decode cX7_init 225 = .ok (.bipush 48, 2) := by decide +kernel
theorem dX7_init_227 : decode cX7_init 227 = .ok (.newarray .int, 2) := by decide +kernel
theorem dX7_init_229 : decode cX7_init 229 = .ok (.putfield 75, 3) := by decide +kernel
theorem dX7_init_232 : decode cX7_init 232 = .ok (.aload_n 0, 1) := by decide +kernel
theorem dX7_init_233 : decode cX7_init 233 = .ok (.bipush 48, 2) := by decide +kernel
theorem dX7_init_235 : decode cX7_init 235 = .ok (.newarray .int, 2) := by decide +kernel
theorem dX7_init_237 : decode cX7_init 237 = .ok (.putfield 78, 3) := by decide +kernel
theorem dX7_init_240 : decode cX7_init 240 = .ok (.aload_n 0, 1) := by decide +kernel
theorem dX7_init_241 : decode cX7_init 241 = .ok (.bipush 48, 2) := by decide +kernel
theorem dX7_init_243 : decode cX7_init 243 = .ok (.newarray .int, 2) := by decide +kernel
theorem dX7_init_245 : decode cX7_init 245 = .ok (.putfield 81, 3) := by decide +kernel
theorem dX7_init_248 : decode cX7_init 248 = .ok (.aload_n 0, 1) := by decide +kernel
theorem dX7_init_249 : decode cX7_init 249 = .ok (.bipush 48, 2) := by decide +kernel
theorem dX7_init_251 : decode cX7_init 251 = .ok (.newarray .int, 2) := by decide +kernel
theorem dX7_init_253 : decode cX7_init 253 = .ok (.putfield 84, 3) := by decide +kernel
theorem dX7_init_256 : decode cX7_init 256 = .ok (.aload_n 0, 1) := by decide +kernel
theorem dX7_init_257 : decode cX7_init 257 = .ok (.bipush 48, 2) := by decide +kernel
theorem dX7_init_259 : decode cX7_init 259 = .ok (.newarray .int, 2) := by decide +kernel
theorem dX7_init_261 : decode cX7_init 261 = .ok (.putfield 87, 3) := by decide +kernel
theorem dX7_init_264 : decode cX7_init 264 = .ok (.aload_n 0, 1) := by decide +kernel
theorem dX7_init_265 : decode cX7_init 265 = .ok (.bipush 48, 2) := by decide +kernel
theorem dX7_init_267 : decode cX7_init 267 = .ok (.newarray .int, 2) := by decide +kernel
theorem dX7_init_269 : decode cX7_init 269 = .ok (.putfield 90, 3) := by decide +kernel
theorem dX7_init_272 : decode cX7_init 272 = .ok (.aload_n 0, 1) := by decide +kernel
theorem dX7_init_273 : decode cX7_init 273 = .ok (.bipush 6, 2) := by decide +kernel
theorem dX7_init_275 : decode cX7_init 275 = .ok (.newarray .int, 2) := by decide +kernel
theorem dX7_init_277 : decode cX7_init 277 = .ok (.putfield 93, 3) := by decide +kernel
theorem dX7_init_280 : decode cX7_init 280 = .ok (.aload_n 0, 1) := by decide +kernel
theorem dX7_init_281 : decode cX7_init 281 = .ok (.iconst 1, 1) := by decide +kernel
theorem dX7_init_282 : decode cX7_init 282 = .ok (.putfield 96, 3) := by decide +kernel
theorem dX7_init_285 : decode cX7_init 285 = .ok (.return_, 1) := by decide +kernel
theorem dX7_thrown_0 : decode cX7_thrown 0 = .ok (.aload_n 0, 1) := by decide +kernel
theorem dX7_thrown_1 : decode cX7_thrown 1 = .ok (.getfield 99, 3) := by decide +kernel
theorem dX7_thrown_4 : decode cX7_thrown 4 = .ok (.ireturn, 1) := by decide +kernel
theorem dX7_throwsIf_0 : decode cX7_throwsIf 0 = .ok (.iload_n 1, 1) := by decide +kernel
theorem dX7_throwsIf_1 : decode cX7_throwsIf 1 = .ok (.ifCond .eq 8, 3) := by decide +kernel
theorem dX7_throwsIf_4 : decode cX7_throwsIf 4 = .ok (.aload_n 0, 1) := by decide +kernel
theorem dX7_throwsIf_5 : decode cX7_throwsIf 5 = .ok (.iload_n 2, 1) := by decide +kernel
theorem dX7_throwsIf_6 : decode cX7_throwsIf 6 = .ok (.putfield 99, 3) := by decide +kernel
theorem dX7_throwsIf_9 : decode cX7_throwsIf 9 = .ok (.iload_n 1, 1) := by decide +kernel
theorem dX7_throwsIf_10 : decode cX7_throwsIf 10 = .ok (.ireturn, 1) := by decide +kernel
theorem dX7_in_0 : decode cX7_in 0 = .ok (.iload_n 0, 1) := by decide +kernel
theorem dX7_in_1 : decode cX7_in 1 = .ok (.iload_n 1, 1) := by decide +kernel
theorem dX7_in_2 : decode cX7_in 2 = .ok (.if_icmp .lt 12, 3) := by decide +kernel
theorem dX7_in_5 : decode cX7_in 5 = .ok (.iload_n 0, 1) := by decide +kernel
theorem dX7_in_6 : decode cX7_in 6 = .ok (.iload_n 2, 1) := by decide +kernel
theorem dX7_in_7 : decode cX7_in 7 = .ok (.if_icmp .gt 7, 3) := by decide +kernel
theorem dX7_in_10 : decode cX7_in 10 = .ok (.iconst 1, 1) := by decide +kernel
theorem dX7_in_11 : decode cX7_in 11 = .ok (.goto 4, 3) := by decide +kernel
theorem dX7_in_14 : decode cX7_in 14 = .ok (.iconst 0, 1) := by decide +kernel
theorem dX7_in_15 : decode cX7_in 15 = .ok (.ireturn, 1) := by decide +kernel
set_option maxRecDepth 20000 in
theorem ggX7_noLine_X7_in : GoodIn wsX7_noLine wsX7_in := goodIn_r _ [4] (by decide +kernel) (by decide +kernel)
set_option maxRecDepth 20000 in
theorem gX7_noLine_X7_in : GoodIn wsX7_noLine (va_wsS RX7 102 yX7_in wsX7_in) := goodIn_app (goodIn_of _ (by decide +kernel)) ggX7_noLine_X7_in
theorem dX7_noLine_0 : decode cX7_noLine 0 = .ok (.iload_n 0, 1) := by decide +kernel
theorem dX7_noLine_1 : decode cX7_noLine 1 = .ok (.iconst 0, 1) := by decide +kernel
theorem dX7_noLine_2 : decode cX7_noLine 2 = .ok (.bipush 29, 2) := by decide +kernel
theorem dX7_noLine_4 : decode cX7_noLine 4 = .ok (.invokestatic 102, 3) := by decide +kernel
theorem dX7_noLine_7 : decode cX7_noLine 7 = .ok (.ifCond .ne 7, 3) := by decide +kernel
theorem dX7_noLine_10 : decode cX7_noLine 10 = .ok (.iconst 1, 1) := by decide +kernel
theorem dX7_noLine_11 : decode cX7_noLine 11 = .ok (.goto 4, 3) := by decide +kernel
theorem dX7_noLine_14 : decode cX7_noLine 14 = .ok (.iconst 0, 1) := by decide +kernel
theorem dX7_noLine_15 : decode cX7_noLine 15 = .ok (.ireturn, 1) := by decide +kernel
set_option maxRecDepth 20000 in
theorem ggX7_stone_X7_noLine : GoodIn wsX7_stone wsX7_noLine := goodIn_r _ [11, 12, 13, 10, 14] (by decide +kernel) (by decide +kernel)
set_option maxRecDepth 20000 in
theorem gX7_stone_X7_noLine : GoodIn wsX7_stone (va_wsS RX7 106 yX7_noLine wsX7_noLine) := goodIn_app (goodIn_of _ (by decide +kernel)) ggX7_stone_X7_noLine
set_option maxRecDepth 20000 in
theorem ggX7_stone_X7_throwsIf : GoodIn wsX7_stone wsX7_throwsIf := goodIn_r _ [18, 1, 19, 20, 21, 22, 23, 24, 25, 26, 27, 28, 29, 30, 31, 32, 33, 34, 35, 36, 37, 38, 39, 40, 41, 42, 43, 44, 45, 46, 47, 48, 49, 50, 51, 52, 53, 54, 55, 56, 57, 58] (by decide +kernel) (by decide +kernel)
set_option maxRecDepth 20000 in
theorem gX7_stone_X7_throwsIf : GoodIn wsX7_stone (wsV RX7 110 RX7 yX7_throwsIf wsX7_throwsIf) := goodIn_app (goodIn_of _ (by decide +kernel)) ggX7_stone_X7_throwsIf
set_option maxRecDepth 20000 in
theorem ggX7_stone_X7_in : GoodIn wsX7_stone wsX7_in := goodIn_r _ [14] (by decide +kernel) (by decide +kernel)
set_option maxRecDepth 20000 in
theorem gX7_stone_X7_in : GoodIn wsX7_stone (va_wsS RX7 102 yX7_in wsX7_in) := goodIn_app (goodIn_of _ (by decide +kernel)) ggX7_stone_X7_in
theorem dX7_stone_0 : decode cX7_stone 0 = .ok (.aload_n 0, 1) := by decide +kernel
theorem dX7_stone_1 : decode cX7_stone 1 = .ok (.iconst 0, 1) := by decide +kernel
theorem dX7_stone_2 : decode cX7_stone 2 = .ok (.putfield 99, 3) := by decide +kernel
theorem dX7_stone_5 : decode cX7_stone 5 = .ok (.aload_n 0, 1) := by decide +kernel
theorem dX7_stone_6 : decode cX7_stone 6 = .ok (.iload_n 1, 1) := by decide +kernel
theorem dX7_stone_7 : decode cX7_stone 7 = .ok (.invokestatic 106, 3) := by decide +kernel
theorem dX7_stone_10 : decode cX7_stone 10 = .ok (.iconst 1, 1) := by decide +kernel
theorem dX7_stone_11 : decode cX7_stone 11 = .ok (.invokevirtual 110, 3) := by decide +kernel
theorem dX7_stone_14 : decode cX7_stone 14 = .ok (.ifCond .ne 80, 3) := by decide +kernel
theorem dX7_stone_17 : decode cX7_stone 17 = .ok (.aload_n 0, 1) := by decide +kernel
theorem dX7_stone_18 : decode cX7_stone 18 = .ok (.iload_n 2, 1) := by decide +kernel
theorem dX7_stone_19 : decode cX7_stone 19 = .ok (.iconst (-1), 1) := by decide +kernel
theorem dX7_stone_20 : decode cX7_stone 20 = .ok (.bipush 9, 2) := by decide +kernel
theorem dX7_stone_22 : decode cX7_stone 22 = .ok (.invokestatic 102, 3) := by decide +kernel
theorem dX7_stone_25 : decode cX7_stone 25 = .ok (.ifCond .eq 35, 3) := by decide +kernel
theorem dX7_stone_28 : decode cX7_stone 28 = .ok (.iload_n 3, 1) := by decide +kernel
theorem dX7_stone_29 : decode cX7_stone 29 = .ok (.iconst (-1), 1) := by decide +kernel
theorem dX7_stone_30 : decode cX7_stone 30 = .ok (.bipush 9, 2) := by decide +kernel
theorem dX7_stone_32 : decode cX7_stone 32 = .ok (.invokestatic 102, 3) := by decide +kernel
theorem dX7_stone_35 : decode cX7_stone 35 = .ok (.ifCond .eq 25, 3) := by decide +kernel
theorem dX7_stone_38 : decode cX7_stone 38 = .ok (.iload 4, 2) := by decide +kernel
theorem dX7_stone_40 : decode cX7_stone 40 = .ok (.iconst (-1), 1) := by decide +kernel
theorem dX7_stone_41 : decode cX7_stone 41 = .ok (.bipush 9, 2) := by decide +kernel
theorem dX7_stone_43 : decode cX7_stone 43 = .ok (.invokestatic 102, 3) := by decide +kernel
theorem dX7_stone_46 : decode cX7_stone 46 = .ok (.ifCond .eq 14, 3) := by decide +kernel
theorem dX7_stone_49 : decode cX7_stone 49 = .ok (.iload 5, 2) := by decide +kernel
theorem dX7_stone_51 : decode cX7_stone 51 = .ok (.iconst (-1), 1) := by decide +kernel
theorem dX7_stone_52 : decode cX7_stone 52 = .ok (.bipush 9, 2) := by decide +kernel
theorem dX7_stone_54 : decode cX7_stone 54 = .ok (.invokestatic 102, 3) := by decide +kernel
theorem dX7_stone_57 : decode cX7_stone 57 = .ok (.ifCond .ne 7, 3) := by decide +kernel
theorem dX7_stone_60 : decode cX7_stone 60 = .ok (.iconst 1, 1) := by decide +kernel
theorem dX7_stone_61 : decode cX7_stone 61 = .ok (.goto 4, 3) := by decide +kernel
theorem dX7_stone_64 : decode cX7_stone 64 = .ok (.iconst 0, 1) := by decide +kernel
theorem dX7_stone_65 : decode cX7_stone 65 = .ok (.iconst 2, 1) := by decide +kernel
theorem dX7_stone_66 : decode cX7_stone 66 = .ok (.invokevirtual 110, 3) := by decide +kernel
theorem dX7_stone_69 : decode cX7_stone 69 = .ok (.ifCond .ne 25, 3) := by decide +kernel
theorem dX7_stone_72 : decode cX7_stone 72 = .ok (.aload_n 0, 1) := by decide +kernel
theorem dX7_stone_73 : decode cX7_stone 73 = .ok (.aload_n 0, 1) := by decide +kernel
theorem dX7_stone_74 : decode cX7_stone 74 = .ok (.getfield 114, 3) := by decide +kernel
theorem dX7_stone_77 : decode cX7_stone 77 = .ok (.bipush 60, 2) := by decide +kernel
theorem dX7_stone_79 : decode cX7_stone 79 = .ok (.if_icmp .ne 7, 3) := by decide +kernel
theorem dX7_stone_82 : decode cX7_stone 82 = .ok (.iconst 1, 1) := by decide +kernel
theorem dX7_stone_83 : decode cX7_stone 83 = .ok (.goto 4, 3) := by decide +kernel
theorem dX7_stone_86 : decode cX7_stone 86 = .ok (.iconst 0, 1) := by decide +kernel
theorem dX7_stone_87 : decode cX7_stone 87 = .ok (.iconst 3, 1) := by decide +kernel
theorem dX7_stone_88 : decode cX7_stone 88 = .ok (.invokevirtual 110, 3) := by decide +kernel
theorem dX7_stone_91 : decode cX7_stone 91 = .ok (.ifCond .eq 5, 3) := by decide +kernel
theorem dX7_stone_94 : decode cX7_stone 94 = .ok (.iconst 0, 1) := by decide +kernel
theorem dX7_stone_95 : decode cX7_stone 95 = .ok (.ireturn, 1) := by decide +kernel
theorem dX7_stone_96 : decode cX7_stone 96 = .ok (.aload_n 0, 1) := by decide +kernel
theorem dX7_stone_97 : decode cX7_stone 97 = .ok (.getfield 9, 3) := by decide +kernel
theorem dX7_stone_100 : decode cX7_stone 100 = .ok (.aload_n 0, 1) := by decide +kernel
theorem dX7_stone_101 : decode cX7_stone 101 = .ok (.getfield 114, 3) := by decide +kernel
theorem dX7_stone_104 : decode cX7_stone 104 = .ok (.iload_n 1, 1) := by decide +kernel
theorem dX7_stone_105 : decode cX7_stone 105 = .ok (.iastore, 1) := by decide +kernel
theorem dX7_stone_106 : decode cX7_stone 106 = .ok (.aload_n 0, 1) := by decide +kernel
theorem dX7_stone_107 : decode cX7_stone 107 = .ok (.getfield 13, 3) := by decide +kernel
theorem dX7_stone_110 : decode cX7_stone 110 = .ok (.iconst 4, 1) := by decide +kernel
theorem dX7_stone_111 : decode cX7_stone 111 = .ok (.aload_n 0, 1) := by decide +kernel
theorem dX7_stone_112 : decode cX7_stone 112 = .ok (.getfield 114, 3) := by decide +kernel
theorem dX7_stone_115 : decode cX7_stone 115 = .ok (.imul, 1) := by decide +kernel
theorem dX7_stone_116 : decode cX7_stone 116 = .ok (.iload_n 2, 1) := by decide +kernel
theorem dX7_stone_117 : decode cX7_stone 117 = .ok (.iastore, 1) := by decide +kernel
theorem dX7_stone_118 : decode cX7_stone 118 = .ok (.aload_n 0, 1) := by decide +kernel
theorem dX7_stone_119 : decode cX7_stone 119 = .ok (.getfield 13, 3) := by decide +kernel
theorem dX7_stone_122 : decode cX7_stone 122 = .ok (.iconst 4, 1) := by decide +kernel
theorem dX7_stone_123 : decode cX7_stone 123 = .ok (.aload_n 0, 1) := by decide +kernel
theorem dX7_stone_124 : decode cX7_stone 124 = .ok (.getfield 114, 3) := by decide +kernel
theorem dX7_stone_127 : decode cX7_stone 127 = .ok (.imul, 1) := by decide +kernel
theorem dX7_stone_128 : decode cX7_stone 128 = .ok (.iconst 1, 1) := by decide +kernel
theorem dX7_stone_129 : decode cX7_stone 129 = .ok (.iadd, 1) := by decide +kernel
theorem dX7_stone_130 : decode cX7_stone 130 = .ok (.iload_n 3, 1) := by decide +kernel
theorem dX7_stone_131 : decode cX7_stone 131 = .ok (.iastore, 1) := by decide +kernel
theorem dX7_stone_132 : decode cX7_stone 132 = .ok (.aload_n 0, 1) := by decide +kernel
theorem dX7_stone_133 : decode cX7_stone 133 = .ok (.getfield 13, 3) := by decide +kernel
theorem dX7_stone_136 : decode cX7_stone 136 = .ok (.iconst 4, 1) := by decide +kernel
theorem dX7_stone_137 : decode cX7_stone 137 = .ok (.aload_n 0, 1) := by decide +kernel
theorem dX7_stone_138 : decode cX7_stone 138 = .ok (.getfield 114, 3) := by decide +kernel
theorem dX7_stone_141 : decode cX7_stone 141 = .ok (.imul, 1) := by decide +kernel
theorem dX7_stone_142 : decode cX7_stone 142 = .ok (.iconst 2, 1) := by decide +kernel
theorem dX7_stone_143 : decode cX7_stone 143 = .ok (.iadd, 1) := by decide +kernel
theorem dX7_stone_144 : decode cX7_stone 144 = .ok (.iload 4, 2) := by decide +kernel
theorem dX7_stone_146 : decode cX7_stone 146 = .ok (.iastore, 1) := by decide +kernel
theorem dX7_stone_147 : decode cX7_stone 147 = .ok (.aload_n 0, 1) := by decide +kernel
theorem dX7_stone_148 : decode cX7_stone 148 = .ok (.getfield 13, 3) := by decide +kernel
theorem dX7_stone_151 : decode cX7_stone 151 = .ok (.iconst 4, 1) := by decide +kernel
theorem dX7_stone_152 : decode cX7_stone 152 = .ok (.aload_n 0, 1) := by decide +kernel
theorem dX7_stone_153 : decode cX7_stone 153 = .ok (.getfield 114, 3) := by decide +kernel
theorem dX7_stone_156 : decode cX7_stone 156 = .ok (.imul, 1) := by decide +kernel
theorem dX7_stone_157 : decode cX7_stone 157 = .ok (.iconst 3, 1) := by decide +kernel
theorem dX7_stone_158 : decode cX7_stone 158 = .ok (.iadd, 1) := by decide +kernel
theorem dX7_stone_159 : decode cX7_stone 159 = .ok (.iload 5, 2) := by decide +kernel
theorem dX7_stone_161 : decode cX7_stone 161 = .ok (.iastore, 1) := by decide +kernel
theorem dX7_stone_162 : decode cX7_stone 162 = .ok (.aload_n 0, 1) := by decide +kernel
theorem dX7_stone_163 : decode cX7_stone 163 = .ok (.getfield 16, 3) := by decide +kernel
theorem dX7_stone_166 : decode cX7_stone 166 = .ok (.aload_n 0, 1) := by decide +kernel
theorem dX7_stone_167 : decode cX7_stone 167 = .ok (.getfield 114, 3) := by decide +kernel
theorem dX7_stone_170 : decode cX7_stone 170 = .ok (.aload_n 0, 1) := by decide +kernel
theorem dX7_stone_171 : decode cX7_stone 171 = .ok (.getfield 117, 3) := by decide +kernel
theorem dX7_stone_174 : decode cX7_stone 174 = .ok (.iastore, 1) := by decide +kernel
theorem dX7_stone_175 : decode cX7_stone 175 = .ok (.aload_n 0, 1) := by decide +kernel
theorem dX7_stone_176 : decode cX7_stone 176 = .ok (.getfield 19, 3) := by decide +kernel
theorem dX7_stone_179 : decode cX7_stone 179 = .ok (.aload_n 0, 1) := by decide +kernel
theorem dX7_stone_180 : decode cX7_stone 180 = .ok (.getfield 114, 3) := by decide +kernel
theorem dX7_stone_183 : decode cX7_stone 183 = .ok (.iconst (-1), 1) := by decide +kernel
theorem dX7_stone_184 : decode cX7_stone 184 = .ok (.iastore, 1) := by decide +kernel
theorem dX7_stone_185 : decode cX7_stone 185 = .ok (.aload_n 0, 1) := by decide +kernel
theorem dX7_stone_186 : decode cX7_stone 186 = .ok (.dup, 1) := by decide +kernel
theorem dX7_stone_187 : decode cX7_stone 187 = .ok (.getfield 114, 3) := by decide +kernel
theorem dX7_stone_190 : decode cX7_stone 190 = .ok (.iconst 1, 1) := by decide +kernel
theorem dX7_stone_191 : decode cX7_stone 191 = .ok (.iadd, 1) := by decide +kernel
theorem dX7_stone_192 : decode cX7_stone 192 = .ok (.putfield 114, 3) := by decide +kernel
theorem dX7_stone_195 : decode cX7_stone 195 = .ok (.aload_n 0, 1) := by decide +kernel
theorem dX7_stone_196 : decode cX7_stone 196 = .ok (.getfield 114, 3) := by decide +kernel
theorem dX7_stone_199 : decode cX7_stone 199 = .ok (.iconst 1, 1) := by decide +kernel
theorem dX7_stone_200 : decode cX7_stone 200 = .ok (.isub, 1) := by decide +kernel
theorem dX7_stone_201 : decode cX7_stone 201 = .ok (.ireturn, 1) := by decide +kernel
set_option maxRecDepth 20000 in
theorem ggX7_strike_X7_in : GoodIn wsX7_strike wsX7_in := goodIn_r _ [8] (by decide +kernel) (by decide +kernel)
set_option maxRecDepth 20000 in
theorem gX7_strike_X7_in : GoodIn wsX7_strike (va_wsS RX7 102 yX7_in wsX7_in) := goodIn_app (goodIn_of _ (by decide +kernel)) ggX7_strike_X7_in
set_option maxRecDepth 20000 in
theorem ggX7_strike_X7_throwsIf : GoodIn wsX7_strike wsX7_throwsIf := goodIn_r _ [12, 1, 13, 14, 15, 16, 17, 18, 19, 20, 21, 22, 23, 24, 25, 26, 27, 28, 29, 30, 31, 32, 33, 34, 35, 36, 37, 38, 39, 40, 41, 42, 43, 44, 45, 46, 47, 48, 49, 50, 51, 52] (by decide +kernel) (by decide +kernel)
set_option maxRecDepth 20000 in
theorem gX7_strike_X7_throwsIf : GoodIn wsX7_strike (wsV RX7 110 RX7 yX7_throwsIf wsX7_throwsIf) := goodIn_app (goodIn_of _ (by decide +kernel)) ggX7_strike_X7_throwsIf
theorem dX7_strike_0 : decode cX7_strike 0 = .ok (.aload_n 0, 1) := by decide +kernel
theorem dX7_strike_1 : decode cX7_strike 1 = .ok (.iconst 0, 1) := by decide +kernel
theorem dX7_strike_2 : decode cX7_strike 2 = .ok (.putfield 99, 3) := by decide +kernel
theorem dX7_strike_5 : decode cX7_strike 5 = .ok (.aload_n 0, 1) := by decide +kernel
theorem dX7_strike_6 : decode cX7_strike 6 = .ok (.iload_n 1, 1) := by decide +kernel
theorem dX7_strike_7 : decode cX7_strike 7 = .ok (.iconst 0, 1) := by decide +kernel
theorem dX7_strike_8 : decode cX7_strike 8 = .ok (.aload_n 0, 1) := by decide +kernel
theorem dX7_strike_9 : decode cX7_strike 9 = .ok (.getfield 114, 3) := by decide +kernel
theorem dX7_strike_12 : decode cX7_strike 12 = .ok (.iconst 1, 1) := by decide +kernel
theorem dX7_strike_13 : decode cX7_strike 13 = .ok (.isub, 1) := by decide +kernel
theorem dX7_strike_14 : decode cX7_strike 14 = .ok (.invokestatic 102, 3) := by decide +kernel
theorem dX7_strike_17 : decode cX7_strike 17 = .ok (.ifCond .ne 7, 3) := by decide +kernel
theorem dX7_strike_20 : decode cX7_strike 20 = .ok (.iconst 1, 1) := by decide +kernel
theorem dX7_strike_21 : decode cX7_strike 21 = .ok (.goto 4, 3) := by decide +kernel
theorem dX7_strike_24 : decode cX7_strike 24 = .ok (.iconst 0, 1) := by decide +kernel
theorem dX7_strike_25 : decode cX7_strike 25 = .ok (.iconst 1, 1) := by decide +kernel
theorem dX7_strike_26 : decode cX7_strike 26 = .ok (.invokevirtual 110, 3) := by decide +kernel
theorem dX7_strike_29 : decode cX7_strike 29 = .ok (.ifCond .ne 12, 3) := by decide +kernel
theorem dX7_strike_32 : decode cX7_strike 32 = .ok (.aload_n 0, 1) := by decide +kernel
theorem dX7_strike_33 : decode cX7_strike 33 = .ok (.getfield 19, 3) := by decide +kernel
theorem dX7_strike_36 : decode cX7_strike 36 = .ok (.iload_n 1, 1) := by decide +kernel
theorem dX7_strike_37 : decode cX7_strike 37 = .ok (.iaload, 1) := by decide +kernel
theorem dX7_strike_38 : decode cX7_strike 38 = .ok (.ifCond .lt 5, 3) := by decide +kernel
theorem dX7_strike_41 : decode cX7_strike 41 = .ok (.iconst 0, 1) := by decide +kernel
theorem dX7_strike_42 : decode cX7_strike 42 = .ok (.ireturn, 1) := by decide +kernel
theorem dX7_strike_43 : decode cX7_strike 43 = .ok (.aload_n 0, 1) := by decide +kernel
theorem dX7_strike_44 : decode cX7_strike 44 = .ok (.getfield 19, 3) := by decide +kernel
theorem dX7_strike_47 : decode cX7_strike 47 = .ok (.iload_n 1, 1) := by decide +kernel
theorem dX7_strike_48 : decode cX7_strike 48 = .ok (.aload_n 0, 1) := by decide +kernel
theorem dX7_strike_49 : decode cX7_strike 49 = .ok (.getfield 117, 3) := by decide +kernel
theorem dX7_strike_52 : decode cX7_strike 52 = .ok (.iastore, 1) := by decide +kernel
theorem dX7_strike_53 : decode cX7_strike 53 = .ok (.iconst 1, 1) := by decide +kernel
theorem dX7_strike_54 : decode cX7_strike 54 = .ok (.ireturn, 1) := by decide +kernel
set_option maxRecDepth 20000 in
theorem ggX7_habit_X7_in : GoodIn wsX7_habit wsX7_in := goodIn_r _ [7] (by decide +kernel) (by decide +kernel)
set_option maxRecDepth 20000 in
theorem gX7_habit_X7_in : GoodIn wsX7_habit (va_wsS RX7 102 yX7_in wsX7_in) := goodIn_app (goodIn_of _ (by decide +kernel)) ggX7_habit_X7_in
set_option maxRecDepth 20000 in
theorem ggX7_habit_X7_throwsIf : GoodIn wsX7_habit wsX7_throwsIf := goodIn_r _ [11, 1, 12, 13, 14, 15, 16, 17, 18, 19, 20, 21, 22, 23, 24, 25, 26, 27, 28, 29, 30, 31, 32, 33, 34, 35, 36, 37, 38, 39, 40, 41, 42, 43, 44, 45, 46, 47, 48, 49, 50, 51] (by decide +kernel) (by decide +kernel)
set_option maxRecDepth 20000 in
theorem gX7_habit_X7_throwsIf : GoodIn wsX7_habit (wsV RX7 110 RX7 yX7_throwsIf wsX7_throwsIf) := goodIn_app (goodIn_of _ (by decide +kernel)) ggX7_habit_X7_throwsIf
theorem dX7_habit_0 : decode cX7_habit 0 = .ok (.aload_n 0, 1) := by decide +kernel
theorem dX7_habit_1 : decode cX7_habit 1 = .ok (.iconst 0, 1) := by decide +kernel
theorem dX7_habit_2 : decode cX7_habit 2 = .ok (.putfield 99, 3) := by decide +kernel
theorem dX7_habit_5 : decode cX7_habit 5 = .ok (.aload_n 0, 1) := by decide +kernel
theorem dX7_habit_6 : decode cX7_habit 6 = .ok (.iload_n 1, 1) := by decide +kernel
theorem dX7_habit_7 : decode cX7_habit 7 = .ok (.iconst 0, 1) := by decide +kernel
theorem dX7_habit_8 : decode cX7_habit 8 = .ok (.bipush 9, 2) := by decide +kernel
theorem dX7_habit_10 : decode cX7_habit 10 = .ok (.invokestatic 102, 3) := by decide +kernel
theorem dX7_habit_13 : decode cX7_habit 13 = .ok (.ifCond .eq 18, 3) := by decide +kernel
theorem dX7_habit_16 : decode cX7_habit 16 = .ok (.iload_n 2, 1) := by decide +kernel
theorem dX7_habit_17 : decode cX7_habit 17 = .ok (.iconst 0, 1) := by decide +kernel
theorem dX7_habit_18 : decode cX7_habit 18 = .ok (.bipush 9, 2) := by decide +kernel
theorem dX7_habit_20 : decode cX7_habit 20 = .ok (.invokestatic 102, 3) := by decide +kernel
theorem dX7_habit_23 : decode cX7_habit 23 = .ok (.ifCond .eq 8, 3) := by decide +kernel
theorem dX7_habit_26 : decode cX7_habit 26 = .ok (.iload_n 1, 1) := by decide +kernel
theorem dX7_habit_27 : decode cX7_habit 27 = .ok (.iload_n 2, 1) := by decide +kernel
theorem dX7_habit_28 : decode cX7_habit 28 = .ok (.if_icmp .ne 7, 3) := by decide +kernel
theorem dX7_habit_31 : decode cX7_habit 31 = .ok (.iconst 1, 1) := by decide +kernel
theorem dX7_habit_32 : decode cX7_habit 32 = .ok (.goto 4, 3) := by decide +kernel
theorem dX7_habit_35 : decode cX7_habit 35 = .ok (.iconst 0, 1) := by decide +kernel
theorem dX7_habit_36 : decode cX7_habit 36 = .ok (.iconst 1, 1) := by decide +kernel
theorem dX7_habit_37 : decode cX7_habit 37 = .ok (.invokevirtual 110, 3) := by decide +kernel
theorem dX7_habit_40 : decode cX7_habit 40 = .ok (.ifCond .ne 17, 3) := by decide +kernel
theorem dX7_habit_43 : decode cX7_habit 43 = .ok (.aload_n 0, 1) := by decide +kernel
theorem dX7_habit_44 : decode cX7_habit 44 = .ok (.getfield 22, 3) := by decide +kernel
theorem dX7_habit_47 : decode cX7_habit 47 = .ok (.iload_n 1, 1) := by decide +kernel
theorem dX7_habit_48 : decode cX7_habit 48 = .ok (.iaload, 1) := by decide +kernel
theorem dX7_habit_49 : decode cX7_habit 49 = .ok (.iload_n 2, 1) := by decide +kernel
theorem dX7_habit_50 : decode cX7_habit 50 = .ok (.ishr, 1) := by decide +kernel
theorem dX7_habit_51 : decode cX7_habit 51 = .ok (.iconst 1, 1) := by decide +kernel
theorem dX7_habit_52 : decode cX7_habit 52 = .ok (.iand, 1) := by decide +kernel
theorem dX7_habit_53 : decode cX7_habit 53 = .ok (.iconst 1, 1) := by decide +kernel
theorem dX7_habit_54 : decode cX7_habit 54 = .ok (.if_icmp .ne 5, 3) := by decide +kernel
theorem dX7_habit_57 : decode cX7_habit 57 = .ok (.iconst 0, 1) := by decide +kernel
theorem dX7_habit_58 : decode cX7_habit 58 = .ok (.ireturn, 1) := by decide +kernel
theorem dX7_habit_59 : decode cX7_habit 59 = .ok (.aload_n 0, 1) := by decide +kernel
theorem dX7_habit_60 : decode cX7_habit 60 = .ok (.getfield 22, 3) := by decide +kernel
theorem dX7_habit_63 : decode cX7_habit 63 = .ok (.iload_n 1, 1) := by decide +kernel
theorem dX7_habit_64 : decode cX7_habit 64 = .ok (.dup2, 1) := by decide +kernel
theorem dX7_habit_65 : decode cX7_habit 65 = .ok (.iaload, 1) := by decide +kernel
theorem dX7_habit_66 : decode cX7_habit 66 = .ok (.iconst 1, 1) := by decide +kernel
theorem dX7_habit_67 : decode cX7_habit 67 = .ok (.iload_n 2, 1) := by decide +kernel
theorem dX7_habit_68 : decode cX7_habit 68 = .ok (.ishl, 1) := by decide +kernel
theorem dX7_habit_69 : decode cX7_habit 69 = .ok (.ior, 1) := by decide +kernel
theorem dX7_habit_70 : decode cX7_habit 70 = .ok (.iastore, 1) := by decide +kernel
theorem dX7_habit_71 : decode cX7_habit 71 = .ok (.aload_n 0, 1) := by decide +kernel
theorem dX7_habit_72 : decode cX7_habit 72 = .ok (.getfield 22, 3) := by decide +kernel
theorem dX7_habit_75 : decode cX7_habit 75 = .ok (.iload_n 2, 1) := by decide +kernel
theorem dX7_habit_76 : decode cX7_habit 76 = .ok (.dup2, 1) := by decide +kernel
theorem dX7_habit_77 : decode cX7_habit 77 = .ok (.iaload, 1) := by decide +kernel
theorem dX7_habit_78 : decode cX7_habit 78 = .ok (.iconst 1, 1) := by decide +kernel
theorem dX7_habit_79 : decode cX7_habit 79 = .ok (.iload_n 1, 1) := by decide +kernel
theorem dX7_habit_80 : decode cX7_habit 80 = .ok (.ishl, 1) := by decide +kernel
theorem dX7_habit_81 : decode cX7_habit 81 = .ok (.ior, 1) := by decide +kernel
theorem dX7_habit_82 : decode cX7_habit 82 = .ok (.iastore, 1) := by decide +kernel
theorem dX7_habit_83 : decode cX7_habit 83 = .ok (.aload_n 0, 1) := by decide +kernel
theorem dX7_habit_84 : decode cX7_habit 84 = .ok (.dup, 1) := by decide +kernel
theorem dX7_habit_85 : decode cX7_habit 85 = .ok (.getfield 120, 3) := by decide +kernel
theorem dX7_habit_88 : decode cX7_habit 88 = .ok (.iconst 1, 1) := by decide +kernel
theorem dX7_habit_89 : decode cX7_habit 89 = .ok (.iadd, 1) := by decide +kernel
theorem dX7_habit_90 : decode cX7_habit 90 = .ok (.putfield 120, 3) := by decide +kernel
theorem dX7_habit_93 : decode cX7_habit 93 = .ok (.iconst 1, 1) := by decide +kernel
theorem dX7_habit_94 : decode cX7_habit 94 = .ok (.ireturn, 1) := by decide +kernel
theorem dX7_agreeing_0 : decode cX7_agreeing 0 = .ok (.sipush 1023, 3) := by decide +kernel
theorem dX7_agreeing_3 : decode cX7_agreeing 3 = .ok (.istore 4, 2) := by decide +kernel
theorem dX7_agreeing_5 : decode cX7_agreeing 5 = .ok (.iconst 0, 1) := by decide +kernel
theorem dX7_agreeing_6 : decode cX7_agreeing 6 = .ok (.istore 5, 2) := by decide +kernel
theorem dX7_agreeing_8 : decode cX7_agreeing 8 = .ok (.iload 5, 2) := by decide +kernel
theorem dX7_agreeing_10 : decode cX7_agreeing 10 = .ok (.aload_n 0, 1) := by decide +kernel
theorem dX7_agreeing_11 : decode cX7_agreeing 11 = .ok (.getfield 114, 3) := by decide +kernel
theorem dX7_agreeing_14 : decode cX7_agreeing 14 = .ok (.if_icmp .ge 99, 3) := by decide +kernel
theorem dX7_agreeing_17 : decode cX7_agreeing 17 = .ok (.aload_n 0, 1) := by decide +kernel
theorem dX7_agreeing_18 : decode cX7_agreeing 18 = .ok (.getfield 16, 3) := by decide +kernel
theorem dX7_agreeing_21 : decode cX7_agreeing 21 = .ok (.iload 5, 2) := by decide +kernel
theorem dX7_agreeing_23 : decode cX7_agreeing 23 = .ok (.iaload, 1) := by decide +kernel
theorem dX7_agreeing_24 : decode cX7_agreeing 24 = .ok (.iload_n 3, 1) := by decide +kernel
theorem dX7_agreeing_25 : decode cX7_agreeing 25 = .ok (.if_icmp .gt 28, 3) := by decide +kernel
theorem dX7_agreeing_28 : decode cX7_agreeing 28 = .ok (.aload_n 0, 1) := by decide +kernel
theorem dX7_agreeing_29 : decode cX7_agreeing 29 = .ok (.getfield 19, 3) := by decide +kernel
theorem dX7_agreeing_32 : decode cX7_agreeing 32 = .ok (.iload 5, 2) := by decide +kernel
theorem dX7_agreeing_34 : decode cX7_agreeing 34 = .ok (.iaload, 1) := by decide +kernel
theorem dX7_agreeing_35 : decode cX7_agreeing 35 = .ok (.ifCond .lt 14, 3) := by decide +kernel
theorem dX7_agreeing_38 : decode cX7_agreeing 38 = .ok (.iload_n 3, 1) := by decide +kernel
theorem dX7_agreeing_39 : decode cX7_agreeing 39 = .ok (.aload_n 0, 1) := by decide +kernel
theorem dX7_agreeing_40 : decode cX7_agreeing 40 = .ok (.getfield 19, 3) := by decide +kernel
theorem dX7_agreeing_43 : decode cX7_agreeing 43 = .ok (.iload 5, 2) := by decide +kernel
theorem dX7_agreeing_45 : decode cX7_agreeing 45 = .ok (.iaload, 1) := by decide +kernel
theorem dX7_agreeing_46 : decode cX7_agreeing 46 = .ok (.if_icmp .ge 7, 3) := by decide +kernel
theorem dX7_agreeing_49 : decode cX7_agreeing 49 = .ok (.iconst 1, 1) := by decide +kernel
theorem dX7_agreeing_50 : decode cX7_agreeing 50 = .ok (.goto 4, 3) := by decide +kernel
theorem dX7_agreeing_53 : decode cX7_agreeing 53 = .ok (.iconst 0, 1) := by decide +kernel
theorem dX7_agreeing_54 : decode cX7_agreeing 54 = .ok (.istore 6, 2) := by decide +kernel
theorem dX7_agreeing_56 : decode cX7_agreeing 56 = .ok (.iload 6, 2) := by decide +kernel
theorem dX7_agreeing_58 : decode cX7_agreeing 58 = .ok (.ifCond .eq 49, 3) := by decide +kernel
theorem dX7_agreeing_61 : decode cX7_agreeing 61 = .ok (.aload_n 0, 1) := by decide +kernel
theorem dX7_agreeing_62 : decode cX7_agreeing 62 = .ok (.getfield 9, 3) := by decide +kernel
theorem dX7_agreeing_65 : decode cX7_agreeing 65 = .ok (.iload 5, 2) := by decide +kernel
theorem dX7_agreeing_67 : decode cX7_agreeing 67 = .ok (.iaload, 1) := by decide +kernel
theorem dX7_agreeing_68 : decode cX7_agreeing 68 = .ok (.iload_n 1, 1) := by decide +kernel
theorem dX7_agreeing_69 : decode cX7_agreeing 69 = .ok (.if_icmp .ne 38, 3) := by decide +kernel
theorem dX7_agreeing_72 : decode cX7_agreeing 72 = .ok (.aload_n 0, 1) := by decide +kernel
theorem dX7_agreeing_73 : decode cX7_agreeing 73 = .ok (.getfield 13, 3) := by decide +kernel
theorem dX7_agreeing_76 : decode cX7_agreeing 76 = .ok (.iconst 4, 1) := by decide +kernel
theorem dX7_agreeing_77 : decode cX7_agreeing 77 = .ok (.iload 5, 2) := by decide +kernel
theorem dX7_agreeing_79 : decode cX7_agreeing 79 = .ok (.imul, 1) := by decide +kernel
theorem dX7_agreeing_80 : decode cX7_agreeing 80 = .ok (.iload_n 2, 1) := by decide +kernel
theorem dX7_agreeing_81 : decode cX7_agreeing 81 = .ok (.iadd, 1) := by decide +kernel
theorem dX7_agreeing_82 : decode cX7_agreeing 82 = .ok (.iaload, 1) := by decide +kernel
theorem dX7_agreeing_83 : decode cX7_agreeing 83 = .ok (.ifCond .lt 24, 3) := by decide +kernel
theorem dX7_agreeing_86 : decode cX7_agreeing 86 = .ok (.iload 4, 2) := by decide +kernel
theorem dX7_agreeing_88 : decode cX7_agreeing 88 = .ok (.aload_n 0, 1) := by decide +kernel
theorem dX7_agreeing_89 : decode cX7_agreeing 89 = .ok (.getfield 22, 3) := by decide +kernel
theorem dX7_agreeing_92 : decode cX7_agreeing 92 = .ok (.aload_n 0, 1) := by decide +kernel
theorem dX7_agreeing_93 : decode cX7_agreeing 93 = .ok (.getfield 13, 3) := by decide +kernel
theorem dX7_agreeing_96 : decode cX7_agreeing 96 = .ok (.iconst 4, 1) := by decide +kernel
theorem dX7_agreeing_97 : decode cX7_agreeing 97 = .ok (.iload 5, 2) := by decide +kernel
theorem dX7_agreeing_99 : decode cX7_agreeing 99 = .ok (.imul, 1) := by decide +kernel
theorem dX7_agreeing_100 : decode cX7_agreeing 100 = .ok (.iload_n 2, 1) := by decide +kernel
theorem dX7_agreeing_101 : decode cX7_agreeing 101 = .ok (.iadd, 1) := by decide +kernel
theorem dX7_agreeing_102 : decode cX7_agreeing 102 = .ok (.iaload, 1) := by decide +kernel
theorem dX7_agreeing_103 : decode cX7_agreeing 103 = .ok (.iaload, 1) := by decide +kernel
theorem dX7_agreeing_104 : decode cX7_agreeing 104 = .ok (.iand, 1) := by decide +kernel
theorem dX7_agreeing_105 : decode cX7_agreeing 105 = .ok (.istore 4, 2) := by decide +kernel
theorem dX7_agreeing_107 : decode cX7_agreeing 107 = .ok (.iinc 5 1, 3) := by decide +kernel
theorem dX7_agreeing_110 : decode cX7_agreeing 110 = .ok (.goto (-102), 3) := by decide +kernel
theorem dX7_agreeing_113 : decode cX7_agreeing 113 = .ok (.iload 4, 2) := by decide +kernel
theorem dX7_agreeing_115 : decode cX7_agreeing 115 = .ok (.ireturn, 1) := by decide +kernel
set_option maxRecDepth 20000 in
theorem ggX7_many_X7_agreeing : GoodIn wsX7_many wsX7_agreeing := goodIn_r _ [5, 6, 7, 8, 9, 10, 11, 19, 20, 21, 22, 23, 24, 25, 26, 27, 28, 29, 30, 31, 32, 33, 34, 35, 36, 37, 38, 39, 40, 41, 42, 43, 44, 45, 46, 47, 48, 49, 50, 51, 52, 53, 54, 55, 56, 57, 58] (by decide +kernel) (by decide +kernel)
set_option maxRecDepth 20000 in
theorem gX7_many_X7_agreeing : GoodIn wsX7_many (wsV RX7 123 RX7 yX7_agreeing wsX7_agreeing) := goodIn_app (goodIn_of _ (by decide +kernel)) ggX7_many_X7_agreeing
set_option maxRecDepth 20000 in
theorem ggX7_many_J6_bitCount_0f7a4 : GoodIn wsX7_many wsJ6_bitCount_0f7a4 := goodIn_r _ [15, 16, 17, 18] (by decide +kernel) (by decide +kernel)
set_option maxRecDepth 20000 in
theorem gX7_many_J6_bitCount_0f7a4 : GoodIn wsX7_many (va_wsS RX7 127 yJ6_bitCount_0f7a4 wsJ6_bitCount_0f7a4) := goodIn_app (goodIn_of _ (by decide +kernel)) ggX7_many_J6_bitCount_0f7a4
theorem dX7_many_0 : decode cX7_many 0 = .ok (.iconst 1, 1) := by decide +kernel
theorem dX7_many_1 : decode cX7_many 1 = .ok (.istore_n 3, 1) := by decide +kernel
theorem dX7_many_2 : decode cX7_many 2 = .ok (.iconst 0, 1) := by decide +kernel
theorem dX7_many_3 : decode cX7_many 3 = .ok (.istore 4, 2) := by decide +kernel
theorem dX7_many_5 : decode cX7_many 5 = .ok (.iload 4, 2) := by decide +kernel
theorem dX7_many_7 : decode cX7_many 7 = .ok (.iconst 4, 1) := by decide +kernel
theorem dX7_many_8 : decode cX7_many 8 = .ok (.if_icmp .ge 23, 3) := by decide +kernel
theorem dX7_many_11 : decode cX7_many 11 = .ok (.iload_n 3, 1) := by decide +kernel
theorem dX7_many_12 : decode cX7_many 12 = .ok (.aload_n 0, 1) := by decide +kernel
theorem dX7_many_13 : decode cX7_many 13 = .ok (.iload_n 1, 1) := by decide +kernel
theorem dX7_many_14 : decode cX7_many 14 = .ok (.iload 4, 2) := by decide +kernel
theorem dX7_many_16 : decode cX7_many 16 = .ok (.iload_n 2, 1) := by decide +kernel
theorem dX7_many_17 : decode cX7_many 17 = .ok (.invokevirtual 123, 3) := by decide +kernel
theorem dX7_many_20 : decode cX7_many 20 = .ok (.invokestatic 127, 3) := by decide +kernel
theorem dX7_many_23 : decode cX7_many 23 = .ok (.imul, 1) := by decide +kernel
theorem dX7_many_24 : decode cX7_many 24 = .ok (.istore_n 3, 1) := by decide +kernel
theorem dX7_many_25 : decode cX7_many 25 = .ok (.iinc 4 1, 3) := by decide +kernel
theorem dX7_many_28 : decode cX7_many 28 = .ok (.goto (-23), 3) := by decide +kernel
theorem dX7_many_31 : decode cX7_many 31 = .ok (.iload_n 3, 1) := by decide +kernel
theorem dX7_many_32 : decode cX7_many 32 = .ok (.ireturn, 1) := by decide +kernel
set_option maxRecDepth 20000 in
theorem ggX7_extreme_X7_agreeing : GoodIn wsX7_extreme wsX7_agreeing := goodIn_r _ [5, 6, 7, 8, 9, 10, 11, 15, 16, 17, 18, 19, 20, 21, 22, 23, 24, 25, 26, 27, 28, 29, 30, 31, 32, 33, 34, 35, 36, 37, 38, 39, 40, 41, 42, 43, 44, 45, 46, 47, 48, 49, 50, 51, 52, 53, 54] (by decide +kernel) (by decide +kernel)
set_option maxRecDepth 20000 in
theorem gX7_extreme_X7_agreeing : GoodIn wsX7_extreme (wsV RX7 123 RX7 yX7_agreeing wsX7_agreeing) := goodIn_app (goodIn_of _ (by decide +kernel)) ggX7_extreme_X7_agreeing
set_option maxRecDepth 20000 in
theorem ggX7_extreme_X7_in : GoodIn wsX7_extreme wsX7_in := goodIn_r _ [14] (by decide +kernel) (by decide +kernel)
set_option maxRecDepth 20000 in
theorem gX7_extreme_X7_in : GoodIn wsX7_extreme (va_wsS RX7 102 yX7_in wsX7_in) := goodIn_app (goodIn_of _ (by decide +kernel)) ggX7_extreme_X7_in
theorem dX7_extreme_0 : decode cX7_extreme 0 = .ok (.iconst 0, 1) := by decide +kernel
theorem dX7_extreme_1 : decode cX7_extreme 1 = .ok (.istore 4, 2) := by decide +kernel
theorem dX7_extreme_3 : decode cX7_extreme 3 = .ok (.iconst 0, 1) := by decide +kernel
theorem dX7_extreme_4 : decode cX7_extreme 4 = .ok (.istore 5, 2) := by decide +kernel
theorem dX7_extreme_6 : decode cX7_extreme 6 = .ok (.iload 5, 2) := by decide +kernel
theorem dX7_extreme_8 : decode cX7_extreme 8 = .ok (.iconst 4, 1) := by decide +kernel
theorem dX7_extreme_9 : decode cX7_extreme 9 = .ok (.if_icmp .ge 92, 3) := by decide +kernel
theorem dX7_extreme_12 : decode cX7_extreme 12 = .ok (.aload_n 0, 1) := by decide +kernel
theorem dX7_extreme_13 : decode cX7_extreme 13 = .ok (.iload_n 1, 1) := by decide +kernel
theorem dX7_extreme_14 : decode cX7_extreme 14 = .ok (.iload 5, 2) := by decide +kernel
theorem dX7_extreme_16 : decode cX7_extreme 16 = .ok (.iload_n 2, 1) := by decide +kernel
theorem dX7_extreme_17 : decode cX7_extreme 17 = .ok (.invokevirtual 123, 3) := by decide +kernel
theorem dX7_extreme_20 : decode cX7_extreme 20 = .ok (.istore 6, 2) := by decide +kernel
theorem dX7_extreme_22 : decode cX7_extreme 22 = .ok (.iload_n 3, 1) := by decide +kernel
theorem dX7_extreme_23 : decode cX7_extreme 23 = .ok (.ifCond .eq 8, 3) := by decide +kernel
theorem dX7_extreme_26 : decode cX7_extreme 26 = .ok (.bipush 9, 2) := by decide +kernel
theorem dX7_extreme_28 : decode cX7_extreme 28 = .ok (.goto 4, 3) := by decide +kernel
theorem dX7_extreme_31 : decode cX7_extreme 31 = .ok (.iconst 0, 1) := by decide +kernel
theorem dX7_extreme_32 : decode cX7_extreme 32 = .ok (.istore 7, 2) := by decide +kernel
theorem dX7_extreme_34 : decode cX7_extreme 34 = .ok (.iload 7, 2) := by decide +kernel
theorem dX7_extreme_36 : decode cX7_extreme 36 = .ok (.iconst 0, 1) := by decide +kernel
theorem dX7_extreme_37 : decode cX7_extreme 37 = .ok (.bipush 9, 2) := by decide +kernel
theorem dX7_extreme_39 : decode cX7_extreme 39 = .ok (.invokestatic 102, 3) := by decide +kernel
theorem dX7_extreme_42 : decode cX7_extreme 42 = .ok (.ifCond .eq 30, 3) := by decide +kernel
theorem dX7_extreme_45 : decode cX7_extreme 45 = .ok (.iload 6, 2) := by decide +kernel
theorem dX7_extreme_47 : decode cX7_extreme 47 = .ok (.iload 7, 2) := by decide +kernel
theorem dX7_extreme_49 : decode cX7_extreme 49 = .ok (.ishr, 1) := by decide +kernel
theorem dX7_extreme_50 : decode cX7_extreme 50 = .ok (.iconst 1, 1) := by decide +kernel
theorem dX7_extreme_51 : decode cX7_extreme 51 = .ok (.iand, 1) := by decide +kernel
theorem dX7_extreme_52 : decode cX7_extreme 52 = .ok (.ifCond .ne 20, 3) := by decide +kernel
theorem dX7_extreme_55 : decode cX7_extreme 55 = .ok (.iload 7, 2) := by decide +kernel
theorem dX7_extreme_57 : decode cX7_extreme 57 = .ok (.iload_n 3, 1) := by decide +kernel
theorem dX7_extreme_58 : decode cX7_extreme 58 = .ok (.ifCond .eq 7, 3) := by decide +kernel
theorem dX7_extreme_61 : decode cX7_extreme 61 = .ok (.iconst (-1), 1) := by decide +kernel
theorem dX7_extreme_62 : decode cX7_extreme 62 = .ok (.goto 4, 3) := by decide +kernel
theorem dX7_extreme_65 : decode cX7_extreme 65 = .ok (.iconst 1, 1) := by decide +kernel
theorem dX7_extreme_66 : decode cX7_extreme 66 = .ok (.iadd, 1) := by decide +kernel
theorem dX7_extreme_67 : decode cX7_extreme 67 = .ok (.istore 7, 2) := by decide +kernel
theorem dX7_extreme_69 : decode cX7_extreme 69 = .ok (.goto (-35), 3) := by decide +kernel
theorem dX7_extreme_72 : decode cX7_extreme 72 = .ok (.iload 7, 2) := by decide +kernel
theorem dX7_extreme_74 : decode cX7_extreme 74 = .ok (.iconst 0, 1) := by decide +kernel
theorem dX7_extreme_75 : decode cX7_extreme 75 = .ok (.bipush 9, 2) := by decide +kernel
theorem dX7_extreme_77 : decode cX7_extreme 77 = .ok (.invokestatic 102, 3) := by decide +kernel
theorem dX7_extreme_80 : decode cX7_extreme 80 = .ok (.ifCond .ne 5, 3) := by decide +kernel
theorem dX7_extreme_83 : decode cX7_extreme 83 = .ok (.iconst (-1), 1) := by decide +kernel
theorem dX7_extreme_84 : decode cX7_extreme 84 = .ok (.ireturn, 1) := by decide +kernel
theorem dX7_extreme_85 : decode cX7_extreme 85 = .ok (.bipush 10, 2) := by decide +kernel
theorem dX7_extreme_87 : decode cX7_extreme 87 = .ok (.iload 4, 2) := by decide +kernel
theorem dX7_extreme_89 : decode cX7_extreme 89 = .ok (.imul, 1) := by decide +kernel
theorem dX7_extreme_90 : decode cX7_extreme 90 = .ok (.iload 7, 2) := by decide +kernel
theorem dX7_extreme_92 : decode cX7_extreme 92 = .ok (.iadd, 1) := by decide +kernel
theorem dX7_extreme_93 : decode cX7_extreme 93 = .ok (.istore 4, 2) := by decide +kernel
theorem dX7_extreme_95 : decode cX7_extreme 95 = .ok (.iinc 5 1, 3) := by decide +kernel
theorem dX7_extreme_98 : decode cX7_extreme 98 = .ok (.goto (-92), 3) := by decide +kernel
theorem dX7_extreme_101 : decode cX7_extreme 101 = .ok (.iload 4, 2) := by decide +kernel
theorem dX7_extreme_103 : decode cX7_extreme 103 = .ok (.ireturn, 1) := by decide +kernel
set_option maxRecDepth 20000 in
theorem ggX7_agree_X7_noLine : GoodIn wsX7_agree wsX7_noLine := goodIn_r _ [5, 6, 7, 4, 8] (by decide +kernel) (by decide +kernel)
set_option maxRecDepth 20000 in
theorem gX7_agree_X7_noLine : GoodIn wsX7_agree (va_wsS RX7 106 yX7_noLine wsX7_noLine) := goodIn_app (goodIn_of _ (by decide +kernel)) ggX7_agree_X7_noLine
set_option maxRecDepth 20000 in
theorem ggX7_agree_X7_throwsIf : GoodIn wsX7_agree wsX7_throwsIf := goodIn_r _ [12, 1, 38, 39, 40, 41, 42, 43, 44, 45, 46, 47, 48, 49, 50, 51, 52, 53, 54, 55, 56, 57, 58, 59, 60, 61, 62, 63, 64, 65, 66, 67, 68, 69, 70, 71, 72, 73, 74, 75, 76, 77] (by decide +kernel) (by decide +kernel)
set_option maxRecDepth 20000 in
theorem gX7_agree_X7_throwsIf : GoodIn wsX7_agree (wsV RX7 110 RX7 yX7_throwsIf wsX7_throwsIf) := goodIn_app (goodIn_of _ (by decide +kernel)) ggX7_agree_X7_throwsIf
set_option maxRecDepth 20000 in
theorem ggX7_agree_X7_many : GoodIn wsX7_agree wsX7_many := goodIn_r _ [16, 17, 18, 19, 4, 20, 21, 22, 23, 24, 25, 26, 27, 28, 29, 30, 31, 32, 33, 38, 39, 40, 41, 42, 43, 44, 45, 46, 47, 48, 49, 50, 51, 52, 53, 54, 55, 56, 57, 58, 59, 60, 61, 62, 63, 64, 65, 66, 67, 68, 69, 70, 71, 72, 73, 74, 75, 76, 77] (by decide +kernel) (by decide +kernel)
set_option maxRecDepth 20000 in
theorem gX7_agree_X7_many : GoodIn wsX7_agree (wsV RX7 133 RX7 yX7_many wsX7_many) := goodIn_app (goodIn_of _ (by decide +kernel)) ggX7_agree_X7_many
set_option maxRecDepth 20000 in
theorem ggX7_agree_X7_extreme : GoodIn wsX7_agree wsX7_extreme := goodIn_r _ [37, 17, 18, 19, 4, 20, 21, 22, 23, 24, 25, 26, 6, 7, 8, 38, 39, 40, 41, 42, 43, 44, 45, 46, 47, 48, 49, 50, 51, 52, 53, 54, 55, 56, 57, 58, 59, 60, 61, 62, 63, 64, 65, 66, 67, 68, 69, 70, 71, 72, 73, 74, 75, 76, 77] (by decide +kernel) (by decide +kernel)
set_option maxRecDepth 20000 in
theorem gX7_agree_X7_extreme : GoodIn wsX7_agree (wsV RX7 137 RX7 yX7_extreme wsX7_extreme) := goodIn_app (goodIn_of _ (by decide +kernel)) ggX7_agree_X7_extreme
theorem dX7_agree_0 : decode cX7_agree 0 = .ok (.aload_n 0, 1) := by decide +kernel
theorem dX7_agree_1 : decode cX7_agree 1 = .ok (.iconst 0, 1) := by decide +kernel
theorem dX7_agree_2 : decode cX7_agree 2 = .ok (.putfield 99, 3) := by decide +kernel
theorem dX7_agree_5 : decode cX7_agree 5 = .ok (.aload_n 0, 1) := by decide +kernel
theorem dX7_agree_6 : decode cX7_agree 6 = .ok (.iload_n 1, 1) := by decide +kernel
theorem dX7_agree_7 : decode cX7_agree 7 = .ok (.invokestatic 106, 3) := by decide +kernel
theorem dX7_agree_10 : decode cX7_agree 10 = .ok (.iconst 1, 1) := by decide +kernel
theorem dX7_agree_11 : decode cX7_agree 11 = .ok (.invokevirtual 110, 3) := by decide +kernel
theorem dX7_agree_14 : decode cX7_agree 14 = .ok (.ifCond .eq 5, 3) := by decide +kernel
theorem dX7_agree_17 : decode cX7_agree 17 = .ok (.iconst 0, 1) := by decide +kernel
theorem dX7_agree_18 : decode cX7_agree 18 = .ok (.ireturn, 1) := by decide +kernel
theorem dX7_agree_19 : decode cX7_agree 19 = .ok (.iload_n 3, 1) := by decide +kernel
theorem dX7_agree_20 : decode cX7_agree 20 = .ok (.tableswitch 71 0 3 #[32, 39, 47, 55], 32) := by decide +kernel
theorem dX7_agree_52 : decode cX7_agree 52 = .ok (.aload_n 0, 1) := by decide +kernel
theorem dX7_agree_53 : decode cX7_agree 53 = .ok (.iload_n 1, 1) := by decide +kernel
theorem dX7_agree_54 : decode cX7_agree 54 = .ok (.iload_n 2, 1) := by decide +kernel
theorem dX7_agree_55 : decode cX7_agree 55 = .ok (.invokevirtual 133, 3) := by decide +kernel
theorem dX7_agree_58 : decode cX7_agree 58 = .ok (.ireturn, 1) := by decide +kernel
theorem dX7_agree_59 : decode cX7_agree 59 = .ok (.aload_n 0, 1) := by decide +kernel
theorem dX7_agree_60 : decode cX7_agree 60 = .ok (.iload_n 1, 1) := by decide +kernel
theorem dX7_agree_61 : decode cX7_agree 61 = .ok (.iload_n 2, 1) := by decide +kernel
theorem dX7_agree_62 : decode cX7_agree 62 = .ok (.iconst 0, 1) := by decide +kernel
theorem dX7_agree_63 : decode cX7_agree 63 = .ok (.invokevirtual 137, 3) := by decide +kernel
theorem dX7_agree_66 : decode cX7_agree 66 = .ok (.ireturn, 1) := by decide +kernel
theorem dX7_agree_67 : decode cX7_agree 67 = .ok (.aload_n 0, 1) := by decide +kernel
theorem dX7_agree_68 : decode cX7_agree 68 = .ok (.iload_n 1, 1) := by decide +kernel
theorem dX7_agree_69 : decode cX7_agree 69 = .ok (.iload_n 2, 1) := by decide +kernel
theorem dX7_agree_70 : decode cX7_agree 70 = .ok (.iconst 1, 1) := by decide +kernel
theorem dX7_agree_71 : decode cX7_agree 71 = .ok (.invokevirtual 137, 3) := by decide +kernel
theorem dX7_agree_74 : decode cX7_agree 74 = .ok (.ireturn, 1) := by decide +kernel
theorem dX7_agree_75 : decode cX7_agree 75 = .ok (.aload_n 0, 1) := by decide +kernel
theorem dX7_agree_76 : decode cX7_agree 76 = .ok (.iload_n 1, 1) := by decide +kernel
theorem dX7_agree_77 : decode cX7_agree 77 = .ok (.iload_n 2, 1) := by decide +kernel
theorem dX7_agree_78 : decode cX7_agree 78 = .ok (.invokevirtual 133, 3) := by decide +kernel
theorem dX7_agree_81 : decode cX7_agree 81 = .ok (.iconst 1, 1) := by decide +kernel
theorem dX7_agree_82 : decode cX7_agree 82 = .ok (.if_icmp .ne 7, 3) := by decide +kernel
theorem dX7_agree_85 : decode cX7_agree 85 = .ok (.iconst 1, 1) := by decide +kernel
theorem dX7_agree_86 : decode cX7_agree 86 = .ok (.goto 4, 3) := by decide +kernel
theorem dX7_agree_89 : decode cX7_agree 89 = .ok (.iconst 0, 1) := by decide +kernel
theorem dX7_agree_90 : decode cX7_agree 90 = .ok (.ireturn, 1) := by decide +kernel
theorem dX7_agree_91 : decode cX7_agree 91 = .ok (.aload_n 0, 1) := by decide +kernel
theorem dX7_agree_92 : decode cX7_agree 92 = .ok (.iconst 2, 1) := by decide +kernel
theorem dX7_agree_93 : decode cX7_agree 93 = .ok (.putfield 99, 3) := by decide +kernel
theorem dX7_agree_96 : decode cX7_agree 96 = .ok (.iconst 0, 1) := by decide +kernel
theorem dX7_agree_97 : decode cX7_agree 97 = .ok (.ireturn, 1) := by decide +kernel
theorem dX7_feed_0 : decode cX7_feed 0 = .ok (.aload_n 0, 1) := by decide +kernel
theorem dX7_feed_1 : decode cX7_feed 1 = .ok (.iconst 0, 1) := by decide +kernel
theorem dX7_feed_2 : decode cX7_feed 2 = .ok (.putfield 99, 3) := by decide +kernel
theorem dX7_feed_5 : decode cX7_feed 5 = .ok (.aload_n 0, 1) := by decide +kernel
theorem dX7_feed_6 : decode cX7_feed 6 = .ok (.getfield 141, 3) := by decide +kernel
theorem dX7_feed_9 : decode cX7_feed 9 = .ok (.bipush 20, 2) := by decide +kernel
theorem dX7_feed_11 : decode cX7_feed 11 = .ok (.iadd, 1) := by decide +kernel
theorem dX7_feed_12 : decode cX7_feed 12 = .ok (.sipush 400, 3) := by decide +kernel
theorem dX7_feed_15 : decode cX7_feed 15 = .ok (.if_icmp .le 5, 3) := by decide +kernel
theorem dX7_feed_18 : decode cX7_feed 18 = .ok (.iconst (-1), 1) := by decide +kernel
theorem dX7_feed_19 : decode cX7_feed 19 = .ok (.ireturn, 1) := by decide +kernel
theorem dX7_feed_20 : decode cX7_feed 20 = .ok (.aload_n 0, 1) := by decide +kernel
theorem dX7_feed_21 : decode cX7_feed 21 = .ok (.getfield 54, 3) := by decide +kernel
theorem dX7_feed_24 : decode cX7_feed 24 = .ok (.iconst 0, 1) := by decide +kernel
theorem dX7_feed_25 : decode cX7_feed 25 = .ok (.iload_n 1, 1) := by decide +kernel
theorem dX7_feed_26 : decode cX7_feed 26 = .ok (.iastore, 1) := by decide +kernel
theorem dX7_feed_27 : decode cX7_feed 27 = .ok (.aload_n 0, 1) := by decide +kernel
theorem dX7_feed_28 : decode cX7_feed 28 = .ok (.getfield 54, 3) := by decide +kernel
theorem dX7_feed_31 : decode cX7_feed 31 = .ok (.iconst 1, 1) := by decide +kernel
theorem dX7_feed_32 : decode cX7_feed 32 = .ok (.iload_n 2, 1) := by decide +kernel
theorem dX7_feed_33 : decode cX7_feed 33 = .ok (.iastore, 1) := by decide +kernel
theorem dX7_feed_34 : decode cX7_feed 34 = .ok (.aload_n 0, 1) := by decide +kernel
theorem dX7_feed_35 : decode cX7_feed 35 = .ok (.getfield 54, 3) := by decide +kernel
theorem dX7_feed_38 : decode cX7_feed 38 = .ok (.iconst 2, 1) := by decide +kernel
theorem dX7_feed_39 : decode cX7_feed 39 = .ok (.iload_n 3, 1) := by decide +kernel
theorem dX7_feed_40 : decode cX7_feed 40 = .ok (.iastore, 1) := by decide +kernel
theorem dX7_feed_41 : decode cX7_feed 41 = .ok (.aload_n 0, 1) := by decide +kernel
theorem dX7_feed_42 : decode cX7_feed 42 = .ok (.getfield 54, 3) := by decide +kernel
theorem dX7_feed_45 : decode cX7_feed 45 = .ok (.iconst 3, 1) := by decide +kernel
theorem dX7_feed_46 : decode cX7_feed 46 = .ok (.iload 4, 2) := by decide +kernel
theorem dX7_feed_48 : decode cX7_feed 48 = .ok (.iastore, 1) := by decide +kernel
theorem dX7_feed_49 : decode cX7_feed 49 = .ok (.aload_n 0, 1) := by decide +kernel
theorem dX7_feed_50 : decode cX7_feed 50 = .ok (.getfield 54, 3) := by decide +kernel
theorem dX7_feed_53 : decode cX7_feed 53 = .ok (.iconst 4, 1) := by decide +kernel
theorem dX7_feed_54 : decode cX7_feed 54 = .ok (.iload 5, 2) := by decide +kernel
theorem dX7_feed_56 : decode cX7_feed 56 = .ok (.iastore, 1) := by decide +kernel
theorem dX7_feed_57 : decode cX7_feed 57 = .ok (.iconst 0, 1) := by decide +kernel
theorem dX7_feed_58 : decode cX7_feed 58 = .ok (.istore 6, 2) := by decide +kernel
theorem dX7_feed_60 : decode cX7_feed 60 = .ok (.iload 6, 2) := by decide +kernel
theorem dX7_feed_62 : decode cX7_feed 62 = .ok (.bipush 20, 2) := by decide +kernel
theorem dX7_feed_64 : decode cX7_feed 64 = .ok (.if_icmp .ge 42, 3) := by decide +kernel
theorem dX7_feed_67 : decode cX7_feed 67 = .ok (.aload_n 0, 1) := by decide +kernel
theorem dX7_feed_68 : decode cX7_feed 68 = .ok (.getfield 46, 3) := by decide +kernel
theorem dX7_feed_71 : decode cX7_feed 71 = .ok (.aload_n 0, 1) := by decide +kernel
theorem dX7_feed_72 : decode cX7_feed 72 = .ok (.getfield 141, 3) := by decide +kernel
theorem dX7_feed_75 : decode cX7_feed 75 = .ok (.iload 6, 2) := by decide +kernel
theorem dX7_feed_77 : decode cX7_feed 77 = .ok (.iadd, 1) := by decide +kernel
theorem dX7_feed_78 : decode cX7_feed 78 = .ok (.aload_n 0, 1) := by decide +kernel
theorem dX7_feed_79 : decode cX7_feed 79 = .ok (.getfield 54, 3) := by decide +kernel
theorem dX7_feed_82 : decode cX7_feed 82 = .ok (.iload 6, 2) := by decide +kernel
theorem dX7_feed_84 : decode cX7_feed 84 = .ok (.iconst 4, 1) := by decide +kernel
theorem dX7_feed_85 : decode cX7_feed 85 = .ok (.idiv, 1) := by decide +kernel
theorem dX7_feed_86 : decode cX7_feed 86 = .ok (.iaload, 1) := by decide +kernel
theorem dX7_feed_87 : decode cX7_feed 87 = .ok (.bipush 24, 2) := by decide +kernel
theorem dX7_feed_89 : decode cX7_feed 89 = .ok (.bipush 8, 2) := by decide +kernel
theorem dX7_feed_91 : decode cX7_feed 91 = .ok (.iload 6, 2) := by decide +kernel
theorem dX7_feed_93 : decode cX7_feed 93 = .ok (.iconst 4, 1) := by decide +kernel
theorem dX7_feed_94 : decode cX7_feed 94 = .ok (.irem, 1) := by decide +kernel
theorem dX7_feed_95 : decode cX7_feed 95 = .ok (.imul, 1) := by decide +kernel
theorem dX7_feed_96 : decode cX7_feed 96 = .ok (.isub, 1) := by decide +kernel
theorem dX7_feed_97 : decode cX7_feed 97 = .ok (.ishr, 1) := by decide +kernel
theorem dX7_feed_98 : decode cX7_feed 98 = .ok (.i2b, 1) := by decide +kernel
theorem dX7_feed_99 : decode cX7_feed 99 = .ok (.bastore, 1) := by decide +kernel
theorem dX7_feed_100 : decode cX7_feed 100 = .ok (.iinc 6 1, 3) := by decide +kernel
theorem dX7_feed_103 : decode cX7_feed 103 = .ok (.goto (-43), 3) := by decide +kernel
theorem dX7_feed_106 : decode cX7_feed 106 = .ok (.aload_n 0, 1) := by decide +kernel
theorem dX7_feed_107 : decode cX7_feed 107 = .ok (.dup, 1) := by decide +kernel
theorem dX7_feed_108 : decode cX7_feed 108 = .ok (.getfield 141, 3) := by decide +kernel
theorem dX7_feed_111 : decode cX7_feed 111 = .ok (.bipush 20, 2) := by decide +kernel
theorem dX7_feed_113 : decode cX7_feed 113 = .ok (.iadd, 1) := by decide +kernel
theorem dX7_feed_114 : decode cX7_feed 114 = .ok (.putfield 141, 3) := by decide +kernel
theorem dX7_feed_117 : decode cX7_feed 117 = .ok (.aload_n 0, 1) := by decide +kernel
theorem dX7_feed_118 : decode cX7_feed 118 = .ok (.getfield 141, 3) := by decide +kernel
theorem dX7_feed_121 : decode cX7_feed 121 = .ok (.ireturn, 1) := by decide +kernel
theorem dX7_end_0 : decode cX7_end 0 = .ok (.aload_n 0, 1) := by decide +kernel
theorem dX7_end_1 : decode cX7_end 1 = .ok (.iconst 0, 1) := by decide +kernel
theorem dX7_end_2 : decode cX7_end 2 = .ok (.putfield 99, 3) := by decide +kernel
theorem dX7_end_5 : decode cX7_end 5 = .ok (.iload_n 1, 1) := by decide +kernel
theorem dX7_end_6 : decode cX7_end 6 = .ok (.ifCond .lt 11, 3) := by decide +kernel
theorem dX7_end_9 : decode cX7_end 9 = .ok (.iload_n 1, 1) := by decide +kernel
theorem dX7_end_10 : decode cX7_end 10 = .ok (.aload_n 0, 1) := by decide +kernel
theorem dX7_end_11 : decode cX7_end 11 = .ok (.getfield 141, 3) := by decide +kernel
theorem dX7_end_14 : decode cX7_end 14 = .ok (.if_icmp .le 5, 3) := by decide +kernel
theorem dX7_end_17 : decode cX7_end 17 = .ok (.iconst 0, 1) := by decide +kernel
theorem dX7_end_18 : decode cX7_end 18 = .ok (.ireturn, 1) := by decide +kernel
theorem dX7_end_19 : decode cX7_end 19 = .ok (.aload_n 0, 1) := by decide +kernel
theorem dX7_end_20 : decode cX7_end 20 = .ok (.iload_n 1, 1) := by decide +kernel
theorem dX7_end_21 : decode cX7_end 21 = .ok (.putfield 141, 3) := by decide +kernel
theorem dX7_end_24 : decode cX7_end 24 = .ok (.iconst 1, 1) := by decide +kernel
theorem dX7_end_25 : decode cX7_end 25 = .ok (.ireturn, 1) := by decide +kernel
theorem dX7_isAt_0 : decode cX7_isAt 0 = .ok (.aload_n 0, 1) := by decide +kernel
theorem dX7_isAt_1 : decode cX7_isAt 1 = .ok (.getfield 144, 3) := by decide +kernel
theorem dX7_isAt_4 : decode cX7_isAt 4 = .ok (.aload_n 0, 1) := by decide +kernel
theorem dX7_isAt_5 : decode cX7_isAt 5 = .ok (.getfield 147, 3) := by decide +kernel
theorem dX7_isAt_8 : decode cX7_isAt 8 = .ok (.if_icmp .ge 33, 3) := by decide +kernel
theorem dX7_isAt_11 : decode cX7_isAt 11 = .ok (.aload_n 0, 1) := by decide +kernel
theorem dX7_isAt_12 : decode cX7_isAt 12 = .ok (.getfield 46, 3) := by decide +kernel
theorem dX7_isAt_15 : decode cX7_isAt 15 = .ok (.aload_n 0, 1) := by decide +kernel
theorem dX7_isAt_16 : decode cX7_isAt 16 = .ok (.getfield 144, 3) := by decide +kernel
theorem dX7_isAt_19 : decode cX7_isAt 19 = .ok (.baload, 1) := by decide +kernel
theorem dX7_isAt_20 : decode cX7_isAt 20 = .ok (.iload_n 1, 1) := by decide +kernel
theorem dX7_isAt_21 : decode cX7_isAt 21 = .ok (.if_icmp .lt 20, 3) := by decide +kernel
theorem dX7_isAt_24 : decode cX7_isAt 24 = .ok (.aload_n 0, 1) := by decide +kernel
theorem dX7_isAt_25 : decode cX7_isAt 25 = .ok (.getfield 46, 3) := by decide +kernel
theorem dX7_isAt_28 : decode cX7_isAt 28 = .ok (.aload_n 0, 1) := by decide +kernel
theorem dX7_isAt_29 : decode cX7_isAt 29 = .ok (.getfield 144, 3) := by decide +kernel
theorem dX7_isAt_32 : decode cX7_isAt 32 = .ok (.baload, 1) := by decide +kernel
theorem dX7_isAt_33 : decode cX7_isAt 33 = .ok (.iload_n 2, 1) := by decide +kernel
theorem dX7_isAt_34 : decode cX7_isAt 34 = .ok (.if_icmp .gt 7, 3) := by decide +kernel
theorem dX7_isAt_37 : decode cX7_isAt 37 = .ok (.iconst 1, 1) := by decide +kernel
theorem dX7_isAt_38 : decode cX7_isAt 38 = .ok (.goto 4, 3) := by decide +kernel
theorem dX7_isAt_41 : decode cX7_isAt 41 = .ok (.iconst 0, 1) := by decide +kernel
theorem dX7_isAt_42 : decode cX7_isAt 42 = .ok (.ireturn, 1) := by decide +kernel
set_option maxRecDepth 20000 in
theorem ggX7_blanks_X7_isAt : GoodIn wsX7_blanks wsX7_isAt := goodIn_r _ [7, 1, 8, 9, 10, 11, 12, 13, 14, 15, 16, 17, 18, 19, 20, 21, 22, 23, 24, 25, 26, 27, 28, 29, 30, 31, 32, 33, 34, 35, 36, 37, 38, 39, 40, 41, 42, 43, 44, 45, 46, 47, 48, 49] (by decide +kernel) (by decide +kernel)
set_option maxRecDepth 20000 in
theorem gX7_blanks_X7_isAt : GoodIn wsX7_blanks (wsV RX7 150 RX7 yX7_isAt wsX7_isAt) := goodIn_app (goodIn_of _ (by decide +kernel)) ggX7_blanks_X7_isAt
theorem dX7_blanks_0 : decode cX7_blanks 0 = .ok (.aload_n 0, 1) := by decide +kernel
theorem dX7_blanks_1 : decode cX7_blanks 1 = .ok (.bipush 32, 2) := by decide +kernel
theorem dX7_blanks_3 : decode cX7_blanks 3 = .ok (.bipush 32, 2) := by decide +kernel
theorem dX7_blanks_5 : decode cX7_blanks 5 = .ok (.invokevirtual 150, 3) := by decide +kernel
theorem dX7_blanks_8 : decode cX7_blanks 8 = .ok (.ifCond .eq 16, 3) := by decide +kernel
theorem dX7_blanks_11 : decode cX7_blanks 11 = .ok (.aload_n 0, 1) := by decide +kernel
theorem dX7_blanks_12 : decode cX7_blanks 12 = .ok (.dup, 1) := by decide +kernel
theorem dX7_blanks_13 : decode cX7_blanks 13 = .ok (.getfield 144, 3) := by decide +kernel
theorem dX7_blanks_16 : decode cX7_blanks 16 = .ok (.iconst 1, 1) := by decide +kernel
theorem dX7_blanks_17 : decode cX7_blanks 17 = .ok (.iadd, 1) := by decide +kernel
theorem dX7_blanks_18 : decode cX7_blanks 18 = .ok (.putfield 144, 3) := by decide +kernel
theorem dX7_blanks_21 : decode cX7_blanks 21 = .ok (.goto (-21), 3) := by decide +kernel
theorem dX7_blanks_24 : decode cX7_blanks 24 = .ok (.aload_n 0, 1) := by decide +kernel
theorem dX7_blanks_25 : decode cX7_blanks 25 = .ok (.aload_n 0, 1) := by decide +kernel
theorem dX7_blanks_26 : decode cX7_blanks 26 = .ok (.getfield 144, 3) := by decide +kernel
theorem dX7_blanks_29 : decode cX7_blanks 29 = .ok (.putfield 154, 3) := by decide +kernel
theorem dX7_blanks_32 : decode cX7_blanks 32 = .ok (.return_, 1) := by decide +kernel
set_option maxRecDepth 20000 in
theorem ggX7_isWord_J0_length_8abf5 : GoodIn wsX7_isWord wsJ0_length_8abf5 := goodIn_r _ [8, 9, 10, 11, 12, 7, 13, 14, 15] (by decide +kernel) (by decide +kernel)
set_option maxRecDepth 20000 in
theorem gX7_isWord_J0_length_8abf5 : GoodIn wsX7_isWord (wsV RX7 157 RJ0 yJ0_length_8abf5 wsJ0_length_8abf5) := goodIn_app (goodIn_of _ (by decide +kernel)) ggX7_isWord_J0_length_8abf5
set_option maxRecDepth 20000 in
theorem ggX7_isWord_J0_charAt_5068e : GoodIn wsX7_isWord wsJ0_charAt_5068e := goodIn_r _ [19, 9, 20, 21, 22, 7, 23, 14, 15, 24, 25, 26, 27, 28, 29, 30, 31, 32, 33, 34, 35, 36, 37, 38, 39, 40, 41, 42, 43, 44, 45, 46, 47, 48, 49, 50, 51, 52] (by decide +kernel) (by decide +kernel)
set_option maxRecDepth 20000 in
theorem gX7_isWord_J0_charAt_5068e : GoodIn wsX7_isWord (wsV RX7 163 RJ0 yJ0_charAt_5068e wsJ0_charAt_5068e) := goodIn_app (goodIn_of _ (by decide +kernel)) ggX7_isWord_J0_charAt_5068e
theorem dX7_isWord_0 : decode cX7_isWord 0 = .ok (.aload_n 0, 1) := by decide +kernel
theorem dX7_isWord_1 : decode cX7_isWord 1 = .ok (.getfield 144, 3) := by decide +kernel
theorem dX7_isWord_4 : decode cX7_isWord 4 = .ok (.aload_n 0, 1) := by decide +kernel
theorem dX7_isWord_5 : decode cX7_isWord 5 = .ok (.getfield 154, 3) := by decide +kernel
theorem dX7_isWord_8 : decode cX7_isWord 8 = .ok (.isub, 1) := by decide +kernel
theorem dX7_isWord_9 : decode cX7_isWord 9 = .ok (.aload_n 1, 1) := by decide +kernel
theorem dX7_isWord_10 : decode cX7_isWord 10 = .ok (.invokevirtual 157, 3) := by decide +kernel
theorem dX7_isWord_13 : decode cX7_isWord 13 = .ok (.if_icmp .ne 7, 3) := by decide +kernel
theorem dX7_isWord_16 : decode cX7_isWord 16 = .ok (.iconst 1, 1) := by decide +kernel
theorem dX7_isWord_17 : decode cX7_isWord 17 = .ok (.goto 4, 3) := by decide +kernel
theorem dX7_isWord_20 : decode cX7_isWord 20 = .ok (.iconst 0, 1) := by decide +kernel
theorem dX7_isWord_21 : decode cX7_isWord 21 = .ok (.istore_n 2, 1) := by decide +kernel
theorem dX7_isWord_22 : decode cX7_isWord 22 = .ok (.iconst 0, 1) := by decide +kernel
theorem dX7_isWord_23 : decode cX7_isWord 23 = .ok (.istore_n 3, 1) := by decide +kernel
theorem dX7_isWord_24 : decode cX7_isWord 24 = .ok (.iload_n 2, 1) := by decide +kernel
theorem dX7_isWord_25 : decode cX7_isWord 25 = .ok (.ifCond .eq 42, 3) := by decide +kernel
theorem dX7_isWord_28 : decode cX7_isWord 28 = .ok (.iload_n 3, 1) := by decide +kernel
theorem dX7_isWord_29 : decode cX7_isWord 29 = .ok (.aload_n 1, 1) := by decide +kernel
theorem dX7_isWord_30 : decode cX7_isWord 30 = .ok (.invokevirtual 157, 3) := by decide +kernel
theorem dX7_isWord_33 : decode cX7_isWord 33 = .ok (.if_icmp .ge 34, 3) := by decide +kernel
theorem dX7_isWord_36 : decode cX7_isWord 36 = .ok (.aload_n 0, 1) := by decide +kernel
theorem dX7_isWord_37 : decode cX7_isWord 37 = .ok (.getfield 46, 3) := by decide +kernel
theorem dX7_isWord_40 : decode cX7_isWord 40 = .ok (.aload_n 0, 1) := by decide +kernel
theorem dX7_isWord_41 : decode cX7_isWord 41 = .ok (.getfield 154, 3) := by decide +kernel
theorem dX7_isWord_44 : decode cX7_isWord 44 = .ok (.iload_n 3, 1) := by decide +kernel
theorem dX7_isWord_45 : decode cX7_isWord 45 = .ok (.iadd, 1) := by decide +kernel
theorem dX7_isWord_46 : decode cX7_isWord 46 = .ok (.baload, 1) := by decide +kernel
theorem dX7_isWord_47 : decode cX7_isWord 47 = .ok (.aload_n 1, 1) := by decide +kernel
theorem dX7_isWord_48 : decode cX7_isWord 48 = .ok (.iload_n 3, 1) := by decide +kernel
theorem dX7_isWord_49 : decode cX7_isWord 49 = .ok (.invokevirtual 163, 3) := by decide +kernel
theorem dX7_isWord_52 : decode cX7_isWord 52 = .ok (.if_icmp .ne 7, 3) := by decide +kernel
theorem dX7_isWord_55 : decode cX7_isWord 55 = .ok (.iconst 1, 1) := by decide +kernel
theorem dX7_isWord_56 : decode cX7_isWord 56 = .ok (.goto 4, 3) := by decide +kernel
theorem dX7_isWord_59 : decode cX7_isWord 59 = .ok (.iconst 0, 1) := by decide +kernel
theorem dX7_isWord_60 : decode cX7_isWord 60 = .ok (.istore_n 2, 1) := by decide +kernel
theorem dX7_isWord_61 : decode cX7_isWord 61 = .ok (.iinc 3 1, 3) := by decide +kernel
theorem dX7_isWord_64 : decode cX7_isWord 64 = .ok (.goto (-40), 3) := by decide +kernel
theorem dX7_isWord_67 : decode cX7_isWord 67 = .ok (.iload_n 2, 1) := by decide +kernel
theorem dX7_isWord_68 : decode cX7_isWord 68 = .ok (.ireturn, 1) := by decide +kernel
set_option maxRecDepth 20000 in
theorem ggX7_number_X7_blanks : GoodIn wsX7_number wsX7_blanks := goodIn_r _ [8, 1, 2, 9, 10, 11, 7, 12, 13, 3, 14, 15, 16, 17, 18, 19, 20, 21, 22, 23, 24, 25, 26, 27, 28, 29, 30, 31, 32, 33, 34, 35, 36, 37, 38, 39, 40, 41, 42, 43, 44, 45, 46, 47, 48, 49, 50, 51, 52, 53] (by decide +kernel) (by decide +kernel)
set_option maxRecDepth 20000 in
theorem gX7_number_X7_blanks : GoodIn wsX7_number (wsV RX7 167 RX7 yX7_blanks wsX7_blanks) := goodIn_app (goodIn_of _ (by decide +kernel)) ggX7_number_X7_blanks
set_option maxRecDepth 20000 in
theorem ggX7_number_X7_isAt : GoodIn wsX7_number wsX7_isAt := goodIn_r _ [12, 1, 13, 3, 14, 15, 16, 17, 18, 19, 20, 21, 22, 23, 24, 25, 26, 27, 28, 29, 30, 31, 32, 33, 34, 35, 36, 37, 38, 39, 40, 41, 42, 43, 44, 45, 46, 47, 48, 49, 50, 51, 52, 53] (by decide +kernel) (by decide +kernel)
set_option maxRecDepth 20000 in
theorem gX7_number_X7_isAt : GoodIn wsX7_number (wsV RX7 150 RX7 yX7_isAt wsX7_isAt) := goodIn_app (goodIn_of _ (by decide +kernel)) ggX7_number_X7_isAt
theorem dX7_number_0 : decode cX7_number 0 = .ok (.aload_n 0, 1) := by decide +kernel
theorem dX7_number_1 : decode cX7_number 1 = .ok (.invokevirtual 167, 3) := by decide +kernel
theorem dX7_number_4 : decode cX7_number 4 = .ok (.iconst 0, 1) := by decide +kernel
theorem dX7_number_5 : decode cX7_number 5 = .ok (.istore_n 3, 1) := by decide +kernel
theorem dX7_number_6 : decode cX7_number 6 = .ok (.aload_n 0, 1) := by decide +kernel
theorem dX7_number_7 : decode cX7_number 7 = .ok (.bipush 48, 2) := by decide +kernel
theorem dX7_number_9 : decode cX7_number 9 = .ok (.bipush 57, 2) := by decide +kernel
theorem dX7_number_11 : decode cX7_number 11 = .ok (.invokevirtual 150, 3) := by decide +kernel
theorem dX7_number_14 : decode cX7_number 14 = .ok (.ifCond .eq 51, 3) := by decide +kernel
theorem dX7_number_17 : decode cX7_number 17 = .ok (.aload_n 0, 1) := by decide +kernel
theorem dX7_number_18 : decode cX7_number 18 = .ok (.getfield 144, 3) := by decide +kernel
theorem dX7_number_21 : decode cX7_number 21 = .ok (.aload_n 0, 1) := by decide +kernel
theorem dX7_number_22 : decode cX7_number 22 = .ok (.getfield 154, 3) := by decide +kernel
theorem dX7_number_25 : decode cX7_number 25 = .ok (.isub, 1) := by decide +kernel
theorem dX7_number_26 : decode cX7_number 26 = .ok (.iconst 4, 1) := by decide +kernel
theorem dX7_number_27 : decode cX7_number 27 = .ok (.if_icmp .ge 23, 3) := by decide +kernel
theorem dX7_number_30 : decode cX7_number 30 = .ok (.bipush 10, 2) := by decide +kernel
theorem dX7_number_32 : decode cX7_number 32 = .ok (.iload_n 3, 1) := by decide +kernel
theorem dX7_number_33 : decode cX7_number 33 = .ok (.imul, 1) := by decide +kernel
theorem dX7_number_34 : decode cX7_number 34 = .ok (.aload_n 0, 1) := by decide +kernel
theorem dX7_number_35 : decode cX7_number 35 = .ok (.getfield 46, 3) := by decide +kernel
theorem dX7_number_38 : decode cX7_number 38 = .ok (.aload_n 0, 1) := by decide +kernel
theorem dX7_number_39 : decode cX7_number 39 = .ok (.getfield 144, 3) := by decide +kernel
theorem dX7_number_42 : decode cX7_number 42 = .ok (.baload, 1) := by decide +kernel
theorem dX7_number_43 : decode cX7_number 43 = .ok (.iadd, 1) := by decide +kernel
theorem dX7_number_44 : decode cX7_number 44 = .ok (.bipush 48, 2) := by decide +kernel
theorem dX7_number_46 : decode cX7_number 46 = .ok (.isub, 1) := by decide +kernel
theorem dX7_number_47 : decode cX7_number 47 = .ok (.goto 4, 3) := by decide +kernel
theorem dX7_number_50 : decode cX7_number 50 = .ok (.iload_n 3, 1) := by decide +kernel
theorem dX7_number_51 : decode cX7_number 51 = .ok (.istore_n 3, 1) := by decide +kernel
theorem dX7_number_52 : decode cX7_number 52 = .ok (.aload_n 0, 1) := by decide +kernel
theorem dX7_number_53 : decode cX7_number 53 = .ok (.dup, 1) := by decide +kernel
theorem dX7_number_54 : decode cX7_number 54 = .ok (.getfield 144, 3) := by decide +kernel
theorem dX7_number_57 : decode cX7_number 57 = .ok (.iconst 1, 1) := by decide +kernel
theorem dX7_number_58 : decode cX7_number 58 = .ok (.iadd, 1) := by decide +kernel
theorem dX7_number_59 : decode cX7_number 59 = .ok (.putfield 144, 3) := by decide +kernel
theorem dX7_number_62 : decode cX7_number 62 = .ok (.goto (-56), 3) := by decide +kernel
theorem dX7_number_65 : decode cX7_number 65 = .ok (.aload_n 0, 1) := by decide +kernel
theorem dX7_number_66 : decode cX7_number 66 = .ok (.getfield 144, 3) := by decide +kernel
theorem dX7_number_69 : decode cX7_number 69 = .ok (.aload_n 0, 1) := by decide +kernel
theorem dX7_number_70 : decode cX7_number 70 = .ok (.getfield 154, 3) := by decide +kernel
theorem dX7_number_73 : decode cX7_number 73 = .ok (.if_icmp .eq 26, 3) := by decide +kernel
theorem dX7_number_76 : decode cX7_number 76 = .ok (.aload_n 0, 1) := by decide +kernel
theorem dX7_number_77 : decode cX7_number 77 = .ok (.getfield 144, 3) := by decide +kernel
theorem dX7_number_80 : decode cX7_number 80 = .ok (.aload_n 0, 1) := by decide +kernel
theorem dX7_number_81 : decode cX7_number 81 = .ok (.getfield 154, 3) := by decide +kernel
theorem dX7_number_84 : decode cX7_number 84 = .ok (.isub, 1) := by decide +kernel
theorem dX7_number_85 : decode cX7_number 85 = .ok (.iconst 4, 1) := by decide +kernel
theorem dX7_number_86 : decode cX7_number 86 = .ok (.if_icmp .gt 13, 3) := by decide +kernel
theorem dX7_number_89 : decode cX7_number 89 = .ok (.iload_n 3, 1) := by decide +kernel
theorem dX7_number_90 : decode cX7_number 90 = .ok (.iload_n 1, 1) := by decide +kernel
theorem dX7_number_91 : decode cX7_number 91 = .ok (.if_icmp .lt 8, 3) := by decide +kernel
theorem dX7_number_94 : decode cX7_number 94 = .ok (.iload_n 3, 1) := by decide +kernel
theorem dX7_number_95 : decode cX7_number 95 = .ok (.iload_n 2, 1) := by decide +kernel
theorem dX7_number_96 : decode cX7_number 96 = .ok (.if_icmp .le 7, 3) := by decide +kernel
theorem dX7_number_99 : decode cX7_number 99 = .ok (.iconst (-1), 1) := by decide +kernel
theorem dX7_number_100 : decode cX7_number 100 = .ok (.goto 4, 3) := by decide +kernel
theorem dX7_number_103 : decode cX7_number 103 = .ok (.iload_n 3, 1) := by decide +kernel
theorem dX7_number_104 : decode cX7_number 104 = .ok (.ireturn, 1) := by decide +kernel
set_option maxRecDepth 20000 in
theorem ggX7_readClause_X7_blanks : GoodIn wsX7_readClause wsX7_blanks := goodIn_r _ [11, 1, 12, 13, 14, 15, 10, 16, 17, 18, 76, 77, 78, 79, 80, 81, 82, 83, 84, 85, 86, 87, 88, 89, 90, 91, 92, 93, 94, 95, 96, 97, 98, 99, 100, 101, 102, 103, 104, 105, 106, 107, 108, 109, 110, 111, 112, 113, 114, 115] (by decide +kernel) (by decide +kernel)
set_option maxRecDepth 20000 in
theorem gX7_readClause_X7_blanks : GoodIn wsX7_readClause (wsV RX7 167 RX7 yX7_blanks wsX7_blanks) := goodIn_app (goodIn_of _ (by decide +kernel)) ggX7_readClause_X7_blanks
set_option maxRecDepth 20000 in
theorem ggX7_readClause_X7_isAt : GoodIn wsX7_readClause wsX7_isAt := goodIn_r _ [16, 1, 17, 18, 76, 77, 78, 79, 80, 81, 82, 83, 84, 85, 86, 87, 88, 89, 90, 91, 92, 93, 94, 95, 96, 97, 98, 99, 100, 101, 102, 103, 104, 105, 106, 107, 108, 109, 110, 111, 112, 113, 114, 115] (by decide +kernel) (by decide +kernel)
set_option maxRecDepth 20000 in
theorem gX7_readClause_X7_isAt : GoodIn wsX7_readClause (wsV RX7 150 RX7 yX7_isAt wsX7_isAt) := goodIn_app (goodIn_of _ (by decide +kernel)) ggX7_readClause_X7_isAt
set_option maxRecDepth 20000 in
theorem ggX7_readClause_X7_isWord : GoodIn wsX7_readClause wsX7_isWord := goodIn_r _ [22, 1, 12, 18, 23, 24, 25, 26, 27, 28, 29, 30, 31, 32, 33, 34, 35, 36, 37, 38, 39, 40, 41, 42, 43, 44, 45, 46, 47, 48, 49, 50, 51, 52, 53, 54, 55, 56, 57, 58, 59, 60, 61, 62, 63, 64, 65, 66, 67, 68, 69, 70, 71, 76, 77, 78, 79, 80, 81, 82, 83, 84, 85, 86, 87, 88, 89, 90, 91, 92, 93, 94, 95, 96, 97, 98, 99, 100, 101, 102, 103, 104, 105, 106, 107, 108, 109, 110, 111, 112, 113, 114, 115] (by decide +kernel) (by decide +kernel)
set_option maxRecDepth 20000 in
theorem gX7_readClause_X7_isWord : GoodIn wsX7_readClause (wsV RX7 171 RX7 yX7_isWord wsX7_isWord) := goodIn_app (goodIn_of _ (by decide +kernel)) ggX7_readClause_X7_isWord
