set_option maxRecDepth 20000 in
theorem ggL_stone_X6_stone : GoodIn wsL_stone wsX6_stone := goodIn_ca (goodIn_ca (goodIn_ca (goodIn_r _ [8, 9, 10, 11, 12, 13, 14, 15, 7, 16, 17, 18, 19, 20, 21, 22, 23, 24, 25, 26, 27, 28, 29, 30, 31, 32, 33, 34, 35, 36, 37, 38, 39, 40, 41, 42, 43, 44, 45, 46, 47, 48, 49, 50, 51, 52, 53] (by decide +kernel) (by decide +kernel)) (goodIn_sub (fun _ h => List.mem_cons_of_mem _ (List.mem_append_left _ (List.mem_append_left _ (List.mem_append_right _ h)))) (by decide +kernel))) (goodIn_sub (fun _ h => List.mem_cons_of_mem _ (List.mem_append_left _ (List.mem_append_right _ h))) (by decide +kernel))) (goodIn_sub (fun _ h => List.mem_cons_of_mem _ (List.mem_append_right _ h)) (by decide +kernel))
set_option maxRecDepth 20000 in
theorem gL_stone_X6_stone : GoodIn wsL_stone (wsV RL 7 RX6 yX6_stone wsX6_stone) := goodIn_app (goodIn_of _ (by decide +kernel)) ggL_stone_X6_stone
theorem dL_stone_0 : decode cL_stone 0 = .ok (.aload 6, 2) := by decide +kernel
theorem dL_stone_2 : decode cL_stone 2 = .ok (.iconst 0, 1) := by decide +kernel
theorem dL_stone_3 : decode cL_stone 3 = .ok (.aload_n 0, 1) := by decide +kernel
theorem dL_stone_4 : decode cL_stone 4 = .ok (.iload_n 1, 1) := by decide +kernel
theorem dL_stone_5 : decode cL_stone 5 = .ok (.iload_n 2, 1) := by decide +kernel
theorem dL_stone_6 : decode cL_stone 6 = .ok (.iload_n 3, 1) := by decide +kernel
theorem dL_stone_7 : decode cL_stone 7 = .ok (.iload 4, 2) := by decide +kernel
theorem dL_stone_9 : decode cL_stone 9 = .ok (.iload 5, 2) := by decide +kernel
theorem dL_stone_11 : decode cL_stone 11 = .ok (.invokevirtual 7, 3) := by decide +kernel
theorem dL_stone_14 : decode cL_stone 14 = .ok (.i2l, 1) := by decide +kernel
theorem dL_stone_15 : decode cL_stone 15 = .ok (.lastore, 1) := by decide +kernel
theorem dL_stone_16 : decode cL_stone 16 = .ok (.goto 15, 3) := by decide +kernel
theorem dL_stone_19 : decode cL_stone 19 = .ok (.astore 7, 2) := by decide +kernel
theorem dL_stone_21 : decode cL_stone 21 = .ok (.iconst 1, 1) := by decide +kernel
theorem dL_stone_22 : decode cL_stone 22 = .ok (.ireturn, 1) := by decide +kernel
theorem dL_stone_23 : decode cL_stone 23 = .ok (.astore 7, 2) := by decide +kernel
theorem dL_stone_25 : decode cL_stone 25 = .ok (.iconst 2, 1) := by decide +kernel
theorem dL_stone_26 : decode cL_stone 26 = .ok (.ireturn, 1) := by decide +kernel
theorem dL_stone_27 : decode cL_stone 27 = .ok (.astore 7, 2) := by decide +kernel
theorem dL_stone_29 : decode cL_stone 29 = .ok (.iconst 3, 1) := by decide +kernel
theorem dL_stone_30 : decode cL_stone 30 = .ok (.ireturn, 1) := by decide +kernel
theorem dL_stone_31 : decode cL_stone 31 = .ok (.iconst 0, 1) := by decide +kernel
theorem dL_stone_32 : decode cL_stone 32 = .ok (.ireturn, 1) := by decide +kernel
set_option maxRecDepth 20000 in
theorem ggL_strike_X6_strike : GoodIn wsL_strike wsX6_strike := goodIn_ca (goodIn_r _ [6, 7, 8, 9, 10, 11, 12, 13, 14, 15, 16, 17, 18, 19, 20, 21, 22, 23, 24, 25, 26, 27, 28, 29, 30, 31, 32, 33, 34, 35, 36, 37, 38] (by decide +kernel) (by decide +kernel)) (goodIn_sub (fun _ h => List.mem_cons_of_mem _ (List.mem_append_right _ h)) (by decide +kernel))
set_option maxRecDepth 20000 in
theorem gL_strike_X6_strike : GoodIn wsL_strike (wsV RL 19 RX6 yX6_strike wsX6_strike) := goodIn_app (goodIn_of _ (by decide +kernel)) ggL_strike_X6_strike
theorem dL_strike_0 : decode cL_strike 0 = .ok (.aload_n 2, 1) := by decide +kernel
theorem dL_strike_1 : decode cL_strike 1 = .ok (.iconst 0, 1) := by decide +kernel
theorem dL_strike_2 : decode cL_strike 2 = .ok (.aload_n 0, 1) := by decide +kernel
theorem dL_strike_3 : decode cL_strike 3 = .ok (.iload_n 1, 1) := by decide +kernel
theorem dL_strike_4 : decode cL_strike 4 = .ok (.invokevirtual 19, 3) := by decide +kernel
theorem dL_strike_7 : decode cL_strike 7 = .ok (.ifCond .eq 7, 3) := by decide +kernel
theorem dL_strike_10 : decode cL_strike 10 = .ok (.lconst 1, 1) := by decide +kernel
theorem dL_strike_11 : decode cL_strike 11 = .ok (.goto 4, 3) := by decide +kernel
theorem dL_strike_14 : decode cL_strike 14 = .ok (.lconst 0, 1) := by decide +kernel
theorem dL_strike_15 : decode cL_strike 15 = .ok (.lastore, 1) := by decide +kernel
theorem dL_strike_16 : decode cL_strike 16 = .ok (.goto 6, 3) := by decide +kernel
theorem dL_strike_19 : decode cL_strike 19 = .ok (.astore_n 3, 1) := by decide +kernel
theorem dL_strike_20 : decode cL_strike 20 = .ok (.iconst 1, 1) := by decide +kernel
theorem dL_strike_21 : decode cL_strike 21 = .ok (.ireturn, 1) := by decide +kernel
theorem dL_strike_22 : decode cL_strike 22 = .ok (.iconst 0, 1) := by decide +kernel
theorem dL_strike_23 : decode cL_strike 23 = .ok (.ireturn, 1) := by decide +kernel
set_option maxRecDepth 20000 in
theorem ggL_habit_X6_habit : GoodIn wsL_habit wsX6_habit := goodIn_ca (goodIn_r _ [6, 7, 8, 9, 10, 11, 5, 12, 13, 14, 15, 16, 17, 18, 19, 20, 21, 22, 23, 24, 25, 26, 27, 28, 29, 30, 31, 32, 33, 34, 35, 36, 37, 38, 39] (by decide +kernel) (by decide +kernel)) (goodIn_sub (fun _ h => List.mem_cons_of_mem _ (List.mem_append_right _ h)) (by decide +kernel))
set_option maxRecDepth 20000 in
theorem gL_habit_X6_habit : GoodIn wsL_habit (wsV RL 23 RX6 yX6_habit wsX6_habit) := goodIn_app (goodIn_of _ (by decide +kernel)) ggL_habit_X6_habit
theorem dL_habit_0 : decode cL_habit 0 = .ok (.aload_n 3, 1) := by decide +kernel
theorem dL_habit_1 : decode cL_habit 1 = .ok (.iconst 0, 1) := by decide +kernel
theorem dL_habit_2 : decode cL_habit 2 = .ok (.aload_n 0, 1) := by decide +kernel
theorem dL_habit_3 : decode cL_habit 3 = .ok (.iload_n 1, 1) := by decide +kernel
theorem dL_habit_4 : decode cL_habit 4 = .ok (.iload_n 2, 1) := by decide +kernel
theorem dL_habit_5 : decode cL_habit 5 = .ok (.invokevirtual 23, 3) := by decide +kernel
theorem dL_habit_8 : decode cL_habit 8 = .ok (.ifCond .eq 7, 3) := by decide +kernel
theorem dL_habit_11 : decode cL_habit 11 = .ok (.lconst 1, 1) := by decide +kernel
theorem dL_habit_12 : decode cL_habit 12 = .ok (.goto 4, 3) := by decide +kernel
theorem dL_habit_15 : decode cL_habit 15 = .ok (.lconst 0, 1) := by decide +kernel
theorem dL_habit_16 : decode cL_habit 16 = .ok (.lastore, 1) := by decide +kernel
theorem dL_habit_17 : decode cL_habit 17 = .ok (.goto 7, 3) := by decide +kernel
theorem dL_habit_20 : decode cL_habit 20 = .ok (.astore 4, 2) := by decide +kernel
theorem dL_habit_22 : decode cL_habit 22 = .ok (.iconst 1, 1) := by decide +kernel
theorem dL_habit_23 : decode cL_habit 23 = .ok (.ireturn, 1) := by decide +kernel
theorem dL_habit_24 : decode cL_habit 24 = .ok (.iconst 0, 1) := by decide +kernel
theorem dL_habit_25 : decode cL_habit 25 = .ok (.ireturn, 1) := by decide +kernel
set_option maxRecDepth 20000 in
theorem ggL_agree_X6_agree : GoodIn wsL_agree wsX6_agree := goodIn_ca (goodIn_ca (goodIn_r _ [7, 8, 9, 10, 6, 11, 12, 13, 14, 15, 16, 17, 18, 19, 20, 21, 22, 23, 24, 25, 26, 27, 28, 29, 30, 31, 32, 33, 34, 35, 36, 37, 38, 39, 40, 41, 42, 43, 44, 45, 46, 47, 48, 49, 50, 51, 52, 53, 54, 55, 56, 57, 58, 59, 60, 61, 62, 63, 64, 65, 66, 67, 68, 69, 70, 71, 72, 73, 74, 75, 76, 77, 78, 79, 80, 81, 82, 83, 84] (by decide +kernel) (by decide +kernel)) (goodIn_sub (fun _ h => List.mem_cons_of_mem _ (List.mem_append_left _ (List.mem_append_right _ h))) (by decide +kernel))) (goodIn_sub (fun _ h => List.mem_cons_of_mem _ (List.mem_append_right _ h)) (by decide +kernel))
set_option maxRecDepth 20000 in
theorem gL_agree_X6_agree : GoodIn wsL_agree (wsV RL 27 RX6 yX6_agree wsX6_agree) := goodIn_app (goodIn_of _ (by decide +kernel)) ggL_agree_X6_agree
theorem dL_agree_0 : decode cL_agree 0 = .ok (.aload 4, 2) := by decide +kernel
theorem dL_agree_2 : decode cL_agree 2 = .ok (.iconst 0, 1) := by decide +kernel
theorem dL_agree_3 : decode cL_agree 3 = .ok (.aload_n 0, 1) := by decide +kernel
theorem dL_agree_4 : decode cL_agree 4 = .ok (.iload_n 1, 1) := by decide +kernel
theorem dL_agree_5 : decode cL_agree 5 = .ok (.iload_n 2, 1) := by decide +kernel
theorem dL_agree_6 : decode cL_agree 6 = .ok (.iload_n 3, 1) := by decide +kernel
theorem dL_agree_7 : decode cL_agree 7 = .ok (.invokevirtual 27, 3) := by decide +kernel
theorem dL_agree_10 : decode cL_agree 10 = .ok (.i2l, 1) := by decide +kernel
theorem dL_agree_11 : decode cL_agree 11 = .ok (.lastore, 1) := by decide +kernel
theorem dL_agree_12 : decode cL_agree 12 = .ok (.goto 11, 3) := by decide +kernel
theorem dL_agree_15 : decode cL_agree 15 = .ok (.astore 5, 2) := by decide +kernel
theorem dL_agree_17 : decode cL_agree 17 = .ok (.iconst 1, 1) := by decide +kernel
theorem dL_agree_18 : decode cL_agree 18 = .ok (.ireturn, 1) := by decide +kernel
theorem dL_agree_19 : decode cL_agree 19 = .ok (.astore 5, 2) := by decide +kernel
theorem dL_agree_21 : decode cL_agree 21 = .ok (.iconst 2, 1) := by decide +kernel
theorem dL_agree_22 : decode cL_agree 22 = .ok (.ireturn, 1) := by decide +kernel
theorem dL_agree_23 : decode cL_agree 23 = .ok (.iconst 0, 1) := by decide +kernel
theorem dL_agree_24 : decode cL_agree 24 = .ok (.ireturn, 1) := by decide +kernel
set_option maxRecDepth 20000 in
theorem ggL_edict_X6_edict : GoodIn wsL_edict wsX6_edict := goodIn_ca (goodIn_ca (goodIn_r _ [7, 8, 9, 10, 11, 12, 13, 14, 15, 16, 17, 18, 19, 20, 21, 22, 23, 24, 25, 26, 27, 28, 29, 30, 31, 32, 33, 34, 35, 36, 37, 38, 39, 40, 41, 42, 43, 44, 45, 46, 47, 48, 49, 50, 51, 52, 53, 54, 55, 56, 57, 58, 59, 60, 61, 62, 63, 64, 65, 66, 67, 68, 69, 70, 71, 72, 73, 74, 75, 76, 77, 78, 79, 80, 81, 82, 83, 84, 85, 86, 87, 88, 89, 90, 91, 92, 93, 94, 95, 96, 97, 98, 99, 100, 101, 102, 103, 104, 105, 106, 107, 108, 109, 110, 111, 112, 113, 114, 115, 116, 117, 118, 119, 120, 121, 122, 123, 124, 125, 126, 127, 128, 129, 130, 131, 132, 133, 134, 135, 136, 137, 138, 139, 140, 141, 142, 143, 144, 145, 146, 147, 148, 149, 150, 151, 152, 153, 154, 155, 156, 157, 158, 159, 160, 161, 162, 163, 164, 165, 166, 167, 168, 169, 170, 171, 172, 173, 174, 175, 176, 177, 178, 179, 180, 181, 182, 183, 184, 185, 186, 187] (by decide +kernel) (by decide +kernel)) (goodIn_sub (fun _ h => List.mem_cons_of_mem _ (List.mem_append_left _ (List.mem_append_right _ h))) (by decide +kernel))) (goodIn_sub (fun _ h => List.mem_cons_of_mem _ (List.mem_append_right _ h)) (by decide +kernel))
set_option maxRecDepth 20000 in
theorem gL_edict_X6_edict : GoodIn wsL_edict (wsV RL 33 RX6 yX6_edict wsX6_edict) := goodIn_app (goodIn_of _ (by decide +kernel)) ggL_edict_X6_edict
theorem dL_edict_0 : decode cL_edict 0 = .ok (.aload_n 1, 1) := by decide +kernel
theorem dL_edict_1 : decode cL_edict 1 = .ok (.iconst 0, 1) := by decide +kernel
theorem dL_edict_2 : decode cL_edict 2 = .ok (.aload_n 0, 1) := by decide +kernel
theorem dL_edict_3 : decode cL_edict 3 = .ok (.invokevirtual 33, 3) := by decide +kernel
theorem dL_edict_6 : decode cL_edict 6 = .ok (.i2l, 1) := by decide +kernel
theorem dL_edict_7 : decode cL_edict 7 = .ok (.lastore, 1) := by decide +kernel
theorem dL_edict_8 : decode cL_edict 8 = .ok (.goto 9, 3) := by decide +kernel
theorem dL_edict_11 : decode cL_edict 11 = .ok (.astore_n 2, 1) := by decide +kernel
theorem dL_edict_12 : decode cL_edict 12 = .ok (.iconst 1, 1) := by decide +kernel
theorem dL_edict_13 : decode cL_edict 13 = .ok (.ireturn, 1) := by decide +kernel
theorem dL_edict_14 : decode cL_edict 14 = .ok (.astore_n 2, 1) := by decide +kernel
theorem dL_edict_15 : decode cL_edict 15 = .ok (.iconst 2, 1) := by decide +kernel
theorem dL_edict_16 : decode cL_edict 16 = .ok (.ireturn, 1) := by decide +kernel
theorem dL_edict_17 : decode cL_edict 17 = .ok (.iconst 0, 1) := by decide +kernel
theorem dL_edict_18 : decode cL_edict 18 = .ok (.ireturn, 1) := by decide +kernel
set_option maxRecDepth 20000 in
theorem ggL_town_X6_town : GoodIn wsL_town wsX6_town := goodIn_ca (goodIn_ca (goodIn_r _ [7, 8, 9, 10, 11, 12, 13, 14, 6, 15, 16, 17, 18, 19, 20, 21, 22, 23, 24, 25, 26, 27, 28, 29, 30] (by decide +kernel) (by decide +kernel)) (goodIn_sub (fun _ h => List.mem_cons_of_mem _ (List.mem_append_left _ (List.mem_append_right _ h))) (by decide +kernel))) (goodIn_sub (fun _ h => List.mem_cons_of_mem _ (List.mem_append_right _ h)) (by decide +kernel))
set_option maxRecDepth 20000 in
theorem gL_town_X6_town : GoodIn wsL_town (wsV RL 37 RX6 yX6_town wsX6_town) := goodIn_app (goodIn_of _ (by decide +kernel)) ggL_town_X6_town
theorem dL_town_0 : decode cL_town 0 = .ok (.aload_n 2, 1) := by decide +kernel
theorem dL_town_1 : decode cL_town 1 = .ok (.iconst 0, 1) := by decide +kernel
theorem dL_town_2 : decode cL_town 2 = .ok (.aload_n 0, 1) := by decide +kernel
theorem dL_town_3 : decode cL_town 3 = .ok (.iload_n 1, 1) := by decide +kernel
theorem dL_town_4 : decode cL_town 4 = .ok (.invokevirtual 37, 3) := by decide +kernel
theorem dL_town_7 : decode cL_town 7 = .ok (.i2l, 1) := by decide +kernel
theorem dL_town_8 : decode cL_town 8 = .ok (.lastore, 1) := by decide +kernel
theorem dL_town_9 : decode cL_town 9 = .ok (.goto 9, 3) := by decide +kernel
theorem dL_town_12 : decode cL_town 12 = .ok (.astore_n 3, 1) := by decide +kernel
theorem dL_town_13 : decode cL_town 13 = .ok (.iconst 1, 1) := by decide +kernel
theorem dL_town_14 : decode cL_town 14 = .ok (.ireturn, 1) := by decide +kernel
theorem dL_town_15 : decode cL_town 15 = .ok (.astore_n 3, 1) := by decide +kernel
theorem dL_town_16 : decode cL_town 16 = .ok (.iconst 2, 1) := by decide +kernel
theorem dL_town_17 : decode cL_town 17 = .ok (.ireturn, 1) := by decide +kernel
theorem dL_town_18 : decode cL_town 18 = .ok (.iconst 0, 1) := by decide +kernel
theorem dL_town_19 : decode cL_town 19 = .ok (.ireturn, 1) := by decide +kernel
set_option maxRecDepth 20000 in
theorem ggL_goods_X6_goods : GoodIn wsL_goods wsX6_goods := goodIn_ca (goodIn_ca (goodIn_r _ [7, 8, 9, 10, 11, 12, 6, 13, 14, 15, 16, 17, 18, 19, 20, 21, 22, 23, 24, 25, 26, 27, 28, 29, 30, 31, 32, 33, 34, 35, 36, 37, 38, 39, 40, 41, 42, 43, 44, 45, 46, 47, 48, 49, 50, 51, 52, 53, 54, 55, 56, 57] (by decide +kernel) (by decide +kernel)) (goodIn_sub (fun _ h => List.mem_cons_of_mem _ (List.mem_append_left _ (List.mem_append_right _ h))) (by decide +kernel))) (goodIn_sub (fun _ h => List.mem_cons_of_mem _ (List.mem_append_right _ h)) (by decide +kernel))
set_option maxRecDepth 20000 in
theorem gL_goods_X6_goods : GoodIn wsL_goods (wsV RL 41 RX6 yX6_goods wsX6_goods) := goodIn_app (goodIn_of _ (by decide +kernel)) ggL_goods_X6_goods
theorem dL_goods_0 : decode cL_goods 0 = .ok (.aload_n 0, 1) := by decide +kernel
theorem dL_goods_1 : decode cL_goods 1 = .ok (.iload_n 1, 1) := by decide +kernel
theorem dL_goods_2 : decode cL_goods 2 = .ok (.iload_n 2, 1) := by decide +kernel
theorem dL_goods_3 : decode cL_goods 3 = .ok (.iload_n 3, 1) := by decide +kernel
theorem dL_goods_4 : decode cL_goods 4 = .ok (.iload 4, 2) := by decide +kernel
theorem dL_goods_6 : decode cL_goods 6 = .ok (.iload 5, 2) := by decide +kernel
theorem dL_goods_8 : decode cL_goods 8 = .ok (.iload 6, 2) := by decide +kernel
theorem dL_goods_10 : decode cL_goods 10 = .ok (.invokevirtual 41, 3) := by decide +kernel
theorem dL_goods_13 : decode cL_goods 13 = .ok (.goto 11, 3) := by decide +kernel
theorem dL_goods_16 : decode cL_goods 16 = .ok (.astore 7, 2) := by decide +kernel
theorem dL_goods_18 : decode cL_goods 18 = .ok (.iconst 1, 1) := by decide +kernel
theorem dL_goods_19 : decode cL_goods 19 = .ok (.ireturn, 1) := by decide +kernel
theorem dL_goods_20 : decode cL_goods 20 = .ok (.astore 7, 2) := by decide +kernel
theorem dL_goods_22 : decode cL_goods 22 = .ok (.iconst 2, 1) := by decide +kernel
theorem dL_goods_23 : decode cL_goods 23 = .ok (.ireturn, 1) := by decide +kernel
theorem dL_goods_24 : decode cL_goods 24 = .ok (.iconst 0, 1) := by decide +kernel
theorem dL_goods_25 : decode cL_goods 25 = .ok (.ireturn, 1) := by decide +kernel
set_option maxRecDepth 20000 in
theorem ggL_spoil_X6_spoil : GoodIn wsL_spoil wsX6_spoil := goodIn_ca (goodIn_ca (goodIn_r _ [7, 8, 9, 10, 6, 11, 12, 13, 14, 15, 16, 17, 18, 19, 20, 21, 22, 23, 24, 25, 26, 27, 28, 29] (by decide +kernel) (by decide +kernel)) (goodIn_sub (fun _ h => List.mem_cons_of_mem _ (List.mem_append_left _ (List.mem_append_right _ h))) (by decide +kernel))) (goodIn_sub (fun _ h => List.mem_cons_of_mem _ (List.mem_append_right _ h)) (by decide +kernel))
set_option maxRecDepth 20000 in
theorem gL_spoil_X6_spoil : GoodIn wsL_spoil (wsV RL 45 RX6 yX6_spoil wsX6_spoil) := goodIn_app (goodIn_of _ (by decide +kernel)) ggL_spoil_X6_spoil
theorem dL_spoil_0 : decode cL_spoil 0 = .ok (.aload_n 0, 1) := by decide +kernel
theorem dL_spoil_1 : decode cL_spoil 1 = .ok (.iload_n 1, 1) := by decide +kernel
theorem dL_spoil_2 : decode cL_spoil 2 = .ok (.iload_n 2, 1) := by decide +kernel
theorem dL_spoil_3 : decode cL_spoil 3 = .ok (.invokevirtual 45, 3) := by decide +kernel
theorem dL_spoil_6 : decode cL_spoil 6 = .ok (.goto 9, 3) := by decide +kernel
theorem dL_spoil_9 : decode cL_spoil 9 = .ok (.astore_n 3, 1) := by decide +kernel
theorem dL_spoil_10 : decode cL_spoil 10 = .ok (.iconst 1, 1) := by decide +kernel
theorem dL_spoil_11 : decode cL_spoil 11 = .ok (.ireturn, 1) := by decide +kernel
theorem dL_spoil_12 : decode cL_spoil 12 = .ok (.astore_n 3, 1) := by decide +kernel
theorem dL_spoil_13 : decode cL_spoil 13 = .ok (.iconst 2, 1) := by decide +kernel
theorem dL_spoil_14 : decode cL_spoil 14 = .ok (.ireturn, 1) := by decide +kernel
theorem dL_spoil_15 : decode cL_spoil 15 = .ok (.iconst 0, 1) := by decide +kernel
theorem dL_spoil_16 : decode cL_spoil 16 = .ok (.ireturn, 1) := by decide +kernel
set_option maxRecDepth 20000 in
theorem ggL_carry_X6_carry : GoodIn wsL_carry wsX6_carry := goodIn_ca (goodIn_r _ [6, 7, 8, 9, 5, 10, 11, 12, 13, 14, 15, 16, 17, 18, 19, 20, 21, 22, 23] (by decide +kernel) (by decide +kernel)) (goodIn_sub (fun _ h => List.mem_cons_of_mem _ (List.mem_append_right _ h)) (by decide +kernel))
set_option maxRecDepth 20000 in
theorem gL_carry_X6_carry : GoodIn wsL_carry (wsV RL 49 RX6 yX6_carry wsX6_carry) := goodIn_app (goodIn_of _ (by decide +kernel)) ggL_carry_X6_carry
theorem dL_carry_0 : decode cL_carry 0 = .ok (.aload_n 0, 1) := by decide +kernel
theorem dL_carry_1 : decode cL_carry 1 = .ok (.iload_n 1, 1) := by decide +kernel
theorem dL_carry_2 : decode cL_carry 2 = .ok (.invokevirtual 49, 3) := by decide +kernel
theorem dL_carry_5 : decode cL_carry 5 = .ok (.goto 6, 3) := by decide +kernel
theorem dL_carry_8 : decode cL_carry 8 = .ok (.astore_n 2, 1) := by decide +kernel
theorem dL_carry_9 : decode cL_carry 9 = .ok (.iconst 1, 1) := by decide +kernel
theorem dL_carry_10 : decode cL_carry 10 = .ok (.ireturn, 1) := by decide +kernel
theorem dL_carry_11 : decode cL_carry 11 = .ok (.iconst 0, 1) := by decide +kernel
theorem dL_carry_12 : decode cL_carry 12 = .ok (.ireturn, 1) := by decide +kernel
set_option maxRecDepth 20000 in
theorem ggL_weeks_X6_weeks : GoodIn wsL_weeks wsX6_weeks := goodIn_ca (goodIn_r _ [6, 7, 8, 9, 5, 10, 11, 12, 13, 14, 15, 16, 17, 18, 19, 20, 21, 22, 23, 24, 25, 26, 27, 28, 29, 30, 31, 32, 33, 34, 35, 36, 37, 38, 39, 40, 41, 42, 43, 44, 45, 46, 47, 48, 49, 50, 51, 52, 53, 54, 55, 56, 57, 58, 59, 60, 61, 62, 63, 64, 65, 66, 67, 68, 69, 70, 71, 72, 73, 74, 75, 76, 77, 78, 79, 80, 81, 82, 83, 84, 85, 86, 87, 88, 89, 90, 91, 92, 93, 94, 95, 96, 97, 98, 99, 100, 101, 102, 103, 104, 105, 106, 107, 108, 109, 110, 111, 112, 113, 114, 115, 116, 117, 118, 119, 120, 121, 122, 123, 124, 125, 126, 127, 128, 129, 130, 131, 132, 133, 134, 135, 136, 137, 138, 139, 140, 141, 142, 143, 144, 145, 146, 147, 148, 149, 150, 151, 152, 153, 154, 155, 156, 157, 158, 159, 160, 161, 162, 163, 164, 165, 166, 167, 168, 169, 170, 171, 172, 173, 174, 175, 176, 177, 178, 179, 180, 181, 182, 183, 184, 185, 186, 187, 188, 189, 190, 191, 192, 193, 194, 195] (by decide +kernel) (by decide +kernel)) (goodIn_sub (fun _ h => List.mem_cons_of_mem _ (List.mem_append_right _ h)) (by decide +kernel))
set_option maxRecDepth 20000 in
theorem gL_weeks_X6_weeks : GoodIn wsL_weeks (wsV RL 53 RX6 yX6_weeks wsX6_weeks) := goodIn_app (goodIn_of _ (by decide +kernel)) ggL_weeks_X6_weeks
theorem dL_weeks_0 : decode cL_weeks 0 = .ok (.aload_n 2, 1) := by decide +kernel
theorem dL_weeks_1 : decode cL_weeks 1 = .ok (.iconst 0, 1) := by decide +kernel
theorem dL_weeks_2 : decode cL_weeks 2 = .ok (.aload_n 0, 1) := by decide +kernel
theorem dL_weeks_3 : decode cL_weeks 3 = .ok (.iload_n 1, 1) := by decide +kernel
theorem dL_weeks_4 : decode cL_weeks 4 = .ok (.invokevirtual 53, 3) := by decide +kernel
theorem dL_weeks_7 : decode cL_weeks 7 = .ok (.i2l, 1) := by decide +kernel
theorem dL_weeks_8 : decode cL_weeks 8 = .ok (.lastore, 1) := by decide +kernel
theorem dL_weeks_9 : decode cL_weeks 9 = .ok (.goto 6, 3) := by decide +kernel
theorem dL_weeks_12 : decode cL_weeks 12 = .ok (.astore_n 3, 1) := by decide +kernel
theorem dL_weeks_13 : decode cL_weeks 13 = .ok (.iconst 1, 1) := by decide +kernel
theorem dL_weeks_14 : decode cL_weeks 14 = .ok (.ireturn, 1) := by decide +kernel
theorem dL_weeks_15 : decode cL_weeks 15 = .ok (.iconst 0, 1) := by decide +kernel
theorem dL_weeks_16 : decode cL_weeks 16 = .ok (.ireturn, 1) := by decide +kernel
set_option maxRecDepth 20000 in
theorem ggL_days_X6_days : GoodIn wsL_days wsX6_days := goodIn_ca (goodIn_r _ [6, 7, 8, 9, 10, 11, 12, 13, 5, 14, 15, 16, 17, 18, 19, 20, 21, 22, 23, 24, 25, 26, 27] (by decide +kernel) (by decide +kernel)) (goodIn_sub (fun _ h => List.mem_cons_of_mem _ (List.mem_append_right _ h)) (by decide +kernel))
set_option maxRecDepth 20000 in
theorem gL_days_X6_days : GoodIn wsL_days (wsV RL 56 RX6 yX6_days wsX6_days) := goodIn_app (goodIn_of _ (by decide +kernel)) ggL_days_X6_days
theorem dL_days_0 : decode cL_days 0 = .ok (.aload_n 2, 1) := by decide +kernel
theorem dL_days_1 : decode cL_days 1 = .ok (.iconst 0, 1) := by decide +kernel
theorem dL_days_2 : decode cL_days 2 = .ok (.aload_n 0, 1) := by decide +kernel
theorem dL_days_3 : decode cL_days 3 = .ok (.iload_n 1, 1) := by decide +kernel
theorem dL_days_4 : decode cL_days 4 = .ok (.invokevirtual 56, 3) := by decide +kernel
theorem dL_days_7 : decode cL_days 7 = .ok (.i2l, 1) := by decide +kernel
theorem dL_days_8 : decode cL_days 8 = .ok (.lastore, 1) := by decide +kernel
theorem dL_days_9 : decode cL_days 9 = .ok (.goto 6, 3) := by decide +kernel
theorem dL_days_12 : decode cL_days 12 = .ok (.astore_n 3, 1) := by decide +kernel
theorem dL_days_13 : decode cL_days 13 = .ok (.iconst 1, 1) := by decide +kernel
theorem dL_days_14 : decode cL_days 14 = .ok (.ireturn, 1) := by decide +kernel
theorem dL_days_15 : decode cL_days 15 = .ok (.iconst 0, 1) := by decide +kernel
theorem dL_days_16 : decode cL_days 16 = .ok (.ireturn, 1) := by decide +kernel
set_option maxRecDepth 20000 in
theorem ggL_force_X6_force : GoodIn wsL_force wsX6_force := goodIn_ca (goodIn_r _ [6, 7, 8, 9, 5, 10, 11, 12, 13, 14, 15, 16, 17, 18, 19, 20, 21, 22, 23, 24, 25, 26, 27, 28, 29, 30, 31, 32, 33, 34, 35, 36, 37, 38, 39, 40, 41, 42, 43, 44, 45, 46, 47, 48, 49] (by decide +kernel) (by decide +kernel)) (goodIn_sub (fun _ h => List.mem_cons_of_mem _ (List.mem_append_right _ h)) (by decide +kernel))
set_option maxRecDepth 20000 in
theorem gL_force_X6_force : GoodIn wsL_force (wsV RL 59 RX6 yX6_force wsX6_force) := goodIn_app (goodIn_of _ (by decide +kernel)) ggL_force_X6_force
theorem dL_force_0 : decode cL_force 0 = .ok (.aload_n 3, 1) := by decide +kernel
theorem dL_force_1 : decode cL_force 1 = .ok (.iconst 0, 1) := by decide +kernel
theorem dL_force_2 : decode cL_force 2 = .ok (.aload_n 0, 1) := by decide +kernel
theorem dL_force_3 : decode cL_force 3 = .ok (.iload_n 1, 1) := by decide +kernel
theorem dL_force_4 : decode cL_force 4 = .ok (.iload_n 2, 1) := by decide +kernel
theorem dL_force_5 : decode cL_force 5 = .ok (.invokevirtual 59, 3) := by decide +kernel
theorem dL_force_8 : decode cL_force 8 = .ok (.i2l, 1) := by decide +kernel
theorem dL_force_9 : decode cL_force 9 = .ok (.lastore, 1) := by decide +kernel
theorem dL_force_10 : decode cL_force 10 = .ok (.goto 7, 3) := by decide +kernel
theorem dL_force_13 : decode cL_force 13 = .ok (.astore 4, 2) := by decide +kernel
theorem dL_force_15 : decode cL_force 15 = .ok (.iconst 1, 1) := by decide +kernel
theorem dL_force_16 : decode cL_force 16 = .ok (.ireturn, 1) := by decide +kernel
theorem dL_force_17 : decode cL_force 17 = .ok (.iconst 0, 1) := by decide +kernel
theorem dL_force_18 : decode cL_force 18 = .ok (.ireturn, 1) := by decide +kernel
set_option maxRecDepth 20000 in
theorem ggL_cap_X6_cap : GoodIn wsL_cap wsX6_cap := goodIn_ca (goodIn_r _ [6, 7, 8, 9, 5, 10, 11, 12, 13, 14, 15, 16, 17, 18, 19, 20, 21, 22, 23, 24, 25, 26, 27, 28, 29, 30, 31, 32, 33, 34, 35, 36, 37, 38, 39, 40, 41, 42, 43, 44, 45, 46, 47, 48, 49, 50, 51, 52, 53, 54, 55, 56, 57, 58, 59, 60, 61, 62, 63, 64, 65, 66, 67, 68, 69, 70, 71, 72, 73, 74, 75, 76, 77, 78, 79, 80, 81, 82, 83, 84, 85, 86, 87, 88, 89, 90, 91, 92, 93, 94, 95, 96, 97, 98, 99, 100, 101, 102, 103, 104, 105, 106, 107, 108, 109, 110, 111, 112, 113, 114, 115, 116, 117, 118, 119, 120, 121, 122, 123, 124, 125, 126] (by decide +kernel) (by decide +kernel)) (goodIn_sub (fun _ h => List.mem_cons_of_mem _ (List.mem_append_right _ h)) (by decide +kernel))
set_option maxRecDepth 20000 in
theorem gL_cap_X6_cap : GoodIn wsL_cap (wsV RL 63 RX6 yX6_cap wsX6_cap) := goodIn_app (goodIn_of _ (by decide +kernel)) ggL_cap_X6_cap
theorem dL_cap_0 : decode cL_cap 0 = .ok (.aload 5, 2) := by decide +kernel
theorem dL_cap_2 : decode cL_cap 2 = .ok (.iconst 0, 1) := by decide +kernel
theorem dL_cap_3 : decode cL_cap 3 = .ok (.aload_n 0, 1) := by decide +kernel
theorem dL_cap_4 : decode cL_cap 4 = .ok (.iload_n 1, 1) := by decide +kernel
theorem dL_cap_5 : decode cL_cap 5 = .ok (.iload_n 2, 1) := by decide +kernel
theorem dL_cap_6 : decode cL_cap 6 = .ok (.iload_n 3, 1) := by decide +kernel
theorem dL_cap_7 : decode cL_cap 7 = .ok (.iload 4, 2) := by decide +kernel
theorem dL_cap_9 : decode cL_cap 9 = .ok (.invokevirtual 63, 3) := by decide +kernel
theorem dL_cap_12 : decode cL_cap 12 = .ok (.i2l, 1) := by decide +kernel
theorem dL_cap_13 : decode cL_cap 13 = .ok (.lastore, 1) := by decide +kernel
theorem dL_cap_14 : decode cL_cap 14 = .ok (.goto 7, 3) := by decide +kernel
theorem dL_cap_17 : decode cL_cap 17 = .ok (.astore 6, 2) := by decide +kernel
theorem dL_cap_19 : decode cL_cap 19 = .ok (.iconst 1, 1) := by decide +kernel
theorem dL_cap_20 : decode cL_cap 20 = .ok (.ireturn, 1) := by decide +kernel
theorem dL_cap_21 : decode cL_cap 21 = .ok (.iconst 0, 1) := by decide +kernel
theorem dL_cap_22 : decode cL_cap 22 = .ok (.ireturn, 1) := by decide +kernel
set_option maxRecDepth 20000 in
theorem ggL_judge_X6_judge : GoodIn wsL_judge wsX6_judge := goodIn_ca (goodIn_ca (goodIn_r _ [7, 8, 9, 10, 11, 12, 6, 13, 14, 15, 16, 17, 18, 19, 20, 21, 22, 23, 24, 25, 26, 27, 28, 29, 30, 31, 32, 33, 34, 35, 36, 37, 38, 39, 40, 41, 42, 43, 44, 45, 46, 47, 48, 49, 50, 51, 52, 53, 54, 55, 56, 57, 58, 59, 60, 61, 62, 63, 64, 65, 66, 67, 68, 69, 70, 71, 72, 73, 74, 75, 76, 77, 78, 79, 80, 81, 82, 83, 84, 85, 86, 87, 88, 89, 90, 91, 92, 93, 94, 95, 96, 97, 98, 99, 100, 101, 102, 103, 104, 105, 106, 107, 108, 109, 110, 111, 112, 113, 114, 115, 116, 117, 118, 119, 120, 121, 122, 123, 124, 125, 126, 127, 128, 129] (by decide +kernel) (by decide +kernel)) (goodIn_sub (fun _ h => List.mem_cons_of_mem _ (List.mem_append_left _ (List.mem_append_right _ h))) (by decide +kernel))) (goodIn_sub (fun _ h => List.mem_cons_of_mem _ (List.mem_append_right _ h)) (by decide +kernel))
set_option maxRecDepth 20000 in
theorem gL_judge_X6_judge : GoodIn wsL_judge (wsV RL 67 RX6 yX6_judge wsX6_judge) := goodIn_app (goodIn_of _ (by decide +kernel)) ggL_judge_X6_judge
theorem dL_judge_0 : decode cL_judge 0 = .ok (.aload 6, 2) := by decide +kernel
theorem dL_judge_2 : decode cL_judge 2 = .ok (.iconst 0, 1) := by decide +kernel
theorem dL_judge_3 : decode cL_judge 3 = .ok (.aload_n 0, 1) := by decide +kernel
theorem dL_judge_4 : decode cL_judge 4 = .ok (.iload_n 1, 1) := by decide +kernel
theorem dL_judge_5 : decode cL_judge 5 = .ok (.iload_n 2, 1) := by decide +kernel
theorem dL_judge_6 : decode cL_judge 6 = .ok (.iload_n 3, 1) := by decide +kernel
theorem dL_judge_7 : decode cL_judge 7 = .ok (.iload 4, 2) := by decide +kernel
theorem dL_judge_9 : decode cL_judge 9 = .ok (.iload 5, 2) := by decide +kernel
theorem dL_judge_11 : decode cL_judge 11 = .ok (.invokevirtual 67, 3) := by decide +kernel
theorem dL_judge_14 : decode cL_judge 14 = .ok (.i2l, 1) := by decide +kernel
theorem dL_judge_15 : decode cL_judge 15 = .ok (.lastore, 1) := by decide +kernel
theorem dL_judge_16 : decode cL_judge 16 = .ok (.goto 11, 3) := by decide +kernel
theorem dL_judge_19 : decode cL_judge 19 = .ok (.astore 7, 2) := by decide +kernel
theorem dL_judge_21 : decode cL_judge 21 = .ok (.iconst 1, 1) := by decide +kernel
theorem dL_judge_22 : decode cL_judge 22 = .ok (.ireturn, 1) := by decide +kernel
theorem dL_judge_23 : decode cL_judge 23 = .ok (.astore 7, 2) := by decide +kernel
theorem dL_judge_25 : decode cL_judge 25 = .ok (.iconst 2, 1) := by decide +kernel
theorem dL_judge_26 : decode cL_judge 26 = .ok (.ireturn, 1) := by decide +kernel
theorem dL_judge_27 : decode cL_judge 27 = .ok (.iconst 0, 1) := by decide +kernel
theorem dL_judge_28 : decode cL_judge 28 = .ok (.ireturn, 1) := by decide +kernel
set_option maxRecDepth 20000 in
theorem ggL_look_X6_look : GoodIn wsL_look wsX6_look := goodIn_ca (goodIn_ca (goodIn_r _ [7, 8, 9, 10, 11, 12, 13, 14, 15, 16, 17, 18, 19, 6, 20, 21, 22, 23, 24, 25, 26, 27, 28, 29, 30, 31, 32, 33, 34, 35, 36, 37, 38, 39, 40, 41, 42, 43, 44, 45, 46, 47, 48, 49, 50, 51, 52, 53, 54, 55, 56, 57, 58, 59, 60, 61, 62, 63, 64, 65, 66, 67, 68, 69, 70, 71, 72, 73, 74, 75, 76, 77, 78, 79, 80, 81, 82, 83, 84, 85, 86, 87, 88, 89, 90, 91, 92, 93, 94, 95, 96, 97, 98, 99, 100, 101, 102, 103, 104, 105, 106, 107, 108, 109, 110, 111, 112, 113, 114, 115, 116, 117, 118, 119, 120, 121, 122, 123, 124, 125, 126, 127, 128, 129, 130, 131, 132, 133, 134, 135, 136, 137, 138, 139, 140, 141, 142, 143, 144, 145, 146, 147, 148, 149, 150, 151, 152, 153, 154, 155, 156, 157, 158, 159, 160, 161] (by decide +kernel) (by decide +kernel)) (goodIn_sub (fun _ h => List.mem_cons_of_mem _ (List.mem_append_left _ (List.mem_append_right _ h))) (by decide +kernel))) (goodIn_sub (fun _ h => List.mem_cons_of_mem _ (List.mem_append_right _ h)) (by decide +kernel))
set_option maxRecDepth 20000 in
theorem gL_look_X6_look : GoodIn wsL_look (wsV RL 71 RX6 yX6_look wsX6_look) := goodIn_app (goodIn_of _ (by decide +kernel)) ggL_look_X6_look
theorem dL_look_0 : decode cL_look 0 = .ok (.aload 4, 2) := by decide +kernel
theorem dL_look_2 : decode cL_look 2 = .ok (.iconst 0, 1) := by decide +kernel
theorem dL_look_3 : decode cL_look 3 = .ok (.aload_n 0, 1) := by decide +kernel
theorem dL_look_4 : decode cL_look 4 = .ok (.iload_n 1, 1) := by decide +kernel
theorem dL_look_5 : decode cL_look 5 = .ok (.iload_n 2, 1) := by decide +kernel
theorem dL_look_6 : decode cL_look 6 = .ok (.iload_n 3, 1) := by decide +kernel
theorem dL_look_7 : decode cL_look 7 = .ok (.invokevirtual 71, 3) := by decide +kernel
theorem dL_look_10 : decode cL_look 10 = .ok (.i2l, 1) := by decide +kernel
theorem dL_look_11 : decode cL_look 11 = .ok (.lastore, 1) := by decide +kernel
theorem dL_look_12 : decode cL_look 12 = .ok (.goto 11, 3) := by decide +kernel
theorem dL_look_15 : decode cL_look 15 = .ok (.astore 5, 2) := by decide +kernel
theorem dL_look_17 : decode cL_look 17 = .ok (.iconst 1, 1) := by decide +kernel
theorem dL_look_18 : decode cL_look 18 = .ok (.ireturn, 1) := by decide +kernel
theorem dL_look_19 : decode cL_look 19 = .ok (.astore 5, 2) := by decide +kernel
theorem dL_look_21 : decode cL_look 21 = .ok (.iconst 2, 1) := by decide +kernel
theorem dL_look_22 : decode cL_look 22 = .ok (.ireturn, 1) := by decide +kernel
theorem dL_look_23 : decode cL_look 23 = .ok (.iconst 0, 1) := by decide +kernel
theorem dL_look_24 : decode cL_look 24 = .ok (.ireturn, 1) := by decide +kernel
set_option maxRecDepth 20000 in
theorem ggL_buys_X6_buys : GoodIn wsL_buys wsX6_buys := goodIn_ca (goodIn_ca (goodIn_r _ [7, 8, 9, 10, 11, 12, 13, 14, 15, 16, 17, 18, 6, 19, 20, 21, 22, 23, 24, 25, 26, 27, 28, 29, 30, 31, 32, 33, 34, 35, 36, 37, 38, 39, 40, 41, 42, 43, 44, 45, 46, 47, 48, 49, 50, 51, 52, 53, 54, 55, 56, 57, 58, 59, 60, 61, 62, 63, 64, 65, 66, 67, 68, 69, 70, 71, 72, 73, 74, 75, 76, 77, 78, 79, 80, 81, 82, 83, 84, 85, 86, 87, 88, 89, 90, 91, 92, 93, 94, 95, 96, 97, 98, 99, 100, 101, 102, 103, 104, 105, 106, 107, 108, 109, 110, 111, 112, 113, 114, 115, 116, 117, 118, 119, 120, 121, 122, 123, 124, 125, 126, 127, 128, 129, 130, 131, 132, 133, 134, 135, 136, 137, 138, 139, 140, 141, 142, 143, 144, 145, 146, 147, 148, 149, 150, 151, 152, 153, 154, 155, 156] (by decide +kernel) (by decide +kernel)) (goodIn_sub (fun _ h => List.mem_cons_of_mem _ (List.mem_append_left _ (List.mem_append_right _ h))) (by decide +kernel))) (goodIn_sub (fun _ h => List.mem_cons_of_mem _ (List.mem_append_right _ h)) (by decide +kernel))
set_option maxRecDepth 20000 in
theorem gL_buys_X6_buys : GoodIn wsL_buys (wsV RL 74 RX6 yX6_buys wsX6_buys) := goodIn_app (goodIn_of _ (by decide +kernel)) ggL_buys_X6_buys
theorem dL_buys_0 : decode cL_buys 0 = .ok (.aload 4, 2) := by decide +kernel
theorem dL_buys_2 : decode cL_buys 2 = .ok (.iconst 0, 1) := by decide +kernel
theorem dL_buys_3 : decode cL_buys 3 = .ok (.aload_n 0, 1) := by decide +kernel
theorem dL_buys_4 : decode cL_buys 4 = .ok (.iload_n 1, 1) := by decide +kernel
theorem dL_buys_5 : decode cL_buys 5 = .ok (.iload_n 2, 1) := by decide +kernel
theorem dL_buys_6 : decode cL_buys 6 = .ok (.iload_n 3, 1) := by decide +kernel
theorem dL_buys_7 : decode cL_buys 7 = .ok (.invokevirtual 74, 3) := by decide +kernel
theorem dL_buys_10 : decode cL_buys 10 = .ok (.i2l, 1) := by decide +kernel
theorem dL_buys_11 : decode cL_buys 11 = .ok (.lastore, 1) := by decide +kernel
theorem dL_buys_12 : decode cL_buys 12 = .ok (.goto 11, 3) := by decide +kernel
theorem dL_buys_15 : decode cL_buys 15 = .ok (.astore 5, 2) := by decide +kernel
theorem dL_buys_17 : decode cL_buys 17 = .ok (.iconst 1, 1) := by decide +kernel
theorem dL_buys_18 : decode cL_buys 18 = .ok (.ireturn, 1) := by decide +kernel
theorem dL_buys_19 : decode cL_buys 19 = .ok (.astore 5, 2) := by decide +kernel
theorem dL_buys_21 : decode cL_buys 21 = .ok (.iconst 2, 1) := by decide +kernel
theorem dL_buys_22 : decode cL_buys 22 = .ok (.ireturn, 1) := by decide +kernel
theorem dL_buys_23 : decode cL_buys 23 = .ok (.iconst 0, 1) := by decide +kernel
theorem dL_buys_24 : decode cL_buys 24 = .ok (.ireturn, 1) := by decide +kernel
set_option maxRecDepth 20000 in
theorem ggL_law_X6_init : GoodIn wsL_law wsX6_init := goodIn_r _ [9, 10, 11, 12, 13, 14, 15, 16, 17, 18, 19, 20, 21, 22, 23, 24, 25, 26, 27, 28, 29, 30, 31, 32, 33, 34, 35, 36, 37, 38, 39, 40, 41, 42, 43, 44, 45, 46, 47, 48, 49, 50, 51, 52, 53, 54, 55, 56, 57, 58, 59, 60, 61, 62, 63, 64, 65, 66, 67, 68, 69, 70, 71, 72, 73, 74, 75, 76, 77, 78, 79, 80, 81, 82, 83, 84, 85, 86, 87, 88, 89, 90, 91, 92, 93, 94, 95, 96, 97, 808, 809, 810, 811, 757, 758, 759, 760, 761, 762, 763, 764, 765, 766, 767, 812, 813, 814, 815, 816, 817, 818, 819, 820, 821, 822, 823, 824, 825, 826, 827, 828, 829, 830, 831, 832, 833, 834, 835, 836, 837, 838, 839, 840, 841] (by decide +kernel) (by decide +kernel)
set_option maxRecDepth 20000 in
theorem gL_law_X6_init : GoodIn wsL_law (wsX6_init) := ggL_law_X6_init
set_option maxRecDepth 20000 in
theorem ggL_law_X7_init : GoodIn wsL_law wsX7_init := goodIn_r _ [100, 101, 11, 12, 29, 102, 103, 104, 105, 106, 107, 108, 109, 110, 111, 112, 113, 43, 114, 115, 116, 117, 118, 119, 120, 121, 122, 123, 124, 125, 126, 127, 128, 129, 130, 768, 769, 770, 771, 772, 773, 774, 775, 776, 777, 778, 779, 780, 781, 782, 783, 784, 785, 786, 787, 788, 789, 790, 791, 792, 793, 794, 795, 796, 797, 798, 799, 800, 801, 802, 803, 804, 805, 806, 807] (by decide +kernel) (by decide +kernel)
set_option maxRecDepth 20000 in
theorem gL_law_X7_init : GoodIn wsL_law (wsX7_init) := ggL_law_X7_init
set_option maxRecDepth 20000 in
theorem ggL_law_X6_feed : GoodIn wsL_law wsX6_feed := goodIn_r _ [134, 16, 135, 136, 137, 138, 15, 139, 45, 44, 757, 758, 759, 760, 761, 762, 763, 764, 765, 766, 767, 808, 809, 810, 811] (by decide +kernel) (by decide +kernel)
set_option maxRecDepth 20000 in
theorem gL_law_X6_feed : GoodIn wsL_law (wsV RL 81 RX6 yX6_feed wsX6_feed) := goodIn_app (goodIn_of _ (by decide +kernel)) ggL_law_X6_feed
set_option maxRecDepth 20000 in
theorem ggL_law_X7_feed : GoodIn wsL_law wsX7_feed := goodIn_r _ [143, 144, 145, 116, 114, 768, 769, 770, 771, 772, 773, 774, 775, 776, 777, 778, 779, 780, 781, 782, 783, 784, 785, 786, 787, 788, 789, 790, 791, 792, 793, 794, 795, 796, 797, 798, 799, 800, 801, 802, 803, 804, 805, 806, 807] (by decide +kernel) (by decide +kernel)
set_option maxRecDepth 20000 in
theorem gL_law_X7_feed : GoodIn wsL_law (wsV RL 84 RX7 yX7_feed wsX7_feed) := goodIn_app (goodIn_of _ (by decide +kernel)) ggL_law_X7_feed
set_option maxRecDepth 20000 in
theorem ggL_law_X6_end : GoodIn wsL_law wsX6_end := goodIn_r _ [149, 16, 135, 757, 758, 759, 760, 761, 762, 763, 764, 765, 766, 767, 808, 809, 810, 811] (by decide +kernel) (by decide +kernel)
set_option maxRecDepth 20000 in
theorem gL_law_X6_end : GoodIn wsL_law (wsV RL 85 RX6 yX6_end wsX6_end) := goodIn_app (goodIn_of _ (by decide +kernel)) ggL_law_X6_end
set_option maxRecDepth 20000 in
theorem ggL_law_X7_end : GoodIn wsL_law wsX7_end := goodIn_r _ [153, 144, 145, 768, 769, 770, 771, 772, 773, 774, 775, 776, 777, 778, 779, 780, 781, 782, 783, 784, 785, 786, 787, 788, 789, 790, 791, 792, 793, 794, 795, 796, 797, 798, 799, 800, 801, 802, 803, 804, 805, 806, 807] (by decide +kernel) (by decide +kernel)
set_option maxRecDepth 20000 in
theorem gL_law_X7_end : GoodIn wsL_law (wsV RL 88 RX7 yX7_end wsX7_end) := goodIn_app (goodIn_of _ (by decide +kernel)) ggL_law_X7_end
set_option maxRecDepth 20000 in
theorem ggL_law_L_stone : GoodIn wsL_law wsL_stone := goodIn_ca (goodIn_ca (goodIn_ca (goodIn_r _ [157, 158, 159, 160, 161, 162, 163, 2, 164, 165, 166, 20, 167, 34, 168, 169, 170, 171, 172, 173, 174, 175, 176, 177, 178, 179, 180, 19, 181, 58, 52, 54, 55, 53, 757, 758, 759, 760, 761, 762, 763, 764, 765, 766, 767, 812, 813, 814, 815, 816, 817, 818, 819, 820] (by decide +kernel) (by decide +kernel)) (goodIn_sub (fun _ h => List.mem_append_left _ (List.mem_append_left _ (List.mem_append_left _ (List.mem_append_right _ h)))) (by decide +kernel))) (goodIn_sub (fun _ h => List.mem_append_left _ (List.mem_append_left _ (List.mem_append_right _ h))) (by decide +kernel))) (goodIn_sub (fun _ h => List.mem_append_left _ (List.mem_append_right _ h)) (by decide +kernel))
set_option maxRecDepth 20000 in
theorem gL_law_L_stone : GoodIn wsL_law (va_wsS RL 89 yL_stone wsL_stone) := goodIn_app (goodIn_of _ (by decide +kernel)) ggL_law_L_stone
set_option maxRecDepth 20000 in
theorem ggL_law_X7_stone : GoodIn wsL_law wsX7_stone := goodIn_r _ [185, 144, 186, 102, 103, 104, 187, 105, 188, 189, 5, 190, 191, 192, 193, 194, 195, 196, 197, 768, 769, 770, 771, 772, 773, 774, 775, 776, 777, 778, 779, 780, 781, 782, 783, 784, 785, 786, 787, 788, 789, 790, 791, 792, 793, 794, 795, 796, 797, 798, 799, 800, 801, 802, 803, 804, 805, 806, 807] (by decide +kernel) (by decide +kernel)
set_option maxRecDepth 20000 in
theorem gL_law_X7_stone : GoodIn wsL_law (wsV RL 94 RX7 yX7_stone wsX7_stone) := goodIn_app (goodIn_of _ (by decide +kernel)) ggL_law_X7_stone
set_option maxRecDepth 20000 in
theorem ggL_law_X7_thrown : GoodIn wsL_law wsX7_thrown := goodIn_r _ [201, 144, 768, 769, 770, 771, 772, 773, 774, 775, 776, 777, 778, 779, 780, 781, 782, 783, 784, 785, 786, 787, 788, 789, 790, 791, 792, 793, 794, 795, 796, 797, 798, 799, 800, 801, 802, 803, 804, 805, 806, 807] (by decide +kernel) (by decide +kernel)
set_option maxRecDepth 20000 in
theorem gL_law_X7_thrown : GoodIn wsL_law (wsV RL 95 RX7 yX7_thrown wsX7_thrown) := goodIn_app (goodIn_of _ (by decide +kernel)) ggL_law_X7_thrown
set_option maxRecDepth 20000 in
theorem ggL_law_L_strike : GoodIn wsL_law wsL_strike := goodIn_ca (goodIn_r _ [204, 158, 205, 206, 207, 2, 208, 171, 172, 20, 167, 34, 209, 210, 211, 19, 212, 55, 59, 757, 758, 759, 760, 761, 762, 763, 764, 765, 766, 767, 812, 813, 814, 815, 816, 817, 818, 819, 820] (by decide +kernel) (by decide +kernel)) (goodIn_sub (fun _ h => List.mem_append_left _ (List.mem_append_left _ (List.mem_append_right _ h))) (by decide +kernel))
set_option maxRecDepth 20000 in
theorem gL_law_L_strike : GoodIn wsL_law (va_wsS RL 98 yL_strike wsL_strike) := goodIn_app (goodIn_of _ (by decide +kernel)) ggL_law_L_strike
set_option maxRecDepth 20000 in
theorem ggL_law_X7_strike : GoodIn wsL_law wsX7_strike := goodIn_r _ [216, 144, 186, 105, 187, 191, 192, 5, 193, 194, 195, 196, 197, 768, 769, 770, 771, 772, 773, 774, 775, 776, 777, 778, 779, 780, 781, 782, 783, 784, 785, 786, 787, 788, 789, 790, 791, 792, 793, 794, 795, 796, 797, 798, 799, 800, 801, 802, 803, 804, 805, 806, 807] (by decide +kernel) (by decide +kernel)
set_option maxRecDepth 20000 in
theorem gL_law_X7_strike : GoodIn wsL_law (wsV RL 101 RX7 yX7_strike wsX7_strike) := goodIn_app (goodIn_of _ (by decide +kernel)) ggL_law_X7_strike
set_option maxRecDepth 20000 in
theorem ggL_law_L_habit : GoodIn wsL_law wsL_habit := goodIn_ca (goodIn_r _ [219, 159, 220, 221, 222, 2, 223, 176, 177, 20, 173, 174, 175, 224, 225, 226, 19, 227, 56, 60, 757, 758, 759, 760, 761, 762, 763, 764, 765, 766, 767, 812, 813, 814, 815, 816, 817, 818, 819, 820] (by decide +kernel) (by decide +kernel)) (goodIn_sub (fun _ h => List.mem_append_left _ (List.mem_append_right _ h)) (by decide +kernel))
set_option maxRecDepth 20000 in
theorem gL_law_L_habit : GoodIn wsL_law (va_wsS RL 102 yL_habit wsL_habit) := goodIn_app (goodIn_of _ (by decide +kernel)) ggL_law_L_habit
set_option maxRecDepth 20000 in
theorem ggL_law_X7_habit : GoodIn wsL_law wsX7_habit := goodIn_r _ [231, 144, 106, 232, 191, 192, 5, 193, 194, 195, 196, 197, 768, 769, 770, 771, 772, 773, 774, 775, 776, 777, 778, 779, 780, 781, 782, 783, 784, 785, 786, 787, 788, 789, 790, 791, 792, 793, 794, 795, 796, 797, 798, 799, 800, 801, 802, 803, 804, 805, 806, 807] (by decide +kernel) (by decide +kernel)
set_option maxRecDepth 20000 in
theorem gL_law_X7_habit : GoodIn wsL_law (wsV RL 105 RX7 yX7_habit wsX7_habit) := goodIn_app (goodIn_of _ (by decide +kernel)) ggL_law_X7_habit
set_option maxRecDepth 20000 in
theorem ggL_law_L_agree : GoodIn wsL_law wsL_agree := goodIn_ca (goodIn_ca (goodIn_r _ [235, 158, 236, 237, 238, 239, 2, 240, 20, 168, 169, 170, 171, 172, 241, 242, 243, 244, 245, 246, 247, 248, 19, 249, 57, 58, 52, 250, 251, 252, 253, 54, 55, 254, 255, 256, 257, 53, 56, 258, 259, 260, 261, 262, 263, 264, 265, 266, 267, 268, 269, 270, 271, 272, 273, 274, 275, 276, 277, 278, 279, 280, 281, 282, 283, 757, 758, 759, 760, 761, 762, 763, 764, 765, 766, 767, 812, 813, 814, 815, 816, 817, 818, 819, 820] (by decide +kernel) (by decide +kernel)) (goodIn_sub (fun _ h => List.mem_append_left _ (List.mem_append_left _ (List.mem_append_right _ h))) (by decide +kernel))) (goodIn_sub (fun _ h => List.mem_append_right _ h) (by decide +kernel))
set_option maxRecDepth 20000 in
theorem gL_law_L_agree : GoodIn wsL_law (va_wsS RL 106 yL_agree wsL_agree) := goodIn_app (goodIn_of _ (by decide +kernel)) ggL_law_L_agree
set_option maxRecDepth 20000 in
theorem ggL_law_X7_agree : GoodIn wsL_law wsX7_agree := goodIn_r _ [287, 144, 188, 189, 5, 190, 191, 192, 193, 194, 195, 196, 197, 288, 289, 290, 291, 292, 293, 294, 295, 186, 104, 105, 102, 103, 106, 296, 263, 264, 265, 266, 267, 268, 297, 298, 299, 300, 768, 769, 770, 771, 772, 773, 774, 775, 776, 777, 778, 779, 780, 781, 782, 783, 784, 785, 786, 787, 788, 789, 790, 791, 792, 793, 794, 795, 796, 797, 798, 799, 800, 801, 802, 803, 804, 805, 806, 807] (by decide +kernel) (by decide +kernel)
set_option maxRecDepth 20000 in
theorem gL_law_X7_agree : GoodIn wsL_law (wsV RL 109 RX7 yX7_agree wsX7_agree) := goodIn_app (goodIn_of _ (by decide +kernel)) ggL_law_X7_agree
set_option maxRecDepth 20000 in
theorem ggL_law_L_edict : GoodIn wsL_law wsL_edict := goodIn_ca (goodIn_ca (goodIn_r _ [303, 159, 160, 304, 305, 306, 2, 307, 176, 177, 165, 166, 16, 22, 31, 308, 309, 310, 311, 35, 135, 26, 34, 312, 313, 314, 15, 315, 46, 47, 316, 317, 318, 37, 319, 70, 71, 72, 73, 74, 320, 321, 322, 323, 324, 325, 326, 327, 45, 328, 329, 330, 331, 44, 332, 333, 334, 335, 336, 337, 338, 339, 340, 341, 342, 343, 344, 345, 346, 347, 348, 349, 350, 351, 352, 353, 354, 355, 356, 357, 358, 359, 360, 361, 362, 363, 364, 365, 366, 367, 368, 369, 370, 371, 372, 373, 374, 375, 376, 377, 378, 379, 380, 381, 382, 383, 384, 385, 386, 387, 388, 389, 390, 391, 392, 393, 394, 395, 396, 397, 398, 399, 400, 401, 402, 403, 404, 405, 406, 407, 408, 409, 410, 411, 412, 413, 414, 415, 416, 417, 418, 419, 420, 421, 422, 423, 424, 425, 426, 427, 428, 429, 430, 431, 432, 433, 434, 435, 436, 437, 25, 438, 66, 65, 64, 757, 758, 759, 760, 761, 762, 763, 764, 765, 766, 767, 808, 809, 810, 811, 824, 825, 826, 827, 828, 821, 822, 823] (by decide +kernel) (by decide +kernel)) (goodIn_sub (fun _ h => List.mem_append_left _ (List.mem_append_right _ h)) (by decide +kernel))) (goodIn_sub (fun _ h => List.mem_append_left _ (List.mem_append_left _ (List.mem_append_left _ (List.mem_append_right _ h)))) (by decide +kernel))
set_option maxRecDepth 20000 in
theorem gL_law_L_edict : GoodIn wsL_law (va_wsS RL 110 yL_edict wsL_edict) := goodIn_app (goodIn_of _ (by decide +kernel)) ggL_law_L_edict
set_option maxRecDepth 20000 in
theorem ggL_law_X7_edict : GoodIn wsL_law wsX7_edict := goodIn_r _ [442, 144, 443, 115, 444, 109, 110, 111, 107, 108, 445, 446, 447, 5, 448, 145, 449, 450, 451, 452, 453, 454, 455, 456, 457, 458, 459, 460, 461, 462, 114, 463, 464, 465, 466, 467, 345, 346, 347, 348, 349, 350, 351, 352, 353, 354, 355, 468, 357, 358, 359, 360, 361, 362, 363, 364, 365, 366, 367, 368, 369, 370, 371, 372, 373, 374, 375, 376, 377, 378, 379, 380, 381, 382, 383, 384, 385, 386, 387, 388, 389, 390, 391, 392, 469, 470, 471, 472, 194, 195, 196, 197, 473, 474, 475, 476, 112, 477, 113, 187, 768, 769, 770, 771, 772, 773, 774, 775, 776, 777, 778, 779, 780, 781, 782, 783, 784, 785, 786, 787, 788, 789, 790, 791, 792, 793, 794, 795, 796, 797, 798, 799, 800, 801, 802, 803, 804, 805, 806, 807] (by decide +kernel) (by decide +kernel)
set_option maxRecDepth 20000 in
theorem gL_law_X7_edict : GoodIn wsL_law (wsV RL 113 RX7 yX7_edict wsX7_edict) := goodIn_app (goodIn_of _ (by decide +kernel)) ggL_law_X7_edict
set_option maxRecDepth 20000 in
theorem ggL_law_X6_fault : GoodIn wsL_law wsX6_fault := goodIn_r _ [481, 35, 757, 758, 759, 760, 761, 762, 763, 764, 765, 766, 767] (by decide +kernel) (by decide +kernel)
set_option maxRecDepth 20000 in
theorem gL_law_X6_fault : GoodIn wsL_law (wsV RL 114 RX6 yX6_fault wsX6_fault) := goodIn_app (goodIn_of _ (by decide +kernel)) ggL_law_X6_fault
set_option maxRecDepth 20000 in
theorem ggL_law_X7_fault : GoodIn wsL_law wsX7_fault := goodIn_r _ [485, 144, 115, 768, 769, 770, 771, 772, 773, 774, 775, 776, 777, 778, 779, 780, 781, 782, 783, 784, 785, 786, 787, 788, 789, 790, 791, 792, 793, 794, 795, 796, 797, 798, 799, 800, 801, 802, 803, 804, 805, 806, 807] (by decide +kernel) (by decide +kernel)
set_option maxRecDepth 20000 in
theorem gL_law_X7_fault : GoodIn wsL_law (wsV RL 117 RX7 yX7_fault wsX7_fault) := goodIn_app (goodIn_of _ (by decide +kernel)) ggL_law_X7_fault
set_option maxRecDepth 20000 in
theorem ggL_law_X6_undo : GoodIn wsL_law wsX6_undo := goodIn_r _ [489, 26, 34, 490, 491, 492, 25, 493, 66, 65, 435, 436, 437, 438, 64, 757, 758, 759, 760, 761, 762, 763, 764, 765, 766, 767, 821, 822, 823] (by decide +kernel) (by decide +kernel)
set_option maxRecDepth 20000 in
theorem gL_law_X6_undo : GoodIn wsL_law (wsV RL 118 RX6 yX6_undo wsX6_undo) := goodIn_app (goodIn_of _ (by decide +kernel)) ggL_law_X6_undo
set_option maxRecDepth 20000 in
theorem ggL_law_X7_undo : GoodIn wsL_law wsX7_undo := goodIn_r _ [497, 144, 477, 112, 473, 474, 475, 5, 476, 113, 187, 768, 769, 770, 771, 772, 773, 774, 775, 776, 777, 778, 779, 780, 781, 782, 783, 784, 785, 786, 787, 788, 789, 790, 791, 792, 793, 794, 795, 796, 797, 798, 799, 800, 801, 802, 803, 804, 805, 806, 807] (by decide +kernel) (by decide +kernel)
set_option maxRecDepth 20000 in
theorem gL_law_X7_undo : GoodIn wsL_law (wsV RL 122 RX7 yX7_undo wsX7_undo) := goodIn_app (goodIn_of _ (by decide +kernel)) ggL_law_X7_undo
set_option maxRecDepth 20000 in
theorem ggL_law_L_town : GoodIn wsL_law wsL_town := goodIn_ca (goodIn_ca (goodIn_r _ [500, 159, 160, 501, 502, 503, 2, 504, 165, 166, 32, 28, 505, 173, 174, 175, 176, 177, 757, 758, 759, 760, 761, 762, 763, 764, 765, 766, 767, 829, 830] (by decide +kernel) (by decide +kernel)) (goodIn_sub (fun _ h => List.mem_append_left _ (List.mem_append_left _ (List.mem_append_left _ (List.mem_append_right _ h)))) (by decide +kernel))) (goodIn_sub (fun _ h => List.mem_append_left _ (List.mem_append_right _ h)) (by decide +kernel))
set_option maxRecDepth 20000 in
theorem gL_law_L_town : GoodIn wsL_law (va_wsS RL 123 yL_town wsL_town) := goodIn_app (goodIn_of _ (by decide +kernel)) ggL_law_L_town
set_option maxRecDepth 20000 in
theorem ggL_law_X7_town : GoodIn wsL_law wsX7_town := goodIn_r _ [509, 144, 510, 117, 191, 192, 5, 193, 194, 195, 196, 197, 768, 769, 770, 771, 772, 773, 774, 775, 776, 777, 778, 779, 780, 781, 782, 783, 784, 785, 786, 787, 788, 789, 790, 791, 792, 793, 794, 795, 796, 797, 798, 799, 800, 801, 802, 803, 804, 805, 806, 807] (by decide +kernel) (by decide +kernel)
set_option maxRecDepth 20000 in
theorem gL_law_X7_town : GoodIn wsL_law (wsV RL 125 RX7 yX7_town wsX7_town) := goodIn_app (goodIn_of _ (by decide +kernel)) ggL_law_X7_town
set_option maxRecDepth 20000 in
theorem ggL_law_L_goods : GoodIn wsL_law wsL_goods := goodIn_ca (goodIn_ca (goodIn_r _ [513, 158, 159, 514, 515, 516, 2, 517, 28, 518, 519, 520, 521, 522, 171, 172, 32, 523, 524, 525, 173, 174, 175, 176, 177, 526, 527, 528, 83, 529, 87, 88, 89, 90, 757, 758, 759, 760, 761, 762, 763, 764, 765, 766, 767, 829, 830, 831, 832, 833, 834, 835, 836, 837, 838, 839, 840, 841] (by decide +kernel) (by decide +kernel)) (goodIn_sub (fun _ h => List.mem_append_left _ (List.mem_append_left _ (List.mem_append_right _ h))) (by decide +kernel))) (goodIn_sub (fun _ h => List.mem_append_left _ (List.mem_append_right _ h)) (by decide +kernel))
set_option maxRecDepth 20000 in
theorem gL_law_L_goods : GoodIn wsL_law (va_wsS RL 126 yL_goods wsL_goods) := goodIn_app (goodIn_of _ (by decide +kernel)) ggL_law_L_goods
set_option maxRecDepth 20000 in
theorem ggL_law_X7_goods : GoodIn wsL_law wsX7_goods := goodIn_r _ [533, 144, 118, 119, 120, 121, 534, 535, 536, 5, 537, 510, 191, 192, 193, 538, 539, 540, 194, 195, 196, 197, 768, 769, 770, 771, 772, 773, 774, 775, 776, 777, 778, 779, 780, 781, 782, 783, 784, 785, 786, 787, 788, 789, 790, 791, 792, 793, 794, 795, 796, 797, 798, 799, 800, 801, 802, 803, 804, 805, 806, 807] (by decide +kernel) (by decide +kernel)
set_option maxRecDepth 20000 in
theorem gL_law_X7_goods : GoodIn wsL_law (wsV RL 129 RX7 yX7_goods wsX7_goods) := goodIn_app (goodIn_of _ (by decide +kernel)) ggL_law_X7_goods
set_option maxRecDepth 20000 in
theorem ggL_law_L_spoil : GoodIn wsL_law wsL_spoil := goodIn_ca (goodIn_ca (goodIn_r _ [543, 158, 159, 544, 545, 546, 2, 547, 30, 523, 524, 525, 171, 172, 173, 174, 175, 176, 177, 757, 758, 759, 760, 761, 762, 763, 764, 765, 766, 767] (by decide +kernel) (by decide +kernel)) (goodIn_sub (fun _ h => List.mem_append_left _ (List.mem_append_left _ (List.mem_append_right _ h))) (by decide +kernel))) (goodIn_sub (fun _ h => List.mem_append_left _ (List.mem_append_right _ h)) (by decide +kernel))
set_option maxRecDepth 20000 in
theorem gL_law_L_spoil : GoodIn wsL_law (va_wsS RL 130 yL_spoil wsL_spoil) := goodIn_app (goodIn_of _ (by decide +kernel)) ggL_law_L_spoil
set_option maxRecDepth 20000 in
theorem ggL_law_X7_spoil : GoodIn wsL_law wsX7_spoil := goodIn_r _ [551, 144, 129, 538, 539, 5, 540, 191, 192, 193, 194, 195, 196, 197, 768, 769, 770, 771, 772, 773, 774, 775, 776, 777, 778, 779, 780, 781, 782, 783, 784, 785, 786, 787, 788, 789, 790, 791, 792, 793, 794, 795, 796, 797, 798, 799, 800, 801, 802, 803, 804, 805, 806, 807] (by decide +kernel) (by decide +kernel)
set_option maxRecDepth 20000 in
theorem gL_law_X7_spoil : GoodIn wsL_law (wsV RL 133 RX7 yX7_spoil wsX7_spoil) := goodIn_app (goodIn_of _ (by decide +kernel)) ggL_law_X7_spoil
set_option maxRecDepth 20000 in
theorem ggL_law_L_carry : GoodIn wsL_law wsL_carry := goodIn_ca (goodIn_r _ [554, 159, 555, 556, 557, 2, 558, 33, 173, 174, 175, 176, 177, 757, 758, 759, 760, 761, 762, 763, 764, 765, 766, 767] (by decide +kernel) (by decide +kernel)) (goodIn_sub (fun _ h => List.mem_append_left _ (List.mem_append_right _ h)) (by decide +kernel))
set_option maxRecDepth 20000 in
theorem gL_law_L_carry : GoodIn wsL_law (va_wsS RL 134 yL_carry wsL_carry) := goodIn_app (goodIn_of _ (by decide +kernel)) ggL_law_L_carry
set_option maxRecDepth 20000 in
theorem ggL_law_X7_carry : GoodIn wsL_law wsX7_carry := goodIn_r _ [562, 144, 130, 191, 192, 5, 193, 194, 195, 196, 197, 768, 769, 770, 771, 772, 773, 774, 775, 776, 777, 778, 779, 780, 781, 782, 783, 784, 785, 786, 787, 788, 789, 790, 791, 792, 793, 794, 795, 796, 797, 798, 799, 800, 801, 802, 803, 804, 805, 806, 807] (by decide +kernel) (by decide +kernel)
set_option maxRecDepth 20000 in
theorem gL_law_X7_carry : GoodIn wsL_law (wsV RL 137 RX7 yX7_carry wsX7_carry) := goodIn_app (goodIn_of _ (by decide +kernel)) ggL_law_X7_carry
set_option maxRecDepth 20000 in
theorem ggL_law_L_weeks : GoodIn wsL_law wsL_weeks := goodIn_ca (goodIn_r _ [565, 159, 566, 567, 568, 2, 569, 34, 173, 174, 175, 176, 177, 570, 571, 572, 573, 32, 33, 28, 505, 518, 30, 574, 575, 576, 577, 578, 308, 309, 310, 311, 579, 580, 581, 582, 31, 22, 583, 584, 585, 586, 587, 588, 26, 589, 590, 591, 39, 592, 81, 593, 594, 595, 25, 596, 66, 64, 65, 597, 598, 599, 37, 600, 74, 601, 602, 603, 604, 605, 606, 20, 246, 247, 248, 19, 249, 57, 58, 52, 250, 251, 252, 253, 54, 55, 254, 255, 256, 257, 53, 56, 258, 259, 260, 261, 262, 263, 264, 265, 266, 267, 268, 277, 278, 279, 280, 273, 281, 282, 283, 607, 608, 609, 83, 610, 87, 88, 611, 612, 613, 614, 91, 89, 93, 615, 616, 617, 618, 92, 619, 620, 621, 622, 623, 624, 625, 626, 90, 627, 94, 96, 97, 628, 629, 630, 631, 632, 633, 634, 635, 95, 636, 637, 638, 757, 758, 759, 760, 761, 762, 763, 764, 765, 766, 767, 829, 830, 831, 832, 833, 834, 835, 836, 837, 838, 839, 840, 841, 824, 825, 826, 827, 828, 821, 822, 823, 812, 813, 814, 815, 816, 817, 818, 819, 820] (by decide +kernel) (by decide +kernel)) (goodIn_sub (fun _ h => List.mem_append_left _ (List.mem_append_right _ h)) (by decide +kernel))
set_option maxRecDepth 20000 in
theorem gL_law_L_weeks : GoodIn wsL_law (va_wsS RL 138 yL_weeks wsL_weeks) := goodIn_app (goodIn_of _ (by decide +kernel)) ggL_law_L_weeks
set_option maxRecDepth 20000 in
theorem ggL_law_X7_weeks : GoodIn wsL_law wsX7_weeks := goodIn_r _ [642, 144, 187, 510, 191, 192, 5, 193, 194, 195, 196, 197, 643, 644, 645, 646, 118, 130, 117, 122, 120, 124, 119, 123, 121, 647, 309, 310, 311, 125, 127, 128, 129, 126, 648, 649, 650, 651, 652, 653, 654, 655, 111, 107, 108, 109, 110, 656, 657, 658, 659, 477, 113, 112, 297, 298, 299, 300, 292, 293, 294, 295, 186, 104, 105, 102, 103, 106, 768, 769, 770, 771, 772, 773, 774, 775, 776, 777, 778, 779, 780, 781, 782, 783, 784, 785, 786, 787, 788, 789, 790, 791, 792, 793, 794, 795, 796, 797, 798, 799, 800, 801, 802, 803, 804, 805, 806, 807] (by decide +kernel) (by decide +kernel)
set_option maxRecDepth 20000 in
theorem gL_law_X7_weeks : GoodIn wsL_law (wsV RL 140 RX7 yX7_weeks wsX7_weeks) := goodIn_app (goodIn_of _ (by decide +kernel)) ggL_law_X7_weeks
set_option maxRecDepth 20000 in
theorem ggL_law_L_days : GoodIn wsL_law wsL_days := goodIn_ca (goodIn_r _ [662, 159, 663, 664, 665, 2, 666, 34, 308, 309, 310, 311, 173, 174, 175, 176, 177, 757, 758, 759, 760, 761, 762, 763, 764, 765, 766, 767] (by decide +kernel) (by decide +kernel)) (goodIn_sub (fun _ h => List.mem_append_left _ (List.mem_append_right _ h)) (by decide +kernel))
set_option maxRecDepth 20000 in
theorem gL_law_L_days : GoodIn wsL_law (va_wsS RL 141 yL_days wsL_days) := goodIn_app (goodIn_of _ (by decide +kernel)) ggL_law_L_days
set_option maxRecDepth 20000 in
theorem ggL_law_X7_days : GoodIn wsL_law wsX7_days := goodIn_r _ [670, 144, 187, 647, 309, 310, 311, 191, 192, 5, 193, 194, 195, 196, 197, 768, 769, 770, 771, 772, 773, 774, 775, 776, 777, 778, 779, 780, 781, 782, 783, 784, 785, 786, 787, 788, 789, 790, 791, 792, 793, 794, 795, 796, 797, 798, 799, 800, 801, 802, 803, 804, 805, 806, 807] (by decide +kernel) (by decide +kernel)
set_option maxRecDepth 20000 in
theorem gL_law_X7_days : GoodIn wsL_law (wsV RL 143 RX7 yX7_days wsX7_days) := goodIn_app (goodIn_of _ (by decide +kernel)) ggL_law_X7_days
set_option maxRecDepth 20000 in
theorem ggL_law_L_force : GoodIn wsL_law wsL_force := goodIn_ca (goodIn_r _ [673, 158, 674, 675, 676, 2, 677, 519, 520, 521, 522, 171, 172, 32, 585, 586, 587, 588, 26, 28, 589, 590, 591, 39, 592, 81, 593, 594, 595, 25, 596, 66, 64, 65, 757, 758, 759, 760, 761, 762, 763, 764, 765, 766, 767, 829, 830, 821, 822, 823] (by decide +kernel) (by decide +kernel)) (goodIn_sub (fun _ h => List.mem_append_left _ (List.mem_append_left _ (List.mem_append_right _ h))) (by decide +kernel))
set_option maxRecDepth 20000 in
theorem gL_law_L_force : GoodIn wsL_law (va_wsS RL 144 yL_force wsL_force) := goodIn_app (goodIn_of _ (by decide +kernel)) ggL_law_L_force
set_option maxRecDepth 20000 in
theorem ggL_law_X7_force : GoodIn wsL_law wsX7_force := goodIn_r _ [681, 144, 534, 535, 536, 5, 537, 510, 191, 192, 193, 194, 195, 196, 197, 656, 657, 658, 659, 477, 113, 117, 112, 768, 769, 770, 771, 772, 773, 774, 775, 776, 777, 778, 779, 780, 781, 782, 783, 784, 785, 786, 787, 788, 789, 790, 791, 792, 793, 794, 795, 796, 797, 798, 799, 800, 801, 802, 803, 804, 805, 806, 807] (by decide +kernel) (by decide +kernel)
set_option maxRecDepth 20000 in
theorem gL_law_X7_force : GoodIn wsL_law (wsV RL 146 RX7 yX7_force wsX7_force) := goodIn_app (goodIn_of _ (by decide +kernel)) ggL_law_X7_force
set_option maxRecDepth 20000 in
theorem ggL_law_L_cap : GoodIn wsL_law wsL_cap := goodIn_ca (goodIn_r _ [684, 158, 685, 686, 687, 2, 688, 519, 520, 521, 522, 171, 172, 32, 523, 524, 525, 579, 580, 581, 582, 31, 22, 583, 28, 584, 585, 586, 587, 588, 26, 589, 590, 591, 39, 592, 81, 593, 594, 595, 25, 596, 66, 64, 65, 597, 598, 599, 37, 600, 74, 601, 602, 603, 604, 605, 606, 20, 246, 247, 248, 19, 249, 57, 58, 52, 250, 251, 252, 253, 54, 55, 254, 255, 256, 257, 53, 56, 258, 259, 260, 261, 262, 263, 264, 265, 266, 267, 268, 277, 278, 279, 280, 273, 281, 282, 283, 757, 758, 759, 760, 761, 762, 763, 764, 765, 766, 767, 824, 825, 826, 827, 828, 829, 830, 821, 822, 823, 812, 813, 814, 815, 816, 817, 818, 819, 820] (by decide +kernel) (by decide +kernel)) (goodIn_sub (fun _ h => List.mem_append_left _ (List.mem_append_left _ (List.mem_append_right _ h))) (by decide +kernel))
set_option maxRecDepth 20000 in
theorem gL_law_L_cap : GoodIn wsL_law (va_wsS RL 147 yL_cap wsL_cap) := goodIn_app (goodIn_of _ (by decide +kernel)) ggL_law_L_cap
set_option maxRecDepth 20000 in
theorem ggL_law_X7_cap : GoodIn wsL_law wsX7_cap := goodIn_r _ [692, 144, 534, 535, 536, 5, 537, 510, 191, 192, 193, 538, 539, 540, 194, 195, 196, 197, 652, 653, 654, 655, 111, 107, 108, 109, 117, 110, 656, 657, 658, 659, 477, 113, 112, 297, 298, 299, 300, 292, 293, 294, 295, 186, 104, 105, 102, 103, 106, 768, 769, 770, 771, 772, 773, 774, 775, 776, 777, 778, 779, 780, 781, 782, 783, 784, 785, 786, 787, 788, 789, 790, 791, 792, 793, 794, 795, 796, 797, 798, 799, 800, 801, 802, 803, 804, 805, 806, 807] (by decide +kernel) (by decide +kernel)
set_option maxRecDepth 20000 in
theorem gL_law_X7_cap : GoodIn wsL_law (wsV RL 150 RX7 yX7_cap wsX7_cap) := goodIn_app (goodIn_of _ (by decide +kernel)) ggL_law_X7_cap
set_option maxRecDepth 20000 in
theorem ggL_law_L_judge : GoodIn wsL_law wsL_judge := goodIn_ca (goodIn_ca (goodIn_r _ [695, 158, 159, 696, 697, 698, 2, 699, 176, 177, 519, 520, 521, 522, 171, 172, 32, 523, 524, 525, 579, 580, 581, 582, 31, 22, 583, 28, 584, 585, 586, 587, 588, 26, 589, 590, 591, 39, 592, 81, 593, 594, 595, 25, 596, 66, 64, 65, 597, 598, 599, 37, 600, 74, 601, 602, 603, 604, 605, 606, 20, 246, 247, 248, 19, 249, 57, 58, 52, 250, 251, 252, 253, 54, 55, 254, 255, 256, 257, 53, 56, 258, 259, 260, 261, 262, 263, 264, 265, 266, 267, 268, 277, 278, 279, 280, 273, 281, 282, 283, 757, 758, 759, 760, 761, 762, 763, 764, 765, 766, 767, 824, 825, 826, 827, 828, 829, 830, 821, 822, 823, 812, 813, 814, 815, 816, 817, 818, 819, 820] (by decide +kernel) (by decide +kernel)) (goodIn_sub (fun _ h => List.mem_append_left _ (List.mem_append_right _ h)) (by decide +kernel))) (goodIn_sub (fun _ h => List.mem_append_left _ (List.mem_append_left _ (List.mem_append_right _ h))) (by decide +kernel))
