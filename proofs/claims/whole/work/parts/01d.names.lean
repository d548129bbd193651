set_option maxRecDepth 20000 in
theorem gX3_readClause_X3_readLine : GoodIn wsX3_readClause (wsV RX3 55 RX3 yX3_readLine wsX3_readLine) := goodIn_app (goodIn_of _ (by decide +kernel)) ggX3_readClause_X3_readLine
set_option maxRecDepth 20000 in
theorem ggX3_readClause_X3_readCarriage : GoodIn wsX3_readClause wsX3_readCarriage := goodIn_r _ [101, 2, 102, 79, 80, 81, 6, 82, 1, 8, 3, 4, 5, 7, 9, 10, 11, 12, 13, 18, 19, 20, 21, 117, 118, 119, 120, 121, 122, 123, 124, 125] (by decide +kernel) (by decide +kernel)
set_option maxRecDepth 20000 in
theorem gX3_readClause_X3_readCarriage : GoodIn wsX3_readClause (wsV RX3 60 RX3 yX3_readCarriage wsX3_readCarriage) := goodIn_app (goodIn_of _ (by decide +kernel)) ggX3_readClause_X3_readCarriage
set_option maxRecDepth 20000 in
theorem ggX3_readClause_X3_readCredit : GoodIn wsX3_readClause wsX3_readCredit := goodIn_r _ [106, 2, 107, 79, 80, 81, 6, 82, 1, 8, 3, 4, 5, 7, 9, 10, 11, 12, 13, 18, 19, 20, 21, 117, 118, 119, 120, 121, 122, 123, 124, 125] (by decide +kernel) (by decide +kernel)
set_option maxRecDepth 20000 in
theorem gX3_readClause_X3_readCredit : GoodIn wsX3_readClause (wsV RX3 65 RX3 yX3_readCredit wsX3_readCredit) := goodIn_app (goodIn_of _ (by decide +kernel)) ggX3_readClause_X3_readCredit
set_option maxRecDepth 20000 in
theorem ggX3_readClause_X3_readFree : GoodIn wsX3_readClause wsX3_readFree := goodIn_r _ [111, 2, 79, 80, 81, 6, 82, 1, 8, 3, 4, 5, 7, 9, 10, 11, 12, 13, 18, 19, 20, 21, 112, 113, 114, 86, 115, 116, 117, 118, 119, 120, 121, 122, 123, 124, 125] (by decide +kernel) (by decide +kernel)
set_option maxRecDepth 20000 in
theorem gX3_readClause_X3_readFree : GoodIn wsX3_readClause (wsV RX3 70 RX3 yX3_readFree wsX3_readFree) := goodIn_app (goodIn_of _ (by decide +kernel)) ggX3_readClause_X3_readFree
theorem dX3_readClause_0 : decode cX3_readClause 0 = .ok (.aload_n 0, 1) := by decide +kernel
theorem dX3_readClause_1 : decode cX3_readClause 1 = .ok (.invokevirtual 38, 3) := by decide +kernel
theorem dX3_readClause_4 : decode cX3_readClause 4 = .ok (.aload_n 0, 1) := by decide +kernel
theorem dX3_readClause_5 : decode cX3_readClause 5 = .ok (.getfield 19, 3) := by decide +kernel
theorem dX3_readClause_8 : decode cX3_readClause 8 = .ok (.istore_n 2, 1) := by decide +kernel
theorem dX3_readClause_9 : decode cX3_readClause 9 = .ok (.aload_n 0, 1) := by decide +kernel
theorem dX3_readClause_10 : decode cX3_readClause 10 = .ok (.invokevirtual 41, 3) := by decide +kernel
theorem dX3_readClause_13 : decode cX3_readClause 13 = .ok (.aload_n 0, 1) := by decide +kernel
theorem dX3_readClause_14 : decode cX3_readClause 14 = .ok (.iload_n 2, 1) := by decide +kernel
theorem dX3_readClause_15 : decode cX3_readClause 15 = .ok (.ldc 44, 2) := by decide +kernel
theorem dX3_readClause_17 : decode cX3_readClause 17 = .ok (.invokevirtual 46, 3) := by decide +kernel
theorem dX3_readClause_20 : decode cX3_readClause 20 = .ok (.ifCond .eq 11, 3) := by decide +kernel
theorem dX3_readClause_23 : decode cX3_readClause 23 = .ok (.aload_n 0, 1) := by decide +kernel
theorem dX3_readClause_24 : decode cX3_readClause 24 = .ok (.aload_n 1, 1) := by decide +kernel
theorem dX3_readClause_25 : decode cX3_readClause 25 = .ok (.invokevirtual 50, 3) := by decide +kernel
theorem dX3_readClause_28 : decode cX3_readClause 28 = .ok (.goto 80, 3) := by decide +kernel
theorem dX3_readClause_31 : decode cX3_readClause 31 = .ok (.aload_n 0, 1) := by decide +kernel
theorem dX3_readClause_32 : decode cX3_readClause 32 = .ok (.iload_n 2, 1) := by decide +kernel
theorem dX3_readClause_33 : decode cX3_readClause 33 = .ok (.ldc 53, 2) := by decide +kernel
theorem dX3_readClause_35 : decode cX3_readClause 35 = .ok (.invokevirtual 46, 3) := by decide +kernel
theorem dX3_readClause_38 : decode cX3_readClause 38 = .ok (.ifCond .eq 11, 3) := by decide +kernel
theorem dX3_readClause_41 : decode cX3_readClause 41 = .ok (.aload_n 0, 1) := by decide +kernel
theorem dX3_readClause_42 : decode cX3_readClause 42 = .ok (.aload_n 1, 1) := by decide +kernel
theorem dX3_readClause_43 : decode cX3_readClause 43 = .ok (.invokevirtual 55, 3) := by decide +kernel
theorem dX3_readClause_46 : decode cX3_readClause 46 = .ok (.goto 62, 3) := by decide +kernel
theorem dX3_readClause_49 : decode cX3_readClause 49 = .ok (.aload_n 0, 1) := by decide +kernel
theorem dX3_readClause_50 : decode cX3_readClause 50 = .ok (.iload_n 2, 1) := by decide +kernel
theorem dX3_readClause_51 : decode cX3_readClause 51 = .ok (.ldc 58, 2) := by decide +kernel
theorem dX3_readClause_53 : decode cX3_readClause 53 = .ok (.invokevirtual 46, 3) := by decide +kernel
theorem dX3_readClause_56 : decode cX3_readClause 56 = .ok (.ifCond .eq 11, 3) := by decide +kernel
theorem dX3_readClause_59 : decode cX3_readClause 59 = .ok (.aload_n 0, 1) := by decide +kernel
theorem dX3_readClause_60 : decode cX3_readClause 60 = .ok (.aload_n 1, 1) := by decide +kernel
theorem dX3_readClause_61 : decode cX3_readClause 61 = .ok (.invokevirtual 60, 3) := by decide +kernel
theorem dX3_readClause_64 : decode cX3_readClause 64 = .ok (.goto 44, 3) := by decide +kernel
theorem dX3_readClause_67 : decode cX3_readClause 67 = .ok (.aload_n 0, 1) := by decide +kernel
theorem dX3_readClause_68 : decode cX3_readClause 68 = .ok (.iload_n 2, 1) := by decide +kernel
theorem dX3_readClause_69 : decode cX3_readClause 69 = .ok (.ldc 63, 2) := by decide +kernel
theorem dX3_readClause_71 : decode cX3_readClause 71 = .ok (.invokevirtual 46, 3) := by decide +kernel
theorem dX3_readClause_74 : decode cX3_readClause 74 = .ok (.ifCond .eq 11, 3) := by decide +kernel
theorem dX3_readClause_77 : decode cX3_readClause 77 = .ok (.aload_n 0, 1) := by decide +kernel
theorem dX3_readClause_78 : decode cX3_readClause 78 = .ok (.aload_n 1, 1) := by decide +kernel
theorem dX3_readClause_79 : decode cX3_readClause 79 = .ok (.invokevirtual 65, 3) := by decide +kernel
theorem dX3_readClause_82 : decode cX3_readClause 82 = .ok (.goto 26, 3) := by decide +kernel
theorem dX3_readClause_85 : decode cX3_readClause 85 = .ok (.aload_n 0, 1) := by decide +kernel
theorem dX3_readClause_86 : decode cX3_readClause 86 = .ok (.iload_n 2, 1) := by decide +kernel
theorem dX3_readClause_87 : decode cX3_readClause 87 = .ok (.ldc 68, 2) := by decide +kernel
theorem dX3_readClause_89 : decode cX3_readClause 89 = .ok (.invokevirtual 46, 3) := by decide +kernel
theorem dX3_readClause_92 : decode cX3_readClause 92 = .ok (.ifCond .eq 11, 3) := by decide +kernel
theorem dX3_readClause_95 : decode cX3_readClause 95 = .ok (.aload_n 0, 1) := by decide +kernel
theorem dX3_readClause_96 : decode cX3_readClause 96 = .ok (.aload_n 1, 1) := by decide +kernel
theorem dX3_readClause_97 : decode cX3_readClause 97 = .ok (.invokevirtual 70, 3) := by decide +kernel
theorem dX3_readClause_100 : decode cX3_readClause 100 = .ok (.goto 8, 3) := by decide +kernel
theorem dX3_readClause_103 : decode cX3_readClause 103 = .ok (.aload_n 0, 1) := by decide +kernel
theorem dX3_readClause_104 : decode cX3_readClause 104 = .ok (.iload_n 2, 1) := by decide +kernel
theorem dX3_readClause_105 : decode cX3_readClause 105 = .ok (.putfield 22, 3) := by decide +kernel
theorem dX3_readClause_108 : decode cX3_readClause 108 = .ok (.return_, 1) := by decide +kernel
set_option maxRecDepth 20000 in
theorem ggX3_readCap_X3_readNumber : GoodIn wsX3_readCap wsX3_readNumber := goodIn_r _ [6, 1, 7, 8, 9, 10, 11, 5, 12, 13, 14, 15, 16, 17, 18, 19, 20, 21, 29, 30, 31, 32] (by decide +kernel) (by decide +kernel)
set_option maxRecDepth 20000 in
theorem gX3_readCap_X3_readNumber : GoodIn wsX3_readCap (wsV RX3 73 RX3 yX3_readNumber wsX3_readNumber) := goodIn_app (goodIn_of _ (by decide +kernel)) ggX3_readCap_X3_readNumber
set_option maxRecDepth 20000 in
theorem ggX3_readCap_X0_capByPrice : GoodIn wsX3_readCap wsX0_capByPrice := goodIn_r _ [26, 27, 28, 33, 34, 35, 36, 37] (by decide +kernel) (by decide +kernel)
set_option maxRecDepth 20000 in
theorem gX3_readCap_X0_capByPrice : GoodIn wsX3_readCap (wsV RX3 77 RX0 yX0_capByPrice wsX0_capByPrice) := goodIn_app (goodIn_of _ (by decide +kernel)) ggX3_readCap_X0_capByPrice
theorem dX3_readCap_0 : decode cX3_readCap 0 = .ok (.aload_n 0, 1) := by decide +kernel
theorem dX3_readCap_1 : decode cX3_readCap 1 = .ok (.iconst 0, 1) := by decide +kernel
theorem dX3_readCap_2 : decode cX3_readCap 2 = .ok (.iconst 5, 1) := by decide +kernel
theorem dX3_readCap_3 : decode cX3_readCap 3 = .ok (.invokevirtual 73, 3) := by decide +kernel
theorem dX3_readCap_6 : decode cX3_readCap 6 = .ok (.istore_n 2, 1) := by decide +kernel
theorem dX3_readCap_7 : decode cX3_readCap 7 = .ok (.aload_n 0, 1) := by decide +kernel
theorem dX3_readCap_8 : decode cX3_readCap 8 = .ok (.iconst 1, 1) := by decide +kernel
theorem dX3_readCap_9 : decode cX3_readCap 9 = .ok (.sipush 9999, 3) := by decide +kernel
theorem dX3_readCap_12 : decode cX3_readCap 12 = .ok (.invokevirtual 73, 3) := by decide +kernel
theorem dX3_readCap_15 : decode cX3_readCap 15 = .ok (.istore_n 3, 1) := by decide +kernel
theorem dX3_readCap_16 : decode cX3_readCap 16 = .ok (.aload_n 0, 1) := by decide +kernel
theorem dX3_readCap_17 : decode cX3_readCap 17 = .ok (.getfield 22, 3) := by decide +kernel
theorem dX3_readCap_20 : decode cX3_readCap 20 = .ok (.iconst (-1), 1) := by decide +kernel
theorem dX3_readCap_21 : decode cX3_readCap 21 = .ok (.if_icmp .ne 9, 3) := by decide +kernel
theorem dX3_readCap_24 : decode cX3_readCap 24 = .ok (.aload_n 1, 1) := by decide +kernel
theorem dX3_readCap_25 : decode cX3_readCap 25 = .ok (.iload_n 2, 1) := by decide +kernel
theorem dX3_readCap_26 : decode cX3_readCap 26 = .ok (.iload_n 3, 1) := by decide +kernel
theorem dX3_readCap_27 : decode cX3_readCap 27 = .ok (.invokevirtual 77, 3) := by decide +kernel
theorem dX3_readCap_30 : decode cX3_readCap 30 = .ok (.return_, 1) := by decide +kernel
set_option maxRecDepth 20000 in
theorem ggX3_readLine_X3_readNumber : GoodIn wsX3_readLine wsX3_readNumber := goodIn_r _ [6, 1, 7, 8, 9, 10, 11, 5, 12, 13, 14, 15, 16, 17, 18, 19, 20, 21, 29, 30, 31, 32] (by decide +kernel) (by decide +kernel)
set_option maxRecDepth 20000 in
theorem gX3_readLine_X3_readNumber : GoodIn wsX3_readLine (wsV RX3 73 RX3 yX3_readNumber wsX3_readNumber) := goodIn_app (goodIn_of _ (by decide +kernel)) ggX3_readLine_X3_readNumber
set_option maxRecDepth 20000 in
theorem ggX3_readLine_X0_capByLine : GoodIn wsX3_readLine wsX0_capByLine := goodIn_r _ [26, 27, 28, 33, 34, 35, 36, 37] (by decide +kernel) (by decide +kernel)
set_option maxRecDepth 20000 in
theorem gX3_readLine_X0_capByLine : GoodIn wsX3_readLine (wsV RX3 81 RX0 yX0_capByLine wsX0_capByLine) := goodIn_app (goodIn_of _ (by decide +kernel)) ggX3_readLine_X0_capByLine
theorem dX3_readLine_0 : decode cX3_readLine 0 = .ok (.aload_n 0, 1) := by decide +kernel
theorem dX3_readLine_1 : decode cX3_readLine 1 = .ok (.iconst 0, 1) := by decide +kernel
theorem dX3_readLine_2 : decode cX3_readLine 2 = .ok (.iconst 5, 1) := by decide +kernel
theorem dX3_readLine_3 : decode cX3_readLine 3 = .ok (.invokevirtual 73, 3) := by decide +kernel
theorem dX3_readLine_6 : decode cX3_readLine 6 = .ok (.istore_n 2, 1) := by decide +kernel
theorem dX3_readLine_7 : decode cX3_readLine 7 = .ok (.aload_n 0, 1) := by decide +kernel
theorem dX3_readLine_8 : decode cX3_readLine 8 = .ok (.iconst 0, 1) := by decide +kernel
theorem dX3_readLine_9 : decode cX3_readLine 9 = .ok (.bipush 29, 2) := by decide +kernel
theorem dX3_readLine_11 : decode cX3_readLine 11 = .ok (.invokevirtual 73, 3) := by decide +kernel
theorem dX3_readLine_14 : decode cX3_readLine 14 = .ok (.istore_n 3, 1) := by decide +kernel
theorem dX3_readLine_15 : decode cX3_readLine 15 = .ok (.aload_n 0, 1) := by decide +kernel
theorem dX3_readLine_16 : decode cX3_readLine 16 = .ok (.getfield 22, 3) := by decide +kernel
theorem dX3_readLine_19 : decode cX3_readLine 19 = .ok (.iconst (-1), 1) := by decide +kernel
theorem dX3_readLine_20 : decode cX3_readLine 20 = .ok (.if_icmp .ne 9, 3) := by decide +kernel
theorem dX3_readLine_23 : decode cX3_readLine 23 = .ok (.aload_n 1, 1) := by decide +kernel
theorem dX3_readLine_24 : decode cX3_readLine 24 = .ok (.iload_n 2, 1) := by decide +kernel
theorem dX3_readLine_25 : decode cX3_readLine 25 = .ok (.iload_n 3, 1) := by decide +kernel
theorem dX3_readLine_26 : decode cX3_readLine 26 = .ok (.invokevirtual 81, 3) := by decide +kernel
theorem dX3_readLine_29 : decode cX3_readLine 29 = .ok (.return_, 1) := by decide +kernel
set_option maxRecDepth 20000 in
theorem ggX3_readCarriage_X3_readNumber : GoodIn wsX3_readCarriage wsX3_readNumber := goodIn_r _ [7, 1, 8, 9, 10, 11, 12, 6, 13, 14, 15, 16, 17, 18, 19, 20, 21, 22, 23, 24, 25, 26] (by decide +kernel) (by decide +kernel)
set_option maxRecDepth 20000 in
theorem gX3_readCarriage_X3_readNumber : GoodIn wsX3_readCarriage (wsV RX3 73 RX3 yX3_readNumber wsX3_readNumber) := goodIn_app (goodIn_of _ (by decide +kernel)) ggX3_readCarriage_X3_readNumber
theorem dX3_readCarriage_0 : decode cX3_readCarriage 0 = .ok (.aload_n 0, 1) := by decide +kernel
theorem dX3_readCarriage_1 : decode cX3_readCarriage 1 = .ok (.iconst 0, 1) := by decide +kernel
theorem dX3_readCarriage_2 : decode cX3_readCarriage 2 = .ok (.bipush 99, 2) := by decide +kernel
theorem dX3_readCarriage_4 : decode cX3_readCarriage 4 = .ok (.invokevirtual 73, 3) := by decide +kernel
theorem dX3_readCarriage_7 : decode cX3_readCarriage 7 = .ok (.istore_n 2, 1) := by decide +kernel
theorem dX3_readCarriage_8 : decode cX3_readCarriage 8 = .ok (.aload_n 0, 1) := by decide +kernel
theorem dX3_readCarriage_9 : decode cX3_readCarriage 9 = .ok (.getfield 22, 3) := by decide +kernel
theorem dX3_readCarriage_12 : decode cX3_readCarriage 12 = .ok (.iconst (-1), 1) := by decide +kernel
theorem dX3_readCarriage_13 : decode cX3_readCarriage 13 = .ok (.if_icmp .ne 8, 3) := by decide +kernel
theorem dX3_readCarriage_16 : decode cX3_readCarriage 16 = .ok (.aload_n 1, 1) := by decide +kernel
theorem dX3_readCarriage_17 : decode cX3_readCarriage 17 = .ok (.iload_n 2, 1) := by decide +kernel
theorem dX3_readCarriage_18 : decode cX3_readCarriage 18 = .ok (.putfield 84, 3) := by decide +kernel
theorem dX3_readCarriage_21 : decode cX3_readCarriage 21 = .ok (.return_, 1) := by decide +kernel
set_option maxRecDepth 20000 in
theorem ggX3_readCredit_X3_readNumber : GoodIn wsX3_readCredit wsX3_readNumber := goodIn_r _ [7, 1, 8, 9, 10, 11, 12, 6, 13, 14, 15, 16, 17, 18, 19, 20, 21, 22, 23, 24, 25, 26] (by decide +kernel) (by decide +kernel)
set_option maxRecDepth 20000 in
theorem gX3_readCredit_X3_readNumber : GoodIn wsX3_readCredit (wsV RX3 73 RX3 yX3_readNumber wsX3_readNumber) := goodIn_app (goodIn_of _ (by decide +kernel)) ggX3_readCredit_X3_readNumber
theorem dX3_readCredit_0 : decode cX3_readCredit 0 = .ok (.aload_n 0, 1) := by decide +kernel
theorem dX3_readCredit_1 : decode cX3_readCredit 1 = .ok (.iconst 0, 1) := by decide +kernel
theorem dX3_readCredit_2 : decode cX3_readCredit 2 = .ok (.bipush 100, 2) := by decide +kernel
theorem dX3_readCredit_4 : decode cX3_readCredit 4 = .ok (.invokevirtual 73, 3) := by decide +kernel
theorem dX3_readCredit_7 : decode cX3_readCredit 7 = .ok (.istore_n 2, 1) := by decide +kernel
theorem dX3_readCredit_8 : decode cX3_readCredit 8 = .ok (.aload_n 0, 1) := by decide +kernel
theorem dX3_readCredit_9 : decode cX3_readCredit 9 = .ok (.getfield 22, 3) := by decide +kernel
theorem dX3_readCredit_12 : decode cX3_readCredit 12 = .ok (.iconst (-1), 1) := by decide +kernel
theorem dX3_readCredit_13 : decode cX3_readCredit 13 = .ok (.if_icmp .ne 8, 3) := by decide +kernel
theorem dX3_readCredit_16 : decode cX3_readCredit 16 = .ok (.aload_n 1, 1) := by decide +kernel
theorem dX3_readCredit_17 : decode cX3_readCredit 17 = .ok (.iload_n 2, 1) := by decide +kernel
theorem dX3_readCredit_18 : decode cX3_readCredit 18 = .ok (.putfield 86, 3) := by decide +kernel
theorem dX3_readCredit_21 : decode cX3_readCredit 21 = .ok (.return_, 1) := by decide +kernel
set_option maxRecDepth 20000 in
theorem ggX3_readFree_X3_readNumber : GoodIn wsX3_readFree wsX3_readNumber := goodIn_r _ [6, 1, 7, 8, 9, 10, 11, 5, 12, 13, 14, 15, 16, 17, 18, 19, 20, 21, 28, 29, 30, 31] (by decide +kernel) (by decide +kernel)
set_option maxRecDepth 20000 in
theorem gX3_readFree_X3_readNumber : GoodIn wsX3_readFree (wsV RX3 73 RX3 yX3_readNumber wsX3_readNumber) := goodIn_app (goodIn_of _ (by decide +kernel)) ggX3_readFree_X3_readNumber
set_option maxRecDepth 20000 in
theorem ggX3_readFree_X0_setFree : GoodIn wsX3_readFree wsX0_setFree := goodIn_r _ [26, 27, 32, 33, 34, 35, 36] (by decide +kernel) (by decide +kernel)
set_option maxRecDepth 20000 in
theorem gX3_readFree_X0_setFree : GoodIn wsX3_readFree (wsV RX3 88 RX0 yX0_setFree wsX0_setFree) := goodIn_app (goodIn_of _ (by decide +kernel)) ggX3_readFree_X0_setFree
theorem dX3_readFree_0 : decode cX3_readFree 0 = .ok (.aload_n 0, 1) := by decide +kernel
theorem dX3_readFree_1 : decode cX3_readFree 1 = .ok (.iconst 0, 1) := by decide +kernel
theorem dX3_readFree_2 : decode cX3_readFree 2 = .ok (.bipush 7, 2) := by decide +kernel
theorem dX3_readFree_4 : decode cX3_readFree 4 = .ok (.invokevirtual 73, 3) := by decide +kernel
theorem dX3_readFree_7 : decode cX3_readFree 7 = .ok (.istore_n 2, 1) := by decide +kernel
theorem dX3_readFree_8 : decode cX3_readFree 8 = .ok (.aload_n 0, 1) := by decide +kernel
theorem dX3_readFree_9 : decode cX3_readFree 9 = .ok (.getfield 22, 3) := by decide +kernel
theorem dX3_readFree_12 : decode cX3_readFree 12 = .ok (.iconst (-1), 1) := by decide +kernel
theorem dX3_readFree_13 : decode cX3_readFree 13 = .ok (.if_icmp .ne 8, 3) := by decide +kernel
theorem dX3_readFree_16 : decode cX3_readFree 16 = .ok (.aload_n 1, 1) := by decide +kernel
theorem dX3_readFree_17 : decode cX3_readFree 17 = .ok (.iload_n 2, 1) := by decide +kernel
theorem dX3_readFree_18 : decode cX3_readFree 18 = .ok (.invokevirtual 88, 3) := by decide +kernel
theorem dX3_readFree_21 : decode cX3_readFree 21 = .ok (.return_, 1) := by decide +kernel
set_option maxRecDepth 20000 in
theorem ggX3_readNumber_X3_skipBlanks : GoodIn wsX3_readNumber wsX3_skipBlanks := goodIn_r _ [8, 2, 3, 9, 10, 11, 7, 12, 13, 18, 19, 20, 21] (by decide +kernel) (by decide +kernel)
set_option maxRecDepth 20000 in
theorem gX3_readNumber_X3_skipBlanks : GoodIn wsX3_readNumber (wsV RX3 38 RX3 yX3_skipBlanks wsX3_skipBlanks) := goodIn_app (goodIn_of _ (by decide +kernel)) ggX3_readNumber_X3_skipBlanks
set_option maxRecDepth 20000 in
theorem ggX3_readNumber_X3_isBetween : GoodIn wsX3_readNumber wsX3_isBetween := goodIn_r _ [17, 2, 9, 10, 11, 7, 12, 3, 13, 18, 19, 20, 21] (by decide +kernel) (by decide +kernel)
set_option maxRecDepth 20000 in
theorem gX3_readNumber_X3_isBetween : GoodIn wsX3_readNumber (wsV RX3 92 RX3 yX3_isBetween wsX3_isBetween) := goodIn_app (goodIn_of _ (by decide +kernel)) ggX3_readNumber_X3_isBetween
set_option maxRecDepth 20000 in
theorem ggX3_readNumber_X3_byteAt : GoodIn wsX3_readNumber wsX3_byteAt := goodIn_r _ [12, 3, 13, 18, 19, 20, 21] (by decide +kernel) (by decide +kernel)
set_option maxRecDepth 20000 in
theorem gX3_readNumber_X3_byteAt : GoodIn wsX3_readNumber (wsV RX3 96 RX3 yX3_byteAt wsX3_byteAt) := goodIn_app (goodIn_of _ (by decide +kernel)) ggX3_readNumber_X3_byteAt
theorem dX3_readNumber_0 : decode cX3_readNumber 0 = .ok (.aload_n 0, 1) := by decide +kernel
theorem dX3_readNumber_1 : decode cX3_readNumber 1 = .ok (.getfield 22, 3) := by decide +kernel
theorem dX3_readNumber_4 : decode cX3_readNumber 4 = .ok (.iconst (-1), 1) := by decide +kernel
theorem dX3_readNumber_5 : decode cX3_readNumber 5 = .ok (.if_icmp .eq 5, 3) := by decide +kernel
theorem dX3_readNumber_8 : decode cX3_readNumber 8 = .ok (.iconst (-1), 1) := by decide +kernel
theorem dX3_readNumber_9 : decode cX3_readNumber 9 = .ok (.ireturn, 1) := by decide +kernel
theorem dX3_readNumber_10 : decode cX3_readNumber 10 = .ok (.aload_n 0, 1) := by decide +kernel
theorem dX3_readNumber_11 : decode cX3_readNumber 11 = .ok (.invokevirtual 38, 3) := by decide +kernel
theorem dX3_readNumber_14 : decode cX3_readNumber 14 = .ok (.aload_n 0, 1) := by decide +kernel
theorem dX3_readNumber_15 : decode cX3_readNumber 15 = .ok (.getfield 19, 3) := by decide +kernel
theorem dX3_readNumber_18 : decode cX3_readNumber 18 = .ok (.istore_n 3, 1) := by decide +kernel
theorem dX3_readNumber_19 : decode cX3_readNumber 19 = .ok (.iconst 0, 1) := by decide +kernel
theorem dX3_readNumber_20 : decode cX3_readNumber 20 = .ok (.istore 4, 2) := by decide +kernel
theorem dX3_readNumber_22 : decode cX3_readNumber 22 = .ok (.aload_n 0, 1) := by decide +kernel
theorem dX3_readNumber_23 : decode cX3_readNumber 23 = .ok (.getfield 19, 3) := by decide +kernel
theorem dX3_readNumber_26 : decode cX3_readNumber 26 = .ok (.aload_n 0, 1) := by decide +kernel
theorem dX3_readNumber_27 : decode cX3_readNumber 27 = .ok (.getfield 15, 3) := by decide +kernel
theorem dX3_readNumber_30 : decode cX3_readNumber 30 = .ok (.if_icmp .ge 46, 3) := by decide +kernel
theorem dX3_readNumber_33 : decode cX3_readNumber 33 = .ok (.aload_n 0, 1) := by decide +kernel
theorem dX3_readNumber_34 : decode cX3_readNumber 34 = .ok (.bipush 48, 2) := by decide +kernel
theorem dX3_readNumber_36 : decode cX3_readNumber 36 = .ok (.bipush 57, 2) := by decide +kernel
theorem dX3_readNumber_38 : decode cX3_readNumber 38 = .ok (.invokevirtual 92, 3) := by decide +kernel
theorem dX3_readNumber_41 : decode cX3_readNumber 41 = .ok (.ifCond .eq 35, 3) := by decide +kernel
theorem dX3_readNumber_44 : decode cX3_readNumber 44 = .ok (.iload 4, 2) := by decide +kernel
theorem dX3_readNumber_46 : decode cX3_readNumber 46 = .ok (.bipush 10, 2) := by decide +kernel
theorem dX3_readNumber_48 : decode cX3_readNumber 48 = .ok (.imul, 1) := by decide +kernel
theorem dX3_readNumber_49 : decode cX3_readNumber 49 = .ok (.aload_n 0, 1) := by decide +kernel
theorem dX3_readNumber_50 : decode cX3_readNumber 50 = .ok (.aload_n 0, 1) := by decide +kernel
theorem dX3_readNumber_51 : decode cX3_readNumber 51 = .ok (.getfield 19, 3) := by decide +kernel
theorem dX3_readNumber_54 : decode cX3_readNumber 54 = .ok (.invokevirtual 96, 3) := by decide +kernel
theorem dX3_readNumber_57 : decode cX3_readNumber 57 = .ok (.iadd, 1) := by decide +kernel
theorem dX3_readNumber_58 : decode cX3_readNumber 58 = .ok (.bipush 48, 2) := by decide +kernel
theorem dX3_readNumber_60 : decode cX3_readNumber 60 = .ok (.isub, 1) := by decide +kernel
theorem dX3_readNumber_61 : decode cX3_readNumber 61 = .ok (.istore 4, 2) := by decide +kernel
theorem dX3_readNumber_63 : decode cX3_readNumber 63 = .ok (.aload_n 0, 1) := by decide +kernel
theorem dX3_readNumber_64 : decode cX3_readNumber 64 = .ok (.dup, 1) := by decide +kernel
theorem dX3_readNumber_65 : decode cX3_readNumber 65 = .ok (.getfield 19, 3) := by decide +kernel
theorem dX3_readNumber_68 : decode cX3_readNumber 68 = .ok (.iconst 1, 1) := by decide +kernel
theorem dX3_readNumber_69 : decode cX3_readNumber 69 = .ok (.iadd, 1) := by decide +kernel
theorem dX3_readNumber_70 : decode cX3_readNumber 70 = .ok (.putfield 19, 3) := by decide +kernel
theorem dX3_readNumber_73 : decode cX3_readNumber 73 = .ok (.goto (-51), 3) := by decide +kernel
theorem dX3_readNumber_76 : decode cX3_readNumber 76 = .ok (.aload_n 0, 1) := by decide +kernel
theorem dX3_readNumber_77 : decode cX3_readNumber 77 = .ok (.getfield 19, 3) := by decide +kernel
theorem dX3_readNumber_80 : decode cX3_readNumber 80 = .ok (.iload_n 3, 1) := by decide +kernel
theorem dX3_readNumber_81 : decode cX3_readNumber 81 = .ok (.isub, 1) := by decide +kernel
theorem dX3_readNumber_82 : decode cX3_readNumber 82 = .ok (.istore 5, 2) := by decide +kernel
theorem dX3_readNumber_84 : decode cX3_readNumber 84 = .ok (.iload 5, 2) := by decide +kernel
theorem dX3_readNumber_86 : decode cX3_readNumber 86 = .ok (.iconst 1, 1) := by decide +kernel
theorem dX3_readNumber_87 : decode cX3_readNumber 87 = .ok (.if_icmp .lt 21, 3) := by decide +kernel
theorem dX3_readNumber_90 : decode cX3_readNumber 90 = .ok (.iload 5, 2) := by decide +kernel
theorem dX3_readNumber_92 : decode cX3_readNumber 92 = .ok (.iconst 4, 1) := by decide +kernel
theorem dX3_readNumber_93 : decode cX3_readNumber 93 = .ok (.if_icmp .gt 15, 3) := by decide +kernel
theorem dX3_readNumber_96 : decode cX3_readNumber 96 = .ok (.iload 4, 2) := by decide +kernel
theorem dX3_readNumber_98 : decode cX3_readNumber 98 = .ok (.iload_n 1, 1) := by decide +kernel
theorem dX3_readNumber_99 : decode cX3_readNumber 99 = .ok (.if_icmp .lt 9, 3) := by decide +kernel
theorem dX3_readNumber_102 : decode cX3_readNumber 102 = .ok (.iload 4, 2) := by decide +kernel
theorem dX3_readNumber_104 : decode cX3_readNumber 104 = .ok (.iload_n 2, 1) := by decide +kernel
theorem dX3_readNumber_105 : decode cX3_readNumber 105 = .ok (.if_icmp .le 10, 3) := by decide +kernel
theorem dX3_readNumber_108 : decode cX3_readNumber 108 = .ok (.aload_n 0, 1) := by decide +kernel
theorem dX3_readNumber_109 : decode cX3_readNumber 109 = .ok (.iload_n 3, 1) := by decide +kernel
theorem dX3_readNumber_110 : decode cX3_readNumber 110 = .ok (.putfield 22, 3) := by decide +kernel
theorem dX3_readNumber_113 : decode cX3_readNumber 113 = .ok (.iconst (-1), 1) := by decide +kernel
theorem dX3_readNumber_114 : decode cX3_readNumber 114 = .ok (.ireturn, 1) := by decide +kernel
theorem dX3_readNumber_115 : decode cX3_readNumber 115 = .ok (.iload 4, 2) := by decide +kernel
theorem dX3_readNumber_117 : decode cX3_readNumber 117 = .ok (.ireturn, 1) := by decide +kernel
set_option maxRecDepth 20000 in
theorem ggX3_readSemicolon_X3_skipBlanks : GoodIn wsX3_readSemicolon wsX3_skipBlanks := goodIn_r _ [8, 2, 3, 9, 10, 11, 7, 12, 13, 14, 15, 16, 17] (by decide +kernel) (by decide +kernel)
set_option maxRecDepth 20000 in
theorem gX3_readSemicolon_X3_skipBlanks : GoodIn wsX3_readSemicolon (wsV RX3 38 RX3 yX3_skipBlanks wsX3_skipBlanks) := goodIn_app (goodIn_of _ (by decide +kernel)) ggX3_readSemicolon_X3_skipBlanks
set_option maxRecDepth 20000 in
theorem ggX3_readSemicolon_X3_byteAt : GoodIn wsX3_readSemicolon wsX3_byteAt := goodIn_r _ [12, 3, 13, 14, 15, 16, 17] (by decide +kernel) (by decide +kernel)
set_option maxRecDepth 20000 in
theorem gX3_readSemicolon_X3_byteAt : GoodIn wsX3_readSemicolon (wsV RX3 96 RX3 yX3_byteAt wsX3_byteAt) := goodIn_app (goodIn_of _ (by decide +kernel)) ggX3_readSemicolon_X3_byteAt
theorem dX3_readSemicolon_0 : decode cX3_readSemicolon 0 = .ok (.aload_n 0, 1) := by decide +kernel
theorem dX3_readSemicolon_1 : decode cX3_readSemicolon 1 = .ok (.getfield 22, 3) := by decide +kernel
theorem dX3_readSemicolon_4 : decode cX3_readSemicolon 4 = .ok (.iconst (-1), 1) := by decide +kernel
theorem dX3_readSemicolon_5 : decode cX3_readSemicolon 5 = .ok (.if_icmp .eq 5, 3) := by decide +kernel
theorem dX3_readSemicolon_8 : decode cX3_readSemicolon 8 = .ok (.iconst 0, 1) := by decide +kernel
theorem dX3_readSemicolon_9 : decode cX3_readSemicolon 9 = .ok (.ireturn, 1) := by decide +kernel
theorem dX3_readSemicolon_10 : decode cX3_readSemicolon 10 = .ok (.aload_n 0, 1) := by decide +kernel
theorem dX3_readSemicolon_11 : decode cX3_readSemicolon 11 = .ok (.invokevirtual 38, 3) := by decide +kernel
theorem dX3_readSemicolon_14 : decode cX3_readSemicolon 14 = .ok (.aload_n 0, 1) := by decide +kernel
theorem dX3_readSemicolon_15 : decode cX3_readSemicolon 15 = .ok (.getfield 19, 3) := by decide +kernel
theorem dX3_readSemicolon_18 : decode cX3_readSemicolon 18 = .ok (.aload_n 0, 1) := by decide +kernel
theorem dX3_readSemicolon_19 : decode cX3_readSemicolon 19 = .ok (.getfield 15, 3) := by decide +kernel
theorem dX3_readSemicolon_22 : decode cX3_readSemicolon 22 = .ok (.if_icmp .lt 5, 3) := by decide +kernel
theorem dX3_readSemicolon_25 : decode cX3_readSemicolon 25 = .ok (.iconst 0, 1) := by decide +kernel
theorem dX3_readSemicolon_26 : decode cX3_readSemicolon 26 = .ok (.ireturn, 1) := by decide +kernel
theorem dX3_readSemicolon_27 : decode cX3_readSemicolon 27 = .ok (.aload_n 0, 1) := by decide +kernel
theorem dX3_readSemicolon_28 : decode cX3_readSemicolon 28 = .ok (.aload_n 0, 1) := by decide +kernel
theorem dX3_readSemicolon_29 : decode cX3_readSemicolon 29 = .ok (.getfield 19, 3) := by decide +kernel
theorem dX3_readSemicolon_32 : decode cX3_readSemicolon 32 = .ok (.invokevirtual 96, 3) := by decide +kernel
theorem dX3_readSemicolon_35 : decode cX3_readSemicolon 35 = .ok (.bipush 59, 2) := by decide +kernel
theorem dX3_readSemicolon_37 : decode cX3_readSemicolon 37 = .ok (.if_icmp .eq 13, 3) := by decide +kernel
theorem dX3_readSemicolon_40 : decode cX3_readSemicolon 40 = .ok (.aload_n 0, 1) := by decide +kernel
theorem dX3_readSemicolon_41 : decode cX3_readSemicolon 41 = .ok (.aload_n 0, 1) := by decide +kernel
theorem dX3_readSemicolon_42 : decode cX3_readSemicolon 42 = .ok (.getfield 19, 3) := by decide +kernel
theorem dX3_readSemicolon_45 : decode cX3_readSemicolon 45 = .ok (.putfield 22, 3) := by decide +kernel
theorem dX3_readSemicolon_48 : decode cX3_readSemicolon 48 = .ok (.iconst 0, 1) := by decide +kernel
theorem dX3_readSemicolon_49 : decode cX3_readSemicolon 49 = .ok (.ireturn, 1) := by decide +kernel
theorem dX3_readSemicolon_50 : decode cX3_readSemicolon 50 = .ok (.aload_n 0, 1) := by decide +kernel
theorem dX3_readSemicolon_51 : decode cX3_readSemicolon 51 = .ok (.dup, 1) := by decide +kernel
theorem dX3_readSemicolon_52 : decode cX3_readSemicolon 52 = .ok (.getfield 19, 3) := by decide +kernel
theorem dX3_readSemicolon_55 : decode cX3_readSemicolon 55 = .ok (.iconst 1, 1) := by decide +kernel
theorem dX3_readSemicolon_56 : decode cX3_readSemicolon 56 = .ok (.iadd, 1) := by decide +kernel
theorem dX3_readSemicolon_57 : decode cX3_readSemicolon 57 = .ok (.putfield 19, 3) := by decide +kernel
theorem dX3_readSemicolon_60 : decode cX3_readSemicolon 60 = .ok (.iconst 1, 1) := by decide +kernel
theorem dX3_readSemicolon_61 : decode cX3_readSemicolon 61 = .ok (.ireturn, 1) := by decide +kernel
set_option maxRecDepth 20000 in
theorem ggX3_skipBlanks_X3_byteAt : GoodIn wsX3_skipBlanks wsX3_byteAt := goodIn_r _ [7, 2, 8, 9, 10, 11, 12] (by decide +kernel) (by decide +kernel)
set_option maxRecDepth 20000 in
theorem gX3_skipBlanks_X3_byteAt : GoodIn wsX3_skipBlanks (wsV RX3 96 RX3 yX3_byteAt wsX3_byteAt) := goodIn_app (goodIn_of _ (by decide +kernel)) ggX3_skipBlanks_X3_byteAt
theorem dX3_skipBlanks_0 : decode cX3_skipBlanks 0 = .ok (.aload_n 0, 1) := by decide +kernel
theorem dX3_skipBlanks_1 : decode cX3_skipBlanks 1 = .ok (.getfield 19, 3) := by decide +kernel
theorem dX3_skipBlanks_4 : decode cX3_skipBlanks 4 = .ok (.aload_n 0, 1) := by decide +kernel
theorem dX3_skipBlanks_5 : decode cX3_skipBlanks 5 = .ok (.getfield 15, 3) := by decide +kernel
theorem dX3_skipBlanks_8 : decode cX3_skipBlanks 8 = .ok (.if_icmp .ge 29, 3) := by decide +kernel
theorem dX3_skipBlanks_11 : decode cX3_skipBlanks 11 = .ok (.aload_n 0, 1) := by decide +kernel
theorem dX3_skipBlanks_12 : decode cX3_skipBlanks 12 = .ok (.aload_n 0, 1) := by decide +kernel
theorem dX3_skipBlanks_13 : decode cX3_skipBlanks 13 = .ok (.getfield 19, 3) := by decide +kernel
theorem dX3_skipBlanks_16 : decode cX3_skipBlanks 16 = .ok (.invokevirtual 96, 3) := by decide +kernel
theorem dX3_skipBlanks_19 : decode cX3_skipBlanks 19 = .ok (.bipush 32, 2) := by decide +kernel
theorem dX3_skipBlanks_21 : decode cX3_skipBlanks 21 = .ok (.if_icmp .ne 16, 3) := by decide +kernel
theorem dX3_skipBlanks_24 : decode cX3_skipBlanks 24 = .ok (.aload_n 0, 1) := by decide +kernel
theorem dX3_skipBlanks_25 : decode cX3_skipBlanks 25 = .ok (.dup, 1) := by decide +kernel
theorem dX3_skipBlanks_26 : decode cX3_skipBlanks 26 = .ok (.getfield 19, 3) := by decide +kernel
theorem dX3_skipBlanks_29 : decode cX3_skipBlanks 29 = .ok (.iconst 1, 1) := by decide +kernel
theorem dX3_skipBlanks_30 : decode cX3_skipBlanks 30 = .ok (.iadd, 1) := by decide +kernel
theorem dX3_skipBlanks_31 : decode cX3_skipBlanks 31 = .ok (.putfield 19, 3) := by decide +kernel
theorem dX3_skipBlanks_34 : decode cX3_skipBlanks 34 = .ok (.goto (-34), 3) := by decide +kernel
theorem dX3_skipBlanks_37 : decode cX3_skipBlanks 37 = .ok (.return_, 1) := by decide +kernel
set_option maxRecDepth 20000 in
theorem ggX3_skipWord_X3_isBetween : GoodIn wsX3_skipWord wsX3_isBetween := goodIn_r _ [7, 1, 8, 9, 10, 6, 11, 2, 12, 13, 14, 15, 16] (by decide +kernel) (by decide +kernel)
set_option maxRecDepth 20000 in
theorem gX3_skipWord_X3_isBetween : GoodIn wsX3_skipWord (wsV RX3 92 RX3 yX3_isBetween wsX3_isBetween) := goodIn_app (goodIn_of _ (by decide +kernel)) ggX3_skipWord_X3_isBetween
theorem dX3_skipWord_0 : decode cX3_skipWord 0 = .ok (.aload_n 0, 1) := by decide +kernel
theorem dX3_skipWord_1 : decode cX3_skipWord 1 = .ok (.getfield 19, 3) := by decide +kernel
theorem dX3_skipWord_4 : decode cX3_skipWord 4 = .ok (.aload_n 0, 1) := by decide +kernel
theorem dX3_skipWord_5 : decode cX3_skipWord 5 = .ok (.getfield 15, 3) := by decide +kernel
theorem dX3_skipWord_8 : decode cX3_skipWord 8 = .ok (.if_icmp .ge 27, 3) := by decide +kernel
theorem dX3_skipWord_11 : decode cX3_skipWord 11 = .ok (.aload_n 0, 1) := by decide +kernel
theorem dX3_skipWord_12 : decode cX3_skipWord 12 = .ok (.bipush 97, 2) := by decide +kernel
theorem dX3_skipWord_14 : decode cX3_skipWord 14 = .ok (.bipush 122, 2) := by decide +kernel
theorem dX3_skipWord_16 : decode cX3_skipWord 16 = .ok (.invokevirtual 92, 3) := by decide +kernel
theorem dX3_skipWord_19 : decode cX3_skipWord 19 = .ok (.ifCond .eq 16, 3) := by decide +kernel
theorem dX3_skipWord_22 : decode cX3_skipWord 22 = .ok (.aload_n 0, 1) := by decide +kernel
theorem dX3_skipWord_23 : decode cX3_skipWord 23 = .ok (.dup, 1) := by decide +kernel
theorem dX3_skipWord_24 : decode cX3_skipWord 24 = .ok (.getfield 19, 3) := by decide +kernel
theorem dX3_skipWord_27 : decode cX3_skipWord 27 = .ok (.iconst 1, 1) := by decide +kernel
theorem dX3_skipWord_28 : decode cX3_skipWord 28 = .ok (.iadd, 1) := by decide +kernel
theorem dX3_skipWord_29 : decode cX3_skipWord 29 = .ok (.putfield 19, 3) := by decide +kernel
theorem dX3_skipWord_32 : decode cX3_skipWord 32 = .ok (.goto (-32), 3) := by decide +kernel
theorem dX3_skipWord_35 : decode cX3_skipWord 35 = .ok (.return_, 1) := by decide +kernel
set_option maxRecDepth 20000 in
theorem ggX3_isBetween_X3_byteAt : GoodIn wsX3_isBetween wsX3_byteAt := goodIn_r _ [6, 7, 8, 9, 10, 11, 12] (by decide +kernel) (by decide +kernel)
set_option maxRecDepth 20000 in
theorem gX3_isBetween_X3_byteAt : GoodIn wsX3_isBetween (wsV RX3 96 RX3 yX3_byteAt wsX3_byteAt) := goodIn_app (goodIn_of _ (by decide +kernel)) ggX3_isBetween_X3_byteAt
theorem dX3_isBetween_0 : decode cX3_isBetween 0 = .ok (.aload_n 0, 1) := by decide +kernel
theorem dX3_isBetween_1 : decode cX3_isBetween 1 = .ok (.aload_n 0, 1) := by decide +kernel
theorem dX3_isBetween_2 : decode cX3_isBetween 2 = .ok (.getfield 19, 3) := by decide +kernel
theorem dX3_isBetween_5 : decode cX3_isBetween 5 = .ok (.invokevirtual 96, 3) := by decide +kernel
theorem dX3_isBetween_8 : decode cX3_isBetween 8 = .ok (.istore_n 3, 1) := by decide +kernel
theorem dX3_isBetween_9 : decode cX3_isBetween 9 = .ok (.iload_n 3, 1) := by decide +kernel
theorem dX3_isBetween_10 : decode cX3_isBetween 10 = .ok (.iload_n 1, 1) := by decide +kernel
theorem dX3_isBetween_11 : decode cX3_isBetween 11 = .ok (.if_icmp .lt 12, 3) := by decide +kernel
theorem dX3_isBetween_14 : decode cX3_isBetween 14 = .ok (.iload_n 3, 1) := by decide +kernel
theorem dX3_isBetween_15 : decode cX3_isBetween 15 = .ok (.iload_n 2, 1) := by decide +kernel
theorem dX3_isBetween_16 : decode cX3_isBetween 16 = .ok (.if_icmp .gt 7, 3) := by decide +kernel
theorem dX3_isBetween_19 : decode cX3_isBetween 19 = .ok (.iconst 1, 1) := by decide +kernel
theorem dX3_isBetween_20 : decode cX3_isBetween 20 = .ok (.goto 4, 3) := by decide +kernel
theorem dX3_isBetween_23 : decode cX3_isBetween 23 = .ok (.iconst 0, 1) := by decide +kernel
theorem dX3_isBetween_24 : decode cX3_isBetween 24 = .ok (.ireturn, 1) := by decide +kernel
set_option maxRecDepth 20000 in
theorem ggX3_isWord_J0_length_8abf5 : GoodIn wsX3_isWord wsJ0_length_8abf5 := goodIn_r _ [6, 7, 8, 9, 10, 5, 11, 12, 13] (by decide +kernel) (by decide +kernel)
set_option maxRecDepth 20000 in
theorem gX3_isWord_J0_length_8abf5 : GoodIn wsX3_isWord (wsV RX3 100 RJ0 yJ0_length_8abf5 wsJ0_length_8abf5) := goodIn_app (goodIn_of _ (by decide +kernel)) ggX3_isWord_J0_length_8abf5
set_option maxRecDepth 20000 in
theorem ggX3_isWord_X3_byteAt : GoodIn wsX3_isWord wsX3_byteAt := goodIn_r _ [18, 19, 20, 58, 59, 60, 61] (by decide +kernel) (by decide +kernel)
set_option maxRecDepth 20000 in
theorem gX3_isWord_X3_byteAt : GoodIn wsX3_isWord (wsV RX3 96 RX3 yX3_byteAt wsX3_byteAt) := goodIn_app (goodIn_of _ (by decide +kernel)) ggX3_isWord_X3_byteAt
set_option maxRecDepth 20000 in
theorem ggX3_isWord_J0_charAt_5068e : GoodIn wsX3_isWord wsJ0_charAt_5068e := goodIn_r _ [24, 7, 25, 26, 27, 5, 28, 12, 13, 29, 30, 31, 32, 33, 34, 35, 36, 37, 38, 39, 40, 41, 42, 43, 44, 45, 46, 47, 48, 49, 50, 51, 52, 53, 54, 55, 56, 57] (by decide +kernel) (by decide +kernel)
set_option maxRecDepth 20000 in
theorem gX3_isWord_J0_charAt_5068e : GoodIn wsX3_isWord (wsV RX3 105 RJ0 yJ0_charAt_5068e wsJ0_charAt_5068e) := goodIn_app (goodIn_of _ (by decide +kernel)) ggX3_isWord_J0_charAt_5068e
theorem dX3_isWord_0 : decode cX3_isWord 0 = .ok (.aload_n 0, 1) := by decide +kernel
theorem dX3_isWord_1 : decode cX3_isWord 1 = .ok (.getfield 19, 3) := by decide +kernel
theorem dX3_isWord_4 : decode cX3_isWord 4 = .ok (.iload_n 1, 1) := by decide +kernel
theorem dX3_isWord_5 : decode cX3_isWord 5 = .ok (.isub, 1) := by decide +kernel
theorem dX3_isWord_6 : decode cX3_isWord 6 = .ok (.aload_n 2, 1) := by decide +kernel
theorem dX3_isWord_7 : decode cX3_isWord 7 = .ok (.invokevirtual 100, 3) := by decide +kernel
theorem dX3_isWord_10 : decode cX3_isWord 10 = .ok (.if_icmp .eq 5, 3) := by decide +kernel
theorem dX3_isWord_13 : decode cX3_isWord 13 = .ok (.iconst 0, 1) := by decide +kernel
theorem dX3_isWord_14 : decode cX3_isWord 14 = .ok (.ireturn, 1) := by decide +kernel
theorem dX3_isWord_15 : decode cX3_isWord 15 = .ok (.iconst 0, 1) := by decide +kernel
theorem dX3_isWord_16 : decode cX3_isWord 16 = .ok (.istore_n 3, 1) := by decide +kernel
theorem dX3_isWord_17 : decode cX3_isWord 17 = .ok (.iload_n 3, 1) := by decide +kernel
theorem dX3_isWord_18 : decode cX3_isWord 18 = .ok (.aload_n 2, 1) := by decide +kernel
theorem dX3_isWord_19 : decode cX3_isWord 19 = .ok (.invokevirtual 100, 3) := by decide +kernel
theorem dX3_isWord_22 : decode cX3_isWord 22 = .ok (.if_icmp .ge 26, 3) := by decide +kernel
theorem dX3_isWord_25 : decode cX3_isWord 25 = .ok (.aload_n 0, 1) := by decide +kernel
theorem dX3_isWord_26 : decode cX3_isWord 26 = .ok (.iload_n 1, 1) := by decide +kernel
theorem dX3_isWord_27 : decode cX3_isWord 27 = .ok (.iload_n 3, 1) := by decide +kernel
theorem dX3_isWord_28 : decode cX3_isWord 28 = .ok (.iadd, 1) := by decide +kernel
theorem dX3_isWord_29 : decode cX3_isWord 29 = .ok (.invokevirtual 96, 3) := by decide +kernel
theorem dX3_isWord_32 : decode cX3_isWord 32 = .ok (.aload_n 2, 1) := by decide +kernel
theorem dX3_isWord_33 : decode cX3_isWord 33 = .ok (.iload_n 3, 1) := by decide +kernel
theorem dX3_isWord_34 : decode cX3_isWord 34 = .ok (.invokevirtual 105, 3) := by decide +kernel
theorem dX3_isWord_37 : decode cX3_isWord 37 = .ok (.if_icmp .eq 5, 3) := by decide +kernel
theorem dX3_isWord_40 : decode cX3_isWord 40 = .ok (.iconst 0, 1) := by decide +kernel
theorem dX3_isWord_41 : decode cX3_isWord 41 = .ok (.ireturn, 1) := by decide +kernel
theorem dX3_isWord_42 : decode cX3_isWord 42 = .ok (.iinc 3 1, 3) := by decide +kernel
theorem dX3_isWord_45 : decode cX3_isWord 45 = .ok (.goto (-28), 3) := by decide +kernel
theorem dX3_isWord_48 : decode cX3_isWord 48 = .ok (.iconst 1, 1) := by decide +kernel
theorem dX3_isWord_49 : decode cX3_isWord 49 = .ok (.ireturn, 1) := by decide +kernel
set_option maxRecDepth 20000 in
theorem ggX4_init_X5_init : GoodIn wsX4_init wsX5_init := goodIn_r _ [10, 11, 2, 3, 12, 13, 14, 15, 16, 17, 18, 19, 20, 21, 22, 25, 26, 27, 28, 29, 30, 31, 32, 33, 34, 35] (by decide +kernel) (by decide +kernel)
set_option maxRecDepth 20000 in
theorem gX4_init_X5_init_n21 : GoodIn wsX4_init (wsX5_init) := ggX4_init_X5_init
theorem dX4_init_0 : decode cX4_init 0 = .ok (.aload_n 0, 1) := by decide +kernel
theorem dX4_init_1 : decode cX4_init 1 = .ok (.invokespecial 3, 3) := by decide +kernel
theorem dX4_init_4 : decode cX4_init 4 = .ok (.aload_n 0, 1) := by decide +kernel
theorem dX4_init_5 : decode cX4_init 5 = .ok (.bipush 6, 2) := by decide +kernel
theorem dX4_init_7 : decode cX4_init 7 = .ok (.anewarray 9, 3) := by decide +kernel
theorem dX4_init_10 : decode cX4_init 10 = .ok (.putfield 11, 3) := by decide +kernel
theorem dX4_init_13 : decode cX4_init 13 = .ok (.aload_n 0, 1) := by decide +kernel
theorem dX4_init_14 : decode cX4_init 14 = .ok (.iconst 0, 1) := by decide +kernel
theorem dX4_init_15 : decode cX4_init 15 = .ok (.putfield 17, 3) := by decide +kernel
theorem dX4_init_18 : decode cX4_init 18 = .ok (.iconst 0, 1) := by decide +kernel
theorem dX4_init_19 : decode cX4_init 19 = .ok (.istore_n 1, 1) := by decide +kernel
theorem dX4_init_20 : decode cX4_init 20 = .ok (.iload_n 1, 1) := by decide +kernel
theorem dX4_init_21 : decode cX4_init 21 = .ok (.bipush 6, 2) := by decide +kernel
theorem dX4_init_23 : decode cX4_init 23 = .ok (.if_icmp .ge 22, 3) := by decide +kernel
theorem dX4_init_26 : decode cX4_init 26 = .ok (.aload_n 0, 1) := by decide +kernel
theorem dX4_init_27 : decode cX4_init 27 = .ok (.getfield 11, 3) := by decide +kernel
theorem dX4_init_30 : decode cX4_init 30 = .ok (.iload_n 1, 1) := by decide +kernel
theorem dX4_init_31 : decode cX4_init 31 = .ok (.new 9, 3) := by decide +kernel
theorem dX4_init_34 : decode cX4_init 34 = .ok (.dup, 1) := by decide +kernel
theorem dX4_init_35 : decode cX4_init 35 = .ok (.invokespecial 21, 3) := by decide +kernel
theorem dX4_init_38 : decode cX4_init 38 = .ok (.aastore, 1) := by decide +kernel
theorem dX4_init_39 : decode cX4_init 39 = .ok (.iinc 1 1, 3) := by decide +kernel
theorem dX4_init_42 : decode cX4_init 42 = .ok (.goto (-22), 3) := by decide +kernel
theorem dX4_init_45 : decode cX4_init 45 = .ok (.return_, 1) := by decide +kernel
theorem dX4_tensOfMiles_0 : decode cX4_tensOfMiles 0 = .ok (.aload_n 0, 1) := by decide +kernel
theorem dX4_tensOfMiles_1 : decode cX4_tensOfMiles 1 = .ok (.getfield 17, 3) := by decide +kernel
theorem dX4_tensOfMiles_4 : decode cX4_tensOfMiles 4 = .ok (.bipush 10, 2) := by decide +kernel
theorem dX4_tensOfMiles_6 : decode cX4_tensOfMiles 6 = .ok (.idiv, 1) := by decide +kernel
theorem dX4_tensOfMiles_7 : decode cX4_tensOfMiles 7 = .ok (.ireturn, 1) := by decide +kernel
theorem dX5_init_0 : decode cX5_init 0 = .ok (.aload_n 0, 1) := by decide +kernel
theorem dX5_init_1 : decode cX5_init 1 = .ok (.invokespecial 1, 3) := by decide +kernel
theorem dX5_init_4 : decode cX5_init 4 = .ok (.aload_n 0, 1) := by decide +kernel
theorem dX5_init_5 : decode cX5_init 5 = .ok (.iconst 0, 1) := by decide +kernel
theorem dX5_init_6 : decode cX5_init 6 = .ok (.putfield 7, 3) := by decide +kernel
theorem dX5_init_9 : decode cX5_init 9 = .ok (.aload_n 0, 1) := by decide +kernel
theorem dX5_init_10 : decode cX5_init 10 = .ok (.iconst 0, 1) := by decide +kernel
theorem dX5_init_11 : decode cX5_init 11 = .ok (.putfield 13, 3) := by decide +kernel
theorem dX5_init_14 : decode cX5_init 14 = .ok (.aload_n 0, 1) := by decide +kernel
theorem dX5_init_15 : decode cX5_init 15 = .ok (.iconst 0, 1) := by decide +kernel
theorem dX5_init_16 : decode cX5_init 16 = .ok (.putfield 16, 3) := by decide +kernel
theorem dX5_init_19 : decode cX5_init 19 = .ok (.aload_n 0, 1) := by decide +kernel
theorem dX5_init_20 : decode cX5_init 20 = .ok (.iconst 0, 1) := by decide +kernel
theorem dX5_init_21 : decode cX5_init 21 = .ok (.putfield 19, 3) := by decide +kernel
theorem dX5_init_24 : decode cX5_init 24 = .ok (.aload_n 0, 1) := by decide +kernel
theorem dX5_init_25 : decode cX5_init 25 = .ok (.iconst 0, 1) := by decide +kernel
theorem dX5_init_26 : decode cX5_init 26 = .ok (.putfield 22, 3) := by decide +kernel
theorem dX5_init_29 : decode cX5_init 29 = .ok (.aload_n 0, 1) := by decide +kernel
theorem dX5_init_30 : decode cX5_init 30 = .ok (.iconst 0, 1) := by decide +kernel
theorem dX5_init_31 : decode cX5_init 31 = .ok (.putfield 25, 3) := by decide +kernel
theorem dX5_init_34 : decode cX5_init 34 = .ok (.aload_n 0, 1) := by decide +kernel
theorem dX5_init_35 : decode cX5_init 35 = .ok (.iconst 0, 1) := by decide +kernel
theorem dX5_init_36 : decode cX5_init 36 = .ok (.putfield 28, 3) := by decide +kernel
theorem dX5_init_39 : decode cX5_init 39 = .ok (.aload_n 0, 1) := by decide +kernel
theorem dX5_init_40 : decode cX5_init 40 = .ok (.iconst 0, 1) := by decide +kernel
theorem dX5_init_41 : decode cX5_init 41 = .ok (.putfield 31, 3) := by decide +kernel
theorem dX5_init_44 : decode cX5_init 44 = .ok (.aload_n 0, 1) := by decide +kernel
theorem dX5_init_45 : decode cX5_init 45 = .ok (.iconst 0, 1) := by decide +kernel
theorem dX5_init_46 : decode cX5_init 46 = .ok (.putfield 34, 3) := by decide +kernel
theorem dX5_init_49 : decode cX5_init 49 = .ok (.aload_n 0, 1) := by decide +kernel
theorem dX5_init_50 : decode cX5_init 50 = .ok (.iconst 0, 1) := by decide +kernel
theorem dX5_init_51 : decode cX5_init 51 = .ok (.putfield 37, 3) := by decide +kernel
theorem dX5_init_54 : decode cX5_init 54 = .ok (.aload_n 0, 1) := by decide +kernel
theorem dX5_init_55 : decode cX5_init 55 = .ok (.iconst 0, 1) := by decide +kernel
theorem dX5_init_56 : decode cX5_init 56 = .ok (.putfield 40, 3) := by decide +kernel
theorem dX5_init_59 : decode cX5_init 59 = .ok (.return_, 1) := by decide +kernel
theorem dX5_arrange_0 : decode cX5_arrange 0 = .ok (.aload_n 0, 1) := by decide +kernel
theorem dX5_arrange_1 : decode cX5_arrange 1 = .ok (.iload_n 1, 1) := by decide +kernel
theorem dX5_arrange_2 : decode cX5_arrange 2 = .ok (.putfield 7, 3) := by decide +kernel
theorem dX5_arrange_5 : decode cX5_arrange 5 = .ok (.aload_n 0, 1) := by decide +kernel
theorem dX5_arrange_6 : decode cX5_arrange 6 = .ok (.iload_n 2, 1) := by decide +kernel
theorem dX5_arrange_7 : decode cX5_arrange 7 = .ok (.putfield 13, 3) := by decide +kernel
theorem dX5_arrange_10 : decode cX5_arrange 10 = .ok (.aload_n 0, 1) := by decide +kernel
theorem dX5_arrange_11 : decode cX5_arrange 11 = .ok (.iload_n 3, 1) := by decide +kernel
theorem dX5_arrange_12 : decode cX5_arrange 12 = .ok (.putfield 16, 3) := by decide +kernel
theorem dX5_arrange_15 : decode cX5_arrange 15 = .ok (.aload_n 0, 1) := by decide +kernel
theorem dX5_arrange_16 : decode cX5_arrange 16 = .ok (.iload 4, 2) := by decide +kernel
theorem dX5_arrange_18 : decode cX5_arrange 18 = .ok (.putfield 19, 3) := by decide +kernel
theorem dX5_arrange_21 : decode cX5_arrange 21 = .ok (.return_, 1) := by decide +kernel
set_option maxRecDepth 20000 in
theorem ggX5_passWeek_X5_bring : GoodIn wsX5_passWeek wsX5_bring := goodIn_r _ [7, 8, 9, 10, 44, 45, 46, 47, 48, 49, 50, 51, 52, 53, 54] (by decide +kernel) (by decide +kernel)
set_option maxRecDepth 20000 in
theorem gX5_passWeek_X5_bring : GoodIn wsX5_passWeek (wsV RX5 43 RX5 yX5_bring wsX5_bring) := goodIn_app (goodIn_of _ (by decide +kernel)) ggX5_passWeek_X5_bring
set_option maxRecDepth 20000 in
theorem ggX5_passWeek_X5_hideHalf : GoodIn wsX5_passWeek wsX5_hideHalf := goodIn_r _ [14, 8, 15, 44, 45, 46, 47, 48, 49, 50, 51, 52, 53, 54] (by decide +kernel) (by decide +kernel)
set_option maxRecDepth 20000 in
theorem gX5_passWeek_X5_hideHalf : GoodIn wsX5_passWeek (wsV RX5 46 RX5 yX5_hideHalf wsX5_hideHalf) := goodIn_app (goodIn_of _ (by decide +kernel)) ggX5_passWeek_X5_hideHalf
set_option maxRecDepth 20000 in
theorem ggX5_passWeek_X5_showAll : GoodIn wsX5_passWeek wsX5_showAll := goodIn_r _ [19, 8, 15, 44, 45, 46, 47, 48, 49, 50, 51, 52, 53, 54] (by decide +kernel) (by decide +kernel)
set_option maxRecDepth 20000 in
theorem gX5_passWeek_X5_showAll : GoodIn wsX5_passWeek (wsV RX5 49 RX5 yX5_showAll wsX5_showAll) := goodIn_app (goodIn_of _ (by decide +kernel)) ggX5_passWeek_X5_showAll
set_option maxRecDepth 20000 in
theorem ggX5_passWeek_X5_sell : GoodIn wsX5_passWeek wsX5_sell := goodIn_r _ [23, 8, 24, 25, 26, 27, 28, 29, 30, 31, 32, 33, 34, 6, 35, 2, 44, 45, 46, 47, 48, 49, 50, 51, 52, 53, 54] (by decide +kernel) (by decide +kernel)
set_option maxRecDepth 20000 in
theorem gX5_passWeek_X5_sell : GoodIn wsX5_passWeek (wsV RX5 52 RX5 yX5_sell wsX5_sell) := goodIn_app (goodIn_of _ (by decide +kernel)) ggX5_passWeek_X5_sell
set_option maxRecDepth 20000 in
theorem ggX5_passWeek_X5_rot : GoodIn wsX5_passWeek wsX5_rot := goodIn_r _ [39, 8, 15, 40, 41, 42, 6, 43, 44, 45, 46, 47, 48, 49, 50, 51, 52, 53, 54] (by decide +kernel) (by decide +kernel)
set_option maxRecDepth 20000 in
theorem gX5_passWeek_X5_rot : GoodIn wsX5_passWeek (wsV RX5 56 RX5 yX5_rot wsX5_rot) := goodIn_app (goodIn_of _ (by decide +kernel)) ggX5_passWeek_X5_rot
theorem dX5_passWeek_0 : decode cX5_passWeek 0 = .ok (.iload_n 1, 1) := by decide +kernel
theorem dX5_passWeek_1 : decode cX5_passWeek 1 = .ok (.aload_n 0, 1) := by decide +kernel
theorem dX5_passWeek_2 : decode cX5_passWeek 2 = .ok (.getfield 7, 3) := by decide +kernel
theorem dX5_passWeek_5 : decode cX5_passWeek 5 = .ok (.iload_n 2, 1) := by decide +kernel
theorem dX5_passWeek_6 : decode cX5_passWeek 6 = .ok (.iadd, 1) := by decide +kernel
theorem dX5_passWeek_7 : decode cX5_passWeek 7 = .ok (.if_icmp .lt 7, 3) := by decide +kernel
theorem dX5_passWeek_10 : decode cX5_passWeek 10 = .ok (.aload_n 0, 1) := by decide +kernel
theorem dX5_passWeek_11 : decode cX5_passWeek 11 = .ok (.invokevirtual 43, 3) := by decide +kernel
theorem dX5_passWeek_14 : decode cX5_passWeek 14 = .ok (.iload_n 1, 1) := by decide +kernel
theorem dX5_passWeek_15 : decode cX5_passWeek 15 = .ok (.aload_n 0, 1) := by decide +kernel
theorem dX5_passWeek_16 : decode cX5_passWeek 16 = .ok (.getfield 13, 3) := by decide +kernel
theorem dX5_passWeek_19 : decode cX5_passWeek 19 = .ok (.if_icmp .ge 10, 3) := by decide +kernel
theorem dX5_passWeek_22 : decode cX5_passWeek 22 = .ok (.aload_n 0, 1) := by decide +kernel
theorem dX5_passWeek_23 : decode cX5_passWeek 23 = .ok (.invokevirtual 46, 3) := by decide +kernel
theorem dX5_passWeek_26 : decode cX5_passWeek 26 = .ok (.goto 7, 3) := by decide +kernel
theorem dX5_passWeek_29 : decode cX5_passWeek 29 = .ok (.aload_n 0, 1) := by decide +kernel
theorem dX5_passWeek_30 : decode cX5_passWeek 30 = .ok (.invokevirtual 49, 3) := by decide +kernel
theorem dX5_passWeek_33 : decode cX5_passWeek 33 = .ok (.aload_n 0, 1) := by decide +kernel
theorem dX5_passWeek_34 : decode cX5_passWeek 34 = .ok (.iload_n 1, 1) := by decide +kernel
theorem dX5_passWeek_35 : decode cX5_passWeek 35 = .ok (.invokevirtual 52, 3) := by decide +kernel
theorem dX5_passWeek_38 : decode cX5_passWeek 38 = .ok (.aload_n 0, 1) := by decide +kernel
theorem dX5_passWeek_39 : decode cX5_passWeek 39 = .ok (.iload_n 3, 1) := by decide +kernel
theorem dX5_passWeek_40 : decode cX5_passWeek 40 = .ok (.invokevirtual 56, 3) := by decide +kernel
theorem dX5_passWeek_43 : decode cX5_passWeek 43 = .ok (.return_, 1) := by decide +kernel
theorem dX5_bring_0 : decode cX5_bring 0 = .ok (.aload_n 0, 1) := by decide +kernel
theorem dX5_bring_1 : decode cX5_bring 1 = .ok (.dup, 1) := by decide +kernel
theorem dX5_bring_2 : decode cX5_bring 2 = .ok (.getfield 22, 3) := by decide +kernel
theorem dX5_bring_5 : decode cX5_bring 5 = .ok (.aload_n 0, 1) := by decide +kernel
theorem dX5_bring_6 : decode cX5_bring 6 = .ok (.getfield 16, 3) := by decide +kernel
theorem dX5_bring_9 : decode cX5_bring 9 = .ok (.iadd, 1) := by decide +kernel
theorem dX5_bring_10 : decode cX5_bring 10 = .ok (.putfield 22, 3) := by decide +kernel
theorem dX5_bring_13 : decode cX5_bring 13 = .ok (.aload_n 0, 1) := by decide +kernel
theorem dX5_bring_14 : decode cX5_bring 14 = .ok (.dup, 1) := by decide +kernel
theorem dX5_bring_15 : decode cX5_bring 15 = .ok (.getfield 28, 3) := by decide +kernel
theorem dX5_bring_18 : decode cX5_bring 18 = .ok (.aload_n 0, 1) := by decide +kernel
theorem dX5_bring_19 : decode cX5_bring 19 = .ok (.getfield 16, 3) := by decide +kernel
theorem dX5_bring_22 : decode cX5_bring 22 = .ok (.iadd, 1) := by decide +kernel
theorem dX5_bring_23 : decode cX5_bring 23 = .ok (.putfield 28, 3) := by decide +kernel
theorem dX5_bring_26 : decode cX5_bring 26 = .ok (.return_, 1) := by decide +kernel
theorem dX5_hideHalf_0 : decode cX5_hideHalf 0 = .ok (.aload_n 0, 1) := by decide +kernel
theorem dX5_hideHalf_1 : decode cX5_hideHalf 1 = .ok (.getfield 22, 3) := by decide +kernel
theorem dX5_hideHalf_4 : decode cX5_hideHalf 4 = .ok (.iconst 2, 1) := by decide +kernel
theorem dX5_hideHalf_5 : decode cX5_hideHalf 5 = .ok (.idiv, 1) := by decide +kernel
theorem dX5_hideHalf_6 : decode cX5_hideHalf 6 = .ok (.istore_n 1, 1) := by decide +kernel
theorem dX5_hideHalf_7 : decode cX5_hideHalf 7 = .ok (.aload_n 0, 1) := by decide +kernel
theorem dX5_hideHalf_8 : decode cX5_hideHalf 8 = .ok (.dup, 1) := by decide +kernel
theorem dX5_hideHalf_9 : decode cX5_hideHalf 9 = .ok (.getfield 22, 3) := by decide +kernel
theorem dX5_hideHalf_12 : decode cX5_hideHalf 12 = .ok (.iload_n 1, 1) := by decide +kernel
theorem dX5_hideHalf_13 : decode cX5_hideHalf 13 = .ok (.isub, 1) := by decide +kernel
theorem dX5_hideHalf_14 : decode cX5_hideHalf 14 = .ok (.putfield 22, 3) := by decide +kernel
theorem dX5_hideHalf_17 : decode cX5_hideHalf 17 = .ok (.aload_n 0, 1) := by decide +kernel
theorem dX5_hideHalf_18 : decode cX5_hideHalf 18 = .ok (.dup, 1) := by decide +kernel
theorem dX5_hideHalf_19 : decode cX5_hideHalf 19 = .ok (.getfield 25, 3) := by decide +kernel
theorem dX5_hideHalf_22 : decode cX5_hideHalf 22 = .ok (.iload_n 1, 1) := by decide +kernel
theorem dX5_hideHalf_23 : decode cX5_hideHalf 23 = .ok (.iadd, 1) := by decide +kernel
theorem dX5_hideHalf_24 : decode cX5_hideHalf 24 = .ok (.putfield 25, 3) := by decide +kernel
theorem dX5_hideHalf_27 : decode cX5_hideHalf 27 = .ok (.return_, 1) := by decide +kernel
theorem dX5_showAll_0 : decode cX5_showAll 0 = .ok (.aload_n 0, 1) := by decide +kernel
theorem dX5_showAll_1 : decode cX5_showAll 1 = .ok (.dup, 1) := by decide +kernel
theorem dX5_showAll_2 : decode cX5_showAll 2 = .ok (.getfield 22, 3) := by decide +kernel
theorem dX5_showAll_5 : decode cX5_showAll 5 = .ok (.aload_n 0, 1) := by decide +kernel
theorem dX5_showAll_6 : decode cX5_showAll 6 = .ok (.getfield 25, 3) := by decide +kernel
theorem dX5_showAll_9 : decode cX5_showAll 9 = .ok (.iadd, 1) := by decide +kernel
theorem dX5_showAll_10 : decode cX5_showAll 10 = .ok (.putfield 22, 3) := by decide +kernel
theorem dX5_showAll_13 : decode cX5_showAll 13 = .ok (.aload_n 0, 1) := by decide +kernel
theorem dX5_showAll_14 : decode cX5_showAll 14 = .ok (.iconst 0, 1) := by decide +kernel
theorem dX5_showAll_15 : decode cX5_showAll 15 = .ok (.putfield 25, 3) := by decide +kernel
theorem dX5_showAll_18 : decode cX5_showAll 18 = .ok (.return_, 1) := by decide +kernel
set_option maxRecDepth 20000 in
theorem ggX5_sell_X5_weightOfPiece : GoodIn wsX5_sell wsX5_weightOfPiece := goodIn_r _ [14, 15, 16, 17, 18, 19, 20, 21, 22, 23, 24, 25, 26] (by decide +kernel) (by decide +kernel)
set_option maxRecDepth 20000 in
theorem gX5_sell_X5_weightOfPiece : GoodIn wsX5_sell (wsV RX5 65 RX5 yX5_weightOfPiece wsX5_weightOfPiece) := goodIn_app (goodIn_of _ (by decide +kernel)) ggX5_sell_X5_weightOfPiece
theorem dX5_sell_0 : decode cX5_sell 0 = .ok (.aload_n 0, 1) := by decide +kernel
theorem dX5_sell_1 : decode cX5_sell 1 = .ok (.getfield 22, 3) := by decide +kernel
theorem dX5_sell_4 : decode cX5_sell 4 = .ok (.aload_n 0, 1) := by decide +kernel
theorem dX5_sell_5 : decode cX5_sell 5 = .ok (.getfield 19, 3) := by decide +kernel
theorem dX5_sell_8 : decode cX5_sell 8 = .ok (.invokestatic 59, 3) := by decide +kernel
theorem dX5_sell_11 : decode cX5_sell 11 = .ok (.istore_n 2, 1) := by decide +kernel
theorem dX5_sell_12 : decode cX5_sell 12 = .ok (.aload_n 0, 1) := by decide +kernel
theorem dX5_sell_13 : decode cX5_sell 13 = .ok (.dup, 1) := by decide +kernel
theorem dX5_sell_14 : decode cX5_sell 14 = .ok (.getfield 22, 3) := by decide +kernel
theorem dX5_sell_17 : decode cX5_sell 17 = .ok (.iload_n 2, 1) := by decide +kernel
theorem dX5_sell_18 : decode cX5_sell 18 = .ok (.isub, 1) := by decide +kernel
theorem dX5_sell_19 : decode cX5_sell 19 = .ok (.putfield 22, 3) := by decide +kernel
theorem dX5_sell_22 : decode cX5_sell 22 = .ok (.aload_n 0, 1) := by decide +kernel
theorem dX5_sell_23 : decode cX5_sell 23 = .ok (.dup, 1) := by decide +kernel
theorem dX5_sell_24 : decode cX5_sell 24 = .ok (.getfield 31, 3) := by decide +kernel
theorem dX5_sell_27 : decode cX5_sell 27 = .ok (.iload_n 2, 1) := by decide +kernel
theorem dX5_sell_28 : decode cX5_sell 28 = .ok (.iadd, 1) := by decide +kernel
theorem dX5_sell_29 : decode cX5_sell 29 = .ok (.putfield 31, 3) := by decide +kernel
theorem dX5_sell_32 : decode cX5_sell 32 = .ok (.aload_n 0, 1) := by decide +kernel
theorem dX5_sell_33 : decode cX5_sell 33 = .ok (.dup, 1) := by decide +kernel
theorem dX5_sell_34 : decode cX5_sell 34 = .ok (.getfield 37, 3) := by decide +kernel
theorem dX5_sell_37 : decode cX5_sell 37 = .ok (.iload_n 2, 1) := by decide +kernel
theorem dX5_sell_38 : decode cX5_sell 38 = .ok (.iload_n 1, 1) := by decide +kernel
theorem dX5_sell_39 : decode cX5_sell 39 = .ok (.imul, 1) := by decide +kernel
theorem dX5_sell_40 : decode cX5_sell 40 = .ok (.iadd, 1) := by decide +kernel
theorem dX5_sell_41 : decode cX5_sell 41 = .ok (.putfield 37, 3) := by decide +kernel
theorem dX5_sell_44 : decode cX5_sell 44 = .ok (.aload_n 0, 1) := by decide +kernel
theorem dX5_sell_45 : decode cX5_sell 45 = .ok (.dup, 1) := by decide +kernel
theorem dX5_sell_46 : decode cX5_sell 46 = .ok (.getfield 40, 3) := by decide +kernel
theorem dX5_sell_49 : decode cX5_sell 49 = .ok (.iload_n 2, 1) := by decide +kernel
theorem dX5_sell_50 : decode cX5_sell 50 = .ok (.aload_n 0, 1) := by decide +kernel
theorem dX5_sell_51 : decode cX5_sell 51 = .ok (.iload_n 1, 1) := by decide +kernel
theorem dX5_sell_52 : decode cX5_sell 52 = .ok (.invokevirtual 65, 3) := by decide +kernel
theorem dX5_sell_55 : decode cX5_sell 55 = .ok (.imul, 1) := by decide +kernel
theorem dX5_sell_56 : decode cX5_sell 56 = .ok (.iadd, 1) := by decide +kernel
theorem dX5_sell_57 : decode cX5_sell 57 = .ok (.putfield 40, 3) := by decide +kernel
theorem dX5_sell_60 : decode cX5_sell 60 = .ok (.return_, 1) := by decide +kernel
theorem dX5_weightOfPiece_0 : decode cX5_weightOfPiece 0 = .ok (.aload_n 0, 1) := by decide +kernel
theorem dX5_weightOfPiece_1 : decode cX5_weightOfPiece 1 = .ok (.getfield 13, 3) := by decide +kernel
theorem dX5_weightOfPiece_4 : decode cX5_weightOfPiece 4 = .ok (.ifCond .le 23, 3) := by decide +kernel
theorem dX5_weightOfPiece_7 : decode cX5_weightOfPiece 7 = .ok (.iload_n 1, 1) := by decide +kernel
theorem dX5_weightOfPiece_8 : decode cX5_weightOfPiece 8 = .ok (.aload_n 0, 1) := by decide +kernel
theorem dX5_weightOfPiece_9 : decode cX5_weightOfPiece 9 = .ok (.getfield 13, 3) := by decide +kernel
theorem dX5_weightOfPiece_12 : decode cX5_weightOfPiece 12 = .ok (.if_icmp .ge 15, 3) := by decide +kernel
theorem dX5_weightOfPiece_15 : decode cX5_weightOfPiece 15 = .ok (.iload_n 1, 1) := by decide +kernel
theorem dX5_weightOfPiece_16 : decode cX5_weightOfPiece 16 = .ok (.bipush 100, 2) := by decide +kernel
theorem dX5_weightOfPiece_18 : decode cX5_weightOfPiece 18 = .ok (.imul, 1) := by decide +kernel
theorem dX5_weightOfPiece_19 : decode cX5_weightOfPiece 19 = .ok (.aload_n 0, 1) := by decide +kernel
theorem dX5_weightOfPiece_20 : decode cX5_weightOfPiece 20 = .ok (.getfield 13, 3) := by decide +kernel
theorem dX5_weightOfPiece_23 : decode cX5_weightOfPiece 23 = .ok (.idiv, 1) := by decide +kernel
theorem dX5_weightOfPiece_24 : decode cX5_weightOfPiece 24 = .ok (.goto 5, 3) := by decide +kernel
theorem dX5_weightOfPiece_27 : decode cX5_weightOfPiece 27 = .ok (.bipush 100, 2) := by decide +kernel
theorem dX5_weightOfPiece_29 : decode cX5_weightOfPiece 29 = .ok (.ireturn, 1) := by decide +kernel
set_option maxRecDepth 20000 in
theorem ggX5_rot_X5_hundredthsUp : GoodIn wsX5_rot wsX5_hundredthsUp := goodIn_r _ [7] (by decide +kernel) (by decide +kernel)
set_option maxRecDepth 20000 in
theorem gX5_rot_X5_hundredthsUp : GoodIn wsX5_rot (va_wsS RX5 69 yX5_hundredthsUp wsX5_hundredthsUp) := goodIn_app (goodIn_of _ (by decide +kernel)) ggX5_rot_X5_hundredthsUp
theorem dX5_rot_0 : decode cX5_rot 0 = .ok (.aload_n 0, 1) := by decide +kernel
theorem dX5_rot_1 : decode cX5_rot 1 = .ok (.getfield 22, 3) := by decide +kernel
theorem dX5_rot_4 : decode cX5_rot 4 = .ok (.iload_n 1, 1) := by decide +kernel
theorem dX5_rot_5 : decode cX5_rot 5 = .ok (.invokestatic 69, 3) := by decide +kernel
theorem dX5_rot_8 : decode cX5_rot 8 = .ok (.istore_n 2, 1) := by decide +kernel
theorem dX5_rot_9 : decode cX5_rot 9 = .ok (.aload_n 0, 1) := by decide +kernel
theorem dX5_rot_10 : decode cX5_rot 10 = .ok (.getfield 25, 3) := by decide +kernel
theorem dX5_rot_13 : decode cX5_rot 13 = .ok (.iload_n 1, 1) := by decide +kernel
theorem dX5_rot_14 : decode cX5_rot 14 = .ok (.invokestatic 69, 3) := by decide +kernel
theorem dX5_rot_17 : decode cX5_rot 17 = .ok (.istore_n 3, 1) := by decide +kernel
theorem dX5_rot_18 : decode cX5_rot 18 = .ok (.aload_n 0, 1) := by decide +kernel
theorem dX5_rot_19 : decode cX5_rot 19 = .ok (.dup, 1) := by decide +kernel
theorem dX5_rot_20 : decode cX5_rot 20 = .ok (.getfield 22, 3) := by decide +kernel
theorem dX5_rot_23 : decode cX5_rot 23 = .ok (.iload_n 2, 1) := by decide +kernel
theorem dX5_rot_24 : decode cX5_rot 24 = .ok (.isub, 1) := by decide +kernel
theorem dX5_rot_25 : decode cX5_rot 25 = .ok (.putfield 22, 3) := by decide +kernel
theorem dX5_rot_28 : decode cX5_rot 28 = .ok (.aload_n 0, 1) := by decide +kernel
theorem dX5_rot_29 : decode cX5_rot 29 = .ok (.dup, 1) := by decide +kernel
theorem dX5_rot_30 : decode cX5_rot 30 = .ok (.getfield 25, 3) := by decide +kernel
theorem dX5_rot_33 : decode cX5_rot 33 = .ok (.iload_n 3, 1) := by decide +kernel
theorem dX5_rot_34 : decode cX5_rot 34 = .ok (.isub, 1) := by decide +kernel
theorem dX5_rot_35 : decode cX5_rot 35 = .ok (.putfield 25, 3) := by decide +kernel
theorem dX5_rot_38 : decode cX5_rot 38 = .ok (.aload_n 0, 1) := by decide +kernel
theorem dX5_rot_39 : decode cX5_rot 39 = .ok (.dup, 1) := by decide +kernel
theorem dX5_rot_40 : decode cX5_rot 40 = .ok (.getfield 34, 3) := by decide +kernel
theorem dX5_rot_43 : decode cX5_rot 43 = .ok (.iload_n 2, 1) := by decide +kernel
theorem dX5_rot_44 : decode cX5_rot 44 = .ok (.iload_n 3, 1) := by decide +kernel
theorem dX5_rot_45 : decode cX5_rot 45 = .ok (.iadd, 1) := by decide +kernel
theorem dX5_rot_46 : decode cX5_rot 46 = .ok (.iadd, 1) := by decide +kernel
theorem dX5_rot_47 : decode cX5_rot 47 = .ok (.putfield 34, 3) := by decide +kernel
theorem dX5_rot_50 : decode cX5_rot 50 = .ok (.return_, 1) := by decide +kernel
theorem dX5_hundredthsUp_0 : decode cX5_hundredthsUp 0 = .ok (.iload_n 0, 1) := by decide +kernel
theorem dX5_hundredthsUp_1 : decode cX5_hundredthsUp 1 = .ok (.iload_n 1, 1) := by decide +kernel
theorem dX5_hundredthsUp_2 : decode cX5_hundredthsUp 2 = .ok (.imul, 1) := by decide +kernel
theorem dX5_hundredthsUp_3 : decode cX5_hundredthsUp 3 = .ok (.bipush 99, 2) := by decide +kernel
theorem dX5_hundredthsUp_5 : decode cX5_hundredthsUp 5 = .ok (.iadd, 1) := by decide +kernel
theorem dX5_hundredthsUp_6 : decode cX5_hundredthsUp 6 = .ok (.bipush 100, 2) := by decide +kernel
theorem dX5_hundredthsUp_8 : decode cX5_hundredthsUp 8 = .ok (.idiv, 1) := by decide +kernel
theorem dX5_hundredthsUp_9 : decode cX5_hundredthsUp 9 = .ok (.ireturn, 1) := by decide +kernel
set_option maxRecDepth 20000 in
theorem ggX6_init_X3_init : GoodIn wsX6_init wsX3_init := goodIn_r _ [32, 33, 2, 3, 34, 35, 36, 37, 38, 89, 90, 91, 92] (by decide +kernel) (by decide +kernel)
set_option maxRecDepth 20000 in
theorem gX6_init_X3_init_n9 : GoodIn wsX6_init (wsX3_init) := ggX6_init_X3_init
set_option maxRecDepth 20000 in
theorem ggX6_init_X2_init : GoodIn wsX6_init wsX2_init := goodIn_r _ [41, 42, 2, 3, 20, 43, 44, 45, 46, 47, 48, 49, 50, 51, 104, 105, 106, 107, 108, 109, 110, 111, 112] (by decide +kernel) (by decide +kernel)
set_option maxRecDepth 20000 in
theorem gX6_init_X2_init : GoodIn wsX6_init (wsX2_init) := ggX6_init_X2_init
set_option maxRecDepth 20000 in
theorem ggX6_init_X1_init : GoodIn wsX6_init wsX1_init := goodIn_r _ [53, 54, 2, 3, 20, 55, 56, 57, 113, 114, 115] (by decide +kernel) (by decide +kernel)
set_option maxRecDepth 20000 in
theorem gX6_init_X1_init_n31 : GoodIn wsX6_init (wsX1_init) := ggX6_init_X1_init
set_option maxRecDepth 20000 in
theorem ggX6_init_X0_init : GoodIn wsX6_init wsX0_init := goodIn_r _ [59, 60, 2, 3, 20, 61, 62, 63, 64, 65, 116, 117, 118, 119, 120] (by decide +kernel) (by decide +kernel)
set_option maxRecDepth 20000 in
theorem gX6_init_X0_init_n62 : GoodIn wsX6_init (wsX0_init) := ggX6_init_X0_init
set_option maxRecDepth 20000 in
theorem ggX6_init_X4_init : GoodIn wsX6_init wsX4_init := goodIn_r _ [68, 69, 2, 3, 70, 71, 72, 73, 74, 75, 76, 77, 78, 79, 80, 81, 82, 83, 84, 85, 86, 87, 88, 121, 122, 123, 124, 125, 126, 127, 128, 129, 130, 131, 132, 133] (by decide +kernel) (by decide +kernel)
set_option maxRecDepth 20000 in
theorem gX6_init_X4_init : GoodIn wsX6_init (wsX4_init) := ggX6_init_X4_init
theorem dX6_init_0 : decode cX6_init 0 = .ok (.aload_n 0, 1) := by decide +kernel
theorem dX6_init_1 : decode cX6_init 1 = .ok (.invokespecial 1, 3) := by decide +kernel
theorem dX6_init_4 : decode cX6_init 4 = .ok (.aload_n 0, 1) := by decide +kernel
theorem dX6_init_5 : decode cX6_init 5 = .ok (.new 7, 3) := by decide +kernel
theorem dX6_init_8 : decode cX6_init 8 = .ok (.dup, 1) := by decide +kernel
theorem dX6_init_9 : decode cX6_init 9 = .ok (.invokespecial 9, 3) := by decide +kernel
theorem dX6_init_12 : decode cX6_init 12 = .ok (.putfield 10, 3) := by decide +kernel
theorem dX6_init_15 : decode cX6_init 15 = .ok (.aload_n 0, 1) := by decide +kernel
theorem dX6_init_16 : decode cX6_init 16 = .ok (.new 16, 3) := by decide +kernel
theorem dX6_init_19 : decode cX6_init 19 = .ok (.dup, 1) := by decide +kernel
theorem dX6_init_20 : decode cX6_init 20 = .ok (.invokespecial 18, 3) := by decide +kernel
theorem dX6_init_23 : decode cX6_init 23 = .ok (.putfield 19, 3) := by decide +kernel
theorem dX6_init_26 : decode cX6_init 26 = .ok (.aload_n 0, 1) := by decide +kernel
theorem dX6_init_27 : decode cX6_init 27 = .ok (.bipush 21, 2) := by decide +kernel
theorem dX6_init_29 : decode cX6_init 29 = .ok (.anewarray 23, 3) := by decide +kernel
theorem dX6_init_32 : decode cX6_init 32 = .ok (.putfield 25, 3) := by decide +kernel
theorem dX6_init_35 : decode cX6_init 35 = .ok (.aload_n 0, 1) := by decide +kernel
theorem dX6_init_36 : decode cX6_init 36 = .ok (.new 29, 3) := by decide +kernel
theorem dX6_init_39 : decode cX6_init 39 = .ok (.dup, 1) := by decide +kernel
theorem dX6_init_40 : decode cX6_init 40 = .ok (.invokespecial 31, 3) := by decide +kernel
theorem dX6_init_43 : decode cX6_init 43 = .ok (.putfield 32, 3) := by decide +kernel
theorem dX6_init_46 : decode cX6_init 46 = .ok (.aload_n 0, 1) := by decide +kernel
theorem dX6_init_47 : decode cX6_init 47 = .ok (.bipush 8, 2) := by decide +kernel
theorem dX6_init_49 : decode cX6_init 49 = .ok (.anewarray 36, 3) := by decide +kernel
theorem dX6_init_52 : decode cX6_init 52 = .ok (.putfield 38, 3) := by decide +kernel
theorem dX6_init_55 : decode cX6_init 55 = .ok (.aload_n 0, 1) := by decide +kernel
theorem dX6_init_56 : decode cX6_init 56 = .ok (.bipush 6, 2) := by decide +kernel
theorem dX6_init_58 : decode cX6_init 58 = .ok (.newarray .int, 2) := by decide +kernel
theorem dX6_init_60 : decode cX6_init 60 = .ok (.putfield 42, 3) := by decide +kernel
theorem dX6_init_63 : decode cX6_init 63 = .ok (.aload_n 0, 1) := by decide +kernel
theorem dX6_init_64 : decode cX6_init 64 = .ok (.iconst 0, 1) := by decide +kernel
theorem dX6_init_65 : decode cX6_init 65 = .ok (.putfield 46, 3) := by decide +kernel
theorem dX6_init_68 : decode cX6_init 68 = .ok (.aload_n 0, 1) := by decide +kernel
theorem dX6_init_69 : decode cX6_init 69 = .ok (.iconst 0, 1) := by decide +kernel
theorem dX6_init_70 : decode cX6_init 70 = .ok (.putfield 50, 3) := by decide +kernel
theorem dX6_init_73 : decode cX6_init 73 = .ok (.aload_n 0, 1) := by decide +kernel
theorem dX6_init_74 : decode cX6_init 74 = .ok (.iconst 1, 1) := by decide +kernel
theorem dX6_init_75 : decode cX6_init 75 = .ok (.putfield 53, 3) := by decide +kernel
theorem dX6_init_78 : decode cX6_init 78 = .ok (.aload_n 0, 1) := by decide +kernel
theorem dX6_init_79 : decode cX6_init 79 = .ok (.iconst 0, 1) := by decide +kernel
theorem dX6_init_80 : decode cX6_init 80 = .ok (.putfield 56, 3) := by decide +kernel
theorem dX6_init_83 : decode cX6_init 83 = .ok (.aload_n 0, 1) := by decide +kernel
theorem dX6_init_84 : decode cX6_init 84 = .ok (.iconst (-1), 1) := by decide +kernel
theorem dX6_init_85 : decode cX6_init 85 = .ok (.putfield 59, 3) := by decide +kernel
theorem dX6_init_88 : decode cX6_init 88 = .ok (.iconst 0, 1) := by decide +kernel
theorem dX6_init_89 : decode cX6_init 89 = .ok (.istore_n 1, 1) := by decide +kernel
theorem dX6_init_90 : decode cX6_init 90 = .ok (.iload_n 1, 1) := by decide +kernel
theorem dX6_init_91 : decode cX6_init 91 = .ok (.aload_n 0, 1) := by decide +kernel
theorem dX6_init_92 : decode cX6_init 92 = .ok (.getfield 25, 3) := by decide +kernel
theorem dX6_init_95 : decode cX6_init 95 = .ok (.arraylength, 1) := by decide +kernel
theorem dX6_init_96 : decode cX6_init 96 = .ok (.if_icmp .ge 22, 3) := by decide +kernel
theorem dX6_init_99 : decode cX6_init 99 = .ok (.aload_n 0, 1) := by decide +kernel
theorem dX6_init_100 : decode cX6_init 100 = .ok (.getfield 25, 3) := by decide +kernel
theorem dX6_init_103 : decode cX6_init 103 = .ok (.iload_n 1, 1) := by decide +kernel
theorem dX6_init_104 : decode cX6_init 104 = .ok (.new 23, 3) := by decide +kernel
theorem dX6_init_107 : decode cX6_init 107 = .ok (.dup, 1) := by decide +kernel
theorem dX6_init_108 : decode cX6_init 108 = .ok (.invokespecial 62, 3) := by decide +kernel
theorem dX6_init_111 : decode cX6_init 111 = .ok (.aastore, 1) := by decide +kernel
theorem dX6_init_112 : decode cX6_init 112 = .ok (.iinc 1 1, 3) := by decide +kernel
theorem dX6_init_115 : decode cX6_init 115 = .ok (.goto (-25), 3) := by decide +kernel
theorem dX6_init_118 : decode cX6_init 118 = .ok (.iconst 0, 1) := by decide +kernel
theorem dX6_init_119 : decode cX6_init 119 = .ok (.istore_n 1, 1) := by decide +kernel
theorem dX6_init_120 : decode cX6_init 120 = .ok (.iload_n 1, 1) := by decide +kernel
theorem dX6_init_121 : decode cX6_init 121 = .ok (.aload_n 0, 1) := by decide +kernel
theorem dX6_init_122 : decode cX6_init 122 = .ok (.getfield 38, 3) := by decide +kernel
theorem dX6_init_125 : decode cX6_init 125 = .ok (.arraylength, 1) := by decide +kernel
theorem dX6_init_126 : decode cX6_init 126 = .ok (.if_icmp .ge 22, 3) := by decide +kernel
theorem dX6_init_129 : decode cX6_init 129 = .ok (.aload_n 0, 1) := by decide +kernel
theorem dX6_init_130 : decode cX6_init 130 = .ok (.getfield 38, 3) := by decide +kernel
theorem dX6_init_133 : decode cX6_init 133 = .ok (.iload_n 1, 1) := by decide +kernel
theorem dX6_init_134 : decode cX6_init 134 = .ok (.new 36, 3) := by decide +kernel
theorem dX6_init_137 : decode cX6_init 137 = .ok (.dup, 1) := by decide +kernel
theorem dX6_init_138 : decode cX6_init 138 = .ok (.invokespecial 63, 3) := by decide +kernel
theorem dX6_init_141 : decode cX6_init 141 = .ok (.aastore, 1) := by decide +kernel
theorem dX6_init_142 : decode cX6_init 142 = .ok (.iinc 1 1, 3) := by decide +kernel
theorem dX6_init_145 : decode cX6_init 145 = .ok (.goto (-25), 3) := by decide +kernel
theorem dX6_init_148 : decode cX6_init 148 = .ok (.return_, 1) := by decide +kernel
set_option maxRecDepth 20000 in
theorem ggX6_feed_X3_append : GoodIn wsX6_feed wsX3_append := goodIn_r _ [7, 8, 9, 21, 22, 23, 24] (by decide +kernel) (by decide +kernel)
set_option maxRecDepth 20000 in
theorem gX6_feed_X3_append : GoodIn wsX6_feed (wsV RX6 67 RX3 yX3_append wsX3_append) := goodIn_app (goodIn_of _ (by decide +kernel)) ggX6_feed_X3_append
theorem dX6_feed_0 : decode cX6_feed 0 = .ok (.aload_n 0, 1) := by decide +kernel
theorem dX6_feed_1 : decode cX6_feed 1 = .ok (.getfield 10, 3) := by decide +kernel
theorem dX6_feed_4 : decode cX6_feed 4 = .ok (.getfield 64, 3) := by decide +kernel
theorem dX6_feed_7 : decode cX6_feed 7 = .ok (.bipush 20, 2) := by decide +kernel
theorem dX6_feed_9 : decode cX6_feed 9 = .ok (.iadd, 1) := by decide +kernel
theorem dX6_feed_10 : decode cX6_feed 10 = .ok (.sipush 400, 3) := by decide +kernel
theorem dX6_feed_13 : decode cX6_feed 13 = .ok (.if_icmp .le 5, 3) := by decide +kernel
theorem dX6_feed_16 : decode cX6_feed 16 = .ok (.iconst (-1), 1) := by decide +kernel
theorem dX6_feed_17 : decode cX6_feed 17 = .ok (.ireturn, 1) := by decide +kernel
theorem dX6_feed_18 : decode cX6_feed 18 = .ok (.aload_n 0, 1) := by decide +kernel
theorem dX6_feed_19 : decode cX6_feed 19 = .ok (.getfield 10, 3) := by decide +kernel
theorem dX6_feed_22 : decode cX6_feed 22 = .ok (.iload_n 1, 1) := by decide +kernel
theorem dX6_feed_23 : decode cX6_feed 23 = .ok (.invokevirtual 67, 3) := by decide +kernel
theorem dX6_feed_26 : decode cX6_feed 26 = .ok (.aload_n 0, 1) := by decide +kernel
theorem dX6_feed_27 : decode cX6_feed 27 = .ok (.getfield 10, 3) := by decide +kernel
theorem dX6_feed_30 : decode cX6_feed 30 = .ok (.iload_n 2, 1) := by decide +kernel
theorem dX6_feed_31 : decode cX6_feed 31 = .ok (.invokevirtual 67, 3) := by decide +kernel
theorem dX6_feed_34 : decode cX6_feed 34 = .ok (.aload_n 0, 1) := by decide +kernel
theorem dX6_feed_35 : decode cX6_feed 35 = .ok (.getfield 10, 3) := by decide +kernel
theorem dX6_feed_38 : decode cX6_feed 38 = .ok (.iload_n 3, 1) := by decide +kernel
theorem dX6_feed_39 : decode cX6_feed 39 = .ok (.invokevirtual 67, 3) := by decide +kernel
theorem dX6_feed_42 : decode cX6_feed 42 = .ok (.aload_n 0, 1) := by decide +kernel
theorem dX6_feed_43 : decode cX6_feed 43 = .ok (.getfield 10, 3) := by decide +kernel
theorem dX6_feed_46 : decode cX6_feed 46 = .ok (.iload 4, 2) := by decide +kernel
theorem dX6_feed_48 : decode cX6_feed 48 = .ok (.invokevirtual 67, 3) := by decide +kernel
theorem dX6_feed_51 : decode cX6_feed 51 = .ok (.aload_n 0, 1) := by decide +kernel
theorem dX6_feed_52 : decode cX6_feed 52 = .ok (.getfield 10, 3) := by decide +kernel
theorem dX6_feed_55 : decode cX6_feed 55 = .ok (.iload 5, 2) := by decide +kernel
theorem dX6_feed_57 : decode cX6_feed 57 = .ok (.invokevirtual 67, 3) := by decide +kernel
theorem dX6_feed_60 : decode cX6_feed 60 = .ok (.aload_n 0, 1) := by decide +kernel
theorem dX6_feed_61 : decode cX6_feed 61 = .ok (.getfield 10, 3) := by decide +kernel
theorem dX6_feed_64 : decode cX6_feed 64 = .ok (.getfield 64, 3) := by decide +kernel
theorem dX6_feed_67 : decode cX6_feed 67 = .ok (.ireturn, 1) := by decide +kernel
theorem dX6_end_0 : decode cX6_end 0 = .ok (.iload_n 1, 1) := by decide +kernel
theorem dX6_end_1 : decode cX6_end 1 = .ok (.ifCond .lt 14, 3) := by decide +kernel
theorem dX6_end_4 : decode cX6_end 4 = .ok (.iload_n 1, 1) := by decide +kernel
theorem dX6_end_5 : decode cX6_end 5 = .ok (.aload_n 0, 1) := by decide +kernel
theorem dX6_end_6 : decode cX6_end 6 = .ok (.getfield 10, 3) := by decide +kernel
theorem dX6_end_9 : decode cX6_end 9 = .ok (.getfield 64, 3) := by decide +kernel
theorem dX6_end_12 : decode cX6_end 12 = .ok (.if_icmp .le 5, 3) := by decide +kernel
theorem dX6_end_15 : decode cX6_end 15 = .ok (.iconst 0, 1) := by decide +kernel
theorem dX6_end_16 : decode cX6_end 16 = .ok (.ireturn, 1) := by decide +kernel
theorem dX6_end_17 : decode cX6_end 17 = .ok (.aload_n 0, 1) := by decide +kernel
theorem dX6_end_18 : decode cX6_end 18 = .ok (.getfield 10, 3) := by decide +kernel
theorem dX6_end_21 : decode cX6_end 21 = .ok (.iload_n 1, 1) := by decide +kernel
theorem dX6_end_22 : decode cX6_end 22 = .ok (.putfield 64, 3) := by decide +kernel
theorem dX6_end_25 : decode cX6_end 25 = .ok (.iconst 1, 1) := by decide +kernel
theorem dX6_end_26 : decode cX6_end 26 = .ok (.ireturn, 1) := by decide +kernel
set_option maxRecDepth 20000 in
theorem ggX6_stone_X6_needLine : GoodIn wsX6_stone wsX6_needLine := goodIn_ca (goodIn_r _ [9, 10, 11] (by decide +kernel) (by decide +kernel)) (goodIn_sub (fun _ h => List.mem_cons_of_mem _ (List.mem_append_left _ (List.mem_append_right _ h))) (by decide +kernel))
set_option maxRecDepth 20000 in
theorem gX6_stone_X6_needLine : GoodIn wsX6_stone (va_wsS RX6 71 yX6_needLine wsX6_needLine) := goodIn_app (goodIn_of _ (by decide +kernel)) ggX6_stone_X6_needLine
set_option maxRecDepth 20000 in
theorem ggX6_stone_X6_needWithin : GoodIn wsX6_stone wsX6_needWithin := goodIn_ca (goodIn_r _ [14, 15, 16] (by decide +kernel) (by decide +kernel)) (goodIn_sub (fun _ h => List.mem_cons_of_mem _ (List.mem_append_right _ h)) (by decide +kernel))
set_option maxRecDepth 20000 in
theorem gX6_stone_X6_needWithin : GoodIn wsX6_stone (va_wsS RX6 74 yX6_needWithin wsX6_needWithin) := goodIn_app (goodIn_of _ (by decide +kernel)) ggX6_stone_X6_needWithin
set_option maxRecDepth 20000 in
theorem ggX6_stone_X2_lay : GoodIn wsX6_stone wsX2_lay := goodIn_r _ [21, 22, 23, 24, 25, 26, 38, 39, 40, 41, 42, 43, 44, 45, 46] (by decide +kernel) (by decide +kernel)
set_option maxRecDepth 20000 in
theorem gX6_stone_X2_lay : GoodIn wsX6_stone (wsV RX6 88 RX2 yX2_lay wsX2_lay) := goodIn_app (goodIn_of _ (by decide +kernel)) ggX6_stone_X2_lay
theorem dX6_stone_0 : decode cX6_stone 0 = .ok (.iload_n 1, 1) := by decide +kernel
theorem dX6_stone_1 : decode cX6_stone 1 = .ok (.invokestatic 71, 3) := by decide +kernel
theorem dX6_stone_4 : decode cX6_stone 4 = .ok (.iload_n 2, 1) := by decide +kernel
theorem dX6_stone_5 : decode cX6_stone 5 = .ok (.iconst (-1), 1) := by decide +kernel
theorem dX6_stone_6 : decode cX6_stone 6 = .ok (.bipush 9, 2) := by decide +kernel
theorem dX6_stone_8 : decode cX6_stone 8 = .ok (.invokestatic 74, 3) := by decide +kernel
theorem dX6_stone_11 : decode cX6_stone 11 = .ok (.iload_n 3, 1) := by decide +kernel
theorem dX6_stone_12 : decode cX6_stone 12 = .ok (.iconst (-1), 1) := by decide +kernel
theorem dX6_stone_13 : decode cX6_stone 13 = .ok (.bipush 9, 2) := by decide +kernel
theorem dX6_stone_15 : decode cX6_stone 15 = .ok (.invokestatic 74, 3) := by decide +kernel
theorem dX6_stone_18 : decode cX6_stone 18 = .ok (.iload 4, 2) := by decide +kernel
theorem dX6_stone_20 : decode cX6_stone 20 = .ok (.iconst (-1), 1) := by decide +kernel
theorem dX6_stone_21 : decode cX6_stone 21 = .ok (.bipush 9, 2) := by decide +kernel
theorem dX6_stone_23 : decode cX6_stone 23 = .ok (.invokestatic 74, 3) := by decide +kernel
theorem dX6_stone_26 : decode cX6_stone 26 = .ok (.iload 5, 2) := by decide +kernel
theorem dX6_stone_28 : decode cX6_stone 28 = .ok (.iconst (-1), 1) := by decide +kernel
theorem dX6_stone_29 : decode cX6_stone 29 = .ok (.bipush 9, 2) := by decide +kernel
theorem dX6_stone_31 : decode cX6_stone 31 = .ok (.invokestatic 74, 3) := by decide +kernel
theorem dX6_stone_34 : decode cX6_stone 34 = .ok (.aload_n 0, 1) := by decide +kernel
theorem dX6_stone_35 : decode cX6_stone 35 = .ok (.getfield 19, 3) := by decide +kernel
theorem dX6_stone_38 : decode cX6_stone 38 = .ok (.getfield 78, 3) := by decide +kernel
theorem dX6_stone_41 : decode cX6_stone 41 = .ok (.bipush 60, 2) := by decide +kernel
theorem dX6_stone_43 : decode cX6_stone 43 = .ok (.if_icmp .lt 13, 3) := by decide +kernel
theorem dX6_stone_46 : decode cX6_stone 46 = .ok (.new 81, 3) := by decide +kernel
theorem dX6_stone_49 : decode cX6_stone 49 = .ok (.dup, 1) := by decide +kernel
theorem dX6_stone_50 : decode cX6_stone 50 = .ok (.ldc 83, 2) := by decide +kernel
theorem dX6_stone_52 : decode cX6_stone 52 = .ok (.invokespecial 85, 3) := by decide +kernel
theorem dX6_stone_55 : decode cX6_stone 55 = .ok (.athrow, 1) := by decide +kernel
theorem dX6_stone_56 : decode cX6_stone 56 = .ok (.aload_n 0, 1) := by decide +kernel
theorem dX6_stone_57 : decode cX6_stone 57 = .ok (.getfield 19, 3) := by decide +kernel
theorem dX6_stone_60 : decode cX6_stone 60 = .ok (.iload_n 1, 1) := by decide +kernel
theorem dX6_stone_61 : decode cX6_stone 61 = .ok (.aload_n 0, 1) := by decide +kernel
theorem dX6_stone_62 : decode cX6_stone 62 = .ok (.getfield 56, 3) := by decide +kernel
theorem dX6_stone_65 : decode cX6_stone 65 = .ok (.iload_n 2, 1) := by decide +kernel
theorem dX6_stone_66 : decode cX6_stone 66 = .ok (.iload_n 3, 1) := by decide +kernel
theorem dX6_stone_67 : decode cX6_stone 67 = .ok (.iload 4, 2) := by decide +kernel
theorem dX6_stone_69 : decode cX6_stone 69 = .ok (.iload 5, 2) := by decide +kernel
theorem dX6_stone_71 : decode cX6_stone 71 = .ok (.invokevirtual 88, 3) := by decide +kernel
theorem dX6_stone_74 : decode cX6_stone 74 = .ok (.ireturn, 1) := by decide +kernel
set_option maxRecDepth 20000 in
theorem ggX6_strike_X2_strikeOut : GoodIn wsX6_strike wsX2_strikeOut := goodIn_r _ [10, 11, 12, 24, 25, 26, 27, 28, 29, 30, 31, 32] (by decide +kernel) (by decide +kernel)
set_option maxRecDepth 20000 in
theorem gX6_strike_X2_strikeOut : GoodIn wsX6_strike (wsV RX6 97 RX2 yX2_strikeOut wsX2_strikeOut) := goodIn_app (goodIn_of _ (by decide +kernel)) ggX6_strike_X2_strikeOut
theorem dX6_strike_0 : decode cX6_strike 0 = .ok (.iload_n 1, 1) := by decide +kernel
theorem dX6_strike_1 : decode cX6_strike 1 = .ok (.ifCond .lt 14, 3) := by decide +kernel
theorem dX6_strike_4 : decode cX6_strike 4 = .ok (.iload_n 1, 1) := by decide +kernel
theorem dX6_strike_5 : decode cX6_strike 5 = .ok (.aload_n 0, 1) := by decide +kernel
theorem dX6_strike_6 : decode cX6_strike 6 = .ok (.getfield 19, 3) := by decide +kernel
theorem dX6_strike_9 : decode cX6_strike 9 = .ok (.getfield 78, 3) := by decide +kernel
theorem dX6_strike_12 : decode cX6_strike 12 = .ok (.if_icmp .lt 13, 3) := by decide +kernel
theorem dX6_strike_15 : decode cX6_strike 15 = .ok (.new 92, 3) := by decide +kernel
theorem dX6_strike_18 : decode cX6_strike 18 = .ok (.dup, 1) := by decide +kernel
theorem dX6_strike_19 : decode cX6_strike 19 = .ok (.ldc 94, 2) := by decide +kernel
theorem dX6_strike_21 : decode cX6_strike 21 = .ok (.invokespecial 96, 3) := by decide +kernel
theorem dX6_strike_24 : decode cX6_strike 24 = .ok (.athrow, 1) := by decide +kernel
theorem dX6_strike_25 : decode cX6_strike 25 = .ok (.aload_n 0, 1) := by decide +kernel
theorem dX6_strike_26 : decode cX6_strike 26 = .ok (.getfield 19, 3) := by decide +kernel
theorem dX6_strike_29 : decode cX6_strike 29 = .ok (.iload_n 1, 1) := by decide +kernel
theorem dX6_strike_30 : decode cX6_strike 30 = .ok (.aload_n 0, 1) := by decide +kernel
theorem dX6_strike_31 : decode cX6_strike 31 = .ok (.getfield 56, 3) := by decide +kernel
theorem dX6_strike_34 : decode cX6_strike 34 = .ok (.invokevirtual 97, 3) := by decide +kernel
theorem dX6_strike_37 : decode cX6_strike 37 = .ok (.ireturn, 1) := by decide +kernel
set_option maxRecDepth 20000 in
theorem ggX6_habit_X6_needWithin : GoodIn wsX6_habit wsX6_needWithin := goodIn_ca (goodIn_r _ [7, 1, 2] (by decide +kernel) (by decide +kernel)) (goodIn_sub (fun _ h => List.mem_cons_of_mem _ (List.mem_append_right _ h)) (by decide +kernel))
set_option maxRecDepth 20000 in
theorem gX6_habit_X6_needWithin : GoodIn wsX6_habit (va_wsS RX6 74 yX6_needWithin wsX6_needWithin) := goodIn_app (goodIn_of _ (by decide +kernel)) ggX6_habit_X6_needWithin
set_option maxRecDepth 20000 in
theorem ggX6_habit_X2_confuse : GoodIn wsX6_habit wsX2_confuse := goodIn_r _ [12, 13, 14, 26, 27, 28, 29, 30, 31, 32, 33, 34] (by decide +kernel) (by decide +kernel)
set_option maxRecDepth 20000 in
theorem gX6_habit_X2_confuse : GoodIn wsX6_habit (wsV RX6 106 RX2 yX2_confuse wsX2_confuse) := goodIn_app (goodIn_of _ (by decide +kernel)) ggX6_habit_X2_confuse
theorem dX6_habit_0 : decode cX6_habit 0 = .ok (.iload_n 1, 1) := by decide +kernel
theorem dX6_habit_1 : decode cX6_habit 1 = .ok (.iconst 0, 1) := by decide +kernel
theorem dX6_habit_2 : decode cX6_habit 2 = .ok (.bipush 9, 2) := by decide +kernel
theorem dX6_habit_4 : decode cX6_habit 4 = .ok (.invokestatic 74, 3) := by decide +kernel
theorem dX6_habit_7 : decode cX6_habit 7 = .ok (.iload_n 2, 1) := by decide +kernel
theorem dX6_habit_8 : decode cX6_habit 8 = .ok (.iconst 0, 1) := by decide +kernel
theorem dX6_habit_9 : decode cX6_habit 9 = .ok (.bipush 9, 2) := by decide +kernel
theorem dX6_habit_11 : decode cX6_habit 11 = .ok (.invokestatic 74, 3) := by decide +kernel
theorem dX6_habit_14 : decode cX6_habit 14 = .ok (.iload_n 1, 1) := by decide +kernel
theorem dX6_habit_15 : decode cX6_habit 15 = .ok (.iload_n 2, 1) := by decide +kernel
theorem dX6_habit_16 : decode cX6_habit 16 = .ok (.if_icmp .ne 13, 3) := by decide +kernel
theorem dX6_habit_19 : decode cX6_habit 19 = .ok (.new 101, 3) := by decide +kernel
theorem dX6_habit_22 : decode cX6_habit 22 = .ok (.dup, 1) := by decide +kernel
theorem dX6_habit_23 : decode cX6_habit 23 = .ok (.ldc 103, 2) := by decide +kernel
theorem dX6_habit_25 : decode cX6_habit 25 = .ok (.invokespecial 105, 3) := by decide +kernel
theorem dX6_habit_28 : decode cX6_habit 28 = .ok (.athrow, 1) := by decide +kernel
theorem dX6_habit_29 : decode cX6_habit 29 = .ok (.aload_n 0, 1) := by decide +kernel
theorem dX6_habit_30 : decode cX6_habit 30 = .ok (.getfield 19, 3) := by decide +kernel
theorem dX6_habit_33 : decode cX6_habit 33 = .ok (.iload_n 1, 1) := by decide +kernel
theorem dX6_habit_34 : decode cX6_habit 34 = .ok (.iload_n 2, 1) := by decide +kernel
theorem dX6_habit_35 : decode cX6_habit 35 = .ok (.invokevirtual 106, 3) := by decide +kernel
theorem dX6_habit_38 : decode cX6_habit 38 = .ok (.ireturn, 1) := by decide +kernel
set_option maxRecDepth 20000 in
theorem ggX6_agree_X6_needLine : GoodIn wsX6_agree wsX6_needLine := goodIn_ca (goodIn_r _ [5, 6, 7] (by decide +kernel) (by decide +kernel)) (goodIn_sub (fun _ h => List.mem_cons_of_mem _ (List.mem_append_left _ (List.mem_append_right _ h))) (by decide +kernel))
set_option maxRecDepth 20000 in
theorem gX6_agree_X6_needLine : GoodIn wsX6_agree (va_wsS RX6 71 yX6_needLine wsX6_needLine) := goodIn_app (goodIn_of _ (by decide +kernel)) ggX6_agree_X6_needLine
set_option maxRecDepth 20000 in
theorem ggX6_agree_X6_needWhat : GoodIn wsX6_agree wsX6_needWhat := goodIn_ca (goodIn_r _ [10, 11, 12] (by decide +kernel) (by decide +kernel)) (goodIn_sub (fun _ h => List.mem_cons_of_mem _ (List.mem_append_right _ h)) (by decide +kernel))
set_option maxRecDepth 20000 in
theorem gX6_agree_X6_needWhat : GoodIn wsX6_agree (va_wsS RX6 109 yX6_needWhat wsX6_needWhat) := goodIn_app (goodIn_of _ (by decide +kernel)) ggX6_agree_X6_needWhat
set_option maxRecDepth 20000 in
theorem ggX6_agree_X2_compare : GoodIn wsX6_agree wsX2_compare := goodIn_r _ [17, 18, 19, 20, 21, 22, 23, 16, 24, 25, 26, 27, 28, 29, 30, 31, 32, 70, 71, 72, 73, 74, 75, 76, 77, 78] (by decide +kernel) (by decide +kernel)
set_option maxRecDepth 20000 in
theorem gX6_agree_X2_compare : GoodIn wsX6_agree (wsV RX6 113 RX2 yX2_compare wsX2_compare) := goodIn_app (goodIn_of _ (by decide +kernel)) ggX6_agree_X2_compare
set_option maxRecDepth 20000 in
theorem ggX6_agree_X2_agreeing : GoodIn wsX6_agree wsX2_agreeing := goodIn_r _ [36, 18, 37, 38, 39, 40, 41, 42, 43, 70, 71, 72, 73, 74, 75, 76, 77, 78] (by decide +kernel) (by decide +kernel)
set_option maxRecDepth 20000 in
theorem gX6_agree_X2_agreeing : GoodIn wsX6_agree (wsV RX6 116 RX2 yX2_agreeing wsX2_agreeing) := goodIn_app (goodIn_of _ (by decide +kernel)) ggX6_agree_X2_agreeing
set_option maxRecDepth 20000 in
theorem ggX6_agree_X2_least : GoodIn wsX6_agree wsX2_least := goodIn_r _ [47, 18, 48, 34, 35, 16, 36, 37, 38, 39, 40, 41, 42, 43, 49, 50, 51, 70, 71, 72, 73, 74, 75, 76, 77, 78] (by decide +kernel) (by decide +kernel)
set_option maxRecDepth 20000 in
theorem gX6_agree_X2_least : GoodIn wsX6_agree (wsV RX6 120 RX2 yX2_least wsX2_least) := goodIn_app (goodIn_of _ (by decide +kernel)) ggX6_agree_X2_least
set_option maxRecDepth 20000 in
theorem ggX6_agree_X2_greatest : GoodIn wsX6_agree wsX2_greatest := goodIn_r _ [55, 18, 48, 34, 35, 16, 36, 37, 38, 39, 40, 41, 42, 43, 56, 57, 58, 70, 71, 72, 73, 74, 75, 76, 77, 78] (by decide +kernel) (by decide +kernel)
set_option maxRecDepth 20000 in
theorem gX6_agree_X2_greatest : GoodIn wsX6_agree (wsV RX6 123 RX2 yX2_greatest wsX2_greatest) := goodIn_app (goodIn_of _ (by decide +kernel)) ggX6_agree_X2_greatest
theorem dX6_agree_0 : decode cX6_agree 0 = .ok (.iload_n 1, 1) := by decide +kernel
theorem dX6_agree_1 : decode cX6_agree 1 = .ok (.invokestatic 71, 3) := by decide +kernel
theorem dX6_agree_4 : decode cX6_agree 4 = .ok (.iload_n 3, 1) := by decide +kernel
theorem dX6_agree_5 : decode cX6_agree 5 = .ok (.iconst 3, 1) := by decide +kernel
theorem dX6_agree_6 : decode cX6_agree 6 = .ok (.invokestatic 109, 3) := by decide +kernel
theorem dX6_agree_9 : decode cX6_agree 9 = .ok (.aload_n 0, 1) := by decide +kernel
theorem dX6_agree_10 : decode cX6_agree 10 = .ok (.getfield 19, 3) := by decide +kernel
theorem dX6_agree_13 : decode cX6_agree 13 = .ok (.iload_n 1, 1) := by decide +kernel
theorem dX6_agree_14 : decode cX6_agree 14 = .ok (.iload_n 2, 1) := by decide +kernel
theorem dX6_agree_15 : decode cX6_agree 15 = .ok (.invokevirtual 113, 3) := by decide +kernel
theorem dX6_agree_18 : decode cX6_agree 18 = .ok (.iload_n 3, 1) := by decide +kernel
theorem dX6_agree_19 : decode cX6_agree 19 = .ok (.tableswitch 49 0 2 #[25, 33, 41], 25) := by decide +kernel
theorem dX6_agree_44 : decode cX6_agree 44 = .ok (.aload_n 0, 1) := by decide +kernel
theorem dX6_agree_45 : decode cX6_agree 45 = .ok (.getfield 19, 3) := by decide +kernel
theorem dX6_agree_48 : decode cX6_agree 48 = .ok (.invokevirtual 116, 3) := by decide +kernel
theorem dX6_agree_51 : decode cX6_agree 51 = .ok (.ireturn, 1) := by decide +kernel
theorem dX6_agree_52 : decode cX6_agree 52 = .ok (.aload_n 0, 1) := by decide +kernel
theorem dX6_agree_53 : decode cX6_agree 53 = .ok (.getfield 19, 3) := by decide +kernel
theorem dX6_agree_56 : decode cX6_agree 56 = .ok (.invokevirtual 120, 3) := by decide +kernel
theorem dX6_agree_59 : decode cX6_agree 59 = .ok (.ireturn, 1) := by decide +kernel
theorem dX6_agree_60 : decode cX6_agree 60 = .ok (.aload_n 0, 1) := by decide +kernel
theorem dX6_agree_61 : decode cX6_agree 61 = .ok (.getfield 19, 3) := by decide +kernel
theorem dX6_agree_64 : decode cX6_agree 64 = .ok (.invokevirtual 123, 3) := by decide +kernel
theorem dX6_agree_67 : decode cX6_agree 67 = .ok (.ireturn, 1) := by decide +kernel
theorem dX6_agree_68 : decode cX6_agree 68 = .ok (.aload_n 0, 1) := by decide +kernel
theorem dX6_agree_69 : decode cX6_agree 69 = .ok (.getfield 19, 3) := by decide +kernel
theorem dX6_agree_72 : decode cX6_agree 72 = .ok (.invokevirtual 116, 3) := by decide +kernel
theorem dX6_agree_75 : decode cX6_agree 75 = .ok (.iconst 1, 1) := by decide +kernel
theorem dX6_agree_76 : decode cX6_agree 76 = .ok (.if_icmp .ne 7, 3) := by decide +kernel
theorem dX6_agree_79 : decode cX6_agree 79 = .ok (.iconst 1, 1) := by decide +kernel
theorem dX6_agree_80 : decode cX6_agree 80 = .ok (.goto 4, 3) := by decide +kernel
theorem dX6_agree_83 : decode cX6_agree 83 = .ok (.iconst 0, 1) := by decide +kernel
theorem dX6_agree_84 : decode cX6_agree 84 = .ok (.ireturn, 1) := by decide +kernel
set_option maxRecDepth 20000 in
theorem ggX6_edict_X3_readInto : GoodIn wsX6_edict wsX3_readInto := goodIn_r _ [20, 21, 22, 23, 24, 25, 26, 27, 28, 29, 30, 31, 32, 33, 34, 35, 19, 36, 37, 38, 39, 40, 41, 42, 43, 44, 45, 46, 47, 48, 49, 50, 51, 52, 53, 54, 55, 56, 57, 58, 59, 60, 61, 62, 63, 64, 65, 66, 67, 68, 69, 70, 71, 72, 73, 74, 75, 76, 77, 78, 79, 80, 81, 82, 83, 84, 85, 86, 87, 88, 89, 90, 91, 92, 93, 94, 95, 96, 97, 98, 99, 100, 101, 102, 103, 104, 105, 106, 107, 108, 109, 110, 111, 112, 113, 114, 115, 116, 117, 118, 119, 120, 121, 122, 123, 124, 125, 126, 127, 128, 129, 130, 131, 132, 133, 134, 135, 136, 137, 138, 139, 140, 141, 142, 143, 144, 145, 146, 147, 148, 149, 169, 170, 171, 172, 173, 174, 175, 176, 177] (by decide +kernel) (by decide +kernel)
set_option maxRecDepth 20000 in
theorem gX6_edict_X3_readInto : GoodIn wsX6_edict (wsV RX6 132 RX3 yX3_readInto wsX3_readInto) := goodIn_app (goodIn_of _ (by decide +kernel)) ggX6_edict_X3_readInto
set_option maxRecDepth 20000 in
theorem ggX6_edict_X1_tell : GoodIn wsX6_edict wsX1_tell := goodIn_r _ [154, 155, 156, 157, 178, 179, 180] (by decide +kernel) (by decide +kernel)
set_option maxRecDepth 20000 in
theorem gX6_edict_X1_tell : GoodIn wsX6_edict (wsV RX6 140 RX1 yX1_tell wsX1_tell) := goodIn_app (goodIn_of _ (by decide +kernel)) ggX6_edict_X1_tell
theorem dX6_edict_0 : decode cX6_edict 0 = .ok (.aload_n 0, 1) := by decide +kernel
theorem dX6_edict_1 : decode cX6_edict 1 = .ok (.aload_n 0, 1) := by decide +kernel
theorem dX6_edict_2 : decode cX6_edict 2 = .ok (.getfield 10, 3) := by decide +kernel
theorem dX6_edict_5 : decode cX6_edict 5 = .ok (.aload_n 0, 1) := by decide +kernel
theorem dX6_edict_6 : decode cX6_edict 6 = .ok (.getfield 25, 3) := by decide +kernel
theorem dX6_edict_9 : decode cX6_edict 9 = .ok (.aload_n 0, 1) := by decide +kernel
theorem dX6_edict_10 : decode cX6_edict 10 = .ok (.getfield 46, 3) := by decide +kernel
theorem dX6_edict_13 : decode cX6_edict 13 = .ok (.bipush 20, 2) := by decide +kernel
theorem dX6_edict_15 : decode cX6_edict 15 = .ok (.invokestatic 126, 3) := by decide +kernel
theorem dX6_edict_18 : decode cX6_edict 18 = .ok (.aaload, 1) := by decide +kernel
theorem dX6_edict_19 : decode cX6_edict 19 = .ok (.invokevirtual 132, 3) := by decide +kernel
theorem dX6_edict_22 : decode cX6_edict 22 = .ok (.putfield 59, 3) := by decide +kernel
theorem dX6_edict_25 : decode cX6_edict 25 = .ok (.aload_n 0, 1) := by decide +kernel
theorem dX6_edict_26 : decode cX6_edict 26 = .ok (.getfield 10, 3) := by decide +kernel
theorem dX6_edict_29 : decode cX6_edict 29 = .ok (.iconst 0, 1) := by decide +kernel
theorem dX6_edict_30 : decode cX6_edict 30 = .ok (.putfield 64, 3) := by decide +kernel
theorem dX6_edict_33 : decode cX6_edict 33 = .ok (.aload_n 0, 1) := by decide +kernel
theorem dX6_edict_34 : decode cX6_edict 34 = .ok (.getfield 59, 3) := by decide +kernel
theorem dX6_edict_37 : decode cX6_edict 37 = .ok (.iconst (-1), 1) := by decide +kernel
theorem dX6_edict_38 : decode cX6_edict 38 = .ok (.if_icmp .eq 13, 3) := by decide +kernel
theorem dX6_edict_41 : decode cX6_edict 41 = .ok (.new 101, 3) := by decide +kernel
theorem dX6_edict_44 : decode cX6_edict 44 = .ok (.dup, 1) := by decide +kernel
theorem dX6_edict_45 : decode cX6_edict 45 = .ok (.ldc 136, 2) := by decide +kernel
theorem dX6_edict_47 : decode cX6_edict 47 = .ok (.invokespecial 105, 3) := by decide +kernel
theorem dX6_edict_50 : decode cX6_edict 50 = .ok (.athrow, 1) := by decide +kernel
theorem dX6_edict_51 : decode cX6_edict 51 = .ok (.aload_n 0, 1) := by decide +kernel
theorem dX6_edict_52 : decode cX6_edict 52 = .ok (.getfield 46, 3) := by decide +kernel
theorem dX6_edict_55 : decode cX6_edict 55 = .ok (.bipush 20, 2) := by decide +kernel
theorem dX6_edict_57 : decode cX6_edict 57 = .ok (.if_icmp .lt 13, 3) := by decide +kernel
theorem dX6_edict_60 : decode cX6_edict 60 = .ok (.new 81, 3) := by decide +kernel
theorem dX6_edict_63 : decode cX6_edict 63 = .ok (.dup, 1) := by decide +kernel
theorem dX6_edict_64 : decode cX6_edict 64 = .ok (.ldc 138, 2) := by decide +kernel
theorem dX6_edict_66 : decode cX6_edict 66 = .ok (.invokespecial 85, 3) := by decide +kernel
theorem dX6_edict_69 : decode cX6_edict 69 = .ok (.athrow, 1) := by decide +kernel
theorem dX6_edict_70 : decode cX6_edict 70 = .ok (.aload_n 0, 1) := by decide +kernel
theorem dX6_edict_71 : decode cX6_edict 71 = .ok (.getfield 46, 3) := by decide +kernel
theorem dX6_edict_74 : decode cX6_edict 74 = .ok (.istore_n 1, 1) := by decide +kernel
theorem dX6_edict_75 : decode cX6_edict 75 = .ok (.aload_n 0, 1) := by decide +kernel
theorem dX6_edict_76 : decode cX6_edict 76 = .ok (.getfield 32, 3) := by decide +kernel
theorem dX6_edict_79 : decode cX6_edict 79 = .ok (.aload_n 0, 1) := by decide +kernel
theorem dX6_edict_80 : decode cX6_edict 80 = .ok (.getfield 56, 3) := by decide +kernel
theorem dX6_edict_83 : decode cX6_edict 83 = .ok (.iload_n 1, 1) := by decide +kernel
theorem dX6_edict_84 : decode cX6_edict 84 = .ok (.invokevirtual 140, 3) := by decide +kernel
theorem dX6_edict_87 : decode cX6_edict 87 = .ok (.aload_n 0, 1) := by decide +kernel
theorem dX6_edict_88 : decode cX6_edict 88 = .ok (.dup, 1) := by decide +kernel
theorem dX6_edict_89 : decode cX6_edict 89 = .ok (.getfield 46, 3) := by decide +kernel
theorem dX6_edict_92 : decode cX6_edict 92 = .ok (.iconst 1, 1) := by decide +kernel
theorem dX6_edict_93 : decode cX6_edict 93 = .ok (.iadd, 1) := by decide +kernel
theorem dX6_edict_94 : decode cX6_edict 94 = .ok (.putfield 46, 3) := by decide +kernel
theorem dX6_edict_97 : decode cX6_edict 97 = .ok (.iload_n 1, 1) := by decide +kernel
theorem dX6_edict_98 : decode cX6_edict 98 = .ok (.ireturn, 1) := by decide +kernel
theorem dX6_fault_0 : decode cX6_fault 0 = .ok (.aload_n 0, 1) := by decide +kernel
theorem dX6_fault_1 : decode cX6_fault 1 = .ok (.getfield 59, 3) := by decide +kernel
theorem dX6_fault_4 : decode cX6_fault 4 = .ok (.ireturn, 1) := by decide +kernel
set_option maxRecDepth 20000 in
theorem ggX6_undo_X1_latest : GoodIn wsX6_undo wsX1_latest := goodIn_r _ [7, 8, 9, 26, 27, 28] (by decide +kernel) (by decide +kernel)
set_option maxRecDepth 20000 in
theorem gX6_undo_X1_latest : GoodIn wsX6_undo (wsV RX6 143 RX1 yX1_latest wsX1_latest) := goodIn_app (goodIn_of _ (by decide +kernel)) ggX6_undo_X1_latest
set_option maxRecDepth 20000 in
theorem ggX6_undo_X1_tell : GoodIn wsX6_undo wsX1_tell := goodIn_r _ [13, 8, 9, 14, 26, 27, 28] (by decide +kernel) (by decide +kernel)
set_option maxRecDepth 20000 in
theorem gX6_undo_X1_tell : GoodIn wsX6_undo (wsV RX6 140 RX1 yX1_tell wsX1_tell) := goodIn_app (goodIn_of _ (by decide +kernel)) ggX6_undo_X1_tell
theorem dX6_undo_0 : decode cX6_undo 0 = .ok (.aload_n 0, 1) := by decide +kernel
theorem dX6_undo_1 : decode cX6_undo 1 = .ok (.getfield 32, 3) := by decide +kernel
theorem dX6_undo_4 : decode cX6_undo 4 = .ok (.invokevirtual 143, 3) := by decide +kernel
theorem dX6_undo_7 : decode cX6_undo 7 = .ok (.iconst (-1), 1) := by decide +kernel
theorem dX6_undo_8 : decode cX6_undo 8 = .ok (.if_icmp .ne 5, 3) := by decide +kernel
theorem dX6_undo_11 : decode cX6_undo 11 = .ok (.iconst 0, 1) := by decide +kernel
theorem dX6_undo_12 : decode cX6_undo 12 = .ok (.ireturn, 1) := by decide +kernel
theorem dX6_undo_13 : decode cX6_undo 13 = .ok (.aload_n 0, 1) := by decide +kernel
theorem dX6_undo_14 : decode cX6_undo 14 = .ok (.getfield 32, 3) := by decide +kernel
theorem dX6_undo_17 : decode cX6_undo 17 = .ok (.aload_n 0, 1) := by decide +kernel
theorem dX6_undo_18 : decode cX6_undo 18 = .ok (.getfield 56, 3) := by decide +kernel
theorem dX6_undo_21 : decode cX6_undo 21 = .ok (.iconst (-1), 1) := by decide +kernel
theorem dX6_undo_22 : decode cX6_undo 22 = .ok (.invokevirtual 140, 3) := by decide +kernel
theorem dX6_undo_25 : decode cX6_undo 25 = .ok (.iconst 1, 1) := by decide +kernel
theorem dX6_undo_26 : decode cX6_undo 26 = .ok (.ireturn, 1) := by decide +kernel
set_option maxRecDepth 20000 in
theorem ggX6_force_X6_needTown : GoodIn wsX6_force wsX6_needTown := goodIn_ca (goodIn_r _ [5, 6, 7, 8, 29, 30, 31, 32, 33, 34, 35, 36, 37, 38, 39] (by decide +kernel) (by decide +kernel)) (goodIn_sub (fun _ h => List.mem_cons_of_mem _ (List.mem_append_right _ h)) (by decide +kernel))
set_option maxRecDepth 20000 in
theorem gX6_force_X6_needTown : GoodIn wsX6_force (wsV RX6 146 RX6 yX6_needTown wsX6_needTown) := goodIn_app (goodIn_of _ (by decide +kernel)) ggX6_force_X6_needTown
set_option maxRecDepth 20000 in
theorem ggX6_force_X6_inForce : GoodIn wsX6_force wsX6_inForce := goodIn_r _ [12, 13, 14, 15, 16, 17, 18, 19, 20, 21, 22, 23, 24, 25, 26, 27, 28, 29, 30, 31, 32, 33, 34, 35, 36, 37, 38, 39, 40, 41, 42, 43, 44] (by decide +kernel) (by decide +kernel)
set_option maxRecDepth 20000 in
theorem gX6_force_X6_inForce : GoodIn wsX6_force (wsV RX6 149 RX6 yX6_inForce wsX6_inForce) := goodIn_app (goodIn_of _ (by decide +kernel)) ggX6_force_X6_inForce
theorem dX6_force_0 : decode cX6_force 0 = .ok (.aload_n 0, 1) := by decide +kernel
theorem dX6_force_1 : decode cX6_force 1 = .ok (.iload_n 1, 1) := by decide +kernel
theorem dX6_force_2 : decode cX6_force 2 = .ok (.invokevirtual 146, 3) := by decide +kernel
theorem dX6_force_5 : decode cX6_force 5 = .ok (.aload_n 0, 1) := by decide +kernel
theorem dX6_force_6 : decode cX6_force 6 = .ok (.iload_n 1, 1) := by decide +kernel
theorem dX6_force_7 : decode cX6_force 7 = .ok (.iload_n 2, 1) := by decide +kernel
theorem dX6_force_8 : decode cX6_force 8 = .ok (.invokevirtual 149, 3) := by decide +kernel
theorem dX6_force_11 : decode cX6_force 11 = .ok (.ireturn, 1) := by decide +kernel
set_option maxRecDepth 20000 in
theorem ggX6_cap_X6_needTown : GoodIn wsX6_cap wsX6_needTown := goodIn_ca (goodIn_r _ [5, 6, 7, 8, 92, 93, 94, 95, 96, 97, 98, 99, 100, 101, 102] (by decide +kernel) (by decide +kernel)) (goodIn_sub (fun _ h => List.mem_cons_of_mem _ (List.mem_append_right _ h)) (by decide +kernel))
set_option maxRecDepth 20000 in
theorem gX6_cap_X6_needTown : GoodIn wsX6_cap (wsV RX6 146 RX6 yX6_needTown wsX6_needTown) := goodIn_app (goodIn_of _ (by decide +kernel)) ggX6_cap_X6_needTown
set_option maxRecDepth 20000 in
theorem ggX6_cap_X6_needThing : GoodIn wsX6_cap wsX6_needThing := goodIn_ca (goodIn_r _ [11, 6, 7] (by decide +kernel) (by decide +kernel)) (goodIn_sub (fun _ h => List.mem_cons_of_mem _ (List.mem_append_right _ h)) (by decide +kernel))
set_option maxRecDepth 20000 in
theorem gX6_cap_X6_needThing : GoodIn wsX6_cap (va_wsS RX6 152 yX6_needThing wsX6_needThing) := goodIn_app (goodIn_of _ (by decide +kernel)) ggX6_cap_X6_needThing
set_option maxRecDepth 20000 in
theorem ggX6_cap_X6_highest : GoodIn wsX6_cap wsX6_highest := goodIn_r _ [15, 16, 17, 18, 19, 20, 21, 22, 23, 4, 24, 25, 26, 27, 28, 29, 30, 31, 32, 33, 34, 35, 36, 37, 38, 39, 40, 41, 42, 43, 44, 45, 46, 47, 48, 49, 50, 51, 52, 53, 54, 55, 56, 57, 58, 59, 60, 61, 62, 63, 64, 65, 66, 67, 68, 69, 70, 71, 72, 73, 74, 75, 76, 77, 78, 79, 80, 81, 82, 83, 84, 85, 86, 87, 88, 89, 90, 91, 92, 93, 94, 95, 96, 97, 98, 99, 100, 101, 102, 103, 104, 105, 106, 107, 108, 109, 110, 111, 112, 113, 114, 115, 116, 117, 118, 119, 120, 121] (by decide +kernel) (by decide +kernel)
set_option maxRecDepth 20000 in
theorem gX6_cap_X6_highest : GoodIn wsX6_cap (wsV RX6 155 RX6 yX6_highest wsX6_highest) := goodIn_app (goodIn_of _ (by decide +kernel)) ggX6_cap_X6_highest
theorem dX6_cap_0 : decode cX6_cap 0 = .ok (.aload_n 0, 1) := by decide +kernel
theorem dX6_cap_1 : decode cX6_cap 1 = .ok (.iload_n 1, 1) := by decide +kernel
theorem dX6_cap_2 : decode cX6_cap 2 = .ok (.invokevirtual 146, 3) := by decide +kernel
theorem dX6_cap_5 : decode cX6_cap 5 = .ok (.iload_n 2, 1) := by decide +kernel
theorem dX6_cap_6 : decode cX6_cap 6 = .ok (.invokestatic 152, 3) := by decide +kernel
theorem dX6_cap_9 : decode cX6_cap 9 = .ok (.aload_n 0, 1) := by decide +kernel
theorem dX6_cap_10 : decode cX6_cap 10 = .ok (.iload_n 1, 1) := by decide +kernel
theorem dX6_cap_11 : decode cX6_cap 11 = .ok (.iload_n 2, 1) := by decide +kernel
theorem dX6_cap_12 : decode cX6_cap 12 = .ok (.iload_n 3, 1) := by decide +kernel
theorem dX6_cap_13 : decode cX6_cap 13 = .ok (.iload 4, 2) := by decide +kernel
theorem dX6_cap_15 : decode cX6_cap 15 = .ok (.invokevirtual 155, 3) := by decide +kernel
theorem dX6_cap_18 : decode cX6_cap 18 = .ok (.ireturn, 1) := by decide +kernel
set_option maxRecDepth 20000 in
theorem ggX6_judge_X6_needTown : GoodIn wsX6_judge wsX6_needTown := goodIn_ca (goodIn_r _ [7, 8, 9, 10, 94, 95, 96, 97, 98, 99, 100, 101, 102, 103, 104] (by decide +kernel) (by decide +kernel)) (goodIn_sub (fun _ h => List.mem_cons_of_mem _ (List.mem_append_right _ h)) (by decide +kernel))
set_option maxRecDepth 20000 in
theorem gX6_judge_X6_needTown : GoodIn wsX6_judge (wsV RX6 146 RX6 yX6_needTown wsX6_needTown) := goodIn_app (goodIn_of _ (by decide +kernel)) ggX6_judge_X6_needTown
set_option maxRecDepth 20000 in
theorem ggX6_judge_X6_needThing : GoodIn wsX6_judge wsX6_needThing := goodIn_ca (goodIn_r _ [13, 8, 9] (by decide +kernel) (by decide +kernel)) (goodIn_sub (fun _ h => List.mem_cons_of_mem _ (List.mem_append_right _ h)) (by decide +kernel))
set_option maxRecDepth 20000 in
theorem gX6_judge_X6_needThing : GoodIn wsX6_judge (va_wsS RX6 152 yX6_needThing wsX6_needThing) := goodIn_app (goodIn_of _ (by decide +kernel)) ggX6_judge_X6_needThing
set_option maxRecDepth 20000 in
theorem ggX6_judge_X6_highest : GoodIn wsX6_judge wsX6_highest := goodIn_r _ [17, 18, 19, 20, 21, 22, 23, 24, 25, 6, 26, 27, 28, 29, 30, 31, 32, 33, 34, 35, 36, 37, 38, 39, 40, 41, 42, 43, 44, 45, 46, 47, 48, 49, 50, 51, 52, 53, 54, 55, 56, 57, 58, 59, 60, 61, 62, 63, 64, 65, 66, 67, 68, 69, 70, 71, 72, 73, 74, 75, 76, 77, 78, 79, 80, 81, 82, 83, 84, 85, 86, 87, 88, 89, 90, 91, 92, 93, 94, 95, 96, 97, 98, 99, 100, 101, 102, 103, 104, 105, 106, 107, 108, 109, 110, 111, 112, 113, 114, 115, 116, 117, 118, 119, 120, 121, 122, 123] (by decide +kernel) (by decide +kernel)
set_option maxRecDepth 20000 in
theorem gX6_judge_X6_highest : GoodIn wsX6_judge (wsV RX6 155 RX6 yX6_highest wsX6_highest) := goodIn_app (goodIn_of _ (by decide +kernel)) ggX6_judge_X6_highest
theorem dX6_judge_0 : decode cX6_judge 0 = .ok (.aload_n 0, 1) := by decide +kernel
theorem dX6_judge_1 : decode cX6_judge 1 = .ok (.iload_n 1, 1) := by decide +kernel
theorem dX6_judge_2 : decode cX6_judge 2 = .ok (.invokevirtual 146, 3) := by decide +kernel
theorem dX6_judge_5 : decode cX6_judge 5 = .ok (.iload_n 2, 1) := by decide +kernel
theorem dX6_judge_6 : decode cX6_judge 6 = .ok (.invokestatic 152, 3) := by decide +kernel
theorem dX6_judge_9 : decode cX6_judge 9 = .ok (.iload_n 3, 1) := by decide +kernel
theorem dX6_judge_10 : decode cX6_judge 10 = .ok (.ifCond .ge 13, 3) := by decide +kernel
theorem dX6_judge_13 : decode cX6_judge 13 = .ok (.new 101, 3) := by decide +kernel
theorem dX6_judge_16 : decode cX6_judge 16 = .ok (.dup, 1) := by decide +kernel
theorem dX6_judge_17 : decode cX6_judge 17 = .ok (.ldc 159, 2) := by decide +kernel
theorem dX6_judge_19 : decode cX6_judge 19 = .ok (.invokespecial 105, 3) := by decide +kernel
theorem dX6_judge_22 : decode cX6_judge 22 = .ok (.athrow, 1) := by decide +kernel
theorem dX6_judge_23 : decode cX6_judge 23 = .ok (.aload_n 0, 1) := by decide +kernel
theorem dX6_judge_24 : decode cX6_judge 24 = .ok (.iload_n 1, 1) := by decide +kernel
theorem dX6_judge_25 : decode cX6_judge 25 = .ok (.iload_n 2, 1) := by decide +kernel
theorem dX6_judge_26 : decode cX6_judge 26 = .ok (.iload 4, 2) := by decide +kernel
theorem dX6_judge_28 : decode cX6_judge 28 = .ok (.iload 5, 2) := by decide +kernel
theorem dX6_judge_30 : decode cX6_judge 30 = .ok (.invokevirtual 155, 3) := by decide +kernel
theorem dX6_judge_33 : decode cX6_judge 33 = .ok (.istore 6, 2) := by decide +kernel
theorem dX6_judge_35 : decode cX6_judge 35 = .ok (.iload 6, 2) := by decide +kernel
theorem dX6_judge_37 : decode cX6_judge 37 = .ok (.iconst (-1), 1) := by decide +kernel
theorem dX6_judge_38 : decode cX6_judge 38 = .ok (.if_icmp .eq 13, 3) := by decide +kernel
theorem dX6_judge_41 : decode cX6_judge 41 = .ok (.iload_n 3, 1) := by decide +kernel
theorem dX6_judge_42 : decode cX6_judge 42 = .ok (.iload 6, 2) := by decide +kernel
theorem dX6_judge_44 : decode cX6_judge 44 = .ok (.if_icmp .le 7, 3) := by decide +kernel
theorem dX6_judge_47 : decode cX6_judge 47 = .ok (.iconst 1, 1) := by decide +kernel
theorem dX6_judge_48 : decode cX6_judge 48 = .ok (.goto 4, 3) := by decide +kernel
theorem dX6_judge_51 : decode cX6_judge 51 = .ok (.iconst 0, 1) := by decide +kernel
theorem dX6_judge_52 : decode cX6_judge 52 = .ok (.ireturn, 1) := by decide +kernel
set_option maxRecDepth 20000 in
theorem ggX6_town_X6_needWithin : GoodIn wsX6_town wsX6_needWithin := goodIn_ca (goodIn_r _ [9, 10, 11] (by decide +kernel) (by decide +kernel)) (goodIn_sub (fun _ h => List.mem_cons_of_mem _ (List.mem_append_right _ h)) (by decide +kernel))
set_option maxRecDepth 20000 in
theorem gX6_town_X6_needWithin : GoodIn wsX6_town (va_wsS RX6 74 yX6_needWithin wsX6_needWithin) := goodIn_app (goodIn_of _ (by decide +kernel)) ggX6_town_X6_needWithin
theorem dX6_town_0 : decode cX6_town 0 = .ok (.iload_n 1, 1) := by decide +kernel
theorem dX6_town_1 : decode cX6_town 1 = .ok (.iconst 0, 1) := by decide +kernel
theorem dX6_town_2 : decode cX6_town 2 = .ok (.sipush 2000, 3) := by decide +kernel
theorem dX6_town_5 : decode cX6_town 5 = .ok (.invokestatic 74, 3) := by decide +kernel
theorem dX6_town_8 : decode cX6_town 8 = .ok (.aload_n 0, 1) := by decide +kernel
theorem dX6_town_9 : decode cX6_town 9 = .ok (.getfield 50, 3) := by decide +kernel
theorem dX6_town_12 : decode cX6_town 12 = .ok (.bipush 8, 2) := by decide +kernel
theorem dX6_town_14 : decode cX6_town 14 = .ok (.if_icmp .lt 13, 3) := by decide +kernel
theorem dX6_town_17 : decode cX6_town 17 = .ok (.new 81, 3) := by decide +kernel
theorem dX6_town_20 : decode cX6_town 20 = .ok (.dup, 1) := by decide +kernel
theorem dX6_town_21 : decode cX6_town 21 = .ok (.ldc 161, 2) := by decide +kernel
theorem dX6_town_23 : decode cX6_town 23 = .ok (.invokespecial 85, 3) := by decide +kernel
theorem dX6_town_26 : decode cX6_town 26 = .ok (.athrow, 1) := by decide +kernel
theorem dX6_town_27 : decode cX6_town 27 = .ok (.aload_n 0, 1) := by decide +kernel
theorem dX6_town_28 : decode cX6_town 28 = .ok (.getfield 50, 3) := by decide +kernel
theorem dX6_town_31 : decode cX6_town 31 = .ok (.istore_n 2, 1) := by decide +kernel
theorem dX6_town_32 : decode cX6_town 32 = .ok (.aload_n 0, 1) := by decide +kernel
theorem dX6_town_33 : decode cX6_town 33 = .ok (.getfield 38, 3) := by decide +kernel
theorem dX6_town_36 : decode cX6_town 36 = .ok (.iload_n 2, 1) := by decide +kernel
theorem dX6_town_37 : decode cX6_town 37 = .ok (.aaload, 1) := by decide +kernel
theorem dX6_town_38 : decode cX6_town 38 = .ok (.iload_n 1, 1) := by decide +kernel
theorem dX6_town_39 : decode cX6_town 39 = .ok (.putfield 163, 3) := by decide +kernel
theorem dX6_town_42 : decode cX6_town 42 = .ok (.aload_n 0, 1) := by decide +kernel
theorem dX6_town_43 : decode cX6_town 43 = .ok (.dup, 1) := by decide +kernel
theorem dX6_town_44 : decode cX6_town 44 = .ok (.getfield 50, 3) := by decide +kernel
theorem dX6_town_47 : decode cX6_town 47 = .ok (.iconst 1, 1) := by decide +kernel
theorem dX6_town_48 : decode cX6_town 48 = .ok (.iadd, 1) := by decide +kernel
theorem dX6_town_49 : decode cX6_town 49 = .ok (.putfield 50, 3) := by decide +kernel
theorem dX6_town_52 : decode cX6_town 52 = .ok (.iload_n 2, 1) := by decide +kernel
theorem dX6_town_53 : decode cX6_town 53 = .ok (.ireturn, 1) := by decide +kernel
set_option maxRecDepth 20000 in
theorem ggX6_goods_X6_needTown : GoodIn wsX6_goods wsX6_needTown := goodIn_ca (goodIn_r _ [7, 8, 9, 10, 28, 29, 30, 31, 32, 33, 34, 35, 36, 37, 38] (by decide +kernel) (by decide +kernel)) (goodIn_sub (fun _ h => List.mem_cons_of_mem _ (List.mem_append_left _ (List.mem_append_right _ h))) (by decide +kernel))
set_option maxRecDepth 20000 in
theorem gX6_goods_X6_needTown : GoodIn wsX6_goods (wsV RX6 146 RX6 yX6_needTown wsX6_needTown) := goodIn_app (goodIn_of _ (by decide +kernel)) ggX6_goods_X6_needTown
set_option maxRecDepth 20000 in
theorem ggX6_goods_X6_needThing : GoodIn wsX6_goods wsX6_needThing := goodIn_ca (goodIn_r _ [13, 8, 9] (by decide +kernel) (by decide +kernel)) (goodIn_sub (fun _ h => List.mem_cons_of_mem _ (List.mem_append_left _ (List.mem_append_right _ h))) (by decide +kernel))
set_option maxRecDepth 20000 in
theorem gX6_goods_X6_needThing : GoodIn wsX6_goods (va_wsS RX6 152 yX6_needThing wsX6_needThing) := goodIn_app (goodIn_of _ (by decide +kernel)) ggX6_goods_X6_needThing
set_option maxRecDepth 20000 in
theorem ggX6_goods_X6_needWithin : GoodIn wsX6_goods wsX6_needWithin := goodIn_ca (goodIn_r _ [16, 17, 18] (by decide +kernel) (by decide +kernel)) (goodIn_sub (fun _ h => List.mem_cons_of_mem _ (List.mem_append_right _ h)) (by decide +kernel))
set_option maxRecDepth 20000 in
theorem gX6_goods_X6_needWithin : GoodIn wsX6_goods (va_wsS RX6 74 yX6_needWithin wsX6_needWithin) := goodIn_app (goodIn_of _ (by decide +kernel)) ggX6_goods_X6_needWithin
set_option maxRecDepth 20000 in
theorem ggX6_goods_X5_arrange : GoodIn wsX6_goods wsX5_arrange := goodIn_r _ [23, 24, 25, 26, 27, 41, 42, 43, 44, 45, 46, 47, 48, 49, 50, 51] (by decide +kernel) (by decide +kernel)
set_option maxRecDepth 20000 in
theorem gX6_goods_X5_arrange : GoodIn wsX6_goods (wsV RX6 170 RX5 yX5_arrange wsX5_arrange) := goodIn_app (goodIn_of _ (by decide +kernel)) ggX6_goods_X5_arrange
theorem dX6_goods_0 : decode cX6_goods 0 = .ok (.aload_n 0, 1) := by decide +kernel
theorem dX6_goods_1 : decode cX6_goods 1 = .ok (.iload_n 1, 1) := by decide +kernel
theorem dX6_goods_2 : decode cX6_goods 2 = .ok (.invokevirtual 146, 3) := by decide +kernel
theorem dX6_goods_5 : decode cX6_goods 5 = .ok (.iload_n 2, 1) := by decide +kernel
theorem dX6_goods_6 : decode cX6_goods 6 = .ok (.invokestatic 152, 3) := by decide +kernel
theorem dX6_goods_9 : decode cX6_goods 9 = .ok (.iload_n 3, 1) := by decide +kernel
theorem dX6_goods_10 : decode cX6_goods 10 = .ok (.iconst 0, 1) := by decide +kernel
theorem dX6_goods_11 : decode cX6_goods 11 = .ok (.sipush 9999, 3) := by decide +kernel
theorem dX6_goods_14 : decode cX6_goods 14 = .ok (.invokestatic 74, 3) := by decide +kernel
theorem dX6_goods_17 : decode cX6_goods 17 = .ok (.iload 4, 2) := by decide +kernel
theorem dX6_goods_19 : decode cX6_goods 19 = .ok (.iconst 0, 1) := by decide +kernel
theorem dX6_goods_20 : decode cX6_goods 20 = .ok (.sipush 9999, 3) := by decide +kernel
theorem dX6_goods_23 : decode cX6_goods 23 = .ok (.invokestatic 74, 3) := by decide +kernel
theorem dX6_goods_26 : decode cX6_goods 26 = .ok (.iload 5, 2) := by decide +kernel
theorem dX6_goods_28 : decode cX6_goods 28 = .ok (.iconst 0, 1) := by decide +kernel
theorem dX6_goods_29 : decode cX6_goods 29 = .ok (.sipush 1000, 3) := by decide +kernel
theorem dX6_goods_32 : decode cX6_goods 32 = .ok (.invokestatic 74, 3) := by decide +kernel
theorem dX6_goods_35 : decode cX6_goods 35 = .ok (.iload 6, 2) := by decide +kernel
theorem dX6_goods_37 : decode cX6_goods 37 = .ok (.iconst 0, 1) := by decide +kernel
theorem dX6_goods_38 : decode cX6_goods 38 = .ok (.sipush 1000, 3) := by decide +kernel
theorem dX6_goods_41 : decode cX6_goods 41 = .ok (.invokestatic 74, 3) := by decide +kernel
theorem dX6_goods_44 : decode cX6_goods 44 = .ok (.aload_n 0, 1) := by decide +kernel
theorem dX6_goods_45 : decode cX6_goods 45 = .ok (.getfield 38, 3) := by decide +kernel
theorem dX6_goods_48 : decode cX6_goods 48 = .ok (.iload_n 1, 1) := by decide +kernel
theorem dX6_goods_49 : decode cX6_goods 49 = .ok (.aaload, 1) := by decide +kernel
theorem dX6_goods_50 : decode cX6_goods 50 = .ok (.getfield 166, 3) := by decide +kernel
theorem dX6_goods_53 : decode cX6_goods 53 = .ok (.iload_n 2, 1) := by decide +kernel
theorem dX6_goods_54 : decode cX6_goods 54 = .ok (.aaload, 1) := by decide +kernel
theorem dX6_goods_55 : decode cX6_goods 55 = .ok (.iload_n 3, 1) := by decide +kernel
theorem dX6_goods_56 : decode cX6_goods 56 = .ok (.iload 4, 2) := by decide +kernel
theorem dX6_goods_58 : decode cX6_goods 58 = .ok (.iload 5, 2) := by decide +kernel
theorem dX6_goods_60 : decode cX6_goods 60 = .ok (.iload 6, 2) := by decide +kernel
theorem dX6_goods_62 : decode cX6_goods 62 = .ok (.invokevirtual 170, 3) := by decide +kernel
theorem dX6_goods_65 : decode cX6_goods 65 = .ok (.return_, 1) := by decide +kernel
set_option maxRecDepth 20000 in
theorem ggX6_spoil_X6_needThing : GoodIn wsX6_spoil wsX6_needThing := goodIn_ca (goodIn_r _ [5, 6, 7] (by decide +kernel) (by decide +kernel)) (goodIn_sub (fun _ h => List.mem_cons_of_mem _ (List.mem_append_left _ (List.mem_append_right _ h))) (by decide +kernel))
set_option maxRecDepth 20000 in
theorem gX6_spoil_X6_needThing : GoodIn wsX6_spoil (va_wsS RX6 152 yX6_needThing wsX6_needThing) := goodIn_app (goodIn_of _ (by decide +kernel)) ggX6_spoil_X6_needThing
set_option maxRecDepth 20000 in
theorem ggX6_spoil_X6_needWithin : GoodIn wsX6_spoil wsX6_needWithin := goodIn_ca (goodIn_r _ [10, 11, 12] (by decide +kernel) (by decide +kernel)) (goodIn_sub (fun _ h => List.mem_cons_of_mem _ (List.mem_append_right _ h)) (by decide +kernel))
set_option maxRecDepth 20000 in
theorem gX6_spoil_X6_needWithin : GoodIn wsX6_spoil (va_wsS RX6 74 yX6_needWithin wsX6_needWithin) := goodIn_app (goodIn_of _ (by decide +kernel)) ggX6_spoil_X6_needWithin
theorem dX6_spoil_0 : decode cX6_spoil 0 = .ok (.iload_n 1, 1) := by decide +kernel
theorem dX6_spoil_1 : decode cX6_spoil 1 = .ok (.invokestatic 152, 3) := by decide +kernel
theorem dX6_spoil_4 : decode cX6_spoil 4 = .ok (.iload_n 2, 1) := by decide +kernel
theorem dX6_spoil_5 : decode cX6_spoil 5 = .ok (.iconst 0, 1) := by decide +kernel
theorem dX6_spoil_6 : decode cX6_spoil 6 = .ok (.bipush 100, 2) := by decide +kernel
theorem dX6_spoil_8 : decode cX6_spoil 8 = .ok (.invokestatic 74, 3) := by decide +kernel
theorem dX6_spoil_11 : decode cX6_spoil 11 = .ok (.aload_n 0, 1) := by decide +kernel
theorem dX6_spoil_12 : decode cX6_spoil 12 = .ok (.getfield 42, 3) := by decide +kernel
theorem dX6_spoil_15 : decode cX6_spoil 15 = .ok (.iload_n 1, 1) := by decide +kernel
theorem dX6_spoil_16 : decode cX6_spoil 16 = .ok (.iload_n 2, 1) := by decide +kernel
theorem dX6_spoil_17 : decode cX6_spoil 17 = .ok (.iastore, 1) := by decide +kernel
theorem dX6_spoil_18 : decode cX6_spoil 18 = .ok (.return_, 1) := by decide +kernel
set_option maxRecDepth 20000 in
theorem ggX6_carry_X6_needWithin : GoodIn wsX6_carry wsX6_needWithin := goodIn_ca (goodIn_r _ [5, 6, 7] (by decide +kernel) (by decide +kernel)) (goodIn_sub (fun _ h => List.mem_cons_of_mem _ (List.mem_append_right _ h)) (by decide +kernel))
set_option maxRecDepth 20000 in
theorem gX6_carry_X6_needWithin : GoodIn wsX6_carry (va_wsS RX6 74 yX6_needWithin wsX6_needWithin) := goodIn_app (goodIn_of _ (by decide +kernel)) ggX6_carry_X6_needWithin
theorem dX6_carry_0 : decode cX6_carry 0 = .ok (.iload_n 1, 1) := by decide +kernel
theorem dX6_carry_1 : decode cX6_carry 1 = .ok (.iconst 0, 1) := by decide +kernel
theorem dX6_carry_2 : decode cX6_carry 2 = .ok (.bipush 99, 2) := by decide +kernel
theorem dX6_carry_4 : decode cX6_carry 4 = .ok (.invokestatic 74, 3) := by decide +kernel
theorem dX6_carry_7 : decode cX6_carry 7 = .ok (.aload_n 0, 1) := by decide +kernel
theorem dX6_carry_8 : decode cX6_carry 8 = .ok (.iload_n 1, 1) := by decide +kernel
theorem dX6_carry_9 : decode cX6_carry 9 = .ok (.putfield 53, 3) := by decide +kernel
theorem dX6_carry_12 : decode cX6_carry 12 = .ok (.return_, 1) := by decide +kernel
set_option maxRecDepth 20000 in
theorem ggX6_weeks_X6_needWithin : GoodIn wsX6_weeks wsX6_needWithin := goodIn_ca (goodIn_r _ [5, 6, 7] (by decide +kernel) (by decide +kernel)) (goodIn_sub (fun _ h => List.mem_cons_of_mem _ (List.mem_append_right _ h)) (by decide +kernel))
set_option maxRecDepth 20000 in
theorem gX6_weeks_X6_needWithin : GoodIn wsX6_weeks (va_wsS RX6 74 yX6_needWithin wsX6_needWithin) := goodIn_app (goodIn_of _ (by decide +kernel)) ggX6_weeks_X6_needWithin
set_option maxRecDepth 20000 in
theorem ggX6_weeks_X6_holdMarkets : GoodIn wsX6_weeks wsX6_holdMarkets := goodIn_r _ [11, 12, 13, 14, 15, 16, 17, 18, 19, 20, 4, 21, 22, 1, 23, 24, 25, 26, 27, 28, 29, 30, 31, 32, 33, 34, 35, 36, 37, 38, 39, 40, 41, 42, 43, 44, 45, 46, 47, 48, 49, 50, 51, 52, 53, 54, 55, 56, 57, 58, 59, 60, 61, 62, 63, 64, 65, 66, 67, 68, 69, 70, 71, 72, 73, 74, 75, 76, 77, 78, 79, 80, 81, 82, 83, 84, 85, 86, 87, 88, 89, 90, 91, 92, 93, 94, 95, 96, 97, 98, 99, 100, 101, 102, 103, 104, 105, 106, 107, 108, 109, 110, 111, 112, 113, 114, 115, 116, 117, 118, 119, 120, 121, 122, 123, 124, 125, 126, 127, 128, 129, 130, 131, 132, 133, 134, 135, 136, 137, 138, 139, 140, 141, 142, 143, 144, 145, 146, 147, 148, 149, 150, 151, 152, 153, 154, 155, 156, 157, 158, 159, 160, 161, 162, 163, 164, 165, 166, 167, 168, 169, 170, 171, 172, 173, 174, 175, 176, 177, 178, 179, 180, 181, 182, 183, 184, 185, 186, 187, 188, 189, 190] (by decide +kernel) (by decide +kernel)
set_option maxRecDepth 20000 in
theorem gX6_weeks_X6_holdMarkets : GoodIn wsX6_weeks (wsV RX6 176 RX6 yX6_holdMarkets wsX6_holdMarkets) := goodIn_app (goodIn_of _ (by decide +kernel)) ggX6_weeks_X6_holdMarkets
theorem dX6_weeks_0 : decode cX6_weeks 0 = .ok (.iload_n 1, 1) := by decide +kernel
theorem dX6_weeks_1 : decode cX6_weeks 1 = .ok (.iconst 0, 1) := by decide +kernel
theorem dX6_weeks_2 : decode cX6_weeks 2 = .ok (.bipush 50, 2) := by decide +kernel
theorem dX6_weeks_4 : decode cX6_weeks 4 = .ok (.invokestatic 74, 3) := by decide +kernel
theorem dX6_weeks_7 : decode cX6_weeks 7 = .ok (.iconst 0, 1) := by decide +kernel
theorem dX6_weeks_8 : decode cX6_weeks 8 = .ok (.istore_n 2, 1) := by decide +kernel
theorem dX6_weeks_9 : decode cX6_weeks 9 = .ok (.iload_n 2, 1) := by decide +kernel
theorem dX6_weeks_10 : decode cX6_weeks 10 = .ok (.iload_n 1, 1) := by decide +kernel
theorem dX6_weeks_11 : decode cX6_weeks 11 = .ok (.if_icmp .ge 37, 3) := by decide +kernel
theorem dX6_weeks_14 : decode cX6_weeks 14 = .ok (.aload_n 0, 1) := by decide +kernel
theorem dX6_weeks_15 : decode cX6_weeks 15 = .ok (.getfield 56, 3) := by decide +kernel
theorem dX6_weeks_18 : decode cX6_weeks 18 = .ok (.bipush 7, 2) := by decide +kernel
theorem dX6_weeks_20 : decode cX6_weeks 20 = .ok (.iadd, 1) := by decide +kernel
theorem dX6_weeks_21 : decode cX6_weeks 21 = .ok (.sipush 5000, 3) := by decide +kernel
theorem dX6_weeks_24 : decode cX6_weeks 24 = .ok (.if_icmp .gt 24, 3) := by decide +kernel
theorem dX6_weeks_27 : decode cX6_weeks 27 = .ok (.aload_n 0, 1) := by decide +kernel
theorem dX6_weeks_28 : decode cX6_weeks 28 = .ok (.dup, 1) := by decide +kernel
theorem dX6_weeks_29 : decode cX6_weeks 29 = .ok (.getfield 56, 3) := by decide +kernel
theorem dX6_weeks_32 : decode cX6_weeks 32 = .ok (.bipush 7, 2) := by decide +kernel
theorem dX6_weeks_34 : decode cX6_weeks 34 = .ok (.iadd, 1) := by decide +kernel
theorem dX6_weeks_35 : decode cX6_weeks 35 = .ok (.putfield 56, 3) := by decide +kernel
theorem dX6_weeks_38 : decode cX6_weeks 38 = .ok (.aload_n 0, 1) := by decide +kernel
theorem dX6_weeks_39 : decode cX6_weeks 39 = .ok (.invokevirtual 176, 3) := by decide +kernel
theorem dX6_weeks_42 : decode cX6_weeks 42 = .ok (.iinc 2 1, 3) := by decide +kernel
theorem dX6_weeks_45 : decode cX6_weeks 45 = .ok (.goto (-36), 3) := by decide +kernel
theorem dX6_weeks_48 : decode cX6_weeks 48 = .ok (.aload_n 0, 1) := by decide +kernel
theorem dX6_weeks_49 : decode cX6_weeks 49 = .ok (.getfield 56, 3) := by decide +kernel
theorem dX6_weeks_52 : decode cX6_weeks 52 = .ok (.ireturn, 1) := by decide +kernel
set_option maxRecDepth 20000 in
theorem ggX6_days_X6_needWithin : GoodIn wsX6_days wsX6_needWithin := goodIn_ca (goodIn_r _ [9, 10, 11] (by decide +kernel) (by decide +kernel)) (goodIn_sub (fun _ h => List.mem_cons_of_mem _ (List.mem_append_right _ h)) (by decide +kernel))
set_option maxRecDepth 20000 in
theorem gX6_days_X6_needWithin : GoodIn wsX6_days (va_wsS RX6 74 yX6_needWithin wsX6_needWithin) := goodIn_app (goodIn_of _ (by decide +kernel)) ggX6_days_X6_needWithin
theorem dX6_days_0 : decode cX6_days 0 = .ok (.iload_n 1, 1) := by decide +kernel
theorem dX6_days_1 : decode cX6_days 1 = .ok (.iconst 0, 1) := by decide +kernel
theorem dX6_days_2 : decode cX6_days 2 = .ok (.bipush 100, 2) := by decide +kernel
theorem dX6_days_4 : decode cX6_days 4 = .ok (.invokestatic 74, 3) := by decide +kernel
theorem dX6_days_7 : decode cX6_days 7 = .ok (.aload_n 0, 1) := by decide +kernel
theorem dX6_days_8 : decode cX6_days 8 = .ok (.aload_n 0, 1) := by decide +kernel
theorem dX6_days_9 : decode cX6_days 9 = .ok (.getfield 56, 3) := by decide +kernel
theorem dX6_days_12 : decode cX6_days 12 = .ok (.iload_n 1, 1) := by decide +kernel
theorem dX6_days_13 : decode cX6_days 13 = .ok (.iadd, 1) := by decide +kernel
theorem dX6_days_14 : decode cX6_days 14 = .ok (.sipush 5000, 3) := by decide +kernel
theorem dX6_days_17 : decode cX6_days 17 = .ok (.invokestatic 126, 3) := by decide +kernel
theorem dX6_days_20 : decode cX6_days 20 = .ok (.putfield 56, 3) := by decide +kernel
theorem dX6_days_23 : decode cX6_days 23 = .ok (.aload_n 0, 1) := by decide +kernel
theorem dX6_days_24 : decode cX6_days 24 = .ok (.getfield 56, 3) := by decide +kernel
theorem dX6_days_27 : decode cX6_days 27 = .ok (.ireturn, 1) := by decide +kernel
set_option maxRecDepth 20000 in
theorem ggX6_look_X6_needTown : GoodIn wsX6_look wsX6_needTown := goodIn_ca (goodIn_r _ [14, 15, 16, 17, 115, 116, 117, 118, 119, 120, 121, 122, 123, 124, 125] (by decide +kernel) (by decide +kernel)) (goodIn_sub (fun _ h => List.mem_cons_of_mem _ (List.mem_append_left _ (List.mem_append_right _ h))) (by decide +kernel))
set_option maxRecDepth 20000 in
theorem gX6_look_X6_needTown : GoodIn wsX6_look (wsV RX6 146 RX6 yX6_needTown wsX6_needTown) := goodIn_app (goodIn_of _ (by decide +kernel)) ggX6_look_X6_needTown
set_option maxRecDepth 20000 in
theorem ggX6_look_X6_needThing : GoodIn wsX6_look wsX6_needThing := goodIn_ca (goodIn_r _ [20, 15, 16] (by decide +kernel) (by decide +kernel)) (goodIn_sub (fun _ h => List.mem_cons_of_mem _ (List.mem_append_left _ (List.mem_append_right _ h))) (by decide +kernel))
set_option maxRecDepth 20000 in
theorem gX6_look_X6_needThing : GoodIn wsX6_look (va_wsS RX6 152 yX6_needThing wsX6_needThing) := goodIn_app (goodIn_of _ (by decide +kernel)) ggX6_look_X6_needThing
set_option maxRecDepth 20000 in
theorem ggX6_look_X6_needWhat : GoodIn wsX6_look wsX6_needWhat := goodIn_ca (goodIn_r _ [23, 24, 25] (by decide +kernel) (by decide +kernel)) (goodIn_sub (fun _ h => List.mem_cons_of_mem _ (List.mem_append_right _ h)) (by decide +kernel))
set_option maxRecDepth 20000 in
theorem gX6_look_X6_needWhat : GoodIn wsX6_look (va_wsS RX6 109 yX6_needWhat wsX6_needWhat) := goodIn_app (goodIn_of _ (by decide +kernel)) ggX6_look_X6_needWhat
set_option maxRecDepth 20000 in
theorem ggX6_look_X6_priceToday : GoodIn wsX6_look wsX6_priceToday := goodIn_r _ [29, 1, 2, 30, 31, 32, 33, 34, 35, 36, 37, 38, 13, 39, 40, 41, 42, 43, 44, 45, 46, 47, 48, 49, 50, 51, 52, 53, 54, 55, 56, 57, 58, 59, 60, 61, 62, 63, 64, 65, 66, 67, 68, 69, 70, 71, 72, 73, 74, 75, 76, 77, 78, 79, 80, 81, 82, 83, 84, 85, 86, 87, 88, 89, 90, 91, 92, 93, 94, 95, 96, 97, 98, 99, 100, 101, 102, 103, 104, 105, 106, 107, 108, 109, 110, 111, 112, 113, 114, 115, 116, 117, 118, 119, 120, 121, 122, 123, 124, 125, 126, 127, 128, 129, 130, 131, 132, 133, 134, 135, 136, 137, 138, 139, 140, 141, 142, 143, 144, 145, 146, 147, 148, 149, 150, 151, 152, 153, 154, 155] (by decide +kernel) (by decide +kernel)
set_option maxRecDepth 20000 in
theorem gX6_look_X6_priceToday : GoodIn wsX6_look (wsV RX6 200 RX6 yX6_priceToday wsX6_priceToday) := goodIn_app (goodIn_of _ (by decide +kernel)) ggX6_look_X6_priceToday
theorem dX6_look_0 : decode cX6_look 0 = .ok (.aload_n 0, 1) := by decide +kernel
theorem dX6_look_1 : decode cX6_look 1 = .ok (.iload_n 1, 1) := by decide +kernel
theorem dX6_look_2 : decode cX6_look 2 = .ok (.invokevirtual 146, 3) := by decide +kernel
theorem dX6_look_5 : decode cX6_look 5 = .ok (.iload_n 2, 1) := by decide +kernel
theorem dX6_look_6 : decode cX6_look 6 = .ok (.invokestatic 152, 3) := by decide +kernel
theorem dX6_look_9 : decode cX6_look 9 = .ok (.iload_n 3, 1) := by decide +kernel
theorem dX6_look_10 : decode cX6_look 10 = .ok (.bipush 7, 2) := by decide +kernel
theorem dX6_look_12 : decode cX6_look 12 = .ok (.invokestatic 109, 3) := by decide +kernel
theorem dX6_look_15 : decode cX6_look 15 = .ok (.aload_n 0, 1) := by decide +kernel
theorem dX6_look_16 : decode cX6_look 16 = .ok (.getfield 38, 3) := by decide +kernel
theorem dX6_look_19 : decode cX6_look 19 = .ok (.iload_n 1, 1) := by decide +kernel
theorem dX6_look_20 : decode cX6_look 20 = .ok (.aaload, 1) := by decide +kernel
theorem dX6_look_21 : decode cX6_look 21 = .ok (.getfield 166, 3) := by decide +kernel
theorem dX6_look_24 : decode cX6_look 24 = .ok (.iload_n 2, 1) := by decide +kernel
theorem dX6_look_25 : decode cX6_look 25 = .ok (.aaload, 1) := by decide +kernel
theorem dX6_look_26 : decode cX6_look 26 = .ok (.astore 4, 2) := by decide +kernel
theorem dX6_look_28 : decode cX6_look 28 = .ok (.iload_n 3, 1) := by decide +kernel
theorem dX6_look_29 : decode cX6_look 29 = .ok (.tableswitch 85 0 6 #[43, 49, 55, 61, 67, 73, 79], 43) := by decide +kernel
theorem dX6_look_72 : decode cX6_look 72 = .ok (.aload 4, 2) := by decide +kernel
theorem dX6_look_74 : decode cX6_look 74 = .ok (.getfield 179, 3) := by decide +kernel
theorem dX6_look_77 : decode cX6_look 77 = .ok (.ireturn, 1) := by decide +kernel
theorem dX6_look_78 : decode cX6_look 78 = .ok (.aload 4, 2) := by decide +kernel
theorem dX6_look_80 : decode cX6_look 80 = .ok (.getfield 182, 3) := by decide +kernel
theorem dX6_look_83 : decode cX6_look 83 = .ok (.ireturn, 1) := by decide +kernel
theorem dX6_look_84 : decode cX6_look 84 = .ok (.aload 4, 2) := by decide +kernel
theorem dX6_look_86 : decode cX6_look 86 = .ok (.getfield 185, 3) := by decide +kernel
