def wsX6_look_r2 : List Cond := [Cond.initialized "java/util/NoSuchElementException", Cond.methodLink RX6 200 yX6_priceToday, Cond.instanceMethod yX6_priceToday, Cond.selects RX6 yX6_priceToday yX6_priceToday, Cond.code yX6_priceToday cX6_priceToday 5 (some .int), Cond.fieldLink RX6 258 "PriceEdict$Wares" "bid" "I", Cond.fieldLink RX6 56 "PriceEdict" "today" "I", Cond.methodLink RX6 126 Lib.Math.min.name, Cond.static Lib.Math.min.name, Cond.initialized "java/lang/Math", Cond.code Lib.Math.min.name Lib.Math.min.code 2 (some .int), Cond.methodLink RX6 155 yX6_highest, Cond.instanceMethod yX6_highest, Cond.selects RX6 yX6_highest yX6_highest, Cond.code yX6_highest cX6_highest 9 (some .int), Cond.fieldLink RX6 46 "PriceEdict" "decreeCount" "I", Cond.fieldLink RX6 25 "PriceEdict" "decrees" "[LPriceEdict$Decree;", Cond.fieldLink RX6 246 "PriceEdict$Decree" "carriage" "I", Cond.fieldLink RX6 249 "PriceEdict$Decree" "credit" "I", Cond.methodLink RX6 149 yX6_inForce, Cond.instanceMethod yX6_inForce, Cond.selects RX6 yX6_inForce yX6_inForce, Cond.code yX6_inForce cX6_inForce 3 (some .int), Cond.fieldLink RX6 32 "PriceEdict" "news" "LPriceEdict$News;"]
def wsX6_look_r3 : List Cond := [Cond.methodLink RX6 232 yX4_tensOfMiles, Cond.instanceMethod yX4_tensOfMiles, Cond.selects RX4 yX4_tensOfMiles yX4_tensOfMiles, Cond.initialized RX4, Cond.code yX4_tensOfMiles cX4_tensOfMiles 1 (some .int), Cond.fieldLink RX4 17 "PriceEdict$Town" "miles" "I", Cond.methodLink RX6 235 yX1_heard, Cond.instanceMethod yX1_heard, Cond.selects RX1 yX1_heard yX1_heard, Cond.initialized RX1, Cond.code yX1_heard cX1_heard 5 (some .int), Cond.fieldLink RX1 18 "PriceEdict$News" "size" "I", Cond.fieldLink RX1 9 "PriceEdict$News" "toldOn" "[I", Cond.fieldLink RX1 15 "PriceEdict$News" "told" "[I", Cond.methodLink RX6 238 yX0_frees, Cond.instanceMethod yX0_frees, Cond.selects RX0 yX0_frees yX0_frees, Cond.initialized RX0, Cond.code yX0_frees cX0_frees 2 (some .boolean), Cond.fieldLink RX0 25 "PriceEdict$Decree" "freeTowns" "I", Cond.methodLink RX6 242 yX6_toldCap, Cond.instanceMethod yX6_toldCap, Cond.selects RX6 yX6_toldCap yX6_toldCap, Cond.code yX6_toldCap cX6_toldCap 5 (some .int)]
def wsX6_look_r4 : List Cond := [Cond.fieldLink RX6 252 "PriceEdict$Decree" "lines" "[I", Cond.fieldLink RX6 255 "PriceEdict$Decree" "caps" "[I", Cond.fieldLink RX6 19 "PriceEdict" "stones" "LPriceEdict$Stones;", Cond.methodLink RX6 113 yX2_compare, Cond.instanceMethod yX2_compare, Cond.selects RX2 yX2_compare yX2_compare, Cond.initialized RX2, Cond.code yX2_compare cX2_compare 4 none, Cond.fieldLink RX2 27 "PriceEdict$Stones" "left" "[I", Cond.fieldLink RX2 30 "PriceEdict$Stones" "size" "I", Cond.fieldLink RX2 9 "PriceEdict$Stones" "lines" "[I", Cond.methodLink RX2 40 yX2_isKnown, Cond.instanceMethod yX2_isKnown, Cond.selects RX2 yX2_isKnown yX2_isKnown, Cond.code yX2_isKnown cX2_isKnown 3 (some .boolean), Cond.fieldLink RX2 18 "PriceEdict$Stones" "found" "[I", Cond.fieldLink RX2 21 "PriceEdict$Stones" "struck" "[I", Cond.methodLink RX2 44 yX2_narrow, Cond.instanceMethod yX2_narrow, Cond.selects RX2 yX2_narrow yX2_narrow, Cond.code yX2_narrow cX2_narrow 4 none, Cond.fieldLink RX2 15 "PriceEdict$Stones" "figures" "[I", Cond.fieldLink RX2 24 "PriceEdict$Stones" "readings" "[I", Cond.methodLink RX6 116 yX2_agreeing]
def wsX6_look_r5 : List Cond := [Cond.instanceMethod yX2_agreeing, Cond.selects RX2 yX2_agreeing yX2_agreeing, Cond.code yX2_agreeing cX2_agreeing 3 (some .int), Cond.methodLink RX2 48 yJ6_bitCount_0f7a4, Cond.static yJ6_bitCount_0f7a4, Cond.initialized RJ6, Cond.code yJ6_bitCount_0f7a4 cJ6_bitCount_0f7a4 1 (some .int), Cond.constant RJ6 265 (1431655765), Cond.constant RJ6 266 (858993459), Cond.constant RJ6 267 (252645135), Cond.methodLink RX6 123 yX2_greatest, Cond.instanceMethod yX2_greatest, Cond.selects RX2 yX2_greatest yX2_greatest, Cond.code yX2_greatest cX2_greatest 3 (some .int), Cond.methodLink RX2 54 yX2_agreeing, Cond.methodLink RX2 61 yX2_highestFigure, Cond.static yX2_highestFigure, Cond.code yX2_highestFigure cX2_highestFigure 2 (some .int)]
def wsX6_look : List Cond := .code yX6_look cX6_look 5 (some .int) :: ((wsX6_look_r1 ++ (wsX6_look_r2 ++ (wsX6_look_r3 ++ (wsX6_look_r4 ++ wsX6_look_r5)))) ++ wsX60 ++ wsX40 ++ wsX50 ++ wsX00 ++ wsX10 ++ wsX20 ++ (vx_atS RX6 96 "java/lang/IndexOutOfBoundsException" ["java/lang/RuntimeException", "java/lang/Exception"]).filter goodWord ++ (vx_atN RX6 231).filter goodWord)
def wsX6_buys_r1 : List Cond := [Cond.constant RX6 203 (100000), Cond.fieldLink RX6 38 "PriceEdict" "towns" "[LPriceEdict$Town;", Cond.fieldLink RX6 166 "PriceEdict$Town" "wares" "[LPriceEdict$Wares;", Cond.fieldLink RX6 179 "PriceEdict$Wares" "stock" "I", Cond.methodLink RX6 126 Lib.Math.min.name, Cond.static Lib.Math.min.name, Cond.initialized "java/lang/Math", Cond.code Lib.Math.min.name Lib.Math.min.code 2 (some .int), Cond.methodLink RX6 146 yX6_needTown, Cond.instanceMethod yX6_needTown, Cond.selects RX6 yX6_needTown yX6_needTown, Cond.initialized RX6, Cond.code yX6_needTown cX6_needTown 2 none, Cond.classLink RX6 92 "java/lang/IndexOutOfBoundsException", Cond.initialized "java/lang/IndexOutOfBoundsException", Cond.fieldLink RX6 50 "PriceEdict" "townCount" "I", Cond.methodLink RX6 152 yX6_needThing, Cond.static yX6_needThing, Cond.code yX6_needThing cX6_needThing 1 none, Cond.methodLink RX6 74 yX6_needWithin, Cond.static yX6_needWithin, Cond.code yX6_needWithin cX6_needWithin 3 none, Cond.classLink RX6 101 "java/lang/IllegalArgumentException", Cond.initialized "java/lang/IllegalArgumentException"]
def wsX6_buys_r2 : List Cond := [Cond.methodLink RX6 200 yX6_priceToday, Cond.instanceMethod yX6_priceToday, Cond.selects RX6 yX6_priceToday yX6_priceToday, Cond.code yX6_priceToday cX6_priceToday 5 (some .int), Cond.fieldLink RX6 258 "PriceEdict$Wares" "bid" "I", Cond.fieldLink RX6 56 "PriceEdict" "today" "I", Cond.methodLink RX6 155 yX6_highest, Cond.instanceMethod yX6_highest, Cond.selects RX6 yX6_highest yX6_highest, Cond.code yX6_highest cX6_highest 9 (some .int), Cond.fieldLink RX6 46 "PriceEdict" "decreeCount" "I", Cond.fieldLink RX6 25 "PriceEdict" "decrees" "[LPriceEdict$Decree;", Cond.fieldLink RX6 246 "PriceEdict$Decree" "carriage" "I", Cond.fieldLink RX6 249 "PriceEdict$Decree" "credit" "I", Cond.methodLink RX6 149 yX6_inForce, Cond.instanceMethod yX6_inForce, Cond.selects RX6 yX6_inForce yX6_inForce, Cond.code yX6_inForce cX6_inForce 3 (some .int), Cond.fieldLink RX6 32 "PriceEdict" "news" "LPriceEdict$News;", Cond.methodLink RX6 232 yX4_tensOfMiles, Cond.instanceMethod yX4_tensOfMiles, Cond.selects RX4 yX4_tensOfMiles yX4_tensOfMiles, Cond.initialized RX4, Cond.code yX4_tensOfMiles cX4_tensOfMiles 1 (some .int)]
def wsX6_buys_r3 : List Cond := [Cond.fieldLink RX4 17 "PriceEdict$Town" "miles" "I", Cond.methodLink RX6 235 yX1_heard, Cond.instanceMethod yX1_heard, Cond.selects RX1 yX1_heard yX1_heard, Cond.initialized RX1, Cond.code yX1_heard cX1_heard 5 (some .int), Cond.fieldLink RX1 18 "PriceEdict$News" "size" "I", Cond.fieldLink RX1 9 "PriceEdict$News" "toldOn" "[I", Cond.fieldLink RX1 15 "PriceEdict$News" "told" "[I", Cond.methodLink RX6 238 yX0_frees, Cond.instanceMethod yX0_frees, Cond.selects RX0 yX0_frees yX0_frees, Cond.initialized RX0, Cond.code yX0_frees cX0_frees 2 (some .boolean), Cond.fieldLink RX0 25 "PriceEdict$Decree" "freeTowns" "I", Cond.methodLink RX6 242 yX6_toldCap, Cond.instanceMethod yX6_toldCap, Cond.selects RX6 yX6_toldCap yX6_toldCap, Cond.code yX6_toldCap cX6_toldCap 5 (some .int), Cond.fieldLink RX6 252 "PriceEdict$Decree" "lines" "[I", Cond.fieldLink RX6 255 "PriceEdict$Decree" "caps" "[I", Cond.fieldLink RX6 19 "PriceEdict" "stones" "LPriceEdict$Stones;", Cond.methodLink RX6 113 yX2_compare, Cond.instanceMethod yX2_compare]
def wsX6_buys_r4 : List Cond := [Cond.selects RX2 yX2_compare yX2_compare, Cond.initialized RX2, Cond.code yX2_compare cX2_compare 4 none, Cond.fieldLink RX2 27 "PriceEdict$Stones" "left" "[I", Cond.fieldLink RX2 30 "PriceEdict$Stones" "size" "I", Cond.fieldLink RX2 9 "PriceEdict$Stones" "lines" "[I", Cond.methodLink RX2 40 yX2_isKnown, Cond.instanceMethod yX2_isKnown, Cond.selects RX2 yX2_isKnown yX2_isKnown, Cond.code yX2_isKnown cX2_isKnown 3 (some .boolean), Cond.fieldLink RX2 18 "PriceEdict$Stones" "found" "[I", Cond.fieldLink RX2 21 "PriceEdict$Stones" "struck" "[I", Cond.methodLink RX2 44 yX2_narrow, Cond.instanceMethod yX2_narrow, Cond.selects RX2 yX2_narrow yX2_narrow, Cond.code yX2_narrow cX2_narrow 4 none, Cond.fieldLink RX2 15 "PriceEdict$Stones" "figures" "[I", Cond.fieldLink RX2 24 "PriceEdict$Stones" "readings" "[I", Cond.methodLink RX6 116 yX2_agreeing, Cond.instanceMethod yX2_agreeing, Cond.selects RX2 yX2_agreeing yX2_agreeing, Cond.code yX2_agreeing cX2_agreeing 3 (some .int), Cond.methodLink RX2 48 yJ6_bitCount_0f7a4, Cond.static yJ6_bitCount_0f7a4]
def wsX6_buys_r5 : List Cond := [Cond.initialized RJ6, Cond.code yJ6_bitCount_0f7a4 cJ6_bitCount_0f7a4 1 (some .int), Cond.constant RJ6 265 (1431655765), Cond.constant RJ6 266 (858993459), Cond.constant RJ6 267 (252645135), Cond.methodLink RX6 123 yX2_greatest, Cond.instanceMethod yX2_greatest, Cond.selects RX2 yX2_greatest yX2_greatest, Cond.code yX2_greatest cX2_greatest 3 (some .int), Cond.methodLink RX2 54 yX2_agreeing, Cond.methodLink RX2 61 yX2_highestFigure, Cond.static yX2_highestFigure, Cond.code yX2_highestFigure cX2_highestFigure 2 (some .int)]
def wsX6_buys : List Cond := .code yX6_buys cX6_buys 6 (some .int) :: ((wsX6_buys_r1 ++ (wsX6_buys_r2 ++ (wsX6_buys_r3 ++ (wsX6_buys_r4 ++ wsX6_buys_r5)))) ++ wsX60 ++ wsX40 ++ wsX50 ++ wsX00 ++ wsX10 ++ wsX20 ++ (vx_atS RX6 96 "java/lang/IndexOutOfBoundsException" ["java/lang/RuntimeException", "java/lang/Exception"]).filter goodWord ++ (vx_atS RX6 105 "java/lang/IllegalArgumentException" ["java/lang/RuntimeException", "java/lang/Exception"]).filter goodWord)
def wsX6_stockOfAll : List Cond := .code yX6_stockOfAll cX6_stockOfAll 4 (some .int) :: ([.fieldLink RX6 50 "PriceEdict" "townCount" "I", .fieldLink RX6 38 "PriceEdict" "towns" "[LPriceEdict$Town;", .fieldLink RX6 166 "PriceEdict$Town" "wares" "[LPriceEdict$Wares;", .fieldLink RX6 179 "PriceEdict$Wares" "stock" "I"] ++ wsX60 ++ wsX40 ++ wsX50)
def wsX6_hiddenOfAll : List Cond := .code yX6_hiddenOfAll cX6_hiddenOfAll 4 (some .int) :: ([.fieldLink RX6 50 "PriceEdict" "townCount" "I", .fieldLink RX6 38 "PriceEdict" "towns" "[LPriceEdict$Town;", .fieldLink RX6 166 "PriceEdict$Town" "wares" "[LPriceEdict$Wares;", .fieldLink RX6 182 "PriceEdict$Wares" "hidden" "I"] ++ wsX60 ++ wsX40 ++ wsX50)
def wsX6_settledLines_r1 : List Cond := [Cond.fieldLink RX6 19 "PriceEdict" "stones" "LPriceEdict$Stones;", Cond.fieldLink RX6 56 "PriceEdict" "today" "I", Cond.methodLink RX6 113 yX2_compare, Cond.instanceMethod yX2_compare, Cond.selects RX2 yX2_compare yX2_compare, Cond.initialized RX2, Cond.code yX2_compare cX2_compare 4 none, Cond.fieldLink RX2 27 "PriceEdict$Stones" "left" "[I", Cond.fieldLink RX2 30 "PriceEdict$Stones" "size" "I", Cond.fieldLink RX2 9 "PriceEdict$Stones" "lines" "[I", Cond.methodLink RX2 40 yX2_isKnown, Cond.instanceMethod yX2_isKnown, Cond.selects RX2 yX2_isKnown yX2_isKnown, Cond.code yX2_isKnown cX2_isKnown 3 (some .boolean), Cond.fieldLink RX2 18 "PriceEdict$Stones" "found" "[I", Cond.fieldLink RX2 21 "PriceEdict$Stones" "struck" "[I", Cond.methodLink RX2 44 yX2_narrow, Cond.instanceMethod yX2_narrow, Cond.selects RX2 yX2_narrow yX2_narrow, Cond.code yX2_narrow cX2_narrow 4 none, Cond.fieldLink RX2 15 "PriceEdict$Stones" "figures" "[I", Cond.fieldLink RX2 24 "PriceEdict$Stones" "readings" "[I", Cond.methodLink RX6 116 yX2_agreeing, Cond.instanceMethod yX2_agreeing]
def wsX6_settledLines_r2 : List Cond := [Cond.selects RX2 yX2_agreeing yX2_agreeing, Cond.code yX2_agreeing cX2_agreeing 3 (some .int), Cond.methodLink RX2 48 yJ6_bitCount_0f7a4, Cond.static yJ6_bitCount_0f7a4, Cond.initialized RJ6, Cond.code yJ6_bitCount_0f7a4 cJ6_bitCount_0f7a4 1 (some .int), Cond.constant RJ6 265 (1431655765), Cond.constant RJ6 266 (858993459), Cond.constant RJ6 267 (252645135)]
def wsX6_settledLines : List Cond := .code yX6_settledLines cX6_settledLines 3 (some .int) :: ((wsX6_settledLines_r1 ++ wsX6_settledLines_r2) ++ wsX60 ++ wsX20)
def wsX6_count_r1 : List Cond := [Cond.fieldLink RX6 56 "PriceEdict" "today" "I", Cond.fieldLink RX6 19 "PriceEdict" "stones" "LPriceEdict$Stones;", Cond.fieldLink RX6 78 "PriceEdict$Stones" "size" "I", Cond.fieldLink RX6 204 "PriceEdict$Stones" "struckOut" "I", Cond.fieldLink RX6 207 "PriceEdict$Stones" "habits" "I", Cond.fieldLink RX6 46 "PriceEdict" "decreeCount" "I", Cond.fieldLink RX6 50 "PriceEdict" "townCount" "I", Cond.methodLink RX6 210 yX6_stockOfAll, Cond.instanceMethod yX6_stockOfAll, Cond.selects RX6 yX6_stockOfAll yX6_stockOfAll, Cond.initialized RX6, Cond.code yX6_stockOfAll cX6_stockOfAll 4 (some .int), Cond.fieldLink RX6 38 "PriceEdict" "towns" "[LPriceEdict$Town;", Cond.fieldLink RX6 166 "PriceEdict$Town" "wares" "[LPriceEdict$Wares;", Cond.fieldLink RX6 179 "PriceEdict$Wares" "stock" "I", Cond.methodLink RX6 213 yX6_hiddenOfAll, Cond.instanceMethod yX6_hiddenOfAll, Cond.selects RX6 yX6_hiddenOfAll yX6_hiddenOfAll, Cond.code yX6_hiddenOfAll cX6_hiddenOfAll 4 (some .int), Cond.fieldLink RX6 182 "PriceEdict$Wares" "hidden" "I", Cond.methodLink RX6 216 yX6_settledLines, Cond.instanceMethod yX6_settledLines, Cond.selects RX6 yX6_settledLines yX6_settledLines, Cond.code yX6_settledLines cX6_settledLines 3 (some .int)]
def wsX6_count_r2 : List Cond := [Cond.methodLink RX6 113 yX2_compare, Cond.instanceMethod yX2_compare, Cond.selects RX2 yX2_compare yX2_compare, Cond.initialized RX2, Cond.code yX2_compare cX2_compare 4 none, Cond.fieldLink RX2 27 "PriceEdict$Stones" "left" "[I", Cond.fieldLink RX2 30 "PriceEdict$Stones" "size" "I", Cond.fieldLink RX2 9 "PriceEdict$Stones" "lines" "[I", Cond.methodLink RX2 40 yX2_isKnown, Cond.instanceMethod yX2_isKnown, Cond.selects RX2 yX2_isKnown yX2_isKnown, Cond.code yX2_isKnown cX2_isKnown 3 (some .boolean), Cond.fieldLink RX2 18 "PriceEdict$Stones" "found" "[I", Cond.fieldLink RX2 21 "PriceEdict$Stones" "struck" "[I", Cond.methodLink RX2 44 yX2_narrow, Cond.instanceMethod yX2_narrow, Cond.selects RX2 yX2_narrow yX2_narrow, Cond.code yX2_narrow cX2_narrow 4 none, Cond.fieldLink RX2 15 "PriceEdict$Stones" "figures" "[I", Cond.fieldLink RX2 24 "PriceEdict$Stones" "readings" "[I", Cond.methodLink RX6 116 yX2_agreeing, Cond.instanceMethod yX2_agreeing, Cond.selects RX2 yX2_agreeing yX2_agreeing, Cond.code yX2_agreeing cX2_agreeing 3 (some .int)]
def wsX6_count_r3 : List Cond := [Cond.methodLink RX2 48 yJ6_bitCount_0f7a4, Cond.static yJ6_bitCount_0f7a4, Cond.initialized RJ6, Cond.code yJ6_bitCount_0f7a4 cJ6_bitCount_0f7a4 1 (some .int), Cond.constant RJ6 265 (1431655765), Cond.constant RJ6 266 (858993459), Cond.constant RJ6 267 (252645135)]
def wsX6_count : List Cond := .code yX6_count cX6_count 2 (some .int) :: ((wsX6_count_r1 ++ (wsX6_count_r2 ++ wsX6_count_r3)) ++ wsX60 ++ wsX20 ++ wsX40 ++ wsX50)
def wsX7_init_r1 : List Cond := [Cond.methodLink RX7 1 objectInit, Cond.instanceMethod objectInit, Cond.code objectInit ⟨#[0xb1]⟩ 1 none, Cond.arrayClass .int, Cond.fieldLink RX7 9 "PriceEdictModel" "line" "[I", Cond.fieldLink RX7 13 "PriceEdictModel" "figure" "[I", Cond.fieldLink RX7 16 "PriceEdictModel" "foundOn" "[I", Cond.fieldLink RX7 19 "PriceEdictModel" "struckOn" "[I", Cond.fieldLink RX7 22 "PriceEdictModel" "reads" "[I", Cond.fieldLink RX7 25 "PriceEdictModel" "cap" "[I", Cond.fieldLink RX7 28 "PriceEdictModel" "byLine" "[I", Cond.fieldLink RX7 31 "PriceEdictModel" "carriage" "[I", Cond.fieldLink RX7 34 "PriceEdictModel" "credit" "[I", Cond.fieldLink RX7 37 "PriceEdictModel" "free" "[I", Cond.fieldLink RX7 40 "PriceEdictModel" "told" "[I", Cond.fieldLink RX7 43 "PriceEdictModel" "toldOn" "[I", Cond.arrayClass .byte, Cond.fieldLink RX7 46 "PriceEdictModel" "tape" "[B", Cond.fieldLink RX7 50 "PriceEdictModel" "faultAt" "I", Cond.fieldLink RX7 54 "PriceEdictModel" "five" "[I", Cond.fieldLink RX7 57 "PriceEdictModel" "miles" "[I", Cond.fieldLink RX7 60 "PriceEdictModel" "cost" "[I", Cond.fieldLink RX7 63 "PriceEdictModel" "bid" "[I", Cond.fieldLink RX7 66 "PriceEdictModel" "supply" "[I"]
def wsX7_init_r2 : List Cond := [Cond.fieldLink RX7 69 "PriceEdictModel" "want" "[I", Cond.fieldLink RX7 72 "PriceEdictModel" "stock" "[I", Cond.fieldLink RX7 75 "PriceEdictModel" "hidden" "[I", Cond.fieldLink RX7 78 "PriceEdictModel" "brought" "[I", Cond.fieldLink RX7 81 "PriceEdictModel" "sold" "[I", Cond.fieldLink RX7 84 "PriceEdictModel" "spoilt" "[I", Cond.fieldLink RX7 87 "PriceEdictModel" "paid" "[I", Cond.fieldLink RX7 90 "PriceEdictModel" "weight" "[I", Cond.fieldLink RX7 93 "PriceEdictModel" "spoil" "[I", Cond.fieldLink RX7 96 "PriceEdictModel" "carry" "I"]
def wsX7_init : List Cond := .code yX7_init cX7_init 1 none :: ((wsX7_init_r1 ++ wsX7_init_r2) ++ wsX70)
def wsX7_thrown : List Cond := .code yX7_thrown cX7_thrown 1 (some .int) :: ([.fieldLink RX7 99 "PriceEdictModel" "thrown" "I"] ++ wsX70)
def wsX7_throwsIf : List Cond := .code yX7_throwsIf cX7_throwsIf 3 (some .boolean) :: ([.fieldLink RX7 99 "PriceEdictModel" "thrown" "I"] ++ wsX70)
def wsX7_in : List Cond := .code yX7_in cX7_in 3 (some .boolean) :: ([])
def wsX7_noLine : List Cond := .code yX7_noLine cX7_noLine 1 (some .boolean) :: ([.methodLink RX7 102 yX7_in, .static yX7_in, .initialized RX7, .code yX7_in cX7_in 3 (some .boolean)])
def wsX7_stone : List Cond := .code yX7_stone cX7_stone 6 (some .int) :: ([.fieldLink RX7 99 "PriceEdictModel" "thrown" "I", .fieldLink RX7 114 "PriceEdictModel" "stones" "I", .fieldLink RX7 9 "PriceEdictModel" "line" "[I", .fieldLink RX7 13 "PriceEdictModel" "figure" "[I", .fieldLink RX7 16 "PriceEdictModel" "foundOn" "[I", .fieldLink RX7 117 "PriceEdictModel" "today" "I", .fieldLink RX7 19 "PriceEdictModel" "struckOn" "[I", .methodLink RX7 106 yX7_noLine, .static yX7_noLine, .initialized RX7, .code yX7_noLine cX7_noLine 1 (some .boolean), .methodLink RX7 102 yX7_in, .static yX7_in, .code yX7_in cX7_in 3 (some .boolean), .methodLink RX7 110 yX7_throwsIf, .instanceMethod yX7_throwsIf, .selects RX7 yX7_throwsIf yX7_throwsIf, .code yX7_throwsIf cX7_throwsIf 3 (some .boolean)] ++ wsX70)
def wsX7_strike : List Cond := .code yX7_strike cX7_strike 2 (some .boolean) :: ([.fieldLink RX7 99 "PriceEdictModel" "thrown" "I", .fieldLink RX7 114 "PriceEdictModel" "stones" "I", .fieldLink RX7 19 "PriceEdictModel" "struckOn" "[I", .fieldLink RX7 117 "PriceEdictModel" "today" "I", .methodLink RX7 102 yX7_in, .static yX7_in, .initialized RX7, .code yX7_in cX7_in 3 (some .boolean), .methodLink RX7 110 yX7_throwsIf, .instanceMethod yX7_throwsIf, .selects RX7 yX7_throwsIf yX7_throwsIf, .code yX7_throwsIf cX7_throwsIf 3 (some .boolean)] ++ wsX70)
def wsX7_habit : List Cond := .code yX7_habit cX7_habit 3 (some .boolean) :: ([.fieldLink RX7 99 "PriceEdictModel" "thrown" "I", .fieldLink RX7 22 "PriceEdictModel" "reads" "[I", .fieldLink RX7 120 "PriceEdictModel" "habits" "I", .methodLink RX7 102 yX7_in, .static yX7_in, .initialized RX7, .code yX7_in cX7_in 3 (some .boolean), .methodLink RX7 110 yX7_throwsIf, .instanceMethod yX7_throwsIf, .selects RX7 yX7_throwsIf yX7_throwsIf, .code yX7_throwsIf cX7_throwsIf 3 (some .boolean)] ++ wsX70)
def wsX7_agreeing : List Cond := .code yX7_agreeing cX7_agreeing 7 (some .int) :: ([.fieldLink RX7 114 "PriceEdictModel" "stones" "I", .fieldLink RX7 16 "PriceEdictModel" "foundOn" "[I", .fieldLink RX7 19 "PriceEdictModel" "struckOn" "[I", .fieldLink RX7 9 "PriceEdictModel" "line" "[I", .fieldLink RX7 13 "PriceEdictModel" "figure" "[I", .fieldLink RX7 22 "PriceEdictModel" "reads" "[I"] ++ wsX70)
def wsX7_many : List Cond := .code yX7_many cX7_many 5 (some .int) :: ([.methodLink RX7 123 yX7_agreeing, .instanceMethod yX7_agreeing, .selects RX7 yX7_agreeing yX7_agreeing, .initialized RX7, .code yX7_agreeing cX7_agreeing 7 (some .int), .fieldLink RX7 114 "PriceEdictModel" "stones" "I", .fieldLink RX7 16 "PriceEdictModel" "foundOn" "[I", .fieldLink RX7 19 "PriceEdictModel" "struckOn" "[I", .fieldLink RX7 9 "PriceEdictModel" "line" "[I", .fieldLink RX7 13 "PriceEdictModel" "figure" "[I", .fieldLink RX7 22 "PriceEdictModel" "reads" "[I", .methodLink RX7 127 yJ6_bitCount_0f7a4, .static yJ6_bitCount_0f7a4, .initialized RJ6, .code yJ6_bitCount_0f7a4 cJ6_bitCount_0f7a4 1 (some .int), .constant RJ6 265 (1431655765), .constant RJ6 266 (858993459), .constant RJ6 267 (252645135)] ++ wsX70)
def wsX7_extreme : List Cond := .code yX7_extreme cX7_extreme 8 (some .int) :: ([.methodLink RX7 123 yX7_agreeing, .instanceMethod yX7_agreeing, .selects RX7 yX7_agreeing yX7_agreeing, .initialized RX7, .code yX7_agreeing cX7_agreeing 7 (some .int), .fieldLink RX7 114 "PriceEdictModel" "stones" "I", .fieldLink RX7 16 "PriceEdictModel" "foundOn" "[I", .fieldLink RX7 19 "PriceEdictModel" "struckOn" "[I", .fieldLink RX7 9 "PriceEdictModel" "line" "[I", .fieldLink RX7 13 "PriceEdictModel" "figure" "[I", .fieldLink RX7 22 "PriceEdictModel" "reads" "[I", .methodLink RX7 102 yX7_in, .static yX7_in, .code yX7_in cX7_in 3 (some .boolean)] ++ wsX70)
def wsX7_agree_r1 : List Cond := [Cond.fieldLink RX7 99 "PriceEdictModel" "thrown" "I", Cond.methodLink RX7 106 yX7_noLine, Cond.static yX7_noLine, Cond.initialized RX7, Cond.code yX7_noLine cX7_noLine 1 (some .boolean), Cond.methodLink RX7 102 yX7_in, Cond.static yX7_in, Cond.code yX7_in cX7_in 3 (some .boolean), Cond.methodLink RX7 110 yX7_throwsIf, Cond.instanceMethod yX7_throwsIf, Cond.selects RX7 yX7_throwsIf yX7_throwsIf, Cond.code yX7_throwsIf cX7_throwsIf 3 (some .boolean), Cond.methodLink RX7 133 yX7_many, Cond.instanceMethod yX7_many, Cond.selects RX7 yX7_many yX7_many, Cond.code yX7_many cX7_many 5 (some .int), Cond.methodLink RX7 123 yX7_agreeing, Cond.instanceMethod yX7_agreeing, Cond.selects RX7 yX7_agreeing yX7_agreeing, Cond.code yX7_agreeing cX7_agreeing 7 (some .int), Cond.fieldLink RX7 114 "PriceEdictModel" "stones" "I", Cond.fieldLink RX7 16 "PriceEdictModel" "foundOn" "[I", Cond.fieldLink RX7 19 "PriceEdictModel" "struckOn" "[I", Cond.fieldLink RX7 9 "PriceEdictModel" "line" "[I"]
def wsX7_agree_r2 : List Cond := [Cond.fieldLink RX7 13 "PriceEdictModel" "figure" "[I", Cond.fieldLink RX7 22 "PriceEdictModel" "reads" "[I", Cond.methodLink RX7 127 yJ6_bitCount_0f7a4, Cond.static yJ6_bitCount_0f7a4, Cond.initialized RJ6, Cond.code yJ6_bitCount_0f7a4 cJ6_bitCount_0f7a4 1 (some .int), Cond.constant RJ6 265 (1431655765), Cond.constant RJ6 266 (858993459), Cond.constant RJ6 267 (252645135), Cond.methodLink RX7 137 yX7_extreme, Cond.instanceMethod yX7_extreme, Cond.selects RX7 yX7_extreme yX7_extreme, Cond.code yX7_extreme cX7_extreme 8 (some .int)]
def wsX7_agree : List Cond := .code yX7_agree cX7_agree 4 (some .int) :: ((wsX7_agree_r1 ++ wsX7_agree_r2) ++ wsX70)
def wsX7_feed : List Cond := .code yX7_feed cX7_feed 7 (some .int) :: ([.fieldLink RX7 99 "PriceEdictModel" "thrown" "I", .fieldLink RX7 141 "PriceEdictModel" "taped" "I", .fieldLink RX7 54 "PriceEdictModel" "five" "[I", .fieldLink RX7 46 "PriceEdictModel" "tape" "[B"] ++ wsX70)
def wsX7_end : List Cond := .code yX7_end cX7_end 2 (some .boolean) :: ([.fieldLink RX7 99 "PriceEdictModel" "thrown" "I", .fieldLink RX7 141 "PriceEdictModel" "taped" "I"] ++ wsX70)
def wsX7_isAt : List Cond := .code yX7_isAt cX7_isAt 3 (some .boolean) :: ([.fieldLink RX7 144 "PriceEdictModel" "point" "I", .fieldLink RX7 147 "PriceEdictModel" "end" "I", .fieldLink RX7 46 "PriceEdictModel" "tape" "[B"] ++ wsX70)
def wsX7_blanks : List Cond := .code yX7_blanks cX7_blanks 1 none :: ([.fieldLink RX7 144 "PriceEdictModel" "point" "I", .fieldLink RX7 154 "PriceEdictModel" "begin" "I", .methodLink RX7 150 yX7_isAt, .instanceMethod yX7_isAt, .selects RX7 yX7_isAt yX7_isAt, .initialized RX7, .code yX7_isAt cX7_isAt 3 (some .boolean), .fieldLink RX7 147 "PriceEdictModel" "end" "I", .fieldLink RX7 46 "PriceEdictModel" "tape" "[B"] ++ wsX70)
def wsX7_isWord_r1 : List Cond := [Cond.fieldLink RX7 144 "PriceEdictModel" "point" "I", Cond.fieldLink RX7 154 "PriceEdictModel" "begin" "I", Cond.fieldLink RX7 46 "PriceEdictModel" "tape" "[B", Cond.methodLink RX7 157 yJ0_length_8abf5, Cond.instanceMethod yJ0_length_8abf5, Cond.selects RJ0 yJ0_length_8abf5 yJ0_length_8abf5, Cond.initialized RJ0, Cond.code yJ0_length_8abf5 cJ0_length_8abf5 1 (some .int), Cond.fieldLink RJ0 9 "java/lang/String" "value" "[B", Cond.methodLink RJ0 335 yJ0_coder_7d493, Cond.instanceMethod yJ0_coder_7d493, Cond.selects RJ0 yJ0_coder_7d493 yJ0_coder_7d493, Cond.code yJ0_coder_7d493 cJ0_coder_7d493 1 (some .byte), Cond.fieldLink RJ0 38 "java/lang/String" "COMPACT_STRINGS" "Z", Cond.fieldLink RJ0 15 "java/lang/String" "coder" "B", Cond.methodLink RX7 163 yJ0_charAt_5068e, Cond.instanceMethod yJ0_charAt_5068e, Cond.selects RJ0 yJ0_charAt_5068e yJ0_charAt_5068e, Cond.code yJ0_charAt_5068e cJ0_charAt_5068e 2 (some .char), Cond.methodLink RJ0 492 yJ0_isLatin1_aae02, Cond.instanceMethod yJ0_isLatin1_aae02, Cond.selects RJ0 yJ0_isLatin1_aae02 yJ0_isLatin1_aae02, Cond.code yJ0_isLatin1_aae02 cJ0_isLatin1_aae02 1 (some .boolean), Cond.methodLink RJ0 495 yJ1_charAt_3b067]
def wsX7_isWord_r2 : List Cond := [Cond.static yJ1_charAt_3b067, Cond.initialized RJ1, Cond.code yJ1_charAt_3b067 cJ1_charAt_3b067 2 (some .char), Cond.methodLink RJ1 9 yJ0_checkIndex_df160, Cond.static yJ0_checkIndex_df160, Cond.code yJ0_checkIndex_df160 cJ0_checkIndex_df160 2 none, Cond.fieldLink RJ0 1053 "jdk/internal/util/Preconditions" "SIOOBE_FORMATTER" "Ljava/util/function/BiFunction;", Cond.methodLink RJ0 1059 yJ3_checkIndex_8e157, Cond.static yJ3_checkIndex_8e157, Cond.initialized RJ3, Cond.code yJ3_checkIndex_8e157 cJ3_checkIndex_8e157 3 (some .int), Cond.methodLink RJ0 498 yJ2_charAt_3b067, Cond.static yJ2_charAt_3b067, Cond.initialized RJ2, Cond.code yJ2_charAt_3b067 cJ2_charAt_3b067 2 (some .char), Cond.methodLink RJ2 67 yJ2_checkIndex_2214a, Cond.static yJ2_checkIndex_2214a, Cond.code yJ2_checkIndex_2214a cJ2_checkIndex_2214a 2 none, Cond.methodLink RJ2 48 yJ2_length_9d52b, Cond.static yJ2_length_9d52b, Cond.code yJ2_length_9d52b cJ2_length_9d52b 1 (some .int), Cond.methodLink RJ2 414 yJ0_checkIndex_df160, Cond.methodLink RJ2 71 yJ2_getChar_3b067, Cond.static yJ2_getChar_3b067]
def wsX7_isWord_r3 : List Cond := [Cond.code yJ2_getChar_3b067 cJ2_getChar_3b067 2 (some .char), Cond.fieldLink RJ2 44 "java/lang/StringUTF16" "$assertionsDisabled" "Z", Cond.fieldLink RJ2 59 "java/lang/StringUTF16" "HI_BYTE_SHIFT" "I", Cond.fieldLink RJ2 63 "java/lang/StringUTF16" "LO_BYTE_SHIFT" "I"]
def wsX7_isWord : List Cond := .code yX7_isWord cX7_isWord 4 (some .boolean) :: ((wsX7_isWord_r1 ++ (wsX7_isWord_r2 ++ wsX7_isWord_r3)) ++ wsX70)
def wsX7_number : List Cond := .code yX7_number cX7_number 4 (some .int) :: ([.fieldLink RX7 144 "PriceEdictModel" "point" "I", .fieldLink RX7 154 "PriceEdictModel" "begin" "I", .fieldLink RX7 46 "PriceEdictModel" "tape" "[B", .methodLink RX7 167 yX7_blanks, .instanceMethod yX7_blanks, .selects RX7 yX7_blanks yX7_blanks, .initialized RX7, .code yX7_blanks cX7_blanks 1 none, .methodLink RX7 150 yX7_isAt, .instanceMethod yX7_isAt, .selects RX7 yX7_isAt yX7_isAt, .code yX7_isAt cX7_isAt 3 (some .boolean), .fieldLink RX7 147 "PriceEdictModel" "end" "I"] ++ wsX70)
def wsX7_readClause_r1 : List Cond := [Cond.fieldLink RX7 144 "PriceEdictModel" "point" "I", Cond.fieldLink RX7 25 "PriceEdictModel" "cap" "[I", Cond.fieldLink RX7 28 "PriceEdictModel" "byLine" "[I", Cond.fieldLink RX7 31 "PriceEdictModel" "carriage" "[I", Cond.fieldLink RX7 34 "PriceEdictModel" "credit" "[I", Cond.fieldLink RX7 37 "PriceEdictModel" "free" "[I", Cond.methodLink RX7 167 yX7_blanks, Cond.instanceMethod yX7_blanks, Cond.selects RX7 yX7_blanks yX7_blanks, Cond.initialized RX7, Cond.code yX7_blanks cX7_blanks 1 none, Cond.fieldLink RX7 154 "PriceEdictModel" "begin" "I", Cond.methodLink RX7 150 yX7_isAt, Cond.instanceMethod yX7_isAt, Cond.selects RX7 yX7_isAt yX7_isAt, Cond.code yX7_isAt cX7_isAt 3 (some .boolean), Cond.fieldLink RX7 147 "PriceEdictModel" "end" "I", Cond.fieldLink RX7 46 "PriceEdictModel" "tape" "[B", Cond.methodLink RX7 171 yX7_isWord, Cond.instanceMethod yX7_isWord, Cond.selects RX7 yX7_isWord yX7_isWord, Cond.code yX7_isWord cX7_isWord 4 (some .boolean), Cond.methodLink RX7 157 yJ0_length_8abf5, Cond.instanceMethod yJ0_length_8abf5]
def wsX7_readClause_r2 : List Cond := [Cond.selects RJ0 yJ0_length_8abf5 yJ0_length_8abf5, Cond.initialized RJ0, Cond.code yJ0_length_8abf5 cJ0_length_8abf5 1 (some .int), Cond.fieldLink RJ0 9 "java/lang/String" "value" "[B", Cond.methodLink RJ0 335 yJ0_coder_7d493, Cond.instanceMethod yJ0_coder_7d493, Cond.selects RJ0 yJ0_coder_7d493 yJ0_coder_7d493, Cond.code yJ0_coder_7d493 cJ0_coder_7d493 1 (some .byte), Cond.fieldLink RJ0 38 "java/lang/String" "COMPACT_STRINGS" "Z", Cond.fieldLink RJ0 15 "java/lang/String" "coder" "B", Cond.methodLink RX7 163 yJ0_charAt_5068e, Cond.instanceMethod yJ0_charAt_5068e, Cond.selects RJ0 yJ0_charAt_5068e yJ0_charAt_5068e, Cond.code yJ0_charAt_5068e cJ0_charAt_5068e 2 (some .char), Cond.methodLink RJ0 492 yJ0_isLatin1_aae02, Cond.instanceMethod yJ0_isLatin1_aae02, Cond.selects RJ0 yJ0_isLatin1_aae02 yJ0_isLatin1_aae02, Cond.code yJ0_isLatin1_aae02 cJ0_isLatin1_aae02 1 (some .boolean), Cond.methodLink RJ0 495 yJ1_charAt_3b067, Cond.static yJ1_charAt_3b067, Cond.initialized RJ1, Cond.code yJ1_charAt_3b067 cJ1_charAt_3b067 2 (some .char), Cond.methodLink RJ1 9 yJ0_checkIndex_df160, Cond.static yJ0_checkIndex_df160]
def wsX7_readClause_r3 : List Cond := [Cond.code yJ0_checkIndex_df160 cJ0_checkIndex_df160 2 none, Cond.fieldLink RJ0 1053 "jdk/internal/util/Preconditions" "SIOOBE_FORMATTER" "Ljava/util/function/BiFunction;", Cond.methodLink RJ0 1059 yJ3_checkIndex_8e157, Cond.static yJ3_checkIndex_8e157, Cond.initialized RJ3, Cond.code yJ3_checkIndex_8e157 cJ3_checkIndex_8e157 3 (some .int), Cond.methodLink RJ0 498 yJ2_charAt_3b067, Cond.static yJ2_charAt_3b067, Cond.initialized RJ2, Cond.code yJ2_charAt_3b067 cJ2_charAt_3b067 2 (some .char), Cond.methodLink RJ2 67 yJ2_checkIndex_2214a, Cond.static yJ2_checkIndex_2214a, Cond.code yJ2_checkIndex_2214a cJ2_checkIndex_2214a 2 none, Cond.methodLink RJ2 48 yJ2_length_9d52b, Cond.static yJ2_length_9d52b, Cond.code yJ2_length_9d52b cJ2_length_9d52b 1 (some .int), Cond.methodLink RJ2 414 yJ0_checkIndex_df160, Cond.methodLink RJ2 71 yJ2_getChar_3b067, Cond.static yJ2_getChar_3b067, Cond.code yJ2_getChar_3b067 cJ2_getChar_3b067 2 (some .char), Cond.fieldLink RJ2 44 "java/lang/StringUTF16" "$assertionsDisabled" "Z", Cond.fieldLink RJ2 59 "java/lang/StringUTF16" "HI_BYTE_SHIFT" "I", Cond.fieldLink RJ2 63 "java/lang/StringUTF16" "LO_BYTE_SHIFT" "I", Cond.methodLink RX7 176 yX7_number]
def wsX7_readClause_r4 : List Cond := [Cond.instanceMethod yX7_number, Cond.selects RX7 yX7_number yX7_number, Cond.code yX7_number cX7_number 4 (some .int)]
def wsX7_readClause : List Cond := .code yX7_readClause cX7_readClause 4 (some .boolean) :: ((wsX7_readClause_r1 ++ (wsX7_readClause_r2 ++ (wsX7_readClause_r3 ++ wsX7_readClause_r4))) ++ wsX70)
def wsX7_readAll_r1 : List Cond := [Cond.fieldLink RX7 141 "PriceEdictModel" "taped" "I", Cond.fieldLink RX7 147 "PriceEdictModel" "end" "I", Cond.fieldLink RX7 144 "PriceEdictModel" "point" "I", Cond.fieldLink RX7 31 "PriceEdictModel" "carriage" "[I", Cond.fieldLink RX7 34 "PriceEdictModel" "credit" "[I", Cond.fieldLink RX7 37 "PriceEdictModel" "free" "[I", Cond.fieldLink RX7 25 "PriceEdictModel" "cap" "[I", Cond.fieldLink RX7 28 "PriceEdictModel" "byLine" "[I", Cond.methodLink RX7 182 yX7_readClause, Cond.instanceMethod yX7_readClause, Cond.selects RX7 yX7_readClause yX7_readClause, Cond.initialized RX7, Cond.code yX7_readClause cX7_readClause 4 (some .boolean), Cond.methodLink RX7 167 yX7_blanks, Cond.instanceMethod yX7_blanks, Cond.selects RX7 yX7_blanks yX7_blanks, Cond.code yX7_blanks cX7_blanks 1 none, Cond.fieldLink RX7 154 "PriceEdictModel" "begin" "I", Cond.methodLink RX7 150 yX7_isAt, Cond.instanceMethod yX7_isAt, Cond.selects RX7 yX7_isAt yX7_isAt, Cond.code yX7_isAt cX7_isAt 3 (some .boolean), Cond.fieldLink RX7 46 "PriceEdictModel" "tape" "[B", Cond.methodLink RX7 171 yX7_isWord]
def wsX7_readAll_r2 : List Cond := [Cond.instanceMethod yX7_isWord, Cond.selects RX7 yX7_isWord yX7_isWord, Cond.code yX7_isWord cX7_isWord 4 (some .boolean), Cond.methodLink RX7 157 yJ0_length_8abf5, Cond.instanceMethod yJ0_length_8abf5, Cond.selects RJ0 yJ0_length_8abf5 yJ0_length_8abf5, Cond.initialized RJ0, Cond.code yJ0_length_8abf5 cJ0_length_8abf5 1 (some .int), Cond.fieldLink RJ0 9 "java/lang/String" "value" "[B", Cond.methodLink RJ0 335 yJ0_coder_7d493, Cond.instanceMethod yJ0_coder_7d493, Cond.selects RJ0 yJ0_coder_7d493 yJ0_coder_7d493, Cond.code yJ0_coder_7d493 cJ0_coder_7d493 1 (some .byte), Cond.fieldLink RJ0 38 "java/lang/String" "COMPACT_STRINGS" "Z", Cond.fieldLink RJ0 15 "java/lang/String" "coder" "B", Cond.methodLink RX7 163 yJ0_charAt_5068e, Cond.instanceMethod yJ0_charAt_5068e, Cond.selects RJ0 yJ0_charAt_5068e yJ0_charAt_5068e, Cond.code yJ0_charAt_5068e cJ0_charAt_5068e 2 (some .char), Cond.methodLink RJ0 492 yJ0_isLatin1_aae02, Cond.instanceMethod yJ0_isLatin1_aae02, Cond.selects RJ0 yJ0_isLatin1_aae02 yJ0_isLatin1_aae02, Cond.code yJ0_isLatin1_aae02 cJ0_isLatin1_aae02 1 (some .boolean), Cond.methodLink RJ0 495 yJ1_charAt_3b067]
def wsX7_readAll_r3 : List Cond := [Cond.static yJ1_charAt_3b067, Cond.initialized RJ1, Cond.code yJ1_charAt_3b067 cJ1_charAt_3b067 2 (some .char), Cond.methodLink RJ1 9 yJ0_checkIndex_df160, Cond.static yJ0_checkIndex_df160, Cond.code yJ0_checkIndex_df160 cJ0_checkIndex_df160 2 none, Cond.fieldLink RJ0 1053 "jdk/internal/util/Preconditions" "SIOOBE_FORMATTER" "Ljava/util/function/BiFunction;", Cond.methodLink RJ0 1059 yJ3_checkIndex_8e157, Cond.static yJ3_checkIndex_8e157, Cond.initialized RJ3, Cond.code yJ3_checkIndex_8e157 cJ3_checkIndex_8e157 3 (some .int), Cond.methodLink RJ0 498 yJ2_charAt_3b067, Cond.static yJ2_charAt_3b067, Cond.initialized RJ2, Cond.code yJ2_charAt_3b067 cJ2_charAt_3b067 2 (some .char), Cond.methodLink RJ2 67 yJ2_checkIndex_2214a, Cond.static yJ2_checkIndex_2214a, Cond.code yJ2_checkIndex_2214a cJ2_checkIndex_2214a 2 none, Cond.methodLink RJ2 48 yJ2_length_9d52b, Cond.static yJ2_length_9d52b, Cond.code yJ2_length_9d52b cJ2_length_9d52b 1 (some .int), Cond.methodLink RJ2 414 yJ0_checkIndex_df160, Cond.methodLink RJ2 71 yJ2_getChar_3b067, Cond.static yJ2_getChar_3b067]
def wsX7_readAll_r4 : List Cond := [Cond.code yJ2_getChar_3b067 cJ2_getChar_3b067 2 (some .char), Cond.fieldLink RJ2 44 "java/lang/StringUTF16" "$assertionsDisabled" "Z", Cond.fieldLink RJ2 59 "java/lang/StringUTF16" "HI_BYTE_SHIFT" "I", Cond.fieldLink RJ2 63 "java/lang/StringUTF16" "LO_BYTE_SHIFT" "I", Cond.methodLink RX7 176 yX7_number, Cond.instanceMethod yX7_number, Cond.selects RX7 yX7_number yX7_number, Cond.code yX7_number cX7_number 4 (some .int)]
def wsX7_readAll : List Cond := .code yX7_readAll cX7_readAll 2 (some .boolean) :: ((wsX7_readAll_r1 ++ (wsX7_readAll_r2 ++ (wsX7_readAll_r3 ++ wsX7_readAll_r4))) ++ wsX70)
def wsX7_tells : List Cond := .code yX7_tells cX7_tells 2 none :: ([.fieldLink RX7 40 "PriceEdictModel" "told" "[I", .fieldLink RX7 186 "PriceEdictModel" "tellings" "I", .fieldLink RX7 43 "PriceEdictModel" "toldOn" "[I", .fieldLink RX7 117 "PriceEdictModel" "today" "I"] ++ wsX70)
def wsX7_edict_r1 : List Cond := [Cond.fieldLink RX7 99 "PriceEdictModel" "thrown" "I", Cond.fieldLink RX7 154 "PriceEdictModel" "begin" "I", Cond.fieldLink RX7 50 "PriceEdictModel" "faultAt" "I", Cond.fieldLink RX7 192 "PriceEdictModel" "edicts" "I", Cond.fieldLink RX7 31 "PriceEdictModel" "carriage" "[I", Cond.fieldLink RX7 34 "PriceEdictModel" "credit" "[I", Cond.fieldLink RX7 37 "PriceEdictModel" "free" "[I", Cond.fieldLink RX7 25 "PriceEdictModel" "cap" "[I", Cond.fieldLink RX7 28 "PriceEdictModel" "byLine" "[I", Cond.methodLink RX7 189 yX7_readAll, Cond.instanceMethod yX7_readAll, Cond.selects RX7 yX7_readAll yX7_readAll, Cond.initialized RX7, Cond.code yX7_readAll cX7_readAll 2 (some .boolean), Cond.fieldLink RX7 141 "PriceEdictModel" "taped" "I", Cond.fieldLink RX7 147 "PriceEdictModel" "end" "I", Cond.fieldLink RX7 144 "PriceEdictModel" "point" "I", Cond.methodLink RX7 182 yX7_readClause, Cond.instanceMethod yX7_readClause, Cond.selects RX7 yX7_readClause yX7_readClause, Cond.code yX7_readClause cX7_readClause 4 (some .boolean), Cond.methodLink RX7 167 yX7_blanks, Cond.instanceMethod yX7_blanks, Cond.selects RX7 yX7_blanks yX7_blanks]
def wsX7_edict_r2 : List Cond := [Cond.code yX7_blanks cX7_blanks 1 none, Cond.methodLink RX7 150 yX7_isAt, Cond.instanceMethod yX7_isAt, Cond.selects RX7 yX7_isAt yX7_isAt, Cond.code yX7_isAt cX7_isAt 3 (some .boolean), Cond.fieldLink RX7 46 "PriceEdictModel" "tape" "[B", Cond.methodLink RX7 171 yX7_isWord, Cond.instanceMethod yX7_isWord, Cond.selects RX7 yX7_isWord yX7_isWord, Cond.code yX7_isWord cX7_isWord 4 (some .boolean), Cond.methodLink RX7 157 yJ0_length_8abf5, Cond.instanceMethod yJ0_length_8abf5, Cond.selects RJ0 yJ0_length_8abf5 yJ0_length_8abf5, Cond.initialized RJ0, Cond.code yJ0_length_8abf5 cJ0_length_8abf5 1 (some .int), Cond.fieldLink RJ0 9 "java/lang/String" "value" "[B", Cond.methodLink RJ0 335 yJ0_coder_7d493, Cond.instanceMethod yJ0_coder_7d493, Cond.selects RJ0 yJ0_coder_7d493 yJ0_coder_7d493, Cond.code yJ0_coder_7d493 cJ0_coder_7d493 1 (some .byte), Cond.fieldLink RJ0 38 "java/lang/String" "COMPACT_STRINGS" "Z", Cond.fieldLink RJ0 15 "java/lang/String" "coder" "B", Cond.methodLink RX7 163 yJ0_charAt_5068e, Cond.instanceMethod yJ0_charAt_5068e]
def wsX7_edict_r3 : List Cond := [Cond.selects RJ0 yJ0_charAt_5068e yJ0_charAt_5068e, Cond.code yJ0_charAt_5068e cJ0_charAt_5068e 2 (some .char), Cond.methodLink RJ0 492 yJ0_isLatin1_aae02, Cond.instanceMethod yJ0_isLatin1_aae02, Cond.selects RJ0 yJ0_isLatin1_aae02 yJ0_isLatin1_aae02, Cond.code yJ0_isLatin1_aae02 cJ0_isLatin1_aae02 1 (some .boolean), Cond.methodLink RJ0 495 yJ1_charAt_3b067, Cond.static yJ1_charAt_3b067, Cond.initialized RJ1, Cond.code yJ1_charAt_3b067 cJ1_charAt_3b067 2 (some .char), Cond.methodLink RJ1 9 yJ0_checkIndex_df160, Cond.static yJ0_checkIndex_df160, Cond.code yJ0_checkIndex_df160 cJ0_checkIndex_df160 2 none, Cond.fieldLink RJ0 1053 "jdk/internal/util/Preconditions" "SIOOBE_FORMATTER" "Ljava/util/function/BiFunction;", Cond.methodLink RJ0 1059 yJ3_checkIndex_8e157, Cond.static yJ3_checkIndex_8e157, Cond.initialized RJ3, Cond.code yJ3_checkIndex_8e157 cJ3_checkIndex_8e157 3 (some .int), Cond.methodLink RJ0 498 yJ2_charAt_3b067, Cond.static yJ2_charAt_3b067, Cond.initialized RJ2, Cond.code yJ2_charAt_3b067 cJ2_charAt_3b067 2 (some .char), Cond.methodLink RJ2 67 yJ2_checkIndex_2214a, Cond.static yJ2_checkIndex_2214a]
def wsX7_edict_r4 : List Cond := [Cond.code yJ2_checkIndex_2214a cJ2_checkIndex_2214a 2 none, Cond.methodLink RJ2 48 yJ2_length_9d52b, Cond.static yJ2_length_9d52b, Cond.code yJ2_length_9d52b cJ2_length_9d52b 1 (some .int), Cond.methodLink RJ2 414 yJ0_checkIndex_df160, Cond.methodLink RJ2 71 yJ2_getChar_3b067, Cond.static yJ2_getChar_3b067, Cond.code yJ2_getChar_3b067 cJ2_getChar_3b067 2 (some .char), Cond.fieldLink RJ2 44 "java/lang/StringUTF16" "$assertionsDisabled" "Z", Cond.fieldLink RJ2 59 "java/lang/StringUTF16" "HI_BYTE_SHIFT" "I", Cond.fieldLink RJ2 63 "java/lang/StringUTF16" "LO_BYTE_SHIFT" "I", Cond.methodLink RX7 176 yX7_number, Cond.instanceMethod yX7_number, Cond.selects RX7 yX7_number yX7_number, Cond.code yX7_number cX7_number 4 (some .int), Cond.methodLink RX7 110 yX7_throwsIf, Cond.instanceMethod yX7_throwsIf, Cond.selects RX7 yX7_throwsIf yX7_throwsIf, Cond.code yX7_throwsIf cX7_throwsIf 3 (some .boolean), Cond.methodLink RX7 195 yX7_tells, Cond.instanceMethod yX7_tells, Cond.selects RX7 yX7_tells yX7_tells, Cond.code yX7_tells cX7_tells 2 none, Cond.fieldLink RX7 40 "PriceEdictModel" "told" "[I"]
def wsX7_edict_r5 : List Cond := [Cond.fieldLink RX7 186 "PriceEdictModel" "tellings" "I", Cond.fieldLink RX7 43 "PriceEdictModel" "toldOn" "[I", Cond.fieldLink RX7 117 "PriceEdictModel" "today" "I"]
def wsX7_edict : List Cond := .code yX7_edict cX7_edict 3 (some .int) :: ((wsX7_edict_r1 ++ (wsX7_edict_r2 ++ (wsX7_edict_r3 ++ (wsX7_edict_r4 ++ wsX7_edict_r5)))) ++ wsX70)
def wsX7_fault : List Cond := .code yX7_fault cX7_fault 1 (some .int) :: ([.fieldLink RX7 99 "PriceEdictModel" "thrown" "I", .fieldLink RX7 50 "PriceEdictModel" "faultAt" "I"] ++ wsX70)
def wsX7_undo : List Cond := .code yX7_undo cX7_undo 1 (some .boolean) :: ([.fieldLink RX7 99 "PriceEdictModel" "thrown" "I", .fieldLink RX7 186 "PriceEdictModel" "tellings" "I", .fieldLink RX7 40 "PriceEdictModel" "told" "[I", .methodLink RX7 195 yX7_tells, .instanceMethod yX7_tells, .selects RX7 yX7_tells yX7_tells, .initialized RX7, .code yX7_tells cX7_tells 2 none, .fieldLink RX7 43 "PriceEdictModel" "toldOn" "[I", .fieldLink RX7 117 "PriceEdictModel" "today" "I"] ++ wsX70)
def wsX7_noTown : List Cond := .code yX7_noTown cX7_noTown 2 (some .boolean) :: ([.fieldLink RX7 199 "PriceEdictModel" "towns" "I", .methodLink RX7 102 yX7_in, .static yX7_in, .initialized RX7, .code yX7_in cX7_in 3 (some .boolean)] ++ wsX70)
def wsX7_noThing : List Cond := .code yX7_noThing cX7_noThing 1 (some .boolean) :: ([.methodLink RX7 102 yX7_in, .static yX7_in, .initialized RX7, .code yX7_in cX7_in 3 (some .boolean)])
def wsX7_town : List Cond := .code yX7_town cX7_town 2 (some .int) :: ([.fieldLink RX7 99 "PriceEdictModel" "thrown" "I", .fieldLink RX7 199 "PriceEdictModel" "towns" "I", .fieldLink RX7 57 "PriceEdictModel" "miles" "[I", .methodLink RX7 102 yX7_in, .static yX7_in, .initialized RX7, .code yX7_in cX7_in 3 (some .boolean), .methodLink RX7 110 yX7_throwsIf, .instanceMethod yX7_throwsIf, .selects RX7 yX7_throwsIf yX7_throwsIf, .code yX7_throwsIf cX7_throwsIf 3 (some .boolean)] ++ wsX70)
def wsX7_goods : List Cond := .code yX7_goods cX7_goods 8 none :: ([.fieldLink RX7 99 "PriceEdictModel" "thrown" "I", .fieldLink RX7 60 "PriceEdictModel" "cost" "[I", .fieldLink RX7 63 "PriceEdictModel" "bid" "[I", .fieldLink RX7 66 "PriceEdictModel" "supply" "[I", .fieldLink RX7 69 "PriceEdictModel" "want" "[I", .methodLink RX7 202 yX7_noTown, .instanceMethod yX7_noTown, .selects RX7 yX7_noTown yX7_noTown, .initialized RX7, .code yX7_noTown cX7_noTown 2 (some .boolean), .fieldLink RX7 199 "PriceEdictModel" "towns" "I", .methodLink RX7 102 yX7_in, .static yX7_in, .code yX7_in cX7_in 3 (some .boolean), .methodLink RX7 205 yX7_noThing, .static yX7_noThing, .code yX7_noThing cX7_noThing 1 (some .boolean), .methodLink RX7 110 yX7_throwsIf, .instanceMethod yX7_throwsIf, .selects RX7 yX7_throwsIf yX7_throwsIf, .code yX7_throwsIf cX7_throwsIf 3 (some .boolean)] ++ wsX70)
def wsX7_spoil : List Cond := .code yX7_spoil cX7_spoil 3 none :: ([.fieldLink RX7 99 "PriceEdictModel" "thrown" "I", .fieldLink RX7 93 "PriceEdictModel" "spoil" "[I", .methodLink RX7 205 yX7_noThing, .static yX7_noThing, .initialized RX7, .code yX7_noThing cX7_noThing 1 (some .boolean), .methodLink RX7 102 yX7_in, .static yX7_in, .code yX7_in cX7_in 3 (some .boolean), .methodLink RX7 110 yX7_throwsIf, .instanceMethod yX7_throwsIf, .selects RX7 yX7_throwsIf yX7_throwsIf, .code yX7_throwsIf cX7_throwsIf 3 (some .boolean)] ++ wsX70)
def wsX7_carry : List Cond := .code yX7_carry cX7_carry 2 none :: ([.fieldLink RX7 99 "PriceEdictModel" "thrown" "I", .fieldLink RX7 96 "PriceEdictModel" "carry" "I", .methodLink RX7 102 yX7_in, .static yX7_in, .initialized RX7, .code yX7_in cX7_in 3 (some .boolean), .methodLink RX7 110 yX7_throwsIf, .instanceMethod yX7_throwsIf, .selects RX7 yX7_throwsIf yX7_throwsIf, .code yX7_throwsIf cX7_throwsIf 3 (some .boolean)] ++ wsX70)
def wsX7_forceOf : List Cond := .code yX7_forceOf cX7_forceOf 4 (some .int) :: ([.fieldLink RX7 186 "PriceEdictModel" "tellings" "I", .fieldLink RX7 43 "PriceEdictModel" "toldOn" "[I", .fieldLink RX7 57 "PriceEdictModel" "miles" "[I", .fieldLink RX7 40 "PriceEdictModel" "told" "[I"] ++ wsX70)
def wsX7_force : List Cond := .code yX7_force cX7_force 3 (some .int) :: ([.fieldLink RX7 99 "PriceEdictModel" "thrown" "I", .methodLink RX7 202 yX7_noTown, .instanceMethod yX7_noTown, .selects RX7 yX7_noTown yX7_noTown, .initialized RX7, .code yX7_noTown cX7_noTown 2 (some .boolean), .fieldLink RX7 199 "PriceEdictModel" "towns" "I", .methodLink RX7 102 yX7_in, .static yX7_in, .code yX7_in cX7_in 3 (some .boolean), .methodLink RX7 110 yX7_throwsIf, .instanceMethod yX7_throwsIf, .selects RX7 yX7_throwsIf yX7_throwsIf, .code yX7_throwsIf cX7_throwsIf 3 (some .boolean), .methodLink RX7 208 yX7_forceOf, .instanceMethod yX7_forceOf, .selects RX7 yX7_forceOf yX7_forceOf, .code yX7_forceOf cX7_forceOf 4 (some .int), .fieldLink RX7 186 "PriceEdictModel" "tellings" "I", .fieldLink RX7 43 "PriceEdictModel" "toldOn" "[I", .fieldLink RX7 57 "PriceEdictModel" "miles" "[I", .fieldLink RX7 40 "PriceEdictModel" "told" "[I"] ++ wsX70)
def wsX7_capOf_r1 : List Cond := [Cond.fieldLink RX7 37 "PriceEdictModel" "free" "[I", Cond.fieldLink RX7 25 "PriceEdictModel" "cap" "[I", Cond.fieldLink RX7 28 "PriceEdictModel" "byLine" "[I", Cond.fieldLink RX7 31 "PriceEdictModel" "carriage" "[I", Cond.fieldLink RX7 57 "PriceEdictModel" "miles" "[I", Cond.fieldLink RX7 34 "PriceEdictModel" "credit" "[I", Cond.methodLink RX7 208 yX7_forceOf, Cond.instanceMethod yX7_forceOf, Cond.selects RX7 yX7_forceOf yX7_forceOf, Cond.initialized RX7, Cond.code yX7_forceOf cX7_forceOf 4 (some .int), Cond.fieldLink RX7 186 "PriceEdictModel" "tellings" "I", Cond.fieldLink RX7 43 "PriceEdictModel" "toldOn" "[I", Cond.fieldLink RX7 40 "PriceEdictModel" "told" "[I", Cond.methodLink RX7 137 yX7_extreme, Cond.instanceMethod yX7_extreme, Cond.selects RX7 yX7_extreme yX7_extreme, Cond.code yX7_extreme cX7_extreme 8 (some .int), Cond.methodLink RX7 123 yX7_agreeing, Cond.instanceMethod yX7_agreeing, Cond.selects RX7 yX7_agreeing yX7_agreeing, Cond.code yX7_agreeing cX7_agreeing 7 (some .int), Cond.fieldLink RX7 114 "PriceEdictModel" "stones" "I", Cond.fieldLink RX7 16 "PriceEdictModel" "foundOn" "[I"]
def wsX7_capOf_r2 : List Cond := [Cond.fieldLink RX7 19 "PriceEdictModel" "struckOn" "[I", Cond.fieldLink RX7 9 "PriceEdictModel" "line" "[I", Cond.fieldLink RX7 13 "PriceEdictModel" "figure" "[I", Cond.fieldLink RX7 22 "PriceEdictModel" "reads" "[I", Cond.methodLink RX7 102 yX7_in, Cond.static yX7_in, Cond.code yX7_in cX7_in 3 (some .boolean)]
def wsX7_capOf : List Cond := .code yX7_capOf cX7_capOf 8 (some .int) :: ((wsX7_capOf_r1 ++ wsX7_capOf_r2) ++ wsX70)
def wsX7_cap_r1 : List Cond := [Cond.fieldLink RX7 99 "PriceEdictModel" "thrown" "I", Cond.methodLink RX7 202 yX7_noTown, Cond.instanceMethod yX7_noTown, Cond.selects RX7 yX7_noTown yX7_noTown, Cond.initialized RX7, Cond.code yX7_noTown cX7_noTown 2 (some .boolean), Cond.fieldLink RX7 199 "PriceEdictModel" "towns" "I", Cond.methodLink RX7 102 yX7_in, Cond.static yX7_in, Cond.code yX7_in cX7_in 3 (some .boolean), Cond.methodLink RX7 205 yX7_noThing, Cond.static yX7_noThing, Cond.code yX7_noThing cX7_noThing 1 (some .boolean), Cond.methodLink RX7 110 yX7_throwsIf, Cond.instanceMethod yX7_throwsIf, Cond.selects RX7 yX7_throwsIf yX7_throwsIf, Cond.code yX7_throwsIf cX7_throwsIf 3 (some .boolean), Cond.methodLink RX7 211 yX7_capOf, Cond.instanceMethod yX7_capOf, Cond.selects RX7 yX7_capOf yX7_capOf, Cond.code yX7_capOf cX7_capOf 8 (some .int), Cond.fieldLink RX7 37 "PriceEdictModel" "free" "[I", Cond.fieldLink RX7 25 "PriceEdictModel" "cap" "[I", Cond.fieldLink RX7 28 "PriceEdictModel" "byLine" "[I"]
def wsX7_cap_r2 : List Cond := [Cond.fieldLink RX7 31 "PriceEdictModel" "carriage" "[I", Cond.fieldLink RX7 57 "PriceEdictModel" "miles" "[I", Cond.fieldLink RX7 34 "PriceEdictModel" "credit" "[I", Cond.methodLink RX7 208 yX7_forceOf, Cond.instanceMethod yX7_forceOf, Cond.selects RX7 yX7_forceOf yX7_forceOf, Cond.code yX7_forceOf cX7_forceOf 4 (some .int), Cond.fieldLink RX7 186 "PriceEdictModel" "tellings" "I", Cond.fieldLink RX7 43 "PriceEdictModel" "toldOn" "[I", Cond.fieldLink RX7 40 "PriceEdictModel" "told" "[I", Cond.methodLink RX7 137 yX7_extreme, Cond.instanceMethod yX7_extreme, Cond.selects RX7 yX7_extreme yX7_extreme, Cond.code yX7_extreme cX7_extreme 8 (some .int), Cond.methodLink RX7 123 yX7_agreeing, Cond.instanceMethod yX7_agreeing, Cond.selects RX7 yX7_agreeing yX7_agreeing, Cond.code yX7_agreeing cX7_agreeing 7 (some .int), Cond.fieldLink RX7 114 "PriceEdictModel" "stones" "I", Cond.fieldLink RX7 16 "PriceEdictModel" "foundOn" "[I", Cond.fieldLink RX7 19 "PriceEdictModel" "struckOn" "[I", Cond.fieldLink RX7 9 "PriceEdictModel" "line" "[I", Cond.fieldLink RX7 13 "PriceEdictModel" "figure" "[I", Cond.fieldLink RX7 22 "PriceEdictModel" "reads" "[I"]
def wsX7_cap : List Cond := .code yX7_cap cX7_cap 5 (some .int) :: ((wsX7_cap_r1 ++ wsX7_cap_r2) ++ wsX70)
def wsX7_judge_r1 : List Cond := [Cond.fieldLink RX7 99 "PriceEdictModel" "thrown" "I", Cond.methodLink RX7 202 yX7_noTown, Cond.instanceMethod yX7_noTown, Cond.selects RX7 yX7_noTown yX7_noTown, Cond.initialized RX7, Cond.code yX7_noTown cX7_noTown 2 (some .boolean), Cond.fieldLink RX7 199 "PriceEdictModel" "towns" "I", Cond.methodLink RX7 102 yX7_in, Cond.static yX7_in, Cond.code yX7_in cX7_in 3 (some .boolean), Cond.methodLink RX7 205 yX7_noThing, Cond.static yX7_noThing, Cond.code yX7_noThing cX7_noThing 1 (some .boolean), Cond.methodLink RX7 110 yX7_throwsIf, Cond.instanceMethod yX7_throwsIf, Cond.selects RX7 yX7_throwsIf yX7_throwsIf, Cond.code yX7_throwsIf cX7_throwsIf 3 (some .boolean), Cond.methodLink RX7 211 yX7_capOf, Cond.instanceMethod yX7_capOf, Cond.selects RX7 yX7_capOf yX7_capOf, Cond.code yX7_capOf cX7_capOf 8 (some .int), Cond.fieldLink RX7 37 "PriceEdictModel" "free" "[I", Cond.fieldLink RX7 25 "PriceEdictModel" "cap" "[I", Cond.fieldLink RX7 28 "PriceEdictModel" "byLine" "[I"]
def wsX7_judge_r2 : List Cond := [Cond.fieldLink RX7 31 "PriceEdictModel" "carriage" "[I", Cond.fieldLink RX7 57 "PriceEdictModel" "miles" "[I", Cond.fieldLink RX7 34 "PriceEdictModel" "credit" "[I", Cond.methodLink RX7 208 yX7_forceOf, Cond.instanceMethod yX7_forceOf, Cond.selects RX7 yX7_forceOf yX7_forceOf, Cond.code yX7_forceOf cX7_forceOf 4 (some .int), Cond.fieldLink RX7 186 "PriceEdictModel" "tellings" "I", Cond.fieldLink RX7 43 "PriceEdictModel" "toldOn" "[I", Cond.fieldLink RX7 40 "PriceEdictModel" "told" "[I", Cond.methodLink RX7 137 yX7_extreme, Cond.instanceMethod yX7_extreme, Cond.selects RX7 yX7_extreme yX7_extreme, Cond.code yX7_extreme cX7_extreme 8 (some .int), Cond.methodLink RX7 123 yX7_agreeing, Cond.instanceMethod yX7_agreeing, Cond.selects RX7 yX7_agreeing yX7_agreeing, Cond.code yX7_agreeing cX7_agreeing 7 (some .int), Cond.fieldLink RX7 114 "PriceEdictModel" "stones" "I", Cond.fieldLink RX7 16 "PriceEdictModel" "foundOn" "[I", Cond.fieldLink RX7 19 "PriceEdictModel" "struckOn" "[I", Cond.fieldLink RX7 9 "PriceEdictModel" "line" "[I", Cond.fieldLink RX7 13 "PriceEdictModel" "figure" "[I", Cond.fieldLink RX7 22 "PriceEdictModel" "reads" "[I"]
def wsX7_judge : List Cond := .code yX7_judge cX7_judge 7 (some .int) :: ((wsX7_judge_r1 ++ wsX7_judge_r2) ++ wsX70)
def wsX7_priceOf_r1 : List Cond := [Cond.fieldLink RX7 117 "PriceEdictModel" "today" "I", Cond.fieldLink RX7 63 "PriceEdictModel" "bid" "[I", Cond.methodLink RX7 211 yX7_capOf, Cond.instanceMethod yX7_capOf, Cond.selects RX7 yX7_capOf yX7_capOf, Cond.initialized RX7, Cond.code yX7_capOf cX7_capOf 8 (some .int), Cond.fieldLink RX7 37 "PriceEdictModel" "free" "[I", Cond.fieldLink RX7 25 "PriceEdictModel" "cap" "[I", Cond.fieldLink RX7 28 "PriceEdictModel" "byLine" "[I", Cond.fieldLink RX7 31 "PriceEdictModel" "carriage" "[I", Cond.fieldLink RX7 57 "PriceEdictModel" "miles" "[I", Cond.fieldLink RX7 34 "PriceEdictModel" "credit" "[I", Cond.methodLink RX7 208 yX7_forceOf, Cond.instanceMethod yX7_forceOf, Cond.selects RX7 yX7_forceOf yX7_forceOf, Cond.code yX7_forceOf cX7_forceOf 4 (some .int), Cond.fieldLink RX7 186 "PriceEdictModel" "tellings" "I", Cond.fieldLink RX7 43 "PriceEdictModel" "toldOn" "[I", Cond.fieldLink RX7 40 "PriceEdictModel" "told" "[I", Cond.methodLink RX7 137 yX7_extreme, Cond.instanceMethod yX7_extreme, Cond.selects RX7 yX7_extreme yX7_extreme, Cond.code yX7_extreme cX7_extreme 8 (some .int)]
def wsX7_priceOf_r2 : List Cond := [Cond.methodLink RX7 123 yX7_agreeing, Cond.instanceMethod yX7_agreeing, Cond.selects RX7 yX7_agreeing yX7_agreeing, Cond.code yX7_agreeing cX7_agreeing 7 (some .int), Cond.fieldLink RX7 114 "PriceEdictModel" "stones" "I", Cond.fieldLink RX7 16 "PriceEdictModel" "foundOn" "[I", Cond.fieldLink RX7 19 "PriceEdictModel" "struckOn" "[I", Cond.fieldLink RX7 9 "PriceEdictModel" "line" "[I", Cond.fieldLink RX7 13 "PriceEdictModel" "figure" "[I", Cond.fieldLink RX7 22 "PriceEdictModel" "reads" "[I", Cond.methodLink RX7 102 yX7_in, Cond.static yX7_in, Cond.code yX7_in cX7_in 3 (some .boolean)]
def wsX7_priceOf : List Cond := .code yX7_priceOf cX7_priceOf 5 (some .int) :: ((wsX7_priceOf_r1 ++ wsX7_priceOf_r2) ++ wsX70)
def wsX7_market_r1 : List Cond := [Cond.fieldLink RX7 60 "PriceEdictModel" "cost" "[I", Cond.fieldLink RX7 96 "PriceEdictModel" "carry" "I", Cond.fieldLink RX7 57 "PriceEdictModel" "miles" "[I", Cond.fieldLink RX7 72 "PriceEdictModel" "stock" "[I", Cond.fieldLink RX7 66 "PriceEdictModel" "supply" "[I", Cond.fieldLink RX7 78 "PriceEdictModel" "brought" "[I", Cond.fieldLink RX7 63 "PriceEdictModel" "bid" "[I", Cond.fieldLink RX7 75 "PriceEdictModel" "hidden" "[I", Cond.fieldLink RX7 69 "PriceEdictModel" "want" "[I", Cond.methodLink RX7 218 Lib.Math.min.name, Cond.static Lib.Math.min.name, Cond.initialized "java/lang/Math", Cond.code Lib.Math.min.name Lib.Math.min.code 2 (some .int), Cond.fieldLink RX7 81 "PriceEdictModel" "sold" "[I", Cond.fieldLink RX7 87 "PriceEdictModel" "paid" "[I", Cond.fieldLink RX7 90 "PriceEdictModel" "weight" "[I", Cond.fieldLink RX7 93 "PriceEdictModel" "spoil" "[I", Cond.fieldLink RX7 84 "PriceEdictModel" "spoilt" "[I", Cond.methodLink RX7 215 yX7_priceOf, Cond.instanceMethod yX7_priceOf, Cond.selects RX7 yX7_priceOf yX7_priceOf, Cond.initialized RX7, Cond.code yX7_priceOf cX7_priceOf 5 (some .int), Cond.fieldLink RX7 117 "PriceEdictModel" "today" "I"]
def wsX7_market_r2 : List Cond := [Cond.methodLink RX7 211 yX7_capOf, Cond.instanceMethod yX7_capOf, Cond.selects RX7 yX7_capOf yX7_capOf, Cond.code yX7_capOf cX7_capOf 8 (some .int), Cond.fieldLink RX7 37 "PriceEdictModel" "free" "[I", Cond.fieldLink RX7 25 "PriceEdictModel" "cap" "[I", Cond.fieldLink RX7 28 "PriceEdictModel" "byLine" "[I", Cond.fieldLink RX7 31 "PriceEdictModel" "carriage" "[I", Cond.fieldLink RX7 34 "PriceEdictModel" "credit" "[I", Cond.methodLink RX7 208 yX7_forceOf, Cond.instanceMethod yX7_forceOf, Cond.selects RX7 yX7_forceOf yX7_forceOf, Cond.code yX7_forceOf cX7_forceOf 4 (some .int), Cond.fieldLink RX7 186 "PriceEdictModel" "tellings" "I", Cond.fieldLink RX7 43 "PriceEdictModel" "toldOn" "[I", Cond.fieldLink RX7 40 "PriceEdictModel" "told" "[I", Cond.methodLink RX7 137 yX7_extreme, Cond.instanceMethod yX7_extreme, Cond.selects RX7 yX7_extreme yX7_extreme, Cond.code yX7_extreme cX7_extreme 8 (some .int), Cond.methodLink RX7 123 yX7_agreeing, Cond.instanceMethod yX7_agreeing, Cond.selects RX7 yX7_agreeing yX7_agreeing, Cond.code yX7_agreeing cX7_agreeing 7 (some .int)]
def wsX7_market_r3 : List Cond := [Cond.fieldLink RX7 114 "PriceEdictModel" "stones" "I", Cond.fieldLink RX7 16 "PriceEdictModel" "foundOn" "[I", Cond.fieldLink RX7 19 "PriceEdictModel" "struckOn" "[I", Cond.fieldLink RX7 9 "PriceEdictModel" "line" "[I", Cond.fieldLink RX7 13 "PriceEdictModel" "figure" "[I", Cond.fieldLink RX7 22 "PriceEdictModel" "reads" "[I", Cond.methodLink RX7 102 yX7_in, Cond.static yX7_in, Cond.code yX7_in cX7_in 3 (some .boolean)]
def wsX7_market : List Cond := .code yX7_market cX7_market 9 none :: ((wsX7_market_r1 ++ (wsX7_market_r2 ++ wsX7_market_r3)) ++ wsX70)
def wsX7_weeks_r1 : List Cond := [Cond.fieldLink RX7 99 "PriceEdictModel" "thrown" "I", Cond.fieldLink RX7 117 "PriceEdictModel" "today" "I", Cond.fieldLink RX7 199 "PriceEdictModel" "towns" "I", Cond.methodLink RX7 102 yX7_in, Cond.static yX7_in, Cond.initialized RX7, Cond.code yX7_in cX7_in 3 (some .boolean), Cond.methodLink RX7 110 yX7_throwsIf, Cond.instanceMethod yX7_throwsIf, Cond.selects RX7 yX7_throwsIf yX7_throwsIf, Cond.code yX7_throwsIf cX7_throwsIf 3 (some .boolean), Cond.methodLink RX7 223 yX7_market, Cond.instanceMethod yX7_market, Cond.selects RX7 yX7_market yX7_market, Cond.code yX7_market cX7_market 9 none, Cond.fieldLink RX7 60 "PriceEdictModel" "cost" "[I", Cond.fieldLink RX7 96 "PriceEdictModel" "carry" "I", Cond.fieldLink RX7 57 "PriceEdictModel" "miles" "[I", Cond.fieldLink RX7 72 "PriceEdictModel" "stock" "[I", Cond.fieldLink RX7 66 "PriceEdictModel" "supply" "[I", Cond.fieldLink RX7 78 "PriceEdictModel" "brought" "[I", Cond.fieldLink RX7 63 "PriceEdictModel" "bid" "[I", Cond.fieldLink RX7 75 "PriceEdictModel" "hidden" "[I", Cond.fieldLink RX7 69 "PriceEdictModel" "want" "[I"]
def wsX7_weeks_r2 : List Cond := [Cond.methodLink RX7 218 Lib.Math.min.name, Cond.static Lib.Math.min.name, Cond.initialized "java/lang/Math", Cond.code Lib.Math.min.name Lib.Math.min.code 2 (some .int), Cond.fieldLink RX7 81 "PriceEdictModel" "sold" "[I", Cond.fieldLink RX7 87 "PriceEdictModel" "paid" "[I", Cond.fieldLink RX7 90 "PriceEdictModel" "weight" "[I", Cond.fieldLink RX7 93 "PriceEdictModel" "spoil" "[I", Cond.fieldLink RX7 84 "PriceEdictModel" "spoilt" "[I", Cond.methodLink RX7 215 yX7_priceOf, Cond.instanceMethod yX7_priceOf, Cond.selects RX7 yX7_priceOf yX7_priceOf, Cond.code yX7_priceOf cX7_priceOf 5 (some .int), Cond.methodLink RX7 211 yX7_capOf, Cond.instanceMethod yX7_capOf, Cond.selects RX7 yX7_capOf yX7_capOf, Cond.code yX7_capOf cX7_capOf 8 (some .int), Cond.fieldLink RX7 37 "PriceEdictModel" "free" "[I", Cond.fieldLink RX7 25 "PriceEdictModel" "cap" "[I", Cond.fieldLink RX7 28 "PriceEdictModel" "byLine" "[I", Cond.fieldLink RX7 31 "PriceEdictModel" "carriage" "[I", Cond.fieldLink RX7 34 "PriceEdictModel" "credit" "[I", Cond.methodLink RX7 208 yX7_forceOf, Cond.instanceMethod yX7_forceOf]
def wsX7_weeks_r3 : List Cond := [Cond.selects RX7 yX7_forceOf yX7_forceOf, Cond.code yX7_forceOf cX7_forceOf 4 (some .int), Cond.fieldLink RX7 186 "PriceEdictModel" "tellings" "I", Cond.fieldLink RX7 43 "PriceEdictModel" "toldOn" "[I", Cond.fieldLink RX7 40 "PriceEdictModel" "told" "[I", Cond.methodLink RX7 137 yX7_extreme, Cond.instanceMethod yX7_extreme, Cond.selects RX7 yX7_extreme yX7_extreme, Cond.code yX7_extreme cX7_extreme 8 (some .int), Cond.methodLink RX7 123 yX7_agreeing, Cond.instanceMethod yX7_agreeing, Cond.selects RX7 yX7_agreeing yX7_agreeing, Cond.code yX7_agreeing cX7_agreeing 7 (some .int), Cond.fieldLink RX7 114 "PriceEdictModel" "stones" "I", Cond.fieldLink RX7 16 "PriceEdictModel" "foundOn" "[I", Cond.fieldLink RX7 19 "PriceEdictModel" "struckOn" "[I", Cond.fieldLink RX7 9 "PriceEdictModel" "line" "[I", Cond.fieldLink RX7 13 "PriceEdictModel" "figure" "[I", Cond.fieldLink RX7 22 "PriceEdictModel" "reads" "[I"]
def wsX7_weeks : List Cond := .code yX7_weeks cX7_weeks 5 (some .int) :: ((wsX7_weeks_r1 ++ (wsX7_weeks_r2 ++ wsX7_weeks_r3)) ++ wsX70)
def wsX7_days : List Cond := .code yX7_days cX7_days 2 (some .int) :: ([.fieldLink RX7 99 "PriceEdictModel" "thrown" "I", .fieldLink RX7 117 "PriceEdictModel" "today" "I", .methodLink RX7 218 Lib.Math.min.name, .static Lib.Math.min.name, .initialized "java/lang/Math", .code Lib.Math.min.name Lib.Math.min.code 2 (some .int), .methodLink RX7 102 yX7_in, .static yX7_in, .initialized RX7, .code yX7_in cX7_in 3 (some .boolean), .methodLink RX7 110 yX7_throwsIf, .instanceMethod yX7_throwsIf, .selects RX7 yX7_throwsIf yX7_throwsIf, .code yX7_throwsIf cX7_throwsIf 3 (some .boolean)] ++ wsX70)
def wsX7_look_r1 : List Cond := [Cond.fieldLink RX7 99 "PriceEdictModel" "thrown" "I", Cond.fieldLink RX7 72 "PriceEdictModel" "stock" "[I", Cond.fieldLink RX7 75 "PriceEdictModel" "hidden" "[I", Cond.fieldLink RX7 78 "PriceEdictModel" "brought" "[I", Cond.fieldLink RX7 81 "PriceEdictModel" "sold" "[I", Cond.fieldLink RX7 84 "PriceEdictModel" "spoilt" "[I", Cond.fieldLink RX7 87 "PriceEdictModel" "paid" "[I", Cond.fieldLink RX7 90 "PriceEdictModel" "weight" "[I", Cond.methodLink RX7 202 yX7_noTown, Cond.instanceMethod yX7_noTown, Cond.selects RX7 yX7_noTown yX7_noTown, Cond.initialized RX7, Cond.code yX7_noTown cX7_noTown 2 (some .boolean), Cond.fieldLink RX7 199 "PriceEdictModel" "towns" "I", Cond.methodLink RX7 102 yX7_in, Cond.static yX7_in, Cond.code yX7_in cX7_in 3 (some .boolean), Cond.methodLink RX7 205 yX7_noThing, Cond.static yX7_noThing, Cond.code yX7_noThing cX7_noThing 1 (some .boolean), Cond.methodLink RX7 110 yX7_throwsIf, Cond.instanceMethod yX7_throwsIf, Cond.selects RX7 yX7_throwsIf yX7_throwsIf, Cond.code yX7_throwsIf cX7_throwsIf 3 (some .boolean)]
def wsX7_look_r2 : List Cond := [Cond.methodLink RX7 215 yX7_priceOf, Cond.instanceMethod yX7_priceOf, Cond.selects RX7 yX7_priceOf yX7_priceOf, Cond.code yX7_priceOf cX7_priceOf 5 (some .int), Cond.fieldLink RX7 117 "PriceEdictModel" "today" "I", Cond.fieldLink RX7 63 "PriceEdictModel" "bid" "[I", Cond.methodLink RX7 211 yX7_capOf, Cond.instanceMethod yX7_capOf, Cond.selects RX7 yX7_capOf yX7_capOf, Cond.code yX7_capOf cX7_capOf 8 (some .int), Cond.fieldLink RX7 37 "PriceEdictModel" "free" "[I", Cond.fieldLink RX7 25 "PriceEdictModel" "cap" "[I", Cond.fieldLink RX7 28 "PriceEdictModel" "byLine" "[I", Cond.fieldLink RX7 31 "PriceEdictModel" "carriage" "[I", Cond.fieldLink RX7 57 "PriceEdictModel" "miles" "[I", Cond.fieldLink RX7 34 "PriceEdictModel" "credit" "[I", Cond.methodLink RX7 208 yX7_forceOf, Cond.instanceMethod yX7_forceOf, Cond.selects RX7 yX7_forceOf yX7_forceOf, Cond.code yX7_forceOf cX7_forceOf 4 (some .int), Cond.fieldLink RX7 186 "PriceEdictModel" "tellings" "I", Cond.fieldLink RX7 43 "PriceEdictModel" "toldOn" "[I", Cond.fieldLink RX7 40 "PriceEdictModel" "told" "[I", Cond.methodLink RX7 137 yX7_extreme]
def wsX7_look_r3 : List Cond := [Cond.instanceMethod yX7_extreme, Cond.selects RX7 yX7_extreme yX7_extreme, Cond.code yX7_extreme cX7_extreme 8 (some .int), Cond.methodLink RX7 123 yX7_agreeing, Cond.instanceMethod yX7_agreeing, Cond.selects RX7 yX7_agreeing yX7_agreeing, Cond.code yX7_agreeing cX7_agreeing 7 (some .int), Cond.fieldLink RX7 114 "PriceEdictModel" "stones" "I", Cond.fieldLink RX7 16 "PriceEdictModel" "foundOn" "[I", Cond.fieldLink RX7 19 "PriceEdictModel" "struckOn" "[I", Cond.fieldLink RX7 9 "PriceEdictModel" "line" "[I", Cond.fieldLink RX7 13 "PriceEdictModel" "figure" "[I", Cond.fieldLink RX7 22 "PriceEdictModel" "reads" "[I"]
def wsX7_look : List Cond := .code yX7_look cX7_look 5 (some .int) :: ((wsX7_look_r1 ++ (wsX7_look_r2 ++ wsX7_look_r3)) ++ wsX70)
def wsX7_buys_r1 : List Cond := [Cond.fieldLink RX7 99 "PriceEdictModel" "thrown" "I", Cond.constant RX7 227 (100000), Cond.fieldLink RX7 72 "PriceEdictModel" "stock" "[I", Cond.methodLink RX7 218 Lib.Math.min.name, Cond.static Lib.Math.min.name, Cond.initialized "java/lang/Math", Cond.code Lib.Math.min.name Lib.Math.min.code 2 (some .int), Cond.methodLink RX7 202 yX7_noTown, Cond.instanceMethod yX7_noTown, Cond.selects RX7 yX7_noTown yX7_noTown, Cond.initialized RX7, Cond.code yX7_noTown cX7_noTown 2 (some .boolean), Cond.fieldLink RX7 199 "PriceEdictModel" "towns" "I", Cond.methodLink RX7 102 yX7_in, Cond.static yX7_in, Cond.code yX7_in cX7_in 3 (some .boolean), Cond.methodLink RX7 205 yX7_noThing, Cond.static yX7_noThing, Cond.code yX7_noThing cX7_noThing 1 (some .boolean), Cond.methodLink RX7 110 yX7_throwsIf, Cond.instanceMethod yX7_throwsIf, Cond.selects RX7 yX7_throwsIf yX7_throwsIf, Cond.code yX7_throwsIf cX7_throwsIf 3 (some .boolean), Cond.methodLink RX7 215 yX7_priceOf]
def wsX7_buys_r2 : List Cond := [Cond.instanceMethod yX7_priceOf, Cond.selects RX7 yX7_priceOf yX7_priceOf, Cond.code yX7_priceOf cX7_priceOf 5 (some .int), Cond.fieldLink RX7 117 "PriceEdictModel" "today" "I", Cond.fieldLink RX7 63 "PriceEdictModel" "bid" "[I", Cond.methodLink RX7 211 yX7_capOf, Cond.instanceMethod yX7_capOf, Cond.selects RX7 yX7_capOf yX7_capOf, Cond.code yX7_capOf cX7_capOf 8 (some .int), Cond.fieldLink RX7 37 "PriceEdictModel" "free" "[I", Cond.fieldLink RX7 25 "PriceEdictModel" "cap" "[I", Cond.fieldLink RX7 28 "PriceEdictModel" "byLine" "[I", Cond.fieldLink RX7 31 "PriceEdictModel" "carriage" "[I", Cond.fieldLink RX7 57 "PriceEdictModel" "miles" "[I", Cond.fieldLink RX7 34 "PriceEdictModel" "credit" "[I", Cond.methodLink RX7 208 yX7_forceOf, Cond.instanceMethod yX7_forceOf, Cond.selects RX7 yX7_forceOf yX7_forceOf, Cond.code yX7_forceOf cX7_forceOf 4 (some .int), Cond.fieldLink RX7 186 "PriceEdictModel" "tellings" "I", Cond.fieldLink RX7 43 "PriceEdictModel" "toldOn" "[I", Cond.fieldLink RX7 40 "PriceEdictModel" "told" "[I", Cond.methodLink RX7 137 yX7_extreme, Cond.instanceMethod yX7_extreme]
def wsX7_buys_r3 : List Cond := [Cond.selects RX7 yX7_extreme yX7_extreme, Cond.code yX7_extreme cX7_extreme 8 (some .int), Cond.methodLink RX7 123 yX7_agreeing, Cond.instanceMethod yX7_agreeing, Cond.selects RX7 yX7_agreeing yX7_agreeing, Cond.code yX7_agreeing cX7_agreeing 7 (some .int), Cond.fieldLink RX7 114 "PriceEdictModel" "stones" "I", Cond.fieldLink RX7 16 "PriceEdictModel" "foundOn" "[I", Cond.fieldLink RX7 19 "PriceEdictModel" "struckOn" "[I", Cond.fieldLink RX7 9 "PriceEdictModel" "line" "[I", Cond.fieldLink RX7 13 "PriceEdictModel" "figure" "[I", Cond.fieldLink RX7 22 "PriceEdictModel" "reads" "[I"]
def wsX7_buys : List Cond := .code yX7_buys cX7_buys 6 (some .int) :: ((wsX7_buys_r1 ++ (wsX7_buys_r2 ++ wsX7_buys_r3)) ++ wsX70)
def wsX7_count_r1 : List Cond := [Cond.fieldLink RX7 99 "PriceEdictModel" "thrown" "I", Cond.fieldLink RX7 117 "PriceEdictModel" "today" "I", Cond.fieldLink RX7 114 "PriceEdictModel" "stones" "I", Cond.fieldLink RX7 19 "PriceEdictModel" "struckOn" "[I", Cond.fieldLink RX7 120 "PriceEdictModel" "habits" "I", Cond.fieldLink RX7 192 "PriceEdictModel" "edicts" "I", Cond.fieldLink RX7 199 "PriceEdictModel" "towns" "I", Cond.fieldLink RX7 72 "PriceEdictModel" "stock" "[I", Cond.fieldLink RX7 75 "PriceEdictModel" "hidden" "[I", Cond.methodLink RX7 133 yX7_many, Cond.instanceMethod yX7_many, Cond.selects RX7 yX7_many yX7_many, Cond.initialized RX7, Cond.code yX7_many cX7_many 5 (some .int), Cond.methodLink RX7 123 yX7_agreeing, Cond.instanceMethod yX7_agreeing, Cond.selects RX7 yX7_agreeing yX7_agreeing, Cond.code yX7_agreeing cX7_agreeing 7 (some .int), Cond.fieldLink RX7 16 "PriceEdictModel" "foundOn" "[I", Cond.fieldLink RX7 9 "PriceEdictModel" "line" "[I", Cond.fieldLink RX7 13 "PriceEdictModel" "figure" "[I", Cond.fieldLink RX7 22 "PriceEdictModel" "reads" "[I", Cond.methodLink RX7 127 yJ6_bitCount_0f7a4, Cond.static yJ6_bitCount_0f7a4]
def wsX7_count_r2 : List Cond := [Cond.initialized RJ6, Cond.code yJ6_bitCount_0f7a4 cJ6_bitCount_0f7a4 1 (some .int), Cond.constant RJ6 265 (1431655765), Cond.constant RJ6 266 (858993459), Cond.constant RJ6 267 (252645135)]
def wsX7_count : List Cond := .code yX7_count cX7_count 4 (some .int) :: ((wsX7_count_r1 ++ wsX7_count_r2) ++ wsX70)
def wsJ9_min_7cf53 : List Cond := .code yJ9_min_7cf53 cJ9_min_7cf53 2 (some .int) :: ([])
theorem inJ6 : ∀ w ∈ wsJ60, w ∈ lw_tbl := by decide +kernel
theorem inJ9 : ∀ w ∈ wsJ90, w ∈ lw_tbl := by decide +kernel
theorem inJ0 : ∀ w ∈ wsJ00, w ∈ lw_tbl := by decide +kernel
theorem inJ1 : ∀ w ∈ wsJ10, w ∈ lw_tbl := by decide +kernel
theorem inJ2 : ∀ w ∈ wsJ20, w ∈ lw_tbl := by decide +kernel
theorem inJ3 : ∀ w ∈ wsJ30, w ∈ lw_tbl := by decide +kernel
theorem dX0_init_0 : decode cX0_init 0 = .ok (.aload_n 0, 1) := by decide +kernel
theorem dX0_init_1 : decode cX0_init 1 = .ok (.invokespecial 3, 3) := by decide +kernel
theorem dX0_init_4 : decode cX0_init 4 = .ok (.aload_n 0, 1) := by decide +kernel
theorem dX0_init_5 : decode cX0_init 5 = .ok (.bipush 6, 2) := by decide +kernel
theorem dX0_init_7 : decode cX0_init 7 = .ok (.newarray .int, 2) := by decide +kernel
theorem dX0_init_9 : decode cX0_init 9 = .ok (.putfield 9, 3) := by decide +kernel
theorem dX0_init_12 : decode cX0_init 12 = .ok (.aload_n 0, 1) := by decide +kernel
theorem dX0_init_13 : decode cX0_init 13 = .ok (.bipush 6, 2) := by decide +kernel
theorem dX0_init_15 : decode cX0_init 15 = .ok (.newarray .int, 2) := by decide +kernel
theorem dX0_init_17 : decode cX0_init 17 = .ok (.putfield 15, 3) := by decide +kernel
theorem dX0_init_20 : decode cX0_init 20 = .ok (.aload_n 0, 1) := by decide +kernel
theorem dX0_init_21 : decode cX0_init 21 = .ok (.iconst 0, 1) := by decide +kernel
theorem dX0_init_22 : decode cX0_init 22 = .ok (.putfield 18, 3) := by decide +kernel
theorem dX0_init_25 : decode cX0_init 25 = .ok (.aload_n 0, 1) := by decide +kernel
theorem dX0_init_26 : decode cX0_init 26 = .ok (.iconst 0, 1) := by decide +kernel
theorem dX0_init_27 : decode cX0_init 27 = .ok (.putfield 22, 3) := by decide +kernel
theorem dX0_init_30 : decode cX0_init 30 = .ok (.aload_n 0, 1) := by decide +kernel
theorem dX0_init_31 : decode cX0_init 31 = .ok (.iconst 0, 1) := by decide +kernel
theorem dX0_init_32 : decode cX0_init 32 = .ok (.putfield 25, 3) := by decide +kernel
theorem dX0_init_35 : decode cX0_init 35 = .ok (.return_, 1) := by decide +kernel
theorem dX0_clear_0 : decode cX0_clear 0 = .ok (.iconst 0, 1) := by decide +kernel
theorem dX0_clear_1 : decode cX0_clear 1 = .ok (.istore_n 1, 1) := by decide +kernel
theorem dX0_clear_2 : decode cX0_clear 2 = .ok (.iload_n 1, 1) := by decide +kernel
theorem dX0_clear_3 : decode cX0_clear 3 = .ok (.bipush 6, 2) := by decide +kernel
theorem dX0_clear_5 : decode cX0_clear 5 = .ok (.if_icmp .ge 23, 3) := by decide +kernel
theorem dX0_clear_8 : decode cX0_clear 8 = .ok (.aload_n 0, 1) := by decide +kernel
theorem dX0_clear_9 : decode cX0_clear 9 = .ok (.getfield 9, 3) := by decide +kernel
theorem dX0_clear_12 : decode cX0_clear 12 = .ok (.iload_n 1, 1) := by decide +kernel
theorem dX0_clear_13 : decode cX0_clear 13 = .ok (.iconst (-1), 1) := by decide +kernel
theorem dX0_clear_14 : decode cX0_clear 14 = .ok (.iastore, 1) := by decide +kernel
theorem dX0_clear_15 : decode cX0_clear 15 = .ok (.aload_n 0, 1) := by decide +kernel
theorem dX0_clear_16 : decode cX0_clear 16 = .ok (.getfield 15, 3) := by decide +kernel
theorem dX0_clear_19 : decode cX0_clear 19 = .ok (.iload_n 1, 1) := by decide +kernel
theorem dX0_clear_20 : decode cX0_clear 20 = .ok (.iconst (-1), 1) := by decide +kernel
theorem dX0_clear_21 : decode cX0_clear 21 = .ok (.iastore, 1) := by decide +kernel
theorem dX0_clear_22 : decode cX0_clear 22 = .ok (.iinc 1 1, 3) := by decide +kernel
theorem dX0_clear_25 : decode cX0_clear 25 = .ok (.goto (-23), 3) := by decide +kernel
theorem dX0_clear_28 : decode cX0_clear 28 = .ok (.aload_n 0, 1) := by decide +kernel
theorem dX0_clear_29 : decode cX0_clear 29 = .ok (.iconst 0, 1) := by decide +kernel
theorem dX0_clear_30 : decode cX0_clear 30 = .ok (.putfield 18, 3) := by decide +kernel
theorem dX0_clear_33 : decode cX0_clear 33 = .ok (.aload_n 0, 1) := by decide +kernel
theorem dX0_clear_34 : decode cX0_clear 34 = .ok (.iconst 0, 1) := by decide +kernel
theorem dX0_clear_35 : decode cX0_clear 35 = .ok (.putfield 22, 3) := by decide +kernel
theorem dX0_clear_38 : decode cX0_clear 38 = .ok (.aload_n 0, 1) := by decide +kernel
theorem dX0_clear_39 : decode cX0_clear 39 = .ok (.iconst 0, 1) := by decide +kernel
theorem dX0_clear_40 : decode cX0_clear 40 = .ok (.putfield 25, 3) := by decide +kernel
theorem dX0_clear_43 : decode cX0_clear 43 = .ok (.return_, 1) := by decide +kernel
theorem dX0_capByPrice_0 : decode cX0_capByPrice 0 = .ok (.iload_n 1, 1) := by decide +kernel
theorem dX0_capByPrice_1 : decode cX0_capByPrice 1 = .ok (.ifCond .lt 23, 3) := by decide +kernel
theorem dX0_capByPrice_4 : decode cX0_capByPrice 4 = .ok (.iload_n 1, 1) := by decide +kernel
theorem dX0_capByPrice_5 : decode cX0_capByPrice 5 = .ok (.bipush 6, 2) := by decide +kernel
theorem dX0_capByPrice_7 : decode cX0_capByPrice 7 = .ok (.if_icmp .ge 17, 3) := by decide +kernel
theorem dX0_capByPrice_10 : decode cX0_capByPrice 10 = .ok (.aload_n 0, 1) := by decide +kernel
theorem dX0_capByPrice_11 : decode cX0_capByPrice 11 = .ok (.getfield 9, 3) := by decide +kernel
theorem dX0_capByPrice_14 : decode cX0_capByPrice 14 = .ok (.iload_n 1, 1) := by decide +kernel
theorem dX0_capByPrice_15 : decode cX0_capByPrice 15 = .ok (.iload_n 2, 1) := by decide +kernel
theorem dX0_capByPrice_16 : decode cX0_capByPrice 16 = .ok (.iastore, 1) := by decide +kernel
theorem dX0_capByPrice_17 : decode cX0_capByPrice 17 = .ok (.aload_n 0, 1) := by decide +kernel
theorem dX0_capByPrice_18 : decode cX0_capByPrice 18 = .ok (.getfield 15, 3) := by decide +kernel
theorem dX0_capByPrice_21 : decode cX0_capByPrice 21 = .ok (.iload_n 1, 1) := by decide +kernel
theorem dX0_capByPrice_22 : decode cX0_capByPrice 22 = .ok (.iconst (-1), 1) := by decide +kernel
theorem dX0_capByPrice_23 : decode cX0_capByPrice 23 = .ok (.iastore, 1) := by decide +kernel
theorem dX0_capByPrice_24 : decode cX0_capByPrice 24 = .ok (.return_, 1) := by decide +kernel
theorem dX0_capByLine_0 : decode cX0_capByLine 0 = .ok (.iload_n 1, 1) := by decide +kernel
theorem dX0_capByLine_1 : decode cX0_capByLine 1 = .ok (.ifCond .lt 23, 3) := by decide +kernel
theorem dX0_capByLine_4 : decode cX0_capByLine 4 = .ok (.iload_n 1, 1) := by decide +kernel
theorem dX0_capByLine_5 : decode cX0_capByLine 5 = .ok (.bipush 6, 2) := by decide +kernel
theorem dX0_capByLine_7 : decode cX0_capByLine 7 = .ok (.if_icmp .ge 17, 3) := by decide +kernel
theorem dX0_capByLine_10 : decode cX0_capByLine 10 = .ok (.aload_n 0, 1) := by decide +kernel
theorem dX0_capByLine_11 : decode cX0_capByLine 11 = .ok (.getfield 9, 3) := by decide +kernel
theorem dX0_capByLine_14 : decode cX0_capByLine 14 = .ok (.iload_n 1, 1) := by decide +kernel
theorem dX0_capByLine_15 : decode cX0_capByLine 15 = .ok (.iconst (-1), 1) := by decide +kernel
theorem dX0_capByLine_16 : decode cX0_capByLine 16 = .ok (.iastore, 1) := by decide +kernel
theorem dX0_capByLine_17 : decode cX0_capByLine 17 = .ok (.aload_n 0, 1) := by decide +kernel
theorem dX0_capByLine_18 : decode cX0_capByLine 18 = .ok (.getfield 15, 3) := by decide +kernel
theorem dX0_capByLine_21 : decode cX0_capByLine 21 = .ok (.iload_n 1, 1) := by decide +kernel
theorem dX0_capByLine_22 : decode cX0_capByLine 22 = .ok (.iload_n 2, 1) := by decide +kernel
theorem dX0_capByLine_23 : decode cX0_capByLine 23 = .ok (.iastore, 1) := by decide +kernel
theorem dX0_capByLine_24 : decode cX0_capByLine 24 = .ok (.return_, 1) := by decide +kernel
theorem dX0_setFree_0 : decode cX0_setFree 0 = .ok (.aload_n 0, 1) := by decide +kernel
theorem dX0_setFree_1 : decode cX0_setFree 1 = .ok (.dup, 1) := by decide +kernel
theorem dX0_setFree_2 : decode cX0_setFree 2 = .ok (.getfield 25, 3) := by decide +kernel
theorem dX0_setFree_5 : decode cX0_setFree 5 = .ok (.iconst 1, 1) := by decide +kernel
theorem dX0_setFree_6 : decode cX0_setFree 6 = .ok (.iload_n 1, 1) := by decide +kernel
theorem dX0_setFree_7 : decode cX0_setFree 7 = .ok (.ishl, 1) := by decide +kernel
theorem dX0_setFree_8 : decode cX0_setFree 8 = .ok (.ior, 1) := by decide +kernel
theorem dX0_setFree_9 : decode cX0_setFree 9 = .ok (.putfield 25, 3) := by decide +kernel
theorem dX0_setFree_12 : decode cX0_setFree 12 = .ok (.return_, 1) := by decide +kernel
theorem dX0_frees_0 : decode cX0_frees 0 = .ok (.aload_n 0, 1) := by decide +kernel
theorem dX0_frees_1 : decode cX0_frees 1 = .ok (.getfield 25, 3) := by decide +kernel
theorem dX0_frees_4 : decode cX0_frees 4 = .ok (.iload_n 1, 1) := by decide +kernel
theorem dX0_frees_5 : decode cX0_frees 5 = .ok (.ishr, 1) := by decide +kernel
theorem dX0_frees_6 : decode cX0_frees 6 = .ok (.iconst 1, 1) := by decide +kernel
theorem dX0_frees_7 : decode cX0_frees 7 = .ok (.iand, 1) := by decide +kernel
theorem dX0_frees_8 : decode cX0_frees 8 = .ok (.iconst 1, 1) := by decide +kernel
theorem dX0_frees_9 : decode cX0_frees 9 = .ok (.if_icmp .ne 7, 3) := by decide +kernel
theorem dX0_frees_12 : decode cX0_frees 12 = .ok (.iconst 1, 1) := by decide +kernel
theorem dX0_frees_13 : decode cX0_frees 13 = .ok (.goto 4, 3) := by decide +kernel
theorem dX0_frees_16 : decode cX0_frees 16 = .ok (.iconst 0, 1) := by decide +kernel
theorem dX0_frees_17 : decode cX0_frees 17 = .ok (.ireturn, 1) := by decide +kernel
theorem dX1_init_0 : decode cX1_init 0 = .ok (.aload_n 0, 1) := by decide +kernel
theorem dX1_init_1 : decode cX1_init 1 = .ok (.invokespecial 3, 3) := by decide +kernel
theorem dX1_init_4 : decode cX1_init 4 = .ok (.aload_n 0, 1) := by decide +kernel
theorem dX1_init_5 : decode cX1_init 5 = .ok (.bipush 40, 2) := by decide +kernel
theorem dX1_init_7 : decode cX1_init 7 = .ok (.newarray .int, 2) := by decide +kernel
theorem dX1_init_9 : decode cX1_init 9 = .ok (.putfield 9, 3) := by decide +kernel
theorem dX1_init_12 : decode cX1_init 12 = .ok (.aload_n 0, 1) := by decide +kernel
theorem dX1_init_13 : decode cX1_init 13 = .ok (.bipush 40, 2) := by decide +kernel
theorem dX1_init_15 : decode cX1_init 15 = .ok (.newarray .int, 2) := by decide +kernel
theorem dX1_init_17 : decode cX1_init 17 = .ok (.putfield 15, 3) := by decide +kernel
theorem dX1_init_20 : decode cX1_init 20 = .ok (.aload_n 0, 1) := by decide +kernel
theorem dX1_init_21 : decode cX1_init 21 = .ok (.iconst 0, 1) := by decide +kernel
theorem dX1_init_22 : decode cX1_init 22 = .ok (.putfield 18, 3) := by decide +kernel
theorem dX1_init_25 : decode cX1_init 25 = .ok (.return_, 1) := by decide +kernel
theorem dX1_tell_0 : decode cX1_tell 0 = .ok (.aload_n 0, 1) := by decide +kernel
theorem dX1_tell_1 : decode cX1_tell 1 = .ok (.getfield 18, 3) := by decide +kernel
theorem dX1_tell_4 : decode cX1_tell 4 = .ok (.aload_n 0, 1) := by decide +kernel
theorem dX1_tell_5 : decode cX1_tell 5 = .ok (.getfield 15, 3) := by decide +kernel
theorem dX1_tell_8 : decode cX1_tell 8 = .ok (.arraylength, 1) := by decide +kernel
theorem dX1_tell_9 : decode cX1_tell 9 = .ok (.if_icmp .ge 33, 3) := by decide +kernel
theorem dX1_tell_12 : decode cX1_tell 12 = .ok (.aload_n 0, 1) := by decide +kernel
theorem dX1_tell_13 : decode cX1_tell 13 = .ok (.getfield 9, 3) := by decide +kernel
theorem dX1_tell_16 : decode cX1_tell 16 = .ok (.aload_n 0, 1) := by decide +kernel
theorem dX1_tell_17 : decode cX1_tell 17 = .ok (.getfield 18, 3) := by decide +kernel
theorem dX1_tell_20 : decode cX1_tell 20 = .ok (.iload_n 1, 1) := by decide +kernel
theorem dX1_tell_21 : decode cX1_tell 21 = .ok (.iastore, 1) := by decide +kernel
theorem dX1_tell_22 : decode cX1_tell 22 = .ok (.aload_n 0, 1) := by decide +kernel
theorem dX1_tell_23 : decode cX1_tell 23 = .ok (.getfield 15, 3) := by decide +kernel
theorem dX1_tell_26 : decode cX1_tell 26 = .ok (.aload_n 0, 1) := by decide +kernel
theorem dX1_tell_27 : decode cX1_tell 27 = .ok (.getfield 18, 3) := by decide +kernel
theorem dX1_tell_30 : decode cX1_tell 30 = .ok (.iload_n 2, 1) := by decide +kernel
theorem dX1_tell_31 : decode cX1_tell 31 = .ok (.iastore, 1) := by decide +kernel
theorem dX1_tell_32 : decode cX1_tell 32 = .ok (.aload_n 0, 1) := by decide +kernel
theorem dX1_tell_33 : decode cX1_tell 33 = .ok (.dup, 1) := by decide +kernel
theorem dX1_tell_34 : decode cX1_tell 34 = .ok (.getfield 18, 3) := by decide +kernel
theorem dX1_tell_37 : decode cX1_tell 37 = .ok (.iconst 1, 1) := by decide +kernel
theorem dX1_tell_38 : decode cX1_tell 38 = .ok (.iadd, 1) := by decide +kernel
theorem dX1_tell_39 : decode cX1_tell 39 = .ok (.putfield 18, 3) := by decide +kernel
theorem dX1_tell_42 : decode cX1_tell 42 = .ok (.return_, 1) := by decide +kernel
theorem dX1_latest_0 : decode cX1_latest 0 = .ok (.aload_n 0, 1) := by decide +kernel
theorem dX1_latest_1 : decode cX1_latest 1 = .ok (.getfield 18, 3) := by decide +kernel
theorem dX1_latest_4 : decode cX1_latest 4 = .ok (.ifCond .le 17, 3) := by decide +kernel
theorem dX1_latest_7 : decode cX1_latest 7 = .ok (.aload_n 0, 1) := by decide +kernel
theorem dX1_latest_8 : decode cX1_latest 8 = .ok (.getfield 15, 3) := by decide +kernel
theorem dX1_latest_11 : decode cX1_latest 11 = .ok (.aload_n 0, 1) := by decide +kernel
theorem dX1_latest_12 : decode cX1_latest 12 = .ok (.getfield 18, 3) := by decide +kernel
theorem dX1_latest_15 : decode cX1_latest 15 = .ok (.iconst 1, 1) := by decide +kernel
theorem dX1_latest_16 : decode cX1_latest 16 = .ok (.isub, 1) := by decide +kernel
theorem dX1_latest_17 : decode cX1_latest 17 = .ok (.iaload, 1) := by decide +kernel
theorem dX1_latest_18 : decode cX1_latest 18 = .ok (.goto 4, 3) := by decide +kernel
theorem dX1_latest_21 : decode cX1_latest 21 = .ok (.iconst (-1), 1) := by decide +kernel
theorem dX1_latest_22 : decode cX1_latest 22 = .ok (.ireturn, 1) := by decide +kernel
theorem dX1_heard_0 : decode cX1_heard 0 = .ok (.iconst (-1), 1) := by decide +kernel
theorem dX1_heard_1 : decode cX1_heard 1 = .ok (.istore_n 3, 1) := by decide +kernel
theorem dX1_heard_2 : decode cX1_heard 2 = .ok (.iconst 0, 1) := by decide +kernel
theorem dX1_heard_3 : decode cX1_heard 3 = .ok (.istore 4, 2) := by decide +kernel
theorem dX1_heard_5 : decode cX1_heard 5 = .ok (.iload 4, 2) := by decide +kernel
theorem dX1_heard_7 : decode cX1_heard 7 = .ok (.aload_n 0, 1) := by decide +kernel
theorem dX1_heard_8 : decode cX1_heard 8 = .ok (.getfield 18, 3) := by decide +kernel
theorem dX1_heard_11 : decode cX1_heard 11 = .ok (.if_icmp .ge 30, 3) := by decide +kernel
theorem dX1_heard_14 : decode cX1_heard 14 = .ok (.aload_n 0, 1) := by decide +kernel
theorem dX1_heard_15 : decode cX1_heard 15 = .ok (.getfield 9, 3) := by decide +kernel
theorem dX1_heard_18 : decode cX1_heard 18 = .ok (.iload 4, 2) := by decide +kernel
theorem dX1_heard_20 : decode cX1_heard 20 = .ok (.iaload, 1) := by decide +kernel
theorem dX1_heard_21 : decode cX1_heard 21 = .ok (.iload_n 1, 1) := by decide +kernel
theorem dX1_heard_22 : decode cX1_heard 22 = .ok (.iadd, 1) := by decide +kernel
theorem dX1_heard_23 : decode cX1_heard 23 = .ok (.iload_n 2, 1) := by decide +kernel
theorem dX1_heard_24 : decode cX1_heard 24 = .ok (.if_icmp .gt 11, 3) := by decide +kernel
theorem dX1_heard_27 : decode cX1_heard 27 = .ok (.aload_n 0, 1) := by decide +kernel
theorem dX1_heard_28 : decode cX1_heard 28 = .ok (.getfield 15, 3) := by decide +kernel
theorem dX1_heard_31 : decode cX1_heard 31 = .ok (.iload 4, 2) := by decide +kernel
theorem dX1_heard_33 : decode cX1_heard 33 = .ok (.iaload, 1) := by decide +kernel
theorem dX1_heard_34 : decode cX1_heard 34 = .ok (.istore_n 3, 1) := by decide +kernel
theorem dX1_heard_35 : decode cX1_heard 35 = .ok (.iinc 4 1, 3) := by decide +kernel
theorem dX1_heard_38 : decode cX1_heard 38 = .ok (.goto (-33), 3) := by decide +kernel
theorem dX1_heard_41 : decode cX1_heard 41 = .ok (.iload_n 3, 1) := by decide +kernel
theorem dX1_heard_42 : decode cX1_heard 42 = .ok (.ireturn, 1) := by decide +kernel
theorem dX2_init_0 : decode cX2_init 0 = .ok (.aload_n 0, 1) := by decide +kernel
theorem dX2_init_1 : decode cX2_init 1 = .ok (.invokespecial 3, 3) := by decide +kernel
theorem dX2_init_4 : decode cX2_init 4 = .ok (.aload_n 0, 1) := by decide +kernel
theorem dX2_init_5 : decode cX2_init 5 = .ok (.bipush 60, 2) := by decide +kernel
theorem dX2_init_7 : decode cX2_init 7 = .ok (.newarray .int, 2) := by decide +kernel
theorem dX2_init_9 : decode cX2_init 9 = .ok (.putfield 9, 3) := by decide +kernel
theorem dX2_init_12 : decode cX2_init 12 = .ok (.aload_n 0, 1) := by decide +kernel
theorem dX2_init_13 : decode cX2_init 13 = .ok (.sipush 240, 3) := by decide +kernel
theorem dX2_init_16 : decode cX2_init 16 = .ok (.newarray .int, 2) := by decide +kernel
theorem dX2_init_18 : decode cX2_init 18 = .ok (.putfield 15, 3) := by decide +kernel
theorem dX2_init_21 : decode cX2_init 21 = .ok (.aload_n 0, 1) := by decide +kernel
theorem dX2_init_22 : decode cX2_init 22 = .ok (.bipush 60, 2) := by decide +kernel
theorem dX2_init_24 : decode cX2_init 24 = .ok (.newarray .int, 2) := by decide +kernel
theorem dX2_init_26 : decode cX2_init 26 = .ok (.putfield 18, 3) := by decide +kernel
theorem dX2_init_29 : decode cX2_init 29 = .ok (.aload_n 0, 1) := by decide +kernel
theorem dX2_init_30 : decode cX2_init 30 = .ok (.bipush 60, 2) := by decide +kernel
theorem dX2_init_32 : decode cX2_init 32 = .ok (.newarray .int, 2) := by decide +kernel
theorem dX2_init_34 : decode cX2_init 34 = .ok (.putfield 21, 3) := by decide +kernel
theorem dX2_init_37 : decode cX2_init 37 = .ok (.aload_n 0, 1) := by decide +kernel
theorem dX2_init_38 : decode cX2_init 38 = .ok (.bipush 10, 2) := by decide +kernel
theorem dX2_init_40 : decode cX2_init 40 = .ok (.newarray .int, 2) := by decide +kernel
theorem dX2_init_42 : decode cX2_init 42 = .ok (.putfield 24, 3) := by decide +kernel
theorem dX2_init_45 : decode cX2_init 45 = .ok (.aload_n 0, 1) := by decide +kernel
theorem dX2_init_46 : decode cX2_init 46 = .ok (.iconst 4, 1) := by decide +kernel
theorem dX2_init_47 : decode cX2_init 47 = .ok (.newarray .int, 2) := by decide +kernel
theorem dX2_init_49 : decode cX2_init 49 = .ok (.putfield 27, 3) := by decide +kernel
theorem dX2_init_52 : decode cX2_init 52 = .ok (.aload_n 0, 1) := by decide +kernel
theorem dX2_init_53 : decode cX2_init 53 = .ok (.iconst 0, 1) := by decide +kernel
theorem dX2_init_54 : decode cX2_init 54 = .ok (.putfield 30, 3) := by decide +kernel
theorem dX2_init_57 : decode cX2_init 57 = .ok (.aload_n 0, 1) := by decide +kernel
theorem dX2_init_58 : decode cX2_init 58 = .ok (.iconst 0, 1) := by decide +kernel
theorem dX2_init_59 : decode cX2_init 59 = .ok (.putfield 34, 3) := by decide +kernel
theorem dX2_init_62 : decode cX2_init 62 = .ok (.aload_n 0, 1) := by decide +kernel
theorem dX2_init_63 : decode cX2_init 63 = .ok (.iconst 0, 1) := by decide +kernel
theorem dX2_init_64 : decode cX2_init 64 = .ok (.putfield 37, 3) := by decide +kernel
theorem dX2_init_67 : decode cX2_init 67 = .ok (.iconst 0, 1) := by decide +kernel
theorem dX2_init_68 : decode cX2_init 68 = .ok (.istore_n 1, 1) := by decide +kernel
theorem dX2_init_69 : decode cX2_init 69 = .ok (.iload_n 1, 1) := by decide +kernel
theorem dX2_init_70 : decode cX2_init 70 = .ok (.bipush 10, 2) := by decide +kernel
theorem dX2_init_72 : decode cX2_init 72 = .ok (.if_icmp .ge 18, 3) := by decide +kernel
theorem dX2_init_75 : decode cX2_init 75 = .ok (.aload_n 0, 1) := by decide +kernel
theorem dX2_init_76 : decode cX2_init 76 = .ok (.getfield 24, 3) := by decide +kernel
theorem dX2_init_79 : decode cX2_init 79 = .ok (.iload_n 1, 1) := by decide +kernel
theorem dX2_init_80 : decode cX2_init 80 = .ok (.iconst 1, 1) := by decide +kernel
theorem dX2_init_81 : decode cX2_init 81 = .ok (.iload_n 1, 1) := by decide +kernel
theorem dX2_init_82 : decode cX2_init 82 = .ok (.ishl, 1) := by decide +kernel
theorem dX2_init_83 : decode cX2_init 83 = .ok (.iastore, 1) := by decide +kernel
theorem dX2_init_84 : decode cX2_init 84 = .ok (.iinc 1 1, 3) := by decide +kernel
theorem dX2_init_87 : decode cX2_init 87 = .ok (.goto (-18), 3) := by decide +kernel
theorem dX2_init_90 : decode cX2_init 90 = .ok (.return_, 1) := by decide +kernel
theorem dX2_lay_0 : decode cX2_lay 0 = .ok (.aload_n 0, 1) := by decide +kernel
theorem dX2_lay_1 : decode cX2_lay 1 = .ok (.getfield 30, 3) := by decide +kernel
theorem dX2_lay_4 : decode cX2_lay 4 = .ok (.bipush 60, 2) := by decide +kernel
theorem dX2_lay_6 : decode cX2_lay 6 = .ok (.if_icmp .lt 5, 3) := by decide +kernel
theorem dX2_lay_9 : decode cX2_lay 9 = .ok (.iconst (-1), 1) := by decide +kernel
theorem dX2_lay_10 : decode cX2_lay 10 = .ok (.ireturn, 1) := by decide +kernel
theorem dX2_lay_11 : decode cX2_lay 11 = .ok (.aload_n 0, 1) := by decide +kernel
theorem dX2_lay_12 : decode cX2_lay 12 = .ok (.getfield 30, 3) := by decide +kernel
theorem dX2_lay_15 : decode cX2_lay 15 = .ok (.istore 7, 2) := by decide +kernel
theorem dX2_lay_17 : decode cX2_lay 17 = .ok (.aload_n 0, 1) := by decide +kernel
theorem dX2_lay_18 : decode cX2_lay 18 = .ok (.getfield 9, 3) := by decide +kernel
theorem dX2_lay_21 : decode cX2_lay 21 = .ok (.iload 7, 2) := by decide +kernel
theorem dX2_lay_23 : decode cX2_lay 23 = .ok (.iload_n 1, 1) := by decide +kernel
theorem dX2_lay_24 : decode cX2_lay 24 = .ok (.iastore, 1) := by decide +kernel
theorem dX2_lay_25 : decode cX2_lay 25 = .ok (.aload_n 0, 1) := by decide +kernel
theorem dX2_lay_26 : decode cX2_lay 26 = .ok (.getfield 18, 3) := by decide +kernel
theorem dX2_lay_29 : decode cX2_lay 29 = .ok (.iload 7, 2) := by decide +kernel
theorem dX2_lay_31 : decode cX2_lay 31 = .ok (.iload_n 2, 1) := by decide +kernel
theorem dX2_lay_32 : decode cX2_lay 32 = .ok (.iastore, 1) := by decide +kernel
theorem dX2_lay_33 : decode cX2_lay 33 = .ok (.aload_n 0, 1) := by decide +kernel
theorem dX2_lay_34 : decode cX2_lay 34 = .ok (.getfield 21, 3) := by decide +kernel
theorem dX2_lay_37 : decode cX2_lay 37 = .ok (.iload 7, 2) := by decide +kernel
theorem dX2_lay_39 : decode cX2_lay 39 = .ok (.iconst (-1), 1) := by decide +kernel
theorem dX2_lay_40 : decode cX2_lay 40 = .ok (.iastore, 1) := by decide +kernel
theorem dX2_lay_41 : decode cX2_lay 41 = .ok (.iload 7, 2) := by decide +kernel
theorem dX2_lay_43 : decode cX2_lay 43 = .ok (.iconst 4, 1) := by decide +kernel
theorem dX2_lay_44 : decode cX2_lay 44 = .ok (.imul, 1) := by decide +kernel
theorem dX2_lay_45 : decode cX2_lay 45 = .ok (.istore 8, 2) := by decide +kernel
theorem dX2_lay_47 : decode cX2_lay 47 = .ok (.aload_n 0, 1) := by decide +kernel
theorem dX2_lay_48 : decode cX2_lay 48 = .ok (.getfield 15, 3) := by decide +kernel
theorem dX2_lay_51 : decode cX2_lay 51 = .ok (.iload 8, 2) := by decide +kernel
theorem dX2_lay_53 : decode cX2_lay 53 = .ok (.iload_n 3, 1) := by decide +kernel
theorem dX2_lay_54 : decode cX2_lay 54 = .ok (.iastore, 1) := by decide +kernel
theorem dX2_lay_55 : decode cX2_lay 55 = .ok (.aload_n 0, 1) := by decide +kernel
theorem dX2_lay_56 : decode cX2_lay 56 = .ok (.getfield 15, 3) := by decide +kernel
theorem dX2_lay_59 : decode cX2_lay 59 = .ok (.iload 8, 2) := by decide +kernel
theorem dX2_lay_61 : decode cX2_lay 61 = .ok (.iconst 1, 1) := by decide +kernel
theorem dX2_lay_62 : decode cX2_lay 62 = .ok (.iadd, 1) := by decide +kernel
theorem dX2_lay_63 : decode cX2_lay 63 = .ok (.iload 4, 2) := by decide +kernel
theorem dX2_lay_65 : decode cX2_lay 65 = .ok (.iastore, 1) := by decide +kernel
theorem dX2_lay_66 : decode cX2_lay 66 = .ok (.aload_n 0, 1) := by decide +kernel
theorem dX2_lay_67 : decode cX2_lay 67 = .ok (.getfield 15, 3) := by decide +kernel
theorem dX2_lay_70 : decode cX2_lay 70 = .ok (.iload 8, 2) := by decide +kernel
theorem dX2_lay_72 : decode cX2_lay 72 = .ok (.iconst 2, 1) := by decide +kernel
theorem dX2_lay_73 : decode cX2_lay 73 = .ok (.iadd, 1) := by decide +kernel
theorem dX2_lay_74 : decode cX2_lay 74 = .ok (.iload 5, 2) := by decide +kernel
theorem dX2_lay_76 : decode cX2_lay 76 = .ok (.iastore, 1) := by decide +kernel
theorem dX2_lay_77 : decode cX2_lay 77 = .ok (.aload_n 0, 1) := by decide +kernel
theorem dX2_lay_78 : decode cX2_lay 78 = .ok (.getfield 15, 3) := by decide +kernel
theorem dX2_lay_81 : decode cX2_lay 81 = .ok (.iload 8, 2) := by decide +kernel
theorem dX2_lay_83 : decode cX2_lay 83 = .ok (.iconst 3, 1) := by decide +kernel
theorem dX2_lay_84 : decode cX2_lay 84 = .ok (.iadd, 1) := by decide +kernel
theorem dX2_lay_85 : decode cX2_lay 85 = .ok (.iload 6, 2) := by decide +kernel
theorem dX2_lay_87 : decode cX2_lay 87 = .ok (.iastore, 1) := by decide +kernel
theorem dX2_lay_88 : decode cX2_lay 88 = .ok (.aload_n 0, 1) := by decide +kernel
theorem dX2_lay_89 : decode cX2_lay 89 = .ok (.dup, 1) := by decide +kernel
theorem dX2_lay_90 : decode cX2_lay 90 = .ok (.getfield 30, 3) := by decide +kernel
theorem dX2_lay_93 : decode cX2_lay 93 = .ok (.iconst 1, 1) := by decide +kernel
theorem dX2_lay_94 : decode cX2_lay 94 = .ok (.iadd, 1) := by decide +kernel
theorem dX2_lay_95 : decode cX2_lay 95 = .ok (.putfield 30, 3) := by decide +kernel
theorem dX2_lay_98 : decode cX2_lay 98 = .ok (.iload 7, 2) := by decide +kernel
theorem dX2_lay_100 : decode cX2_lay 100 = .ok (.ireturn, 1) := by decide +kernel
theorem dX2_strikeOut_0 : decode cX2_strikeOut 0 = .ok (.aload_n 0, 1) := by decide +kernel
theorem dX2_strikeOut_1 : decode cX2_strikeOut 1 = .ok (.getfield 21, 3) := by decide +kernel
theorem dX2_strikeOut_4 : decode cX2_strikeOut 4 = .ok (.iload_n 1, 1) := by decide +kernel
theorem dX2_strikeOut_5 : decode cX2_strikeOut 5 = .ok (.iaload, 1) := by decide +kernel
theorem dX2_strikeOut_6 : decode cX2_strikeOut 6 = .ok (.iconst (-1), 1) := by decide +kernel
theorem dX2_strikeOut_7 : decode cX2_strikeOut 7 = .ok (.if_icmp .eq 5, 3) := by decide +kernel
theorem dX2_strikeOut_10 : decode cX2_strikeOut 10 = .ok (.iconst 0, 1) := by decide +kernel
theorem dX2_strikeOut_11 : decode cX2_strikeOut 11 = .ok (.ireturn, 1) := by decide +kernel
theorem dX2_strikeOut_12 : decode cX2_strikeOut 12 = .ok (.aload_n 0, 1) := by decide +kernel
theorem dX2_strikeOut_13 : decode cX2_strikeOut 13 = .ok (.getfield 21, 3) := by decide +kernel
theorem dX2_strikeOut_16 : decode cX2_strikeOut 16 = .ok (.iload_n 1, 1) := by decide +kernel
theorem dX2_strikeOut_17 : decode cX2_strikeOut 17 = .ok (.iload_n 2, 1) := by decide +kernel
theorem dX2_strikeOut_18 : decode cX2_strikeOut 18 = .ok (.iastore, 1) := by decide +kernel
theorem dX2_strikeOut_19 : decode cX2_strikeOut 19 = .ok (.aload_n 0, 1) := by decide +kernel
theorem dX2_strikeOut_20 : decode cX2_strikeOut 20 = .ok (.dup, 1) := by decide +kernel
theorem dX2_strikeOut_21 : decode cX2_strikeOut 21 = .ok (.getfield 34, 3) := by decide +kernel
theorem dX2_strikeOut_24 : decode cX2_strikeOut 24 = .ok (.iconst 1, 1) := by decide +kernel
theorem dX2_strikeOut_25 : decode cX2_strikeOut 25 = .ok (.iadd, 1) := by decide +kernel
theorem dX2_strikeOut_26 : decode cX2_strikeOut 26 = .ok (.putfield 34, 3) := by decide +kernel
theorem dX2_strikeOut_29 : decode cX2_strikeOut 29 = .ok (.iconst 1, 1) := by decide +kernel
theorem dX2_strikeOut_30 : decode cX2_strikeOut 30 = .ok (.ireturn, 1) := by decide +kernel
theorem dX2_confuse_0 : decode cX2_confuse 0 = .ok (.aload_n 0, 1) := by decide +kernel
theorem dX2_confuse_1 : decode cX2_confuse 1 = .ok (.getfield 24, 3) := by decide +kernel
theorem dX2_confuse_4 : decode cX2_confuse 4 = .ok (.iload_n 1, 1) := by decide +kernel
theorem dX2_confuse_5 : decode cX2_confuse 5 = .ok (.iaload, 1) := by decide +kernel
theorem dX2_confuse_6 : decode cX2_confuse 6 = .ok (.iload_n 2, 1) := by decide +kernel
theorem dX2_confuse_7 : decode cX2_confuse 7 = .ok (.ishr, 1) := by decide +kernel
theorem dX2_confuse_8 : decode cX2_confuse 8 = .ok (.iconst 1, 1) := by decide +kernel
theorem dX2_confuse_9 : decode cX2_confuse 9 = .ok (.iand, 1) := by decide +kernel
theorem dX2_confuse_10 : decode cX2_confuse 10 = .ok (.iconst 1, 1) := by decide +kernel
theorem dX2_confuse_11 : decode cX2_confuse 11 = .ok (.if_icmp .ne 5, 3) := by decide +kernel
theorem dX2_confuse_14 : decode cX2_confuse 14 = .ok (.iconst 0, 1) := by decide +kernel
theorem dX2_confuse_15 : decode cX2_confuse 15 = .ok (.ireturn, 1) := by decide +kernel
theorem dX2_confuse_16 : decode cX2_confuse 16 = .ok (.aload_n 0, 1) := by decide +kernel
theorem dX2_confuse_17 : decode cX2_confuse 17 = .ok (.getfield 24, 3) := by decide +kernel
theorem dX2_confuse_20 : decode cX2_confuse 20 = .ok (.iload_n 1, 1) := by decide +kernel
theorem dX2_confuse_21 : decode cX2_confuse 21 = .ok (.dup2, 1) := by decide +kernel
theorem dX2_confuse_22 : decode cX2_confuse 22 = .ok (.iaload, 1) := by decide +kernel
theorem dX2_confuse_23 : decode cX2_confuse 23 = .ok (.iconst 1, 1) := by decide +kernel
theorem dX2_confuse_24 : decode cX2_confuse 24 = .ok (.iload_n 2, 1) := by decide +kernel
theorem dX2_confuse_25 : decode cX2_confuse 25 = .ok (.ishl, 1) := by decide +kernel
theorem dX2_confuse_26 : decode cX2_confuse 26 = .ok (.ior, 1) := by decide +kernel
theorem dX2_confuse_27 : decode cX2_confuse 27 = .ok (.iastore, 1) := by decide +kernel
theorem dX2_confuse_28 : decode cX2_confuse 28 = .ok (.aload_n 0, 1) := by decide +kernel
theorem dX2_confuse_29 : decode cX2_confuse 29 = .ok (.getfield 24, 3) := by decide +kernel
theorem dX2_confuse_32 : decode cX2_confuse 32 = .ok (.iload_n 2, 1) := by decide +kernel
theorem dX2_confuse_33 : decode cX2_confuse 33 = .ok (.dup2, 1) := by decide +kernel
theorem dX2_confuse_34 : decode cX2_confuse 34 = .ok (.iaload, 1) := by decide +kernel
theorem dX2_confuse_35 : decode cX2_confuse 35 = .ok (.iconst 1, 1) := by decide +kernel
theorem dX2_confuse_36 : decode cX2_confuse 36 = .ok (.iload_n 1, 1) := by decide +kernel
theorem dX2_confuse_37 : decode cX2_confuse 37 = .ok (.ishl, 1) := by decide +kernel
theorem dX2_confuse_38 : decode cX2_confuse 38 = .ok (.ior, 1) := by decide +kernel
theorem dX2_confuse_39 : decode cX2_confuse 39 = .ok (.iastore, 1) := by decide +kernel
theorem dX2_confuse_40 : decode cX2_confuse 40 = .ok (.aload_n 0, 1) := by decide +kernel
theorem dX2_confuse_41 : decode cX2_confuse 41 = .ok (.dup, 1) := by decide +kernel
theorem dX2_confuse_42 : decode cX2_confuse 42 = .ok (.getfield 37, 3) := by decide +kernel
theorem dX2_confuse_45 : decode cX2_confuse 45 = .ok (.iconst 1, 1) := by decide +kernel
theorem dX2_confuse_46 : decode cX2_confuse 46 = .ok (.iadd, 1) := by decide +kernel
theorem dX2_confuse_47 : decode cX2_confuse 47 = .ok (.putfield 37, 3) := by decide +kernel
theorem dX2_confuse_50 : decode cX2_confuse 50 = .ok (.iconst 1, 1) := by decide +kernel
theorem dX2_confuse_51 : decode cX2_confuse 51 = .ok (.ireturn, 1) := by decide +kernel
set_option maxRecDepth 20000 in
theorem ggX2_compare_X2_isKnown : GoodIn wsX2_compare wsX2_isKnown := goodIn_r _ [8, 9, 10, 17, 18, 19, 20, 21, 22, 23, 24, 25] (by decide +kernel) (by decide +kernel)
set_option maxRecDepth 20000 in
theorem gX2_compare_X2_isKnown : GoodIn wsX2_compare (wsV RX2 40 RX2 yX2_isKnown wsX2_isKnown) := goodIn_app (goodIn_of _ (by decide +kernel)) ggX2_compare_X2_isKnown
set_option maxRecDepth 20000 in
theorem ggX2_compare_X2_narrow : GoodIn wsX2_compare wsX2_narrow := goodIn_r _ [14, 15, 1, 16, 17, 18, 19, 20, 21, 22, 23, 24, 25] (by decide +kernel) (by decide +kernel)
set_option maxRecDepth 20000 in
theorem gX2_compare_X2_narrow : GoodIn wsX2_compare (wsV RX2 44 RX2 yX2_narrow wsX2_narrow) := goodIn_app (goodIn_of _ (by decide +kernel)) ggX2_compare_X2_narrow
theorem dX2_compare_0 : decode cX2_compare 0 = .ok (.iconst 0, 1) := by decide +kernel
theorem dX2_compare_1 : decode cX2_compare 1 = .ok (.istore_n 3, 1) := by decide +kernel
theorem dX2_compare_2 : decode cX2_compare 2 = .ok (.iload_n 3, 1) := by decide +kernel
theorem dX2_compare_3 : decode cX2_compare 3 = .ok (.iconst 4, 1) := by decide +kernel
theorem dX2_compare_4 : decode cX2_compare 4 = .ok (.if_icmp .ge 18, 3) := by decide +kernel
theorem dX2_compare_7 : decode cX2_compare 7 = .ok (.aload_n 0, 1) := by decide +kernel
theorem dX2_compare_8 : decode cX2_compare 8 = .ok (.getfield 27, 3) := by decide +kernel
theorem dX2_compare_11 : decode cX2_compare 11 = .ok (.iload_n 3, 1) := by decide +kernel
theorem dX2_compare_12 : decode cX2_compare 12 = .ok (.sipush 1023, 3) := by decide +kernel
theorem dX2_compare_15 : decode cX2_compare 15 = .ok (.iastore, 1) := by decide +kernel
theorem dX2_compare_16 : decode cX2_compare 16 = .ok (.iinc 3 1, 3) := by decide +kernel
theorem dX2_compare_19 : decode cX2_compare 19 = .ok (.goto (-17), 3) := by decide +kernel
theorem dX2_compare_22 : decode cX2_compare 22 = .ok (.iconst 0, 1) := by decide +kernel
theorem dX2_compare_23 : decode cX2_compare 23 = .ok (.istore_n 3, 1) := by decide +kernel
theorem dX2_compare_24 : decode cX2_compare 24 = .ok (.iload_n 3, 1) := by decide +kernel
theorem dX2_compare_25 : decode cX2_compare 25 = .ok (.aload_n 0, 1) := by decide +kernel
theorem dX2_compare_26 : decode cX2_compare 26 = .ok (.getfield 30, 3) := by decide +kernel
theorem dX2_compare_29 : decode cX2_compare 29 = .ok (.if_icmp .ge 33, 3) := by decide +kernel
theorem dX2_compare_32 : decode cX2_compare 32 = .ok (.aload_n 0, 1) := by decide +kernel
theorem dX2_compare_33 : decode cX2_compare 33 = .ok (.getfield 9, 3) := by decide +kernel
theorem dX2_compare_36 : decode cX2_compare 36 = .ok (.iload_n 3, 1) := by decide +kernel
theorem dX2_compare_37 : decode cX2_compare 37 = .ok (.iaload, 1) := by decide +kernel
theorem dX2_compare_38 : decode cX2_compare 38 = .ok (.iload_n 1, 1) := by decide +kernel
theorem dX2_compare_39 : decode cX2_compare 39 = .ok (.if_icmp .ne 17, 3) := by decide +kernel
theorem dX2_compare_42 : decode cX2_compare 42 = .ok (.aload_n 0, 1) := by decide +kernel
theorem dX2_compare_43 : decode cX2_compare 43 = .ok (.iload_n 3, 1) := by decide +kernel
theorem dX2_compare_44 : decode cX2_compare 44 = .ok (.iload_n 2, 1) := by decide +kernel
theorem dX2_compare_45 : decode cX2_compare 45 = .ok (.invokevirtual 40, 3) := by decide +kernel
theorem dX2_compare_48 : decode cX2_compare 48 = .ok (.ifCond .eq 8, 3) := by decide +kernel
theorem dX2_compare_51 : decode cX2_compare 51 = .ok (.aload_n 0, 1) := by decide +kernel
theorem dX2_compare_52 : decode cX2_compare 52 = .ok (.iload_n 3, 1) := by decide +kernel
theorem dX2_compare_53 : decode cX2_compare 53 = .ok (.invokevirtual 44, 3) := by decide +kernel
theorem dX2_compare_56 : decode cX2_compare 56 = .ok (.iinc 3 1, 3) := by decide +kernel
theorem dX2_compare_59 : decode cX2_compare 59 = .ok (.goto (-35), 3) := by decide +kernel
theorem dX2_compare_62 : decode cX2_compare 62 = .ok (.return_, 1) := by decide +kernel
theorem dX2_isKnown_0 : decode cX2_isKnown 0 = .ok (.iload_n 2, 1) := by decide +kernel
theorem dX2_isKnown_1 : decode cX2_isKnown 1 = .ok (.aload_n 0, 1) := by decide +kernel
theorem dX2_isKnown_2 : decode cX2_isKnown 2 = .ok (.getfield 18, 3) := by decide +kernel
theorem dX2_isKnown_5 : decode cX2_isKnown 5 = .ok (.iload_n 1, 1) := by decide +kernel
theorem dX2_isKnown_6 : decode cX2_isKnown 6 = .ok (.iaload, 1) := by decide +kernel
theorem dX2_isKnown_7 : decode cX2_isKnown 7 = .ok (.if_icmp .lt 27, 3) := by decide +kernel
theorem dX2_isKnown_10 : decode cX2_isKnown 10 = .ok (.aload_n 0, 1) := by decide +kernel
theorem dX2_isKnown_11 : decode cX2_isKnown 11 = .ok (.getfield 21, 3) := by decide +kernel
theorem dX2_isKnown_14 : decode cX2_isKnown 14 = .ok (.iload_n 1, 1) := by decide +kernel
theorem dX2_isKnown_15 : decode cX2_isKnown 15 = .ok (.iaload, 1) := by decide +kernel
theorem dX2_isKnown_16 : decode cX2_isKnown 16 = .ok (.iconst (-1), 1) := by decide +kernel
theorem dX2_isKnown_17 : decode cX2_isKnown 17 = .ok (.if_icmp .eq 13, 3) := by decide +kernel
theorem dX2_isKnown_20 : decode cX2_isKnown 20 = .ok (.iload_n 2, 1) := by decide +kernel
theorem dX2_isKnown_21 : decode cX2_isKnown 21 = .ok (.aload_n 0, 1) := by decide +kernel
theorem dX2_isKnown_22 : decode cX2_isKnown 22 = .ok (.getfield 21, 3) := by decide +kernel
theorem dX2_isKnown_25 : decode cX2_isKnown 25 = .ok (.iload_n 1, 1) := by decide +kernel
theorem dX2_isKnown_26 : decode cX2_isKnown 26 = .ok (.iaload, 1) := by decide +kernel
theorem dX2_isKnown_27 : decode cX2_isKnown 27 = .ok (.if_icmp .ge 7, 3) := by decide +kernel
theorem dX2_isKnown_30 : decode cX2_isKnown 30 = .ok (.iconst 1, 1) := by decide +kernel
theorem dX2_isKnown_31 : decode cX2_isKnown 31 = .ok (.goto 4, 3) := by decide +kernel
theorem dX2_isKnown_34 : decode cX2_isKnown 34 = .ok (.iconst 0, 1) := by decide +kernel
theorem dX2_isKnown_35 : decode cX2_isKnown 35 = .ok (.ireturn, 1) := by decide +kernel
theorem dX2_narrow_0 : decode cX2_narrow 0 = .ok (.iconst 0, 1) := by decide +kernel
theorem dX2_narrow_1 : decode cX2_narrow 1 = .ok (.istore_n 2, 1) := by decide +kernel
theorem dX2_narrow_2 : decode cX2_narrow 2 = .ok (.iload_n 2, 1) := by decide +kernel
theorem dX2_narrow_3 : decode cX2_narrow 3 = .ok (.iconst 4, 1) := by decide +kernel
theorem dX2_narrow_4 : decode cX2_narrow 4 = .ok (.if_icmp .ge 45, 3) := by decide +kernel
theorem dX2_narrow_7 : decode cX2_narrow 7 = .ok (.aload_n 0, 1) := by decide +kernel
theorem dX2_narrow_8 : decode cX2_narrow 8 = .ok (.getfield 15, 3) := by decide +kernel
theorem dX2_narrow_11 : decode cX2_narrow 11 = .ok (.iload_n 1, 1) := by decide +kernel
theorem dX2_narrow_12 : decode cX2_narrow 12 = .ok (.iconst 4, 1) := by decide +kernel
theorem dX2_narrow_13 : decode cX2_narrow 13 = .ok (.imul, 1) := by decide +kernel
theorem dX2_narrow_14 : decode cX2_narrow 14 = .ok (.iload_n 2, 1) := by decide +kernel
theorem dX2_narrow_15 : decode cX2_narrow 15 = .ok (.iadd, 1) := by decide +kernel
theorem dX2_narrow_16 : decode cX2_narrow 16 = .ok (.iaload, 1) := by decide +kernel
theorem dX2_narrow_17 : decode cX2_narrow 17 = .ok (.istore_n 3, 1) := by decide +kernel
theorem dX2_narrow_18 : decode cX2_narrow 18 = .ok (.iload_n 3, 1) := by decide +kernel
theorem dX2_narrow_19 : decode cX2_narrow 19 = .ok (.ifCond .lt 24, 3) := by decide +kernel
theorem dX2_narrow_22 : decode cX2_narrow 22 = .ok (.iload_n 3, 1) := by decide +kernel
theorem dX2_narrow_23 : decode cX2_narrow 23 = .ok (.bipush 10, 2) := by decide +kernel
theorem dX2_narrow_25 : decode cX2_narrow 25 = .ok (.if_icmp .ge 18, 3) := by decide +kernel
theorem dX2_narrow_28 : decode cX2_narrow 28 = .ok (.aload_n 0, 1) := by decide +kernel
theorem dX2_narrow_29 : decode cX2_narrow 29 = .ok (.getfield 27, 3) := by decide +kernel
theorem dX2_narrow_32 : decode cX2_narrow 32 = .ok (.iload_n 2, 1) := by decide +kernel
theorem dX2_narrow_33 : decode cX2_narrow 33 = .ok (.dup2, 1) := by decide +kernel
theorem dX2_narrow_34 : decode cX2_narrow 34 = .ok (.iaload, 1) := by decide +kernel
theorem dX2_narrow_35 : decode cX2_narrow 35 = .ok (.aload_n 0, 1) := by decide +kernel
theorem dX2_narrow_36 : decode cX2_narrow 36 = .ok (.getfield 24, 3) := by decide +kernel
theorem dX2_narrow_39 : decode cX2_narrow 39 = .ok (.iload_n 3, 1) := by decide +kernel
theorem dX2_narrow_40 : decode cX2_narrow 40 = .ok (.iaload, 1) := by decide +kernel
theorem dX2_narrow_41 : decode cX2_narrow 41 = .ok (.iand, 1) := by decide +kernel
theorem dX2_narrow_42 : decode cX2_narrow 42 = .ok (.iastore, 1) := by decide +kernel
theorem dX2_narrow_43 : decode cX2_narrow 43 = .ok (.iinc 2 1, 3) := by decide +kernel
theorem dX2_narrow_46 : decode cX2_narrow 46 = .ok (.goto (-44), 3) := by decide +kernel
theorem dX2_narrow_49 : decode cX2_narrow 49 = .ok (.return_, 1) := by decide +kernel
set_option maxRecDepth 20000 in
theorem ggX2_agreeing_J6_bitCount_0f7a4 : GoodIn wsX2_agreeing wsJ6_bitCount_0f7a4 := goodIn_r _ [5, 6, 7, 8] (by decide +kernel) (by decide +kernel)
set_option maxRecDepth 20000 in
theorem gX2_agreeing_J6_bitCount_0f7a4 : GoodIn wsX2_agreeing (va_wsS RX2 48 yJ6_bitCount_0f7a4 wsJ6_bitCount_0f7a4) := goodIn_app (goodIn_of _ (by decide +kernel)) ggX2_agreeing_J6_bitCount_0f7a4
theorem dX2_agreeing_0 : decode cX2_agreeing 0 = .ok (.iconst 1, 1) := by decide +kernel
theorem dX2_agreeing_1 : decode cX2_agreeing 1 = .ok (.istore_n 1, 1) := by decide +kernel
theorem dX2_agreeing_2 : decode cX2_agreeing 2 = .ok (.iconst 0, 1) := by decide +kernel
theorem dX2_agreeing_3 : decode cX2_agreeing 3 = .ok (.istore_n 2, 1) := by decide +kernel
theorem dX2_agreeing_4 : decode cX2_agreeing 4 = .ok (.iload_n 2, 1) := by decide +kernel
theorem dX2_agreeing_5 : decode cX2_agreeing 5 = .ok (.iconst 4, 1) := by decide +kernel
theorem dX2_agreeing_6 : decode cX2_agreeing 6 = .ok (.if_icmp .ge 21, 3) := by decide +kernel
theorem dX2_agreeing_9 : decode cX2_agreeing 9 = .ok (.iload_n 1, 1) := by decide +kernel
theorem dX2_agreeing_10 : decode cX2_agreeing 10 = .ok (.aload_n 0, 1) := by decide +kernel
theorem dX2_agreeing_11 : decode cX2_agreeing 11 = .ok (.getfield 27, 3) := by decide +kernel
theorem dX2_agreeing_14 : decode cX2_agreeing 14 = .ok (.iload_n 2, 1) := by decide +kernel
theorem dX2_agreeing_15 : decode cX2_agreeing 15 = .ok (.iaload, 1) := by decide +kernel
theorem dX2_agreeing_16 : decode cX2_agreeing 16 = .ok (.invokestatic 48, 3) := by decide +kernel
theorem dX2_agreeing_19 : decode cX2_agreeing 19 = .ok (.imul, 1) := by decide +kernel
theorem dX2_agreeing_20 : decode cX2_agreeing 20 = .ok (.istore_n 1, 1) := by decide +kernel
theorem dX2_agreeing_21 : decode cX2_agreeing 21 = .ok (.iinc 2 1, 3) := by decide +kernel
theorem dX2_agreeing_24 : decode cX2_agreeing 24 = .ok (.goto (-20), 3) := by decide +kernel
theorem dX2_agreeing_27 : decode cX2_agreeing 27 = .ok (.iload_n 1, 1) := by decide +kernel
theorem dX2_agreeing_28 : decode cX2_agreeing 28 = .ok (.ireturn, 1) := by decide +kernel
set_option maxRecDepth 20000 in
theorem ggX2_least_X2_agreeing : GoodIn wsX2_least wsX2_agreeing := goodIn_r _ [6, 1, 7, 8, 9, 10, 11, 12, 13, 17, 18, 19, 20, 21, 22, 23, 24, 25] (by decide +kernel) (by decide +kernel)
set_option maxRecDepth 20000 in
theorem gX2_least_X2_agreeing : GoodIn wsX2_least (wsV RX2 54 RX2 yX2_agreeing wsX2_agreeing) := goodIn_app (goodIn_of _ (by decide +kernel)) ggX2_least_X2_agreeing
set_option maxRecDepth 20000 in
theorem ggX2_least_X2_lowestFigure : GoodIn wsX2_least wsX2_lowestFigure := goodIn_r _ [16] (by decide +kernel) (by decide +kernel)
set_option maxRecDepth 20000 in
theorem gX2_least_X2_lowestFigure : GoodIn wsX2_least (va_wsS RX2 58 yX2_lowestFigure wsX2_lowestFigure) := goodIn_app (goodIn_of _ (by decide +kernel)) ggX2_least_X2_lowestFigure
theorem dX2_least_0 : decode cX2_least 0 = .ok (.aload_n 0, 1) := by decide +kernel
theorem dX2_least_1 : decode cX2_least 1 = .ok (.invokevirtual 54, 3) := by decide +kernel
theorem dX2_least_4 : decode cX2_least 4 = .ok (.ifCond .ne 5, 3) := by decide +kernel
theorem dX2_least_7 : decode cX2_least 7 = .ok (.iconst (-1), 1) := by decide +kernel
theorem dX2_least_8 : decode cX2_least 8 = .ok (.ireturn, 1) := by decide +kernel
theorem dX2_least_9 : decode cX2_least 9 = .ok (.iconst 0, 1) := by decide +kernel
theorem dX2_least_10 : decode cX2_least 10 = .ok (.istore_n 1, 1) := by decide +kernel
theorem dX2_least_11 : decode cX2_least 11 = .ok (.iconst 0, 1) := by decide +kernel
theorem dX2_least_12 : decode cX2_least 12 = .ok (.istore_n 2, 1) := by decide +kernel
theorem dX2_least_13 : decode cX2_least 13 = .ok (.iload_n 2, 1) := by decide +kernel
theorem dX2_least_14 : decode cX2_least 14 = .ok (.iconst 4, 1) := by decide +kernel
theorem dX2_least_15 : decode cX2_least 15 = .ok (.if_icmp .ge 24, 3) := by decide +kernel
theorem dX2_least_18 : decode cX2_least 18 = .ok (.iload_n 1, 1) := by decide +kernel
theorem dX2_least_19 : decode cX2_least 19 = .ok (.bipush 10, 2) := by decide +kernel
theorem dX2_least_21 : decode cX2_least 21 = .ok (.imul, 1) := by decide +kernel
theorem dX2_least_22 : decode cX2_least 22 = .ok (.aload_n 0, 1) := by decide +kernel
theorem dX2_least_23 : decode cX2_least 23 = .ok (.getfield 27, 3) := by decide +kernel
theorem dX2_least_26 : decode cX2_least 26 = .ok (.iload_n 2, 1) := by decide +kernel
theorem dX2_least_27 : decode cX2_least 27 = .ok (.iaload, 1) := by decide +kernel
theorem dX2_least_28 : decode cX2_least 28 = .ok (.invokestatic 58, 3) := by decide +kernel
theorem dX2_least_31 : decode cX2_least 31 = .ok (.iadd, 1) := by decide +kernel
theorem dX2_least_32 : decode cX2_least 32 = .ok (.istore_n 1, 1) := by decide +kernel
theorem dX2_least_33 : decode cX2_least 33 = .ok (.iinc 2 1, 3) := by decide +kernel
theorem dX2_least_36 : decode cX2_least 36 = .ok (.goto (-23), 3) := by decide +kernel
theorem dX2_least_39 : decode cX2_least 39 = .ok (.iload_n 1, 1) := by decide +kernel
theorem dX2_least_40 : decode cX2_least 40 = .ok (.ireturn, 1) := by decide +kernel
set_option maxRecDepth 20000 in
theorem ggX2_greatest_X2_agreeing : GoodIn wsX2_greatest wsX2_agreeing := goodIn_r _ [6, 1, 7, 8, 9, 10, 11, 12, 13, 17, 18, 19, 20, 21, 22, 23, 24, 25] (by decide +kernel) (by decide +kernel)
set_option maxRecDepth 20000 in
theorem gX2_greatest_X2_agreeing : GoodIn wsX2_greatest (wsV RX2 54 RX2 yX2_agreeing wsX2_agreeing) := goodIn_app (goodIn_of _ (by decide +kernel)) ggX2_greatest_X2_agreeing
set_option maxRecDepth 20000 in
theorem ggX2_greatest_X2_highestFigure : GoodIn wsX2_greatest wsX2_highestFigure := goodIn_r _ [16] (by decide +kernel) (by decide +kernel)
set_option maxRecDepth 20000 in
theorem gX2_greatest_X2_highestFigure : GoodIn wsX2_greatest (va_wsS RX2 61 yX2_highestFigure wsX2_highestFigure) := goodIn_app (goodIn_of _ (by decide +kernel)) ggX2_greatest_X2_highestFigure
theorem dX2_greatest_0 : decode cX2_greatest 0 = .ok (.aload_n 0, 1) := by decide +kernel
theorem dX2_greatest_1 : decode cX2_greatest 1 = .ok (.invokevirtual 54, 3) := by decide +kernel
theorem dX2_greatest_4 : decode cX2_greatest 4 = .ok (.ifCond .ne 5, 3) := by decide +kernel
theorem dX2_greatest_7 : decode cX2_greatest 7 = .ok (.iconst (-1), 1) := by decide +kernel
theorem dX2_greatest_8 : decode cX2_greatest 8 = .ok (.ireturn, 1) := by decide +kernel
theorem dX2_greatest_9 : decode cX2_greatest 9 = .ok (.iconst 0, 1) := by decide +kernel
theorem dX2_greatest_10 : decode cX2_greatest 10 = .ok (.istore_n 1, 1) := by decide +kernel
theorem dX2_greatest_11 : decode cX2_greatest 11 = .ok (.iconst 0, 1) := by decide +kernel
theorem dX2_greatest_12 : decode cX2_greatest 12 = .ok (.istore_n 2, 1) := by decide +kernel
theorem dX2_greatest_13 : decode cX2_greatest 13 = .ok (.iload_n 2, 1) := by decide +kernel
theorem dX2_greatest_14 : decode cX2_greatest 14 = .ok (.iconst 4, 1) := by decide +kernel
theorem dX2_greatest_15 : decode cX2_greatest 15 = .ok (.if_icmp .ge 24, 3) := by decide +kernel
theorem dX2_greatest_18 : decode cX2_greatest 18 = .ok (.iload_n 1, 1) := by decide +kernel
theorem dX2_greatest_19 : decode cX2_greatest 19 = .ok (.bipush 10, 2) := by decide +kernel
theorem dX2_greatest_21 : decode cX2_greatest 21 = .ok (.imul, 1) := by decide +kernel
theorem dX2_greatest_22 : decode cX2_greatest 22 = .ok (.aload_n 0, 1) := by decide +kernel
theorem dX2_greatest_23 : decode cX2_greatest 23 = .ok (.getfield 27, 3) := by decide +kernel
theorem dX2_greatest_26 : decode cX2_greatest 26 = .ok (.iload_n 2, 1) := by decide +kernel
theorem dX2_greatest_27 : decode cX2_greatest 27 = .ok (.iaload, 1) := by decide +kernel
theorem dX2_greatest_28 : decode cX2_greatest 28 = .ok (.invokestatic 61, 3) := by decide +kernel
theorem dX2_greatest_31 : decode cX2_greatest 31 = .ok (.iadd, 1) := by decide +kernel
theorem dX2_greatest_32 : decode cX2_greatest 32 = .ok (.istore_n 1, 1) := by decide +kernel
theorem dX2_greatest_33 : decode cX2_greatest 33 = .ok (.iinc 2 1, 3) := by decide +kernel
theorem dX2_greatest_36 : decode cX2_greatest 36 = .ok (.goto (-23), 3) := by decide +kernel
theorem dX2_greatest_39 : decode cX2_greatest 39 = .ok (.iload_n 1, 1) := by decide +kernel
theorem dX2_greatest_40 : decode cX2_greatest 40 = .ok (.ireturn, 1) := by decide +kernel
theorem dX2_lowestFigure_0 : decode cX2_lowestFigure 0 = .ok (.iconst 0, 1) := by decide +kernel
theorem dX2_lowestFigure_1 : decode cX2_lowestFigure 1 = .ok (.istore_n 1, 1) := by decide +kernel
theorem dX2_lowestFigure_2 : decode cX2_lowestFigure 2 = .ok (.iload_n 1, 1) := by decide +kernel
theorem dX2_lowestFigure_3 : decode cX2_lowestFigure 3 = .ok (.bipush 9, 2) := by decide +kernel
theorem dX2_lowestFigure_5 : decode cX2_lowestFigure 5 = .ok (.if_icmp .ge 17, 3) := by decide +kernel
theorem dX2_lowestFigure_8 : decode cX2_lowestFigure 8 = .ok (.iload_n 0, 1) := by decide +kernel
theorem dX2_lowestFigure_9 : decode cX2_lowestFigure 9 = .ok (.iload_n 1, 1) := by decide +kernel
theorem dX2_lowestFigure_10 : decode cX2_lowestFigure 10 = .ok (.ishr, 1) := by decide +kernel
theorem dX2_lowestFigure_11 : decode cX2_lowestFigure 11 = .ok (.iconst 1, 1) := by decide +kernel
theorem dX2_lowestFigure_12 : decode cX2_lowestFigure 12 = .ok (.iand, 1) := by decide +kernel
theorem dX2_lowestFigure_13 : decode cX2_lowestFigure 13 = .ok (.ifCond .ne 9, 3) := by decide +kernel
theorem dX2_lowestFigure_16 : decode cX2_lowestFigure 16 = .ok (.iinc 1 1, 3) := by decide +kernel
theorem dX2_lowestFigure_19 : decode cX2_lowestFigure 19 = .ok (.goto (-17), 3) := by decide +kernel
theorem dX2_lowestFigure_22 : decode cX2_lowestFigure 22 = .ok (.iload_n 1, 1) := by decide +kernel
theorem dX2_lowestFigure_23 : decode cX2_lowestFigure 23 = .ok (.ireturn, 1) := by decide +kernel
theorem dX2_highestFigure_0 : decode cX2_highestFigure 0 = .ok (.bipush 9, 2) := by decide +kernel
theorem dX2_highestFigure_2 : decode cX2_highestFigure 2 = .ok (.istore_n 1, 1) := by decide +kernel
theorem dX2_highestFigure_3 : decode cX2_highestFigure 3 = .ok (.iload_n 1, 1) := by decide +kernel
theorem dX2_highestFigure_4 : decode cX2_highestFigure 4 = .ok (.ifCond .le 17, 3) := by decide +kernel
theorem dX2_highestFigure_7 : decode cX2_highestFigure 7 = .ok (.iload_n 0, 1) := by decide +kernel
theorem dX2_highestFigure_8 : decode cX2_highestFigure 8 = .ok (.iload_n 1, 1) := by decide +kernel
theorem dX2_highestFigure_9 : decode cX2_highestFigure 9 = .ok (.ishr, 1) := by decide +kernel
theorem dX2_highestFigure_10 : decode cX2_highestFigure 10 = .ok (.iconst 1, 1) := by decide +kernel
theorem dX2_highestFigure_11 : decode cX2_highestFigure 11 = .ok (.iand, 1) := by decide +kernel
theorem dX2_highestFigure_12 : decode cX2_highestFigure 12 = .ok (.ifCond .ne 9, 3) := by decide +kernel
theorem dX2_highestFigure_15 : decode cX2_highestFigure 15 = .ok (.iinc 1 (-1), 3) := by decide +kernel
theorem dX2_highestFigure_18 : decode cX2_highestFigure 18 = .ok (.goto (-15), 3) := by decide +kernel
theorem dX2_highestFigure_21 : decode cX2_highestFigure 21 = .ok (.iload_n 1, 1) := by decide +kernel
theorem dX2_highestFigure_22 : decode cX2_highestFigure 22 = .ok (.ireturn, 1) := by decide +kernel
theorem dX3_init_0 : decode cX3_init 0 = .ok (.aload_n 0, 1) := by decide +kernel
theorem dX3_init_1 : decode cX3_init 1 = .ok (.invokespecial 3, 3) := by decide +kernel
theorem dX3_init_4 : decode cX3_init 4 = .ok (.aload_n 0, 1) := by decide +kernel
theorem dX3_init_5 : decode cX3_init 5 = .ok (.sipush 400, 3) := by decide +kernel
theorem dX3_init_8 : decode cX3_init 8 = .ok (.newarray .byte, 2) := by decide +kernel
theorem dX3_init_10 : decode cX3_init 10 = .ok (.putfield 9, 3) := by decide +kernel
theorem dX3_init_13 : decode cX3_init 13 = .ok (.aload_n 0, 1) := by decide +kernel
theorem dX3_init_14 : decode cX3_init 14 = .ok (.iconst 0, 1) := by decide +kernel
theorem dX3_init_15 : decode cX3_init 15 = .ok (.putfield 15, 3) := by decide +kernel
theorem dX3_init_18 : decode cX3_init 18 = .ok (.aload_n 0, 1) := by decide +kernel
theorem dX3_init_19 : decode cX3_init 19 = .ok (.iconst 0, 1) := by decide +kernel
theorem dX3_init_20 : decode cX3_init 20 = .ok (.putfield 19, 3) := by decide +kernel
theorem dX3_init_23 : decode cX3_init 23 = .ok (.aload_n 0, 1) := by decide +kernel
theorem dX3_init_24 : decode cX3_init 24 = .ok (.iconst (-1), 1) := by decide +kernel
theorem dX3_init_25 : decode cX3_init 25 = .ok (.putfield 22, 3) := by decide +kernel
theorem dX3_init_28 : decode cX3_init 28 = .ok (.return_, 1) := by decide +kernel
theorem dX3_append_0 : decode cX3_append 0 = .ok (.bipush 24, 2) := by decide +kernel
theorem dX3_append_2 : decode cX3_append 2 = .ok (.istore_n 2, 1) := by decide +kernel
theorem dX3_append_3 : decode cX3_append 3 = .ok (.iload_n 2, 1) := by decide +kernel
theorem dX3_append_4 : decode cX3_append 4 = .ok (.ifCond .lt 44, 3) := by decide +kernel
theorem dX3_append_7 : decode cX3_append 7 = .ok (.aload_n 0, 1) := by decide +kernel
theorem dX3_append_8 : decode cX3_append 8 = .ok (.getfield 15, 3) := by decide +kernel
theorem dX3_append_11 : decode cX3_append 11 = .ok (.aload_n 0, 1) := by decide +kernel
theorem dX3_append_12 : decode cX3_append 12 = .ok (.getfield 9, 3) := by decide +kernel
theorem dX3_append_15 : decode cX3_append 15 = .ok (.arraylength, 1) := by decide +kernel
theorem dX3_append_16 : decode cX3_append 16 = .ok (.if_icmp .ge 32, 3) := by decide +kernel
theorem dX3_append_19 : decode cX3_append 19 = .ok (.aload_n 0, 1) := by decide +kernel
theorem dX3_append_20 : decode cX3_append 20 = .ok (.getfield 9, 3) := by decide +kernel
theorem dX3_append_23 : decode cX3_append 23 = .ok (.aload_n 0, 1) := by decide +kernel
theorem dX3_append_24 : decode cX3_append 24 = .ok (.getfield 15, 3) := by decide +kernel
theorem dX3_append_27 : decode cX3_append 27 = .ok (.iload_n 1, 1) := by decide +kernel
theorem dX3_append_28 : decode cX3_append 28 = .ok (.iload_n 2, 1) := by decide +kernel
theorem dX3_append_29 : decode cX3_append 29 = .ok (.ishr, 1) := by decide +kernel
theorem dX3_append_30 : decode cX3_append 30 = .ok (.i2b, 1) := by decide +kernel
theorem dX3_append_31 : decode cX3_append 31 = .ok (.bastore, 1) := by decide +kernel
theorem dX3_append_32 : decode cX3_append 32 = .ok (.aload_n 0, 1) := by decide +kernel
theorem dX3_append_33 : decode cX3_append 33 = .ok (.dup, 1) := by decide +kernel
theorem dX3_append_34 : decode cX3_append 34 = .ok (.getfield 15, 3) := by decide +kernel
theorem dX3_append_37 : decode cX3_append 37 = .ok (.iconst 1, 1) := by decide +kernel
theorem dX3_append_38 : decode cX3_append 38 = .ok (.iadd, 1) := by decide +kernel
theorem dX3_append_39 : decode cX3_append 39 = .ok (.putfield 15, 3) := by decide +kernel
theorem dX3_append_42 : decode cX3_append 42 = .ok (.iinc 2 (-8), 3) := by decide +kernel
theorem dX3_append_45 : decode cX3_append 45 = .ok (.goto (-42), 3) := by decide +kernel
theorem dX3_append_48 : decode cX3_append 48 = .ok (.return_, 1) := by decide +kernel
theorem dX3_byteAt_0 : decode cX3_byteAt 0 = .ok (.iload_n 1, 1) := by decide +kernel
theorem dX3_byteAt_1 : decode cX3_byteAt 1 = .ok (.ifCond .lt 24, 3) := by decide +kernel
theorem dX3_byteAt_4 : decode cX3_byteAt 4 = .ok (.iload_n 1, 1) := by decide +kernel
theorem dX3_byteAt_5 : decode cX3_byteAt 5 = .ok (.aload_n 0, 1) := by decide +kernel
theorem dX3_byteAt_6 : decode cX3_byteAt 6 = .ok (.getfield 15, 3) := by decide +kernel
theorem dX3_byteAt_9 : decode cX3_byteAt 9 = .ok (.if_icmp .ge 16, 3) := by decide +kernel
theorem dX3_byteAt_12 : decode cX3_byteAt 12 = .ok (.aload_n 0, 1) := by decide +kernel
theorem dX3_byteAt_13 : decode cX3_byteAt 13 = .ok (.getfield 9, 3) := by decide +kernel
theorem dX3_byteAt_16 : decode cX3_byteAt 16 = .ok (.iload_n 1, 1) := by decide +kernel
theorem dX3_byteAt_17 : decode cX3_byteAt 17 = .ok (.baload, 1) := by decide +kernel
theorem dX3_byteAt_18 : decode cX3_byteAt 18 = .ok (.sipush 255, 3) := by decide +kernel
theorem dX3_byteAt_21 : decode cX3_byteAt 21 = .ok (.iand, 1) := by decide +kernel
theorem dX3_byteAt_22 : decode cX3_byteAt 22 = .ok (.goto 4, 3) := by decide +kernel
theorem dX3_byteAt_25 : decode cX3_byteAt 25 = .ok (.iconst (-1), 1) := by decide +kernel
theorem dX3_byteAt_26 : decode cX3_byteAt 26 = .ok (.ireturn, 1) := by decide +kernel
set_option maxRecDepth 20000 in
theorem ggX3_readInto_X0_clear : GoodIn wsX3_readInto wsX0_clear := goodIn_r _ [7, 8, 9, 10, 11, 12, 135, 136, 137, 138, 139] (by decide +kernel) (by decide +kernel)
set_option maxRecDepth 20000 in
theorem gX3_readInto_X0_clear : GoodIn wsX3_readInto (wsV RX3 25 RX0 yX0_clear wsX0_clear) := goodIn_app (goodIn_of _ (by decide +kernel)) ggX3_readInto_X0_clear
set_option maxRecDepth 20000 in
theorem ggX3_readInto_X3_readClause : GoodIn wsX3_readInto wsX3_readClause := goodIn_r _ [17, 1, 2, 18, 19, 20, 16, 21, 22, 23, 24, 25, 26, 27, 28, 29, 30, 31, 32, 33, 34, 35, 36, 37, 38, 39, 40, 41, 42, 43, 44, 45, 46, 47, 48, 49, 50, 51, 52, 53, 54, 55, 56, 57, 58, 59, 60, 61, 62, 63, 64, 65, 66, 67, 68, 69, 70, 71, 72, 73, 74, 75, 76, 77, 78, 79, 80, 81, 82, 83, 84, 85, 86, 87, 88, 89, 90, 91, 92, 93, 94, 95, 96, 97, 98, 99, 6, 100, 8, 9, 101, 102, 103, 104, 105, 106, 107, 108, 109, 110, 111, 112, 113, 114, 115, 116, 117, 118, 119, 120, 121, 122, 123, 124, 125, 126, 12, 131, 132, 133, 134, 135, 136, 137, 138, 139] (by decide +kernel) (by decide +kernel)
set_option maxRecDepth 20000 in
theorem gX3_readInto_X3_readClause : GoodIn wsX3_readInto (wsV RX3 30 RX3 yX3_readClause wsX3_readClause) := goodIn_app (goodIn_of _ (by decide +kernel)) ggX3_readInto_X3_readClause
set_option maxRecDepth 20000 in
theorem ggX3_readInto_X3_readSemicolon : GoodIn wsX3_readInto wsX3_readSemicolon := goodIn_r _ [130, 2, 1, 22, 18, 19, 20, 16, 21, 23, 24, 25, 26, 27, 131, 132, 133, 134] (by decide +kernel) (by decide +kernel)
set_option maxRecDepth 20000 in
theorem gX3_readInto_X3_readSemicolon : GoodIn wsX3_readInto (wsV RX3 34 RX3 yX3_readSemicolon wsX3_readSemicolon) := goodIn_app (goodIn_of _ (by decide +kernel)) ggX3_readInto_X3_readSemicolon
theorem dX3_readInto_0 : decode cX3_readInto 0 = .ok (.aload_n 1, 1) := by decide +kernel
theorem dX3_readInto_1 : decode cX3_readInto 1 = .ok (.invokevirtual 25, 3) := by decide +kernel
theorem dX3_readInto_4 : decode cX3_readInto 4 = .ok (.aload_n 0, 1) := by decide +kernel
theorem dX3_readInto_5 : decode cX3_readInto 5 = .ok (.iconst 0, 1) := by decide +kernel
theorem dX3_readInto_6 : decode cX3_readInto 6 = .ok (.putfield 19, 3) := by decide +kernel
theorem dX3_readInto_9 : decode cX3_readInto 9 = .ok (.aload_n 0, 1) := by decide +kernel
theorem dX3_readInto_10 : decode cX3_readInto 10 = .ok (.iconst (-1), 1) := by decide +kernel
theorem dX3_readInto_11 : decode cX3_readInto 11 = .ok (.putfield 22, 3) := by decide +kernel
theorem dX3_readInto_14 : decode cX3_readInto 14 = .ok (.iconst 1, 1) := by decide +kernel
theorem dX3_readInto_15 : decode cX3_readInto 15 = .ok (.istore_n 2, 1) := by decide +kernel
theorem dX3_readInto_16 : decode cX3_readInto 16 = .ok (.iconst 0, 1) := by decide +kernel
theorem dX3_readInto_17 : decode cX3_readInto 17 = .ok (.istore_n 3, 1) := by decide +kernel
theorem dX3_readInto_18 : decode cX3_readInto 18 = .ok (.iload_n 2, 1) := by decide +kernel
theorem dX3_readInto_19 : decode cX3_readInto 19 = .ok (.ifCond .eq 26, 3) := by decide +kernel
theorem dX3_readInto_22 : decode cX3_readInto 22 = .ok (.iload_n 3, 1) := by decide +kernel
theorem dX3_readInto_23 : decode cX3_readInto 23 = .ok (.sipush 400, 3) := by decide +kernel
theorem dX3_readInto_26 : decode cX3_readInto 26 = .ok (.if_icmp .ge 19, 3) := by decide +kernel
theorem dX3_readInto_29 : decode cX3_readInto 29 = .ok (.aload_n 0, 1) := by decide +kernel
theorem dX3_readInto_30 : decode cX3_readInto 30 = .ok (.aload_n 1, 1) := by decide +kernel
theorem dX3_readInto_31 : decode cX3_readInto 31 = .ok (.invokevirtual 30, 3) := by decide +kernel
theorem dX3_readInto_34 : decode cX3_readInto 34 = .ok (.aload_n 0, 1) := by decide +kernel
theorem dX3_readInto_35 : decode cX3_readInto 35 = .ok (.invokevirtual 34, 3) := by decide +kernel
theorem dX3_readInto_38 : decode cX3_readInto 38 = .ok (.istore_n 2, 1) := by decide +kernel
theorem dX3_readInto_39 : decode cX3_readInto 39 = .ok (.iinc 3 1, 3) := by decide +kernel
theorem dX3_readInto_42 : decode cX3_readInto 42 = .ok (.goto (-24), 3) := by decide +kernel
theorem dX3_readInto_45 : decode cX3_readInto 45 = .ok (.aload_n 0, 1) := by decide +kernel
theorem dX3_readInto_46 : decode cX3_readInto 46 = .ok (.getfield 22, 3) := by decide +kernel
theorem dX3_readInto_49 : decode cX3_readInto 49 = .ok (.ireturn, 1) := by decide +kernel
set_option maxRecDepth 20000 in
theorem ggX3_readClause_X3_skipBlanks : GoodIn wsX3_readClause wsX3_skipBlanks := goodIn_r _ [7, 1, 8, 9, 10, 11, 6, 12, 13, 117, 118, 119, 120] (by decide +kernel) (by decide +kernel)
set_option maxRecDepth 20000 in
theorem gX3_readClause_X3_skipBlanks : GoodIn wsX3_readClause (wsV RX3 38 RX3 yX3_skipBlanks wsX3_skipBlanks) := goodIn_app (goodIn_of _ (by decide +kernel)) ggX3_readClause_X3_skipBlanks
set_option maxRecDepth 20000 in
theorem ggX3_readClause_X3_skipWord : GoodIn wsX3_readClause wsX3_skipWord := goodIn_r _ [17, 1, 8, 18, 19, 20, 6, 21, 9, 10, 11, 12, 13, 117, 118, 119, 120] (by decide +kernel) (by decide +kernel)
set_option maxRecDepth 20000 in
theorem gX3_readClause_X3_skipWord : GoodIn wsX3_readClause (wsV RX3 41 RX3 yX3_skipWord wsX3_skipWord) := goodIn_app (goodIn_of _ (by decide +kernel)) ggX3_readClause_X3_skipWord
set_option maxRecDepth 20000 in
theorem ggX3_readClause_X3_isWord : GoodIn wsX3_readClause wsX3_isWord := goodIn_r _ [25, 1, 26, 27, 28, 29, 30, 31, 32, 33, 34, 35, 36, 37, 9, 10, 11, 6, 12, 8, 13, 38, 39, 40, 41, 42, 43, 44, 45, 46, 47, 48, 49, 50, 51, 52, 53, 54, 55, 56, 57, 58, 59, 60, 61, 62, 63, 64, 65, 66, 67, 68, 69, 70, 71, 72, 73, 74, 117, 118, 119, 120] (by decide +kernel) (by decide +kernel)
set_option maxRecDepth 20000 in
theorem gX3_readClause_X3_isWord : GoodIn wsX3_readClause (wsV RX3 46 RX3 yX3_isWord wsX3_isWord) := goodIn_app (goodIn_of _ (by decide +kernel)) ggX3_readClause_X3_isWord
set_option maxRecDepth 20000 in
theorem ggX3_readClause_X3_readCap : GoodIn wsX3_readClause wsX3_readCap := goodIn_r _ [78, 2, 79, 80, 81, 6, 82, 1, 8, 3, 4, 5, 7, 9, 10, 11, 12, 13, 18, 19, 20, 21, 83, 84, 85, 86, 87, 88, 89, 117, 118, 119, 120, 121, 122, 123, 124, 125] (by decide +kernel) (by decide +kernel)
set_option maxRecDepth 20000 in
theorem gX3_readClause_X3_readCap : GoodIn wsX3_readClause (wsV RX3 50 RX3 yX3_readCap wsX3_readCap) := goodIn_app (goodIn_of _ (by decide +kernel)) ggX3_readClause_X3_readCap
set_option maxRecDepth 20000 in
theorem ggX3_readClause_X3_readLine : GoodIn wsX3_readClause wsX3_readLine := goodIn_r _ [93, 2, 79, 80, 81, 6, 82, 1, 8, 3, 4, 5, 7, 9, 10, 11, 12, 13, 18, 19, 20, 21, 94, 95, 96, 86, 97, 88, 89, 117, 118, 119, 120, 121, 122, 123, 124, 125] (by decide +kernel) (by decide +kernel)
