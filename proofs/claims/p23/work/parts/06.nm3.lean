/-! ===== names, 3 ===== -/
theorem inX5 : ∀ w ∈ wsX50, w ∈ lw_tbl := by decide +kernel
theorem inJ9 : ∀ w ∈ wsJ90, w ∈ lw_tbl := by decide +kernel
theorem inJ0 : ∀ w ∈ wsJ00, w ∈ lw_tbl := by decide +kernel
theorem inJ10 : ∀ w ∈ wsJ100, w ∈ lw_tbl := by decide +kernel
set_option maxRecDepth 20000 in
theorem ggX1_init_X3_init : GoodIn wsX1_init wsX3_init := goodIn_r _ [9, 10, 2, 3, 11, 12, 13, 14, 15] (by decide +kernel) (by decide +kernel)
set_option maxRecDepth 20000 in
theorem gX1_init_X3_init_n11 : GoodIn wsX1_init (wsX3_init) := ggX1_init_X3_init
set_option maxRecDepth 20000 in
theorem ggX1_read_X3_clear : GoodIn wsX1_read wsX3_clear := goodIn_r _ [12, 13, 14, 96, 97, 98] (by decide +kernel) (by decide +kernel)
set_option maxRecDepth 20000 in
theorem gX1_read_X3_clear : GoodIn wsX1_read (wsV RX1 18 RX3 yX3_clear wsX3_clear) := goodIn_app (goodIn_of _ (by decide +kernel)) ggX1_read_X3_clear
set_option maxRecDepth 20000 in
theorem ggX1_read_X1_take : GoodIn wsX1_read wsX1_take := goodIn_r _ [19, 2, 20, 21, 22, 18, 23, 24, 25, 26, 27, 28, 29, 30, 3, 1, 31, 32, 33, 11, 34, 13, 35, 36, 37, 38, 39, 4, 7, 5, 40, 41, 42, 43, 44, 45, 46, 47, 48, 49, 50, 51, 52, 53, 54, 55, 56, 57, 58, 59, 60, 61, 62, 63, 64, 65, 66, 67, 68, 69, 70, 71, 72, 73, 74, 75, 76, 77, 78, 79, 80, 81, 82, 83, 84, 85, 86, 87, 88, 89, 90, 91, 92, 93, 94, 95, 96, 97, 98] (by decide +kernel) (by decide +kernel)
set_option maxRecDepth 20000 in
theorem gX1_read_X1_take : GoodIn wsX1_read (wsV RX1 40 RX1 yX1_take wsX1_take) := goodIn_app (goodIn_of _ (by decide +kernel)) ggX1_read_X1_take
set_option maxRecDepth 20000 in
theorem ggX1_take_X1_endsNumber : GoodIn wsX1_take wsX1_endsNumber := goodIn_r _ [6, 1, 7, 8, 5, 9, 79, 80, 81, 82, 83, 84, 85] (by decide +kernel) (by decide +kernel)
set_option maxRecDepth 20000 in
theorem gX1_take_X1_endsNumber : GoodIn wsX1_take (wsV RX1 44 RX1 yX1_endsNumber wsX1_endsNumber) := goodIn_app (goodIn_of _ (by decide +kernel)) ggX1_take_X1_endsNumber
set_option maxRecDepth 20000 in
theorem ggX1_take_X1_stateBehindValue : GoodIn wsX1_take wsX1_stateBehindValue := goodIn_r _ [13, 14, 15, 16, 17, 18, 19, 20, 21, 22, 79, 80, 81, 82, 83, 84, 85, 86, 87, 88] (by decide +kernel) (by decide +kernel)
set_option maxRecDepth 20000 in
theorem gX1_take_X1_stateBehindValue : GoodIn wsX1_take (wsV RX1 47 RX1 yX1_stateBehindValue wsX1_stateBehindValue) := goodIn_app (goodIn_of _ (by decide +kernel)) ggX1_take_X1_stateBehindValue
set_option maxRecDepth 20000 in
theorem ggX1_take_X1_takeValue : GoodIn wsX1_take wsX1_takeValue := goodIn_r _ [26, 15, 14, 27, 28, 29, 1, 30, 31, 5, 32, 7, 8, 9, 33, 34, 35, 36, 16, 17, 18, 19, 20, 21, 22, 37, 38, 39, 40, 41, 42, 43, 44, 45, 46, 47, 48, 49, 50, 51, 52, 53, 10, 11, 12, 13, 79, 80, 81, 82, 83, 84, 85, 86, 87, 88] (by decide +kernel) (by decide +kernel)
set_option maxRecDepth 20000 in
theorem gX1_take_X1_takeValue : GoodIn wsX1_take (wsV RX1 51 RX1 yX1_takeValue wsX1_takeValue) := goodIn_app (goodIn_of _ (by decide +kernel)) ggX1_take_X1_takeValue
set_option maxRecDepth 20000 in
theorem ggX1_take_X1_takePart : GoodIn wsX1_take wsX1_takePart := goodIn_r _ [57, 27, 15, 14, 1, 58, 59, 60, 5, 61, 28, 49, 46, 47, 19, 48, 21, 22, 16, 17, 18, 20, 10, 11, 12, 13, 79, 80, 81, 82, 83, 84, 85, 86, 87, 88] (by decide +kernel) (by decide +kernel)
set_option maxRecDepth 20000 in
theorem gX1_take_X1_takePart : GoodIn wsX1_take (wsV RX1 54 RX1 yX1_takePart wsX1_takePart) := goodIn_app (goodIn_of _ (by decide +kernel)) ggX1_take_X1_takePart
set_option maxRecDepth 20000 in
theorem ggX1_take_X1_closeValue : GoodIn wsX1_take wsX1_closeValue := goodIn_r _ [61, 15, 14, 28, 1, 49, 46, 47, 19, 48, 21, 22, 16, 17, 18, 20, 10, 11, 12, 5, 13, 79, 80, 81, 82, 83, 84, 85, 86, 87, 88] (by decide +kernel) (by decide +kernel)
set_option maxRecDepth 20000 in
theorem gX1_take_X1_closeValue : GoodIn wsX1_take (wsV RX1 57 RX1 yX1_closeValue wsX1_closeValue) := goodIn_app (goodIn_of _ (by decide +kernel)) ggX1_take_X1_closeValue
set_option maxRecDepth 20000 in
theorem ggX1_take_X1_takeComma : GoodIn wsX1_take wsX1_takeComma := goodIn_r _ [65, 1, 79, 80, 81, 82, 83, 84, 85] (by decide +kernel) (by decide +kernel)
set_option maxRecDepth 20000 in
theorem gX1_take_X1_takeComma : GoodIn wsX1_take (wsV RX1 61 RX1 yX1_takeComma wsX1_takeComma) := goodIn_app (goodIn_of _ (by decide +kernel)) ggX1_take_X1_takeComma
set_option maxRecDepth 20000 in
theorem ggX1_take_X1_takeInWord : GoodIn wsX1_take wsX1_takeInWord := goodIn_r _ [69, 29, 1, 10, 11, 12, 5, 13, 14, 15, 16, 17, 18, 19, 20, 21, 22, 79, 80, 81, 82, 83, 84, 85, 86, 87, 88] (by decide +kernel) (by decide +kernel)
set_option maxRecDepth 20000 in
theorem gX1_take_X1_takeInWord : GoodIn wsX1_take (wsV RX1 64 RX1 yX1_takeInWord wsX1_takeInWord) := goodIn_app (goodIn_of _ (by decide +kernel)) ggX1_take_X1_takeInWord
set_option maxRecDepth 20000 in
theorem ggX1_take_X1_takeInNumber : GoodIn wsX1_take wsX1_takeInNumber := goodIn_r _ [73, 1, 29, 74, 75, 76, 5, 77, 15, 78, 49, 46, 47, 19, 48, 21, 22, 7, 8, 9, 79, 80, 81, 82, 83, 84, 85, 86, 87, 88] (by decide +kernel) (by decide +kernel)
set_option maxRecDepth 20000 in
theorem gX1_take_X1_takeInNumber : GoodIn wsX1_take (wsV RX1 67 RX1 yX1_takeInNumber wsX1_takeInNumber) := goodIn_app (goodIn_of _ (by decide +kernel)) ggX1_take_X1_takeInNumber
set_option maxRecDepth 20000 in
theorem ggX1_endsNumber_X1_isDigit : GoodIn wsX1_endsNumber wsX1_isDigit := goodIn_r _ [5] (by decide +kernel) (by decide +kernel)
set_option maxRecDepth 20000 in
theorem gX1_endsNumber_X1_isDigit : GoodIn wsX1_endsNumber (va_wsS RX1 70 yX1_isDigit wsX1_isDigit) := goodIn_app (goodIn_of _ (by decide +kernel)) ggX1_endsNumber_X1_isDigit
set_option maxRecDepth 20000 in
theorem ggX1_takePart_X1_closeValue : GoodIn wsX1_takePart wsX1_closeValue := goodIn_r _ [9, 2, 3, 10, 4, 11, 12, 13, 14, 15, 16, 17, 18, 19, 20, 21, 22, 23, 24, 8, 25, 26, 27, 28, 29, 30, 31, 32, 33, 34, 35] (by decide +kernel) (by decide +kernel)
set_option maxRecDepth 20000 in
theorem gX1_takePart_X1_closeValue : GoodIn wsX1_takePart (wsV RX1 57 RX1 yX1_closeValue wsX1_closeValue) := goodIn_app (goodIn_of _ (by decide +kernel)) ggX1_takePart_X1_closeValue
set_option maxRecDepth 20000 in
theorem ggX1_takePart_X3_get : GoodIn wsX1_takePart wsX3_get := goodIn_r _ [21, 16, 17, 33, 34, 35] (by decide +kernel) (by decide +kernel)
set_option maxRecDepth 20000 in
theorem gX1_takePart_X3_get : GoodIn wsX1_takePart (wsV RX1 73 RX3 yX3_get wsX3_get) := goodIn_app (goodIn_of _ (by decide +kernel)) ggX1_takePart_X3_get
set_option maxRecDepth 20000 in
theorem ggX1_takePart_X3_put : GoodIn wsX1_takePart wsX3_put := goodIn_r _ [15, 16, 17, 33, 34, 35] (by decide +kernel) (by decide +kernel)
set_option maxRecDepth 20000 in
theorem gX1_takePart_X3_put : GoodIn wsX1_takePart (wsV RX1 77 RX3 yX3_put wsX3_put) := goodIn_app (goodIn_of _ (by decide +kernel)) ggX1_takePart_X3_put
set_option maxRecDepth 20000 in
theorem ggX1_takeValue_X1_kindAt : GoodIn wsX1_takeValue wsX1_kindAt := goodIn_r _ [10, 11, 12, 9, 13] (by decide +kernel) (by decide +kernel)
set_option maxRecDepth 20000 in
theorem gX1_takeValue_X1_kindAt : GoodIn wsX1_takeValue (va_wsS RX1 81 yX1_kindAt wsX1_kindAt) := goodIn_app (goodIn_of _ (by decide +kernel)) ggX1_takeValue_X1_kindAt
set_option maxRecDepth 20000 in
theorem ggX1_takeValue_X1_depthOfNext : GoodIn wsX1_takeValue wsX1_depthOfNext := goodIn_r _ [17, 2, 1, 18, 19, 20, 21, 22, 23, 24, 46, 47, 48, 49, 50, 51, 52, 53, 54, 55] (by decide +kernel) (by decide +kernel)
set_option maxRecDepth 20000 in
theorem gX1_takeValue_X1_depthOfNext : GoodIn wsX1_takeValue (wsV RX1 85 RX1 yX1_depthOfNext wsX1_depthOfNext) := goodIn_app (goodIn_of _ (by decide +kernel)) ggX1_takeValue_X1_depthOfNext
set_option maxRecDepth 20000 in
theorem ggX1_takeValue_X3_get : GoodIn wsX1_takeValue wsX3_get := goodIn_r _ [22, 23, 24, 53, 54, 55] (by decide +kernel) (by decide +kernel)
set_option maxRecDepth 20000 in
theorem gX1_takeValue_X3_get : GoodIn wsX1_takeValue (wsV RX1 73 RX3 yX3_get wsX3_get) := goodIn_app (goodIn_of _ (by decide +kernel)) ggX1_takeValue_X3_get
set_option maxRecDepth 20000 in
theorem ggX1_takeValue_X3_addRow : GoodIn wsX1_takeValue wsX3_addRow := goodIn_r _ [28, 23, 29, 30, 31, 21, 32, 33, 34, 35, 36, 24, 53, 54, 55] (by decide +kernel) (by decide +kernel)
set_option maxRecDepth 20000 in
theorem gX1_takeValue_X3_addRow : GoodIn wsX1_takeValue (wsV RX1 88 RX3 yX3_addRow wsX3_addRow) := goodIn_app (goodIn_of _ (by decide +kernel)) ggX1_takeValue_X3_addRow
set_option maxRecDepth 20000 in
theorem ggX1_takeValue_X3_put : GoodIn wsX1_takeValue wsX3_put := goodIn_r _ [36, 23, 24, 53, 54, 55] (by decide +kernel) (by decide +kernel)
set_option maxRecDepth 20000 in
theorem gX1_takeValue_X3_put : GoodIn wsX1_takeValue (wsV RX1 77 RX3 yX3_put wsX3_put) := goodIn_app (goodIn_of _ (by decide +kernel)) ggX1_takeValue_X3_put
set_option maxRecDepth 20000 in
theorem ggX1_takeValue_X1_stateInValue : GoodIn wsX1_takeValue wsX1_stateInValue := goodIn_r _ [41, 42, 43, 44, 9, 45, 2, 1, 18, 19, 20, 21, 22, 23, 24, 46, 47, 48, 49, 50, 51, 52, 53, 54, 55] (by decide +kernel) (by decide +kernel)
set_option maxRecDepth 20000 in
theorem gX1_takeValue_X1_stateInValue : GoodIn wsX1_takeValue (wsV RX1 91 RX1 yX1_stateInValue wsX1_stateInValue) := goodIn_app (goodIn_of _ (by decide +kernel)) ggX1_takeValue_X1_stateInValue
set_option maxRecDepth 20000 in
theorem ggX1_stateInValue_X1_stateBehindValue : GoodIn wsX1_stateInValue wsX1_stateBehindValue := goodIn_r _ [5, 6, 7, 8, 9, 10, 11, 12, 13, 14, 15, 16, 17, 18, 19, 20, 21, 22, 23, 24] (by decide +kernel) (by decide +kernel)
set_option maxRecDepth 20000 in
theorem gX1_stateInValue_X1_stateBehindValue : GoodIn wsX1_stateInValue (wsV RX1 47 RX1 yX1_stateBehindValue wsX1_stateBehindValue) := goodIn_app (goodIn_of _ (by decide +kernel)) ggX1_stateInValue_X1_stateBehindValue
set_option maxRecDepth 20000 in
theorem ggX1_kindAt_X1_isDigit : GoodIn wsX1_kindAt wsX1_isDigit := goodIn_r _ [4] (by decide +kernel) (by decide +kernel)
set_option maxRecDepth 20000 in
theorem gX1_kindAt_X1_isDigit : GoodIn wsX1_kindAt (va_wsS RX1 70 yX1_isDigit wsX1_isDigit) := goodIn_app (goodIn_of _ (by decide +kernel)) ggX1_kindAt_X1_isDigit
set_option maxRecDepth 20000 in
theorem ggX1_takeInWord_X1_stateBehindValue : GoodIn wsX1_takeInWord wsX1_stateBehindValue := goodIn_r _ [7, 8, 9, 10, 11, 12, 13, 14, 15, 16, 17, 18, 19, 20, 21, 22, 23, 24, 25, 26] (by decide +kernel) (by decide +kernel)
set_option maxRecDepth 20000 in
theorem gX1_takeInWord_X1_stateBehindValue : GoodIn wsX1_takeInWord (wsV RX1 47 RX1 yX1_stateBehindValue wsX1_stateBehindValue) := goodIn_app (goodIn_of _ (by decide +kernel)) ggX1_takeInWord_X1_stateBehindValue
set_option maxRecDepth 20000 in
theorem ggX1_takeInNumber_X1_takePoint : GoodIn wsX1_takeInNumber wsX1_takePoint := goodIn_r _ [7, 1, 8, 9, 2, 10, 11, 12, 13, 14, 15, 16, 20, 21, 22, 23, 24, 25, 26, 27, 28, 29] (by decide +kernel) (by decide +kernel)
set_option maxRecDepth 20000 in
theorem gX1_takeInNumber_X1_takePoint : GoodIn wsX1_takeInNumber (wsV RX1 94 RX1 yX1_takePoint wsX1_takePoint) := goodIn_app (goodIn_of _ (by decide +kernel)) ggX1_takeInNumber_X1_takePoint
set_option maxRecDepth 20000 in
theorem ggX1_takeInNumber_X1_isDigit : GoodIn wsX1_takeInNumber wsX1_isDigit := goodIn_r _ [19] (by decide +kernel) (by decide +kernel)
set_option maxRecDepth 20000 in
theorem gX1_takeInNumber_X1_isDigit : GoodIn wsX1_takeInNumber (va_wsS RX1 70 yX1_isDigit wsX1_isDigit) := goodIn_app (goodIn_of _ (by decide +kernel)) ggX1_takeInNumber_X1_isDigit
set_option maxRecDepth 20000 in
theorem ggX1_takePoint_X3_put : GoodIn wsX1_takePoint wsX3_put := goodIn_r _ [9, 10, 11, 19, 20, 21] (by decide +kernel) (by decide +kernel)
set_option maxRecDepth 20000 in
theorem gX1_takePoint_X3_put : GoodIn wsX1_takePoint (wsV RX1 77 RX3 yX3_put wsX3_put) := goodIn_app (goodIn_of _ (by decide +kernel)) ggX1_takePoint_X3_put
set_option maxRecDepth 20000 in
theorem ggX1_stateBehindValue_X3_get : GoodIn wsX1_stateBehindValue wsX3_get := goodIn_r _ [7, 8, 9, 17, 18, 19] (by decide +kernel) (by decide +kernel)
set_option maxRecDepth 20000 in
theorem gX1_stateBehindValue_X3_get : GoodIn wsX1_stateBehindValue (wsV RX1 73 RX3 yX3_get wsX3_get) := goodIn_app (goodIn_of _ (by decide +kernel)) ggX1_stateBehindValue_X3_get
set_option maxRecDepth 20000 in
theorem ggX1_closeValue_X3_put : GoodIn wsX1_closeValue wsX3_put := goodIn_r _ [9, 10, 11, 28, 29, 30] (by decide +kernel) (by decide +kernel)
set_option maxRecDepth 20000 in
theorem gX1_closeValue_X3_put : GoodIn wsX1_closeValue (wsV RX1 77 RX3 yX3_put wsX3_put) := goodIn_app (goodIn_of _ (by decide +kernel)) ggX1_closeValue_X3_put
set_option maxRecDepth 20000 in
theorem ggX1_closeValue_X3_get : GoodIn wsX1_closeValue wsX3_get := goodIn_r _ [15, 10, 11, 28, 29, 30] (by decide +kernel) (by decide +kernel)
set_option maxRecDepth 20000 in
theorem gX1_closeValue_X3_get : GoodIn wsX1_closeValue (wsV RX1 73 RX3 yX3_get wsX3_get) := goodIn_app (goodIn_of _ (by decide +kernel)) ggX1_closeValue_X3_get
set_option maxRecDepth 20000 in
theorem ggX1_closeValue_X1_stateBehindValue : GoodIn wsX1_closeValue wsX1_stateBehindValue := goodIn_r _ [20, 2, 1, 12, 13, 14, 8, 15, 10, 11, 21, 22, 23, 24, 25, 26, 27, 28, 29, 30] (by decide +kernel) (by decide +kernel)
set_option maxRecDepth 20000 in
theorem gX1_closeValue_X1_stateBehindValue : GoodIn wsX1_closeValue (wsV RX1 47 RX1 yX1_stateBehindValue wsX1_stateBehindValue) := goodIn_app (goodIn_of _ (by decide +kernel)) ggX1_closeValue_X1_stateBehindValue
set_option maxRecDepth 20000 in
theorem ggX1_depthOfNext_X3_get : GoodIn wsX1_depthOfNext wsX3_get := goodIn_r _ [7, 8, 9, 17, 18, 19] (by decide +kernel) (by decide +kernel)
set_option maxRecDepth 20000 in
theorem gX1_depthOfNext_X3_get : GoodIn wsX1_depthOfNext (wsV RX1 73 RX3 yX3_get wsX3_get) := goodIn_app (goodIn_of _ (by decide +kernel)) ggX1_depthOfNext_X3_get
set_option maxRecDepth 20000 in
theorem ggX2_init_X3_init : GoodIn wsX2_init wsX3_init := goodIn_r _ [10, 11, 2, 3, 12, 13, 14, 15, 16] (by decide +kernel) (by decide +kernel)
set_option maxRecDepth 20000 in
theorem gX2_init_X3_init_n9 : GoodIn wsX2_init (wsX3_init) := ggX2_init_X3_init
set_option maxRecDepth 20000 in
theorem ggX2_copyFrom_X3_copyFrom : GoodIn wsX2_copyFrom wsX3_copyFrom := goodIn_r _ [8, 9, 10, 11, 12, 13, 7, 14, 15, 16, 17, 18, 22, 23, 24] (by decide +kernel) (by decide +kernel)
set_option maxRecDepth 20000 in
theorem gX2_copyFrom_X3_copyFrom : GoodIn wsX2_copyFrom (wsV RX2 19 RX3 yX3_copyFrom wsX3_copyFrom) := goodIn_app (goodIn_of _ (by decide +kernel)) ggX2_copyFrom_X3_copyFrom
set_option maxRecDepth 20000 in
theorem ggX3_copyFrom_X3_moveCells : GoodIn wsX3_copyFrom wsX3_moveCells := goodIn_r _ [7, 8, 9, 10, 11] (by decide +kernel) (by decide +kernel)
set_option maxRecDepth 20000 in
theorem gX3_copyFrom_X3_moveCells : GoodIn wsX3_copyFrom (va_wsS RX3 22 yX3_moveCells wsX3_moveCells) := goodIn_app (goodIn_of _ (by decide +kernel)) ggX3_copyFrom_X3_moveCells
set_option maxRecDepth 20000 in
theorem ggX3_behind_X3_get : GoodIn wsX3_behind wsX3_get := goodIn_r _ [6, 1, 7, 8, 9, 10] (by decide +kernel) (by decide +kernel)
set_option maxRecDepth 20000 in
theorem gX3_behind_X3_get : GoodIn wsX3_behind (wsV RX3 32 RX3 yX3_get wsX3_get) := goodIn_app (goodIn_of _ (by decide +kernel)) ggX3_behind_X3_get
set_option maxRecDepth 20000 in
theorem ggX3_above_X3_get : GoodIn wsX3_above wsX3_get := goodIn_r _ [5, 6, 7, 8, 9, 10] (by decide +kernel) (by decide +kernel)
set_option maxRecDepth 20000 in
theorem gX3_above_X3_get : GoodIn wsX3_above (wsV RX3 32 RX3 yX3_get wsX3_get) := goodIn_app (goodIn_of _ (by decide +kernel)) ggX3_above_X3_get
set_option maxRecDepth 20000 in
theorem ggX3_countBelow_X3_get : GoodIn wsX3_countBelow wsX3_get := goodIn_r _ [5, 6, 7, 12, 13, 14] (by decide +kernel) (by decide +kernel)
set_option maxRecDepth 20000 in
theorem gX3_countBelow_X3_get : GoodIn wsX3_countBelow (wsV RX3 32 RX3 yX3_get wsX3_get) := goodIn_app (goodIn_of _ (by decide +kernel)) ggX3_countBelow_X3_get
set_option maxRecDepth 20000 in
theorem ggX3_countBelow_X3_behind : GoodIn wsX3_countBelow wsX3_behind := goodIn_r _ [11, 6, 1, 2, 3, 4, 5, 7, 12, 13, 14] (by decide +kernel) (by decide +kernel)
set_option maxRecDepth 20000 in
theorem gX3_countBelow_X3_behind : GoodIn wsX3_countBelow (wsV RX3 36 RX3 yX3_behind wsX3_behind) := goodIn_app (goodIn_of _ (by decide +kernel)) ggX3_countBelow_X3_behind
set_option maxRecDepth 20000 in
theorem ggX3_findBelow_X3_has : GoodIn wsX3_findBelow wsX3_has := goodIn_r _ [6, 1, 12, 13, 14] (by decide +kernel) (by decide +kernel)
set_option maxRecDepth 20000 in
theorem gX3_findBelow_X3_has : GoodIn wsX3_findBelow (wsV RX3 40 RX3 yX3_has wsX3_has) := goodIn_app (goodIn_of _ (by decide +kernel)) ggX3_findBelow_X3_has
set_option maxRecDepth 20000 in
theorem ggX3_findBelow_X3_get : GoodIn wsX3_findBelow wsX3_get := goodIn_r _ [10, 1, 11, 12, 13, 14] (by decide +kernel) (by decide +kernel)
set_option maxRecDepth 20000 in
theorem gX3_findBelow_X3_get : GoodIn wsX3_findBelow (wsV RX3 32 RX3 yX3_get wsX3_get) := goodIn_app (goodIn_of _ (by decide +kernel)) ggX3_findBelow_X3_get
set_option maxRecDepth 20000 in
theorem ggX3_insertBelow_X3_has : GoodIn wsX3_insertBelow wsX3_has := goodIn_r _ [7, 1, 27, 28, 29] (by decide +kernel) (by decide +kernel)
set_option maxRecDepth 20000 in
theorem gX3_insertBelow_X3_has : GoodIn wsX3_insertBelow (wsV RX3 40 RX3 yX3_has wsX3_has) := goodIn_app (goodIn_of _ (by decide +kernel)) ggX3_insertBelow_X3_has
set_option maxRecDepth 20000 in
theorem ggX3_insertBelow_X3_get : GoodIn wsX3_insertBelow wsX3_get := goodIn_r _ [11, 1, 2, 27, 28, 29] (by decide +kernel) (by decide +kernel)
set_option maxRecDepth 20000 in
theorem gX3_insertBelow_X3_get : GoodIn wsX3_insertBelow (wsV RX3 32 RX3 yX3_get wsX3_get) := goodIn_app (goodIn_of _ (by decide +kernel)) ggX3_insertBelow_X3_get
set_option maxRecDepth 20000 in
theorem ggX3_insertBelow_X3_moveCells : GoodIn wsX3_insertBelow wsX3_moveCells := goodIn_r _ [14, 15, 16, 17, 18] (by decide +kernel) (by decide +kernel)
set_option maxRecDepth 20000 in
theorem gX3_insertBelow_X3_moveCells : GoodIn wsX3_insertBelow (va_wsS RX3 22 yX3_moveCells wsX3_moveCells) := goodIn_app (goodIn_of _ (by decide +kernel)) ggX3_insertBelow_X3_moveCells
set_option maxRecDepth 20000 in
theorem ggX3_insertBelow_X3_startRow : GoodIn wsX3_insertBelow wsX3_startRow := goodIn_r _ [22, 23, 24, 25, 6, 26, 1, 2, 27, 28, 29] (by decide +kernel) (by decide +kernel)
set_option maxRecDepth 20000 in
theorem gX3_insertBelow_X3_startRow : GoodIn wsX3_insertBelow (wsV RX3 44 RX3 yX3_startRow wsX3_startRow) := goodIn_app (goodIn_of _ (by decide +kernel)) ggX3_insertBelow_X3_startRow
set_option maxRecDepth 20000 in
theorem ggX3_addRow_X3_startRow : GoodIn wsX3_addRow wsX3_startRow := goodIn_r _ [6, 7, 8, 9, 5, 10, 1, 11, 12, 13, 14] (by decide +kernel) (by decide +kernel)
set_option maxRecDepth 20000 in
theorem gX3_addRow_X3_startRow : GoodIn wsX3_addRow (wsV RX3 44 RX3 yX3_startRow wsX3_startRow) := goodIn_app (goodIn_of _ (by decide +kernel)) ggX3_addRow_X3_startRow
set_option maxRecDepth 20000 in
theorem ggX3_startRow_X3_put : GoodIn wsX3_startRow wsX3_put := goodIn_r _ [5, 6, 7, 8, 9, 10] (by decide +kernel) (by decide +kernel)
set_option maxRecDepth 20000 in
theorem gX3_startRow_X3_put : GoodIn wsX3_startRow (wsV RX3 48 RX3 yX3_put wsX3_put) := goodIn_app (goodIn_of _ (by decide +kernel)) ggX3_startRow_X3_put
set_option maxRecDepth 20000 in
theorem ggX3_dropBelow_X3_behind : GoodIn wsX3_dropBelow wsX3_behind := goodIn_r _ [7, 2, 8, 9, 10, 6, 11, 1, 19, 20, 21] (by decide +kernel) (by decide +kernel)
set_option maxRecDepth 20000 in
theorem gX3_dropBelow_X3_behind : GoodIn wsX3_dropBelow (wsV RX3 36 RX3 yX3_behind wsX3_behind) := goodIn_app (goodIn_of _ (by decide +kernel)) ggX3_dropBelow_X3_behind
set_option maxRecDepth 20000 in
theorem ggX3_dropBelow_X3_moveCells : GoodIn wsX3_dropBelow wsX3_moveCells := goodIn_r _ [14, 15, 16, 17, 18] (by decide +kernel) (by decide +kernel)
set_option maxRecDepth 20000 in
theorem gX3_dropBelow_X3_moveCells : GoodIn wsX3_dropBelow (va_wsS RX3 22 yX3_moveCells wsX3_moveCells) := goodIn_app (goodIn_of _ (by decide +kernel)) ggX3_dropBelow_X3_moveCells
set_option maxRecDepth 20000 in
theorem ggX3_markOptional_X3_get : GoodIn wsX3_markOptional wsX3_get := goodIn_r _ [6, 1, 7, 16, 17, 18] (by decide +kernel) (by decide +kernel)
set_option maxRecDepth 20000 in
theorem gX3_markOptional_X3_get : GoodIn wsX3_markOptional (wsV RX3 32 RX3 yX3_get wsX3_get) := goodIn_app (goodIn_of _ (by decide +kernel)) ggX3_markOptional_X3_get
set_option maxRecDepth 20000 in
theorem ggX3_markOptional_X3_above : GoodIn wsX3_markOptional wsX3_above := goodIn_r _ [11, 2, 3, 4, 5, 6, 1, 7, 16, 17, 18] (by decide +kernel) (by decide +kernel)
set_option maxRecDepth 20000 in
theorem gX3_markOptional_X3_above : GoodIn wsX3_markOptional (wsV RX3 51 RX3 yX3_above wsX3_above) := goodIn_app (goodIn_of _ (by decide +kernel)) ggX3_markOptional_X3_above
set_option maxRecDepth 20000 in
theorem ggX3_markOptional_X3_put : GoodIn wsX3_markOptional wsX3_put := goodIn_r _ [15, 1, 7, 16, 17, 18] (by decide +kernel) (by decide +kernel)
set_option maxRecDepth 20000 in
theorem gX3_markOptional_X3_put : GoodIn wsX3_markOptional (wsV RX3 48 RX3 yX3_put wsX3_put) := goodIn_app (goodIn_of _ (by decide +kernel)) ggX3_markOptional_X3_put
set_option maxRecDepth 20000 in
theorem ggX4_init_X1_init : GoodIn wsX4_init wsX1_init := goodIn_r _ [24, 25, 2, 3, 26, 16, 17, 27, 28, 29, 30, 4, 31, 59, 60, 61, 49, 50, 51, 52, 53, 54, 55] (by decide +kernel) (by decide +kernel)
set_option maxRecDepth 20000 in
theorem gX4_init_X1_init_n15 : GoodIn wsX4_init (wsX1_init) := ggX4_init_X1_init
set_option maxRecDepth 20000 in
theorem ggX4_init_X2_init : GoodIn wsX4_init wsX2_init := goodIn_r _ [33, 34, 2, 3, 35, 16, 17, 36, 37, 28, 29, 30, 4, 31, 59, 60, 61, 56, 57, 58] (by decide +kernel) (by decide +kernel)
set_option maxRecDepth 20000 in
theorem gX4_init_X2_init_n22 : GoodIn wsX4_init (wsX2_init) := ggX4_init_X2_init
set_option maxRecDepth 20000 in
theorem ggX4_init_X3_init : GoodIn wsX4_init wsX3_init := goodIn_r _ [29, 30, 2, 3, 4, 31, 59, 60, 61] (by decide +kernel) (by decide +kernel)
set_option maxRecDepth 20000 in
theorem gX4_init_X3_init_n33 : GoodIn wsX4_init (wsX3_init) := ggX4_init_X3_init
set_option maxRecDepth 20000 in
theorem ggX4_init_X0_init : GoodIn wsX4_init wsX0_init := goodIn_r _ [39, 40, 2, 3] (by decide +kernel) (by decide +kernel)
set_option maxRecDepth 20000 in
theorem gX4_init_X0_init_n40 : GoodIn wsX4_init (wsX0_init) := ggX4_init_X0_init
set_option maxRecDepth 20000 in
theorem ggX4_learn_X4_isShape : GoodIn wsX4_learn wsX4_isShape := goodIn_r _ [15] (by decide +kernel) (by decide +kernel)
set_option maxRecDepth 20000 in
theorem gX4_learn_X4_isShape : GoodIn wsX4_learn (va_wsS RX4 45 yX4_isShape wsX4_isShape) := goodIn_app (goodIn_of _ (by decide +kernel)) ggX4_learn_X4_isShape
set_option maxRecDepth 20000 in
theorem ggX4_learn_X1_read : GoodIn wsX4_learn wsX1_read := goodIn_r _ [20, 21, 22, 23, 24, 25, 26, 27, 28, 29, 30, 31, 32, 33, 34, 35, 36, 37, 19, 38, 39, 40, 41, 42, 43, 44, 45, 46, 47, 48, 49, 50, 51, 52, 53, 54, 55, 56, 57, 58, 59, 60, 61, 62, 63, 64, 65, 66, 67, 68, 69, 70, 71, 72, 73, 74, 75, 76, 77, 78, 79, 80, 81, 82, 83, 84, 85, 86, 87, 88, 89, 90, 91, 92, 93, 94, 95, 96, 97, 98, 99, 100, 101, 102, 103, 104, 105, 106, 107, 214, 215, 216, 217, 218, 219, 220, 211, 212, 213] (by decide +kernel) (by decide +kernel)
set_option maxRecDepth 20000 in
theorem gX4_learn_X1_read : GoodIn wsX4_learn (wsV RX4 60 RX1 yX1_read wsX1_read) := goodIn_app (goodIn_of _ (by decide +kernel)) ggX4_learn_X1_read
set_option maxRecDepth 20000 in
theorem ggX4_learn_X2_tree : GoodIn wsX4_learn wsX2_tree := goodIn_r _ [112, 113, 114, 221, 222, 223] (by decide +kernel) (by decide +kernel)
set_option maxRecDepth 20000 in
theorem gX4_learn_X2_tree : GoodIn wsX4_learn (wsV RX4 69 RX2 yX2_tree wsX2_tree) := goodIn_app (goodIn_of _ (by decide +kernel)) ggX4_learn_X2_tree
set_option maxRecDepth 20000 in
theorem ggX4_learn_X4_workOutLearned : GoodIn wsX4_learn wsX4_workOutLearned := goodIn_r _ [118, 7, 119, 120, 11, 121, 122, 123, 31, 124, 54, 33, 34, 125, 126, 127, 128, 129, 130, 131, 132, 75, 76, 77, 133, 134, 135, 14, 136, 137, 51, 52, 53, 138, 139, 140, 141, 142, 143, 144, 145, 146, 147, 148, 149, 150, 70, 71, 72, 73, 74, 151, 152, 153, 154, 155, 156, 157, 158, 159, 160, 161, 203, 204, 205, 206, 207, 208, 209, 210, 214, 215, 216, 217, 218, 219, 220, 211, 212, 213] (by decide +kernel) (by decide +kernel)
set_option maxRecDepth 20000 in
theorem gX4_learn_X4_workOutLearned : GoodIn wsX4_learn (wsV RX4 73 RX4 yX4_workOutLearned wsX4_workOutLearned) := goodIn_app (goodIn_of _ (by decide +kernel)) ggX4_learn_X4_workOutLearned
set_option maxRecDepth 20000 in
theorem ggX4_learn_X4_isRefused : GoodIn wsX4_learn wsX4_isRefused := goodIn_r _ [165, 119, 11, 10, 166, 167, 168, 169, 14, 170, 137, 51, 52, 31, 53, 33, 54, 203, 204, 205, 206, 207, 208, 209, 210, 211, 212, 213, 221, 222, 223] (by decide +kernel) (by decide +kernel)
set_option maxRecDepth 20000 in
theorem gX4_learn_X4_isRefused : GoodIn wsX4_learn (wsV RX4 77 RX4 yX4_isRefused wsX4_isRefused) := goodIn_app (goodIn_of _ (by decide +kernel)) ggX4_learn_X4_isRefused
set_option maxRecDepth 20000 in
theorem ggX4_learn_X4_saveState : GoodIn wsX4_learn wsX4_saveState := goodIn_r _ [174, 175, 176, 10, 177, 178, 179, 14, 180, 181, 182, 183, 184, 185, 186, 187, 111, 188, 113, 114, 189, 190, 122, 123, 31, 124, 54, 33, 34, 125, 126, 127, 128, 129, 130, 131, 203, 204, 205, 206, 207, 208, 209, 210, 221, 222, 223, 211, 212, 213] (by decide +kernel) (by decide +kernel)
set_option maxRecDepth 20000 in
theorem gX4_learn_X4_saveState : GoodIn wsX4_learn (wsV RX4 86 RX4 yX4_saveState wsX4_saveState) := goodIn_app (goodIn_of _ (by decide +kernel)) ggX4_learn_X4_saveState
set_option maxRecDepth 20000 in
theorem ggX4_learn_X4_takeWork : GoodIn wsX4_learn wsX4_takeWork := goodIn_r _ [194, 119, 195, 196, 197, 31, 198, 33, 146, 51, 52, 53, 54, 199, 200, 201, 202, 74, 75, 76, 77, 121, 122, 123, 124, 34, 125, 126, 127, 128, 129, 130, 131, 203, 204, 205, 206, 207, 208, 209, 210, 211, 212, 213] (by decide +kernel) (by decide +kernel)
set_option maxRecDepth 20000 in
theorem gX4_learn_X4_takeWork : GoodIn wsX4_learn (wsV RX4 89 RX4 yX4_takeWork wsX4_takeWork) := goodIn_app (goodIn_of _ (by decide +kernel)) ggX4_learn_X4_takeWork
set_option maxRecDepth 20000 in
theorem ggX4_join_X4_isShape : GoodIn wsX4_join wsX4_isShape := goodIn_r _ [11] (by decide +kernel) (by decide +kernel)
set_option maxRecDepth 20000 in
theorem gX4_join_X4_isShape : GoodIn wsX4_join (va_wsS RX4 45 yX4_isShape wsX4_isShape) := goodIn_app (goodIn_of _ (by decide +kernel)) ggX4_join_X4_isShape
set_option maxRecDepth 20000 in
theorem ggX4_join_X2_tree : GoodIn wsX4_join wsX2_tree := goodIn_r _ [16, 17, 18, 122, 123, 124] (by decide +kernel) (by decide +kernel)
set_option maxRecDepth 20000 in
theorem gX4_join_X2_tree : GoodIn wsX4_join (wsV RX4 69 RX2 yX2_tree wsX2_tree) := goodIn_app (goodIn_of _ (by decide +kernel)) ggX4_join_X2_tree
set_option maxRecDepth 20000 in
theorem ggX4_join_X4_workOutJoined : GoodIn wsX4_join wsX4_workOutJoined := goodIn_r _ [22, 6, 23, 7, 24, 25, 26, 27, 28, 29, 30, 31, 32, 10, 33, 34, 35, 36, 37, 38, 39, 40, 41, 42, 43, 44, 45, 46, 47, 48, 49, 50, 51, 52, 53, 54, 55, 56, 57, 58, 59, 60, 61, 62, 63, 64, 65, 66, 67, 111, 112, 113, 114, 115, 116, 117, 118, 119, 120, 121] (by decide +kernel) (by decide +kernel)
set_option maxRecDepth 20000 in
theorem gX4_join_X4_workOutJoined : GoodIn wsX4_join (wsV RX4 95 RX4 yX4_workOutJoined wsX4_workOutJoined) := goodIn_app (goodIn_of _ (by decide +kernel)) ggX4_join_X4_workOutJoined
set_option maxRecDepth 20000 in
theorem ggX4_join_X4_saveState : GoodIn wsX4_join wsX4_saveState := goodIn_r _ [71, 72, 73, 5, 74, 75, 76, 10, 77, 78, 79, 80, 81, 82, 83, 84, 15, 85, 17, 18, 86, 87, 88, 89, 27, 90, 42, 29, 30, 91, 92, 93, 94, 95, 96, 97, 111, 112, 113, 114, 115, 116, 117, 118, 122, 123, 124, 119, 120, 121] (by decide +kernel) (by decide +kernel)
set_option maxRecDepth 20000 in
theorem gX4_join_X4_saveState : GoodIn wsX4_join (wsV RX4 86 RX4 yX4_saveState wsX4_saveState) := goodIn_app (goodIn_of _ (by decide +kernel)) ggX4_join_X4_saveState
set_option maxRecDepth 20000 in
theorem ggX4_join_X4_takeWork : GoodIn wsX4_join wsX4_takeWork := goodIn_r _ [101, 6, 102, 103, 104, 27, 105, 29, 67, 39, 40, 41, 42, 106, 107, 108, 109, 54, 55, 56, 57, 110, 88, 89, 90, 30, 91, 92, 93, 94, 95, 96, 97, 111, 112, 113, 114, 115, 116, 117, 118, 119, 120, 121] (by decide +kernel) (by decide +kernel)
set_option maxRecDepth 20000 in
theorem gX4_join_X4_takeWork : GoodIn wsX4_join (wsV RX4 89 RX4 yX4_takeWork wsX4_takeWork) := goodIn_app (goodIn_of _ (by decide +kernel)) ggX4_join_X4_takeWork
set_option maxRecDepth 20000 in
theorem ggX4_forget_X4_isShape : GoodIn wsX4_forget wsX4_isShape := goodIn_r _ [8] (by decide +kernel) (by decide +kernel)
set_option maxRecDepth 20000 in
theorem gX4_forget_X4_isShape : GoodIn wsX4_forget (va_wsS RX4 45 yX4_isShape wsX4_isShape) := goodIn_app (goodIn_of _ (by decide +kernel)) ggX4_forget_X4_isShape
set_option maxRecDepth 20000 in
theorem ggX4_forget_X4_saveState : GoodIn wsX4_forget wsX4_saveState := goodIn_r _ [12, 13, 14, 3, 15, 16, 17, 7, 18, 19, 20, 21, 22, 23, 24, 25, 26, 27, 28, 29, 30, 31, 32, 33, 34, 35, 36, 37, 38, 39, 40, 41, 42, 43, 44, 45, 54, 55, 56, 57, 58, 59, 60, 61, 65, 66, 67, 62, 63, 64] (by decide +kernel) (by decide +kernel)
set_option maxRecDepth 20000 in
theorem gX4_forget_X4_saveState : GoodIn wsX4_forget (wsV RX4 86 RX4 yX4_saveState wsX4_saveState) := goodIn_app (goodIn_of _ (by decide +kernel)) ggX4_forget_X4_saveState
set_option maxRecDepth 20000 in
theorem ggX4_forget_X2_tree : GoodIn wsX4_forget wsX2_tree := goodIn_r _ [49, 28, 29, 65, 66, 67] (by decide +kernel) (by decide +kernel)
set_option maxRecDepth 20000 in
theorem gX4_forget_X2_tree : GoodIn wsX4_forget (wsV RX4 69 RX2 yX2_tree wsX2_tree) := goodIn_app (goodIn_of _ (by decide +kernel)) ggX4_forget_X2_tree
set_option maxRecDepth 20000 in
theorem ggX4_forget_X3_clear : GoodIn wsX4_forget wsX3_clear := goodIn_r _ [53, 37, 38, 62, 63, 64] (by decide +kernel) (by decide +kernel)
set_option maxRecDepth 20000 in
theorem gX4_forget_X3_clear : GoodIn wsX4_forget (wsV RX4 101 RX3 yX3_clear wsX3_clear) := goodIn_app (goodIn_of _ (by decide +kernel)) ggX4_forget_X3_clear
set_option maxRecDepth 20000 in
theorem ggX4_swap_X4_saveState : GoodIn wsX4_swap wsX4_saveState := goodIn_r _ [10, 11, 12, 2, 13, 14, 15, 9, 16, 17, 18, 19, 20, 21, 22, 23, 24, 25, 26, 27, 28, 29, 30, 31, 32, 33, 34, 35, 36, 37, 38, 39, 40, 41, 42, 43, 45, 46, 47, 48, 49, 50, 51, 52, 53, 54, 55, 56, 57, 58] (by decide +kernel) (by decide +kernel)
set_option maxRecDepth 20000 in
theorem gX4_swap_X4_saveState : GoodIn wsX4_swap (wsV RX4 86 RX4 yX4_saveState wsX4_saveState) := goodIn_app (goodIn_of _ (by decide +kernel)) ggX4_swap_X4_saveState
set_option maxRecDepth 20000 in
theorem ggX4_swap_X3_copyFrom : GoodIn wsX4_swap wsX3_copyFrom := goodIn_r _ [33, 34, 35, 36, 37, 38, 32, 39, 40, 41, 42, 43, 56, 57, 58] (by decide +kernel) (by decide +kernel)
set_option maxRecDepth 20000 in
theorem gX4_swap_X3_copyFrom : GoodIn wsX4_swap (wsV RX4 107 RX3 yX3_copyFrom wsX3_copyFrom) := goodIn_app (goodIn_of _ (by decide +kernel)) ggX4_swap_X3_copyFrom
set_option maxRecDepth 20000 in
theorem ggX4_set_X4_saveState : GoodIn wsX4_set wsX4_saveState := goodIn_r _ [9, 10, 11, 3, 12, 13, 14, 8, 15, 16, 17, 18, 19, 20, 21, 22, 23, 24, 25, 26, 27, 28, 29, 30, 31, 32, 33, 34, 35, 36, 37, 38, 39, 40, 41, 42, 43, 44, 45, 46, 47, 48, 49, 50, 51, 52, 53, 54, 55, 56] (by decide +kernel) (by decide +kernel)
set_option maxRecDepth 20000 in
theorem gX4_set_X4_saveState : GoodIn wsX4_set (wsV RX4 86 RX4 yX4_saveState wsX4_saveState) := goodIn_app (goodIn_of _ (by decide +kernel)) ggX4_set_X4_saveState
set_option maxRecDepth 20000 in
theorem ggX4_undo_X4_savedAt : GoodIn wsX4_undo wsX4_savedAt := goodIn_r _ [9, 10, 34, 35, 36, 37, 38, 39, 40, 41] (by decide +kernel) (by decide +kernel)
set_option maxRecDepth 20000 in
theorem gX4_undo_X4_savedAt : GoodIn wsX4_undo (wsV RX4 128 RX4 yX4_savedAt wsX4_savedAt) := goodIn_app (goodIn_of _ (by decide +kernel)) ggX4_undo_X4_savedAt
set_option maxRecDepth 20000 in
theorem ggX4_undo_X2_copyFrom : GoodIn wsX4_undo wsX2_copyFrom := goodIn_r _ [15, 16, 17, 18, 19, 20, 21, 22, 23, 24, 25, 26, 27, 28, 29, 30, 31, 32, 33, 42, 43, 44, 45, 46, 47] (by decide +kernel) (by decide +kernel)
set_option maxRecDepth 20000 in
theorem gX4_undo_X2_copyFrom : GoodIn wsX4_undo (wsV RX4 134 RX2 yX2_copyFrom wsX2_copyFrom) := goodIn_app (goodIn_of _ (by decide +kernel)) ggX4_undo_X2_copyFrom
set_option maxRecDepth 20000 in
theorem ggX4_node_X4_isShape : GoodIn wsX4_node wsX4_isShape := goodIn_r _ [9] (by decide +kernel) (by decide +kernel)
set_option maxRecDepth 20000 in
theorem gX4_node_X4_isShape : GoodIn wsX4_node (va_wsS RX4 45 yX4_isShape wsX4_isShape) := goodIn_app (goodIn_of _ (by decide +kernel)) ggX4_node_X4_isShape
set_option maxRecDepth 20000 in
theorem ggX4_node_X2_tree : GoodIn wsX4_node wsX2_tree := goodIn_r _ [14, 15, 16, 52, 53, 54] (by decide +kernel) (by decide +kernel)
set_option maxRecDepth 20000 in
theorem gX4_node_X2_tree : GoodIn wsX4_node (wsV RX4 69 RX2 yX2_tree wsX2_tree) := goodIn_app (goodIn_of _ (by decide +kernel)) ggX4_node_X2_tree
set_option maxRecDepth 20000 in
theorem ggX4_node_X3_has : GoodIn wsX4_node wsX3_has := goodIn_r _ [21, 22, 55, 56, 57] (by decide +kernel) (by decide +kernel)
set_option maxRecDepth 20000 in
theorem gX4_node_X3_has : GoodIn wsX4_node (wsV RX4 137 RX3 yX3_has wsX3_has) := goodIn_app (goodIn_of _ (by decide +kernel)) ggX4_node_X3_has
set_option maxRecDepth 20000 in
theorem ggX4_node_X4_nodeNumber : GoodIn wsX4_node wsX4_nodeNumber := goodIn_r _ [25, 26, 27, 28, 20, 29, 22, 30, 31, 32, 33, 34, 35, 36, 37, 38, 39, 40, 41, 42, 43, 55, 56, 57] (by decide +kernel) (by decide +kernel)
set_option maxRecDepth 20000 in
theorem gX4_node_X4_nodeNumber : GoodIn wsX4_node (va_wsS RX4 144 yX4_nodeNumber wsX4_nodeNumber) := goodIn_app (goodIn_of _ (by decide +kernel)) ggX4_node_X4_nodeNumber
set_option maxRecDepth 20000 in
theorem ggX4_child_X4_isShape : GoodIn wsX4_child wsX4_isShape := goodIn_r _ [9] (by decide +kernel) (by decide +kernel)
set_option maxRecDepth 20000 in
theorem gX4_child_X4_isShape : GoodIn wsX4_child (va_wsS RX4 45 yX4_isShape wsX4_isShape) := goodIn_app (goodIn_of _ (by decide +kernel)) ggX4_child_X4_isShape
set_option maxRecDepth 20000 in
theorem ggX4_child_X2_tree : GoodIn wsX4_child wsX2_tree := goodIn_r _ [14, 15, 16, 41, 42, 43] (by decide +kernel) (by decide +kernel)
set_option maxRecDepth 20000 in
theorem gX4_child_X2_tree : GoodIn wsX4_child (wsV RX4 69 RX2 yX2_tree wsX2_tree) := goodIn_app (goodIn_of _ (by decide +kernel)) ggX4_child_X2_tree
set_option maxRecDepth 20000 in
theorem ggX4_child_X3_has : GoodIn wsX4_child wsX3_has := goodIn_r _ [21, 22, 44, 45, 46] (by decide +kernel) (by decide +kernel)
set_option maxRecDepth 20000 in
theorem gX4_child_X3_has : GoodIn wsX4_child (wsV RX4 137 RX3 yX3_has wsX3_has) := goodIn_app (goodIn_of _ (by decide +kernel)) ggX4_child_X3_has
set_option maxRecDepth 20000 in
theorem ggX4_child_X3_findBelow : GoodIn wsX4_child wsX3_findBelow := goodIn_r _ [26, 22, 27, 18, 19, 20, 21, 28, 29, 30, 31, 32, 44, 45, 46] (by decide +kernel) (by decide +kernel)
set_option maxRecDepth 20000 in
theorem gX4_child_X3_findBelow : GoodIn wsX4_child (wsV RX4 150 RX3 yX3_findBelow wsX3_findBelow) := goodIn_app (goodIn_of _ (by decide +kernel)) ggX4_child_X3_findBelow
set_option maxRecDepth 20000 in
theorem ggX4_shape_X4_isShape : GoodIn wsX4_shape wsX4_isShape := goodIn_r _ [9] (by decide +kernel) (by decide +kernel)
set_option maxRecDepth 20000 in
theorem gX4_shape_X4_isShape : GoodIn wsX4_shape (va_wsS RX4 45 yX4_isShape wsX4_isShape) := goodIn_app (goodIn_of _ (by decide +kernel)) ggX4_shape_X4_isShape
set_option maxRecDepth 20000 in
theorem ggX4_shape_X2_tree : GoodIn wsX4_shape wsX2_tree := goodIn_r _ [14, 15, 16, 41, 42, 43] (by decide +kernel) (by decide +kernel)
set_option maxRecDepth 20000 in
theorem gX4_shape_X2_tree : GoodIn wsX4_shape (wsV RX4 69 RX2 yX2_tree wsX2_tree) := goodIn_app (goodIn_of _ (by decide +kernel)) ggX4_shape_X2_tree
set_option maxRecDepth 20000 in
theorem ggX4_shape_X4_shapeNumber : GoodIn wsX4_shape wsX4_shapeNumber := goodIn_r _ [19, 20, 21, 22, 23, 24, 25, 26, 27, 28, 29, 30, 31, 32, 44, 45, 46] (by decide +kernel) (by decide +kernel)
