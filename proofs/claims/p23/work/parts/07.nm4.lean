/-! ===== names, 4 ===== -/
set_option maxRecDepth 20000 in
theorem gX4_shape_X4_shapeNumber : GoodIn wsX4_shape (va_wsS RX4 156 yX4_shapeNumber wsX4_shapeNumber) := goodIn_app (goodIn_of _ (by decide +kernel)) ggX4_shape_X4_shapeNumber
set_option maxRecDepth 20000 in
theorem ggX4_count_X4_stateNumber : GoodIn wsX4_count wsX4_stateNumber := goodIn_r _ [7, 8, 9, 10, 11, 12, 13, 14, 15, 16, 17, 18, 19, 20, 21, 22] (by decide +kernel) (by decide +kernel)
set_option maxRecDepth 20000 in
theorem gX4_count_X4_stateNumber : GoodIn wsX4_count (wsV RX4 168 RX4 yX4_stateNumber wsX4_stateNumber) := goodIn_app (goodIn_of _ (by decide +kernel)) ggX4_count_X4_stateNumber
set_option maxRecDepth 20000 in
theorem ggX4_ifLearned_X4_isShape : GoodIn wsX4_ifLearned wsX4_isShape := goodIn_r _ [12] (by decide +kernel) (by decide +kernel)
set_option maxRecDepth 20000 in
theorem gX4_ifLearned_X4_isShape : GoodIn wsX4_ifLearned (va_wsS RX4 45 yX4_isShape wsX4_isShape) := goodIn_app (goodIn_of _ (by decide +kernel)) ggX4_ifLearned_X4_isShape
set_option maxRecDepth 20000 in
theorem ggX4_ifLearned_X1_read : GoodIn wsX4_ifLearned wsX1_read := goodIn_r _ [17, 18, 19, 20, 21, 22, 23, 24, 25, 26, 27, 28, 29, 30, 31, 32, 33, 34, 16, 35, 36, 37, 38, 39, 40, 41, 42, 43, 44, 45, 46, 47, 48, 49, 50, 51, 52, 53, 54, 55, 56, 57, 58, 59, 60, 61, 62, 63, 64, 65, 66, 67, 68, 69, 70, 71, 72, 73, 74, 75, 76, 77, 78, 79, 80, 81, 82, 83, 84, 85, 86, 87, 88, 89, 90, 91, 92, 93, 94, 95, 96, 97, 98, 99, 100, 101, 102, 103, 104, 181, 182, 183, 184, 185, 186, 187, 188, 189, 190] (by decide +kernel) (by decide +kernel)
set_option maxRecDepth 20000 in
theorem gX4_ifLearned_X1_read : GoodIn wsX4_ifLearned (wsV RX4 60 RX1 yX1_read wsX1_read) := goodIn_app (goodIn_of _ (by decide +kernel)) ggX4_ifLearned_X1_read
set_option maxRecDepth 20000 in
theorem ggX4_ifLearned_X2_tree : GoodIn wsX4_ifLearned wsX2_tree := goodIn_r _ [109, 110, 111, 191, 192, 193] (by decide +kernel) (by decide +kernel)
set_option maxRecDepth 20000 in
theorem gX4_ifLearned_X2_tree : GoodIn wsX4_ifLearned (wsV RX4 69 RX2 yX2_tree wsX2_tree) := goodIn_app (goodIn_of _ (by decide +kernel)) ggX4_ifLearned_X2_tree
set_option maxRecDepth 20000 in
theorem ggX4_ifLearned_X4_workOutLearned : GoodIn wsX4_ifLearned wsX4_workOutLearned := goodIn_r _ [115, 5, 116, 117, 118, 119, 120, 121, 28, 122, 51, 30, 31, 123, 124, 125, 126, 127, 128, 129, 130, 72, 73, 74, 131, 132, 133, 11, 134, 135, 48, 49, 50, 136, 137, 138, 139, 140, 141, 142, 143, 144, 145, 146, 147, 148, 67, 68, 69, 70, 71, 149, 150, 151, 152, 153, 154, 155, 156, 157, 158, 159, 173, 174, 175, 176, 177, 178, 179, 180, 181, 182, 183, 184, 185, 186, 187, 188, 189, 190] (by decide +kernel) (by decide +kernel)
set_option maxRecDepth 20000 in
theorem gX4_ifLearned_X4_workOutLearned : GoodIn wsX4_ifLearned (wsV RX4 73 RX4 yX4_workOutLearned wsX4_workOutLearned) := goodIn_app (goodIn_of _ (by decide +kernel)) ggX4_ifLearned_X4_workOutLearned
set_option maxRecDepth 20000 in
theorem ggX4_ifLearned_X4_outlookNumber : GoodIn wsX4_ifLearned wsX4_outlookNumber := goodIn_r _ [163, 116, 118, 164, 165, 166, 11, 167, 8, 168, 169, 170, 171, 172, 135, 48, 49, 28, 50, 30, 51, 173, 174, 175, 176, 177, 178, 179, 180, 188, 189, 190, 191, 192, 193] (by decide +kernel) (by decide +kernel)
set_option maxRecDepth 20000 in
theorem gX4_ifLearned_X4_outlookNumber : GoodIn wsX4_ifLearned (wsV RX4 179 RX4 yX4_outlookNumber wsX4_outlookNumber) := goodIn_app (goodIn_of _ (by decide +kernel)) ggX4_ifLearned_X4_outlookNumber
set_option maxRecDepth 20000 in
theorem ggX4_covers_X4_isShape : GoodIn wsX4_covers wsX4_isShape := goodIn_r _ [6] (by decide +kernel) (by decide +kernel)
set_option maxRecDepth 20000 in
theorem gX4_covers_X4_isShape : GoodIn wsX4_covers (va_wsS RX4 45 yX4_isShape wsX4_isShape) := goodIn_app (goodIn_of _ (by decide +kernel)) ggX4_covers_X4_isShape
set_option maxRecDepth 20000 in
theorem ggX4_covers_X4_coversOther : GoodIn wsX4_covers wsX4_coversOther := goodIn_r _ [10, 11, 12, 13, 14, 15, 16, 17, 18, 19, 20, 21, 5, 22, 23, 24, 25, 26, 27, 28, 29, 30, 31, 32, 33, 34, 35, 36, 37, 38, 39, 40, 41, 42, 43, 44, 45, 46, 47, 48, 49, 50, 51, 52, 53, 54, 55, 56, 57, 58, 59] (by decide +kernel) (by decide +kernel)
set_option maxRecDepth 20000 in
theorem gX4_covers_X4_coversOther : GoodIn wsX4_covers (wsV RX4 182 RX4 yX4_coversOther wsX4_coversOther) := goodIn_app (goodIn_of _ (by decide +kernel)) ggX4_covers_X4_coversOther
set_option maxRecDepth 20000 in
theorem ggX4_sureShare_X4_isShape : GoodIn wsX4_sureShare wsX4_isShape := goodIn_r _ [7] (by decide +kernel) (by decide +kernel)
set_option maxRecDepth 20000 in
theorem gX4_sureShare_X4_isShape : GoodIn wsX4_sureShare (va_wsS RX4 45 yX4_isShape wsX4_isShape) := goodIn_app (goodIn_of _ (by decide +kernel)) ggX4_sureShare_X4_isShape
set_option maxRecDepth 20000 in
theorem ggX4_sureShare_X2_tree : GoodIn wsX4_sureShare wsX2_tree := goodIn_r _ [12, 13, 14, 34, 35, 36] (by decide +kernel) (by decide +kernel)
set_option maxRecDepth 20000 in
theorem gX4_sureShare_X2_tree : GoodIn wsX4_sureShare (wsV RX4 69 RX2 yX2_tree wsX2_tree) := goodIn_app (goodIn_of _ (by decide +kernel)) ggX4_sureShare_X2_tree
set_option maxRecDepth 20000 in
theorem ggX4_sureShare_X4_shareOfSure : GoodIn wsX4_sureShare wsX4_shareOfSure := goodIn_r _ [17, 18, 19, 20, 21, 22, 23, 24, 25, 37, 38, 39] (by decide +kernel) (by decide +kernel)
set_option maxRecDepth 20000 in
theorem gX4_sureShare_X4_shareOfSure : GoodIn wsX4_sureShare (va_wsS RX4 185 yX4_shareOfSure wsX4_shareOfSure) := goodIn_app (goodIn_of _ (by decide +kernel)) ggX4_sureShare_X4_shareOfSure
set_option maxRecDepth 20000 in
theorem ggX4_saveState_X4_dropOldest : GoodIn wsX4_saveState wsX4_dropOldest := goodIn_r _ [8, 2, 1, 9, 10, 11, 7, 12, 36, 37, 38, 39, 40, 41, 42, 43] (by decide +kernel) (by decide +kernel)
set_option maxRecDepth 20000 in
theorem gX4_saveState_X4_dropOldest : GoodIn wsX4_saveState (wsV RX4 211 RX4 yX4_dropOldest wsX4_dropOldest) := goodIn_app (goodIn_of _ (by decide +kernel)) ggX4_saveState_X4_dropOldest
set_option maxRecDepth 20000 in
theorem ggX4_saveState_X4_savedAt : GoodIn wsX4_saveState wsX4_savedAt := goodIn_r _ [12, 2, 36, 37, 38, 39, 40, 41, 42, 43] (by decide +kernel) (by decide +kernel)
set_option maxRecDepth 20000 in
theorem gX4_saveState_X4_savedAt : GoodIn wsX4_saveState (wsV RX4 128 RX4 yX4_savedAt wsX4_savedAt) := goodIn_app (goodIn_of _ (by decide +kernel)) ggX4_saveState_X4_savedAt
set_option maxRecDepth 20000 in
theorem ggX4_saveState_X2_copyFrom : GoodIn wsX4_saveState wsX2_copyFrom := goodIn_r _ [17, 18, 19, 20, 21, 22, 23, 24, 25, 26, 27, 28, 29, 30, 31, 32, 33, 34, 35, 44, 45, 46, 47, 48, 49] (by decide +kernel) (by decide +kernel)
set_option maxRecDepth 20000 in
theorem gX4_saveState_X2_copyFrom : GoodIn wsX4_saveState (wsV RX4 134 RX2 yX2_copyFrom wsX2_copyFrom) := goodIn_app (goodIn_of _ (by decide +kernel)) ggX4_saveState_X2_copyFrom
set_option maxRecDepth 20000 in
theorem ggX4_dropOldest_X4_savedAt : GoodIn wsX4_dropOldest wsX4_savedAt := goodIn_r _ [7, 1, 8, 9, 10, 11, 12, 13, 14, 15] (by decide +kernel) (by decide +kernel)
set_option maxRecDepth 20000 in
theorem gX4_dropOldest_X4_savedAt : GoodIn wsX4_dropOldest (wsV RX4 128 RX4 yX4_savedAt wsX4_savedAt) := goodIn_app (goodIn_of _ (by decide +kernel)) ggX4_dropOldest_X4_savedAt
set_option maxRecDepth 20000 in
theorem ggX4_takeWork_X3_markOptional : GoodIn wsX4_takeWork wsX3_markOptional := goodIn_r _ [6, 7, 8, 9, 10, 5, 11, 12, 13, 14, 15, 16, 17, 18, 19, 20, 41, 42, 43] (by decide +kernel) (by decide +kernel)
set_option maxRecDepth 20000 in
theorem gX4_takeWork_X3_markOptional : GoodIn wsX4_takeWork (wsV RX4 214 RX3 yX3_markOptional wsX3_markOptional) := goodIn_app (goodIn_of _ (by decide +kernel)) ggX4_takeWork_X3_markOptional
set_option maxRecDepth 20000 in
theorem ggX4_takeWork_X3_copyFrom : GoodIn wsX4_takeWork wsX3_copyFrom := goodIn_r _ [24, 12, 7, 25, 26, 27, 5, 28, 29, 30, 31, 32, 41, 42, 43] (by decide +kernel) (by decide +kernel)
set_option maxRecDepth 20000 in
theorem gX4_takeWork_X3_copyFrom : GoodIn wsX4_takeWork (wsV RX4 107 RX3 yX3_copyFrom wsX3_copyFrom) := goodIn_app (goodIn_of _ (by decide +kernel)) ggX4_takeWork_X3_copyFrom
set_option maxRecDepth 20000 in
theorem ggX4_nodeNumber_X3_get : GoodIn wsX4_nodeNumber wsX3_get := goodIn_r _ [5, 6, 7, 21, 22, 23] (by decide +kernel) (by decide +kernel)
set_option maxRecDepth 20000 in
theorem gX4_nodeNumber_X3_get : GoodIn wsX4_nodeNumber (wsV RX4 217 RX3 yX3_get wsX3_get) := goodIn_app (goodIn_of _ (by decide +kernel)) ggX4_nodeNumber_X3_get
set_option maxRecDepth 20000 in
theorem ggX4_nodeNumber_X3_above : GoodIn wsX4_nodeNumber wsX3_above := goodIn_r _ [11, 12, 2, 3, 4, 5, 6, 7, 21, 22, 23] (by decide +kernel) (by decide +kernel)
set_option maxRecDepth 20000 in
theorem gX4_nodeNumber_X3_above : GoodIn wsX4_nodeNumber (wsV RX4 220 RX3 yX3_above wsX3_above) := goodIn_app (goodIn_of _ (by decide +kernel)) ggX4_nodeNumber_X3_above
set_option maxRecDepth 20000 in
theorem ggX4_nodeNumber_X3_countBelow : GoodIn wsX4_nodeNumber wsX3_countBelow := goodIn_r _ [16, 12, 2, 3, 4, 5, 6, 7, 17, 18, 19, 20, 21, 22, 23] (by decide +kernel) (by decide +kernel)
set_option maxRecDepth 20000 in
theorem gX4_nodeNumber_X3_countBelow : GoodIn wsX4_nodeNumber (wsV RX4 223 RX3 yX3_countBelow wsX3_countBelow) := goodIn_app (goodIn_of _ (by decide +kernel)) ggX4_nodeNumber_X3_countBelow
set_option maxRecDepth 20000 in
theorem ggX4_shapeNumber_X3_get : GoodIn wsX4_shapeNumber wsX3_get := goodIn_r _ [11, 12, 13, 14, 15, 16] (by decide +kernel) (by decide +kernel)
set_option maxRecDepth 20000 in
theorem gX4_shapeNumber_X3_get : GoodIn wsX4_shapeNumber (wsV RX4 217 RX3 yX3_get wsX3_get) := goodIn_app (goodIn_of _ (by decide +kernel)) ggX4_shapeNumber_X3_get
set_option maxRecDepth 20000 in
theorem ggX4_shareOfSure_X3_get : GoodIn wsX4_shareOfSure wsX3_get := goodIn_r _ [6, 7, 8, 9, 10, 11] (by decide +kernel) (by decide +kernel)
set_option maxRecDepth 20000 in
theorem gX4_shareOfSure_X3_get : GoodIn wsX4_shareOfSure (wsV RX4 217 RX3 yX3_get wsX3_get) := goodIn_app (goodIn_of _ (by decide +kernel)) ggX4_shareOfSure_X3_get
set_option maxRecDepth 20000 in
theorem ggX4_workOutLearned_X3_copyFrom : GoodIn wsX4_workOutLearned wsX3_copyFrom := goodIn_r _ [9, 10, 11, 12, 13, 14, 8, 15, 16, 17, 18, 19, 77, 78, 79] (by decide +kernel) (by decide +kernel)
set_option maxRecDepth 20000 in
theorem gX4_workOutLearned_X3_copyFrom : GoodIn wsX4_workOutLearned (wsV RX4 107 RX3 yX3_copyFrom wsX3_copyFrom) := goodIn_app (goodIn_of _ (by decide +kernel)) ggX4_workOutLearned_X3_copyFrom
set_option maxRecDepth 20000 in
theorem ggX4_workOutLearned_X3_put : GoodIn wsX4_workOutLearned wsX3_put := goodIn_r _ [23, 11, 10, 77, 78, 79] (by decide +kernel) (by decide +kernel)
set_option maxRecDepth 20000 in
theorem gX4_workOutLearned_X3_put : GoodIn wsX4_workOutLearned (wsV RX4 245 RX3 yX3_put wsX3_put) := goodIn_app (goodIn_of _ (by decide +kernel)) ggX4_workOutLearned_X3_put
set_option maxRecDepth 20000 in
theorem ggX4_workOutLearned_X4_showValue : GoodIn wsX4_workOutLearned wsX4_showValue := goodIn_r _ [28, 2, 4, 3, 29, 30, 31, 8, 32, 11, 10, 20, 21, 22, 23, 33, 34, 35, 36, 37, 38, 39, 40, 41, 42, 43, 44, 45, 13, 14, 15, 16, 17, 18, 19, 46, 47, 48, 49, 50, 51, 52, 27, 53, 54, 55, 56, 57, 58, 59, 60, 61, 62, 63, 64, 65, 66, 67, 68, 69, 77, 78, 79] (by decide +kernel) (by decide +kernel)
set_option maxRecDepth 20000 in
theorem gX4_workOutLearned_X4_showValue : GoodIn wsX4_workOutLearned (wsV RX4 249 RX4 yX4_showValue wsX4_showValue) := goodIn_app (goodIn_of _ (by decide +kernel)) ggX4_workOutLearned_X4_showValue
set_option maxRecDepth 20000 in
theorem ggX4_showValue_X3_get : GoodIn wsX4_showValue wsX3_get := goodIn_r _ [8, 9, 10, 60, 61, 62] (by decide +kernel) (by decide +kernel)
set_option maxRecDepth 20000 in
theorem gX4_showValue_X3_get : GoodIn wsX4_showValue (wsV RX4 217 RX3 yX3_get wsX3_get) := goodIn_app (goodIn_of _ (by decide +kernel)) ggX4_showValue_X3_get
set_option maxRecDepth 20000 in
theorem ggX4_showValue_X3_put : GoodIn wsX4_showValue wsX3_put := goodIn_r _ [14, 9, 10, 60, 61, 62] (by decide +kernel) (by decide +kernel)
set_option maxRecDepth 20000 in
theorem gX4_showValue_X3_put : GoodIn wsX4_showValue (wsV RX4 245 RX3 yX3_put wsX3_put) := goodIn_app (goodIn_of _ (by decide +kernel)) ggX4_showValue_X3_put
set_option maxRecDepth 20000 in
theorem ggX4_showValue_X3_findBelow : GoodIn wsX4_showValue wsX3_findBelow := goodIn_r _ [18, 9, 19, 20, 21, 7, 22, 23, 5, 6, 8, 10, 60, 61, 62] (by decide +kernel) (by decide +kernel)
set_option maxRecDepth 20000 in
theorem gX4_showValue_X3_findBelow : GoodIn wsX4_showValue (wsV RX4 150 RX3 yX3_findBelow wsX3_findBelow) := goodIn_app (goodIn_of _ (by decide +kernel)) ggX4_showValue_X3_findBelow
set_option maxRecDepth 20000 in
theorem ggX4_showValue_X3_insertBelow : GoodIn wsX4_showValue wsX3_insertBelow := goodIn_r _ [27, 9, 10, 19, 20, 21, 7, 22, 23, 5, 6, 8, 28, 29, 30, 31, 32, 33, 34, 35, 36, 37, 38, 39, 12, 13, 14, 60, 61, 62] (by decide +kernel) (by decide +kernel)
set_option maxRecDepth 20000 in
theorem gX4_showValue_X3_insertBelow : GoodIn wsX4_showValue (wsV RX4 253 RX3 yX3_insertBelow wsX3_insertBelow) := goodIn_app (goodIn_of _ (by decide +kernel)) ggX4_showValue_X3_insertBelow
set_option maxRecDepth 20000 in
theorem ggX4_showValue_X4_joinKinds : GoodIn wsX4_showValue wsX4_joinKinds := goodIn_r _ [43] (by decide +kernel) (by decide +kernel)
set_option maxRecDepth 20000 in
theorem gX4_showValue_X4_joinKinds : GoodIn wsX4_showValue (va_wsS RX4 256 yX4_joinKinds wsX4_joinKinds) := goodIn_app (goodIn_of _ (by decide +kernel)) ggX4_showValue_X4_joinKinds
set_option maxRecDepth 20000 in
theorem ggX4_showValue_X3_dropBelow : GoodIn wsX4_showValue wsX3_dropBelow := goodIn_r _ [47, 10, 9, 48, 49, 50, 7, 51, 23, 5, 6, 8, 28, 29, 30, 31, 32, 33, 34, 60, 61, 62] (by decide +kernel) (by decide +kernel)
set_option maxRecDepth 20000 in
theorem gX4_showValue_X3_dropBelow : GoodIn wsX4_showValue (wsV RX4 259 RX3 yX3_dropBelow wsX3_dropBelow) := goodIn_app (goodIn_of _ (by decide +kernel)) ggX4_showValue_X3_dropBelow
set_option maxRecDepth 20000 in
theorem ggX4_isRefused_X4_bringsAny : GoodIn wsX4_isRefused wsX4_bringsAny := goodIn_r _ [9, 1, 2, 10, 11, 12, 13, 14, 15, 16, 17, 18, 19, 20, 21, 22, 23, 24, 25, 26, 27] (by decide +kernel) (by decide +kernel)
set_option maxRecDepth 20000 in
theorem gX4_isRefused_X4_bringsAny : GoodIn wsX4_isRefused (wsV RX4 263 RX4 yX4_bringsAny wsX4_bringsAny) := goodIn_app (goodIn_of _ (by decide +kernel)) ggX4_isRefused_X4_bringsAny
set_option maxRecDepth 20000 in
theorem ggX4_bringsAny_X3_get : GoodIn wsX4_bringsAny wsX3_get := goodIn_r _ [7, 8, 9, 18, 19, 20] (by decide +kernel) (by decide +kernel)
set_option maxRecDepth 20000 in
theorem gX4_bringsAny_X3_get : GoodIn wsX4_bringsAny (wsV RX4 217 RX3 yX3_get wsX3_get) := goodIn_app (goodIn_of _ (by decide +kernel)) ggX4_bringsAny_X3_get
set_option maxRecDepth 20000 in
theorem ggX4_outlookNumber_X4_isRefused : GoodIn wsX4_outlookNumber wsX4_isRefused := goodIn_r _ [7, 1, 2, 8, 9, 10, 11, 12, 6, 13, 14, 15, 16, 17, 18, 19, 20, 21, 22, 23, 24, 25, 26, 27, 28, 29, 30, 31, 32, 33, 34] (by decide +kernel) (by decide +kernel)
set_option maxRecDepth 20000 in
theorem gX4_outlookNumber_X4_isRefused : GoodIn wsX4_outlookNumber (wsV RX4 77 RX4 yX4_isRefused wsX4_isRefused) := goodIn_app (goodIn_of _ (by decide +kernel)) ggX4_outlookNumber_X4_isRefused
set_option maxRecDepth 20000 in
theorem ggX4_outlookNumber_X3_get : GoodIn wsX4_outlookNumber wsX3_get := goodIn_r _ [18, 19, 20, 29, 30, 31] (by decide +kernel) (by decide +kernel)
set_option maxRecDepth 20000 in
theorem gX4_outlookNumber_X3_get : GoodIn wsX4_outlookNumber (wsV RX4 217 RX3 yX3_get wsX3_get) := goodIn_app (goodIn_of _ (by decide +kernel)) ggX4_outlookNumber_X3_get
set_option maxRecDepth 20000 in
theorem ggX4_workOutJoined_X3_clear : GoodIn wsX4_workOutJoined wsX3_clear := goodIn_r _ [8, 9, 10, 57, 58, 59] (by decide +kernel) (by decide +kernel)
set_option maxRecDepth 20000 in
theorem gX4_workOutJoined_X3_clear : GoodIn wsX4_workOutJoined (wsV RX4 101 RX3 yX3_clear wsX3_clear) := goodIn_app (goodIn_of _ (by decide +kernel)) ggX4_workOutJoined_X3_clear
set_option maxRecDepth 20000 in
theorem ggX4_workOutJoined_X4_joinNodes : GoodIn wsX4_workOutJoined wsX4_joinNodes := goodIn_r _ [14, 15, 16, 17, 18, 2, 19, 20, 21, 7, 22, 9, 23, 24, 25, 13, 26, 27, 28, 29, 30, 31, 32, 33, 34, 35, 36, 37, 38, 39, 40, 41, 42, 43, 44, 45, 46, 47, 48, 11, 12, 57, 58, 59] (by decide +kernel) (by decide +kernel)
set_option maxRecDepth 20000 in
theorem gX4_workOutJoined_X4_joinNodes : GoodIn wsX4_workOutJoined (va_wsS RX4 266 yX4_joinNodes wsX4_joinNodes) := goodIn_app (goodIn_of _ (by decide +kernel)) ggX4_workOutJoined_X4_joinNodes
set_option maxRecDepth 20000 in
theorem ggX4_joinNodes_X3_get : GoodIn wsX4_joinNodes wsX3_get := goodIn_r _ [10, 11, 12, 41, 42, 43] (by decide +kernel) (by decide +kernel)
set_option maxRecDepth 20000 in
theorem gX4_joinNodes_X3_get : GoodIn wsX4_joinNodes (wsV RX4 217 RX3 yX3_get wsX3_get) := goodIn_app (goodIn_of _ (by decide +kernel)) ggX4_joinNodes_X3_get
set_option maxRecDepth 20000 in
theorem ggX4_joinNodes_X4_joinKinds : GoodIn wsX4_joinNodes wsX4_joinKinds := goodIn_r _ [16] (by decide +kernel) (by decide +kernel)
set_option maxRecDepth 20000 in
theorem gX4_joinNodes_X4_joinKinds : GoodIn wsX4_joinNodes (va_wsS RX4 256 yX4_joinKinds wsX4_joinKinds) := goodIn_app (goodIn_of _ (by decide +kernel)) ggX4_joinNodes_X4_joinKinds
set_option maxRecDepth 20000 in
theorem ggX4_joinNodes_X3_addRow : GoodIn wsX4_joinNodes wsX3_addRow := goodIn_r _ [20, 11, 21, 22, 23, 9, 24, 25, 26, 27, 28, 12, 41, 42, 43] (by decide +kernel) (by decide +kernel)
set_option maxRecDepth 20000 in
theorem gX4_joinNodes_X3_addRow : GoodIn wsX4_joinNodes (wsV RX4 270 RX3 yX3_addRow wsX3_addRow) := goodIn_app (goodIn_of _ (by decide +kernel)) ggX4_joinNodes_X3_addRow
set_option maxRecDepth 20000 in
theorem ggX4_joinNodes_X3_put : GoodIn wsX4_joinNodes wsX3_put := goodIn_r _ [28, 11, 12, 41, 42, 43] (by decide +kernel) (by decide +kernel)
set_option maxRecDepth 20000 in
theorem gX4_joinNodes_X3_put : GoodIn wsX4_joinNodes (wsV RX4 245 RX3 yX3_put wsX3_put) := goodIn_app (goodIn_of _ (by decide +kernel)) ggX4_joinNodes_X3_put
set_option maxRecDepth 20000 in
theorem ggX4_joinNodes_X3_findBelow : GoodIn wsX4_joinNodes wsX3_findBelow := goodIn_r _ [33, 11, 34, 35, 36, 9, 37, 38, 7, 8, 10, 12, 41, 42, 43] (by decide +kernel) (by decide +kernel)
set_option maxRecDepth 20000 in
theorem gX4_joinNodes_X3_findBelow : GoodIn wsX4_joinNodes (wsV RX4 150 RX3 yX3_findBelow wsX3_findBelow) := goodIn_app (goodIn_of _ (by decide +kernel)) ggX4_joinNodes_X3_findBelow
set_option maxRecDepth 20000 in
theorem ggX4_joinNodes_X4_joinNodes : GoodIn wsX4_joinNodes wsX4_joinNodes := goodIn_r _ [0, 1, 2, 3, 4, 5, 6, 7, 8, 9, 10, 11, 12, 13, 14, 15, 16, 17, 18, 19, 20, 21, 22, 23, 24, 25, 26, 27, 28, 29, 30, 31, 32, 33, 34, 35, 36, 37, 38, 39, 40, 41, 42, 43] (by decide +kernel) (by decide +kernel)
set_option maxRecDepth 20000 in
theorem gX4_joinNodes_X4_joinNodes : GoodIn wsX4_joinNodes (va_wsS RX4 266 yX4_joinNodes wsX4_joinNodes) := goodIn_app (goodIn_of _ (by decide +kernel)) ggX4_joinNodes_X4_joinNodes
set_option maxRecDepth 20000 in
theorem ggX4_coversOther_X2_tree : GoodIn wsX4_coversOther wsX2_tree := goodIn_r _ [7, 8, 9, 48, 49, 50] (by decide +kernel) (by decide +kernel)
set_option maxRecDepth 20000 in
theorem gX4_coversOther_X2_tree : GoodIn wsX4_coversOther (wsV RX4 69 RX2 yX2_tree wsX2_tree) := goodIn_app (goodIn_of _ (by decide +kernel)) ggX4_coversOther_X2_tree
set_option maxRecDepth 20000 in
theorem ggX4_coversOther_X4_coversNode : GoodIn wsX4_coversOther wsX4_coversNode := goodIn_r _ [13, 14, 15, 16, 17, 18, 19, 20, 21, 22, 12, 23, 24, 25, 26, 27, 28, 29, 30, 31, 32, 10, 11, 33, 34, 35, 36, 45, 46, 47] (by decide +kernel) (by decide +kernel)
set_option maxRecDepth 20000 in
theorem gX4_coversOther_X4_coversNode : GoodIn wsX4_coversOther (va_wsS RX4 273 yX4_coversNode wsX4_coversNode) := goodIn_app (goodIn_of _ (by decide +kernel)) ggX4_coversOther_X4_coversNode
set_option maxRecDepth 20000 in
theorem ggX4_coversNode_X3_get : GoodIn wsX4_coversNode wsX3_get := goodIn_r _ [5, 6, 7, 27, 28, 29] (by decide +kernel) (by decide +kernel)
set_option maxRecDepth 20000 in
theorem gX4_coversNode_X3_get : GoodIn wsX4_coversNode (wsV RX4 217 RX3 yX3_get wsX3_get) := goodIn_app (goodIn_of _ (by decide +kernel)) ggX4_coversNode_X3_get
set_option maxRecDepth 20000 in
theorem ggX4_coversNode_X4_joinKinds : GoodIn wsX4_coversNode wsX4_joinKinds := goodIn_r _ [11] (by decide +kernel) (by decide +kernel)
set_option maxRecDepth 20000 in
theorem gX4_coversNode_X4_joinKinds : GoodIn wsX4_coversNode (va_wsS RX4 256 yX4_joinKinds wsX4_joinKinds) := goodIn_app (goodIn_of _ (by decide +kernel)) ggX4_coversNode_X4_joinKinds
set_option maxRecDepth 20000 in
theorem ggX4_coversNode_X3_findBelow : GoodIn wsX4_coversNode wsX3_findBelow := goodIn_r _ [15, 6, 16, 17, 18, 4, 19, 20, 2, 3, 5, 7, 27, 28, 29] (by decide +kernel) (by decide +kernel)
set_option maxRecDepth 20000 in
theorem gX4_coversNode_X3_findBelow : GoodIn wsX4_coversNode (wsV RX4 150 RX3 yX3_findBelow wsX3_findBelow) := goodIn_app (goodIn_of _ (by decide +kernel)) ggX4_coversNode_X3_findBelow
set_option maxRecDepth 20000 in
theorem ggX4_coversNode_X4_coversNode : GoodIn wsX4_coversNode wsX4_coversNode := goodIn_r _ [0, 1, 2, 3, 4, 5, 6, 7, 8, 9, 10, 11, 12, 13, 14, 15, 16, 17, 18, 19, 20, 21, 22, 23, 24, 25, 26, 27, 28, 29] (by decide +kernel) (by decide +kernel)
set_option maxRecDepth 20000 in
theorem gX4_coversNode_X4_coversNode : GoodIn wsX4_coversNode (va_wsS RX4 273 yX4_coversNode wsX4_coversNode) := goodIn_app (goodIn_of _ (by decide +kernel)) ggX4_coversNode_X4_coversNode
set_option maxRecDepth 20000 in
theorem ggX4_coversNode_X4_mustBeThere : GoodIn wsX4_coversNode wsX4_mustBeThere := goodIn_r _ [25, 26, 17, 18, 4, 19, 6, 1, 2, 3, 5, 7, 27, 28, 29] (by decide +kernel) (by decide +kernel)
set_option maxRecDepth 20000 in
theorem gX4_coversNode_X4_mustBeThere : GoodIn wsX4_coversNode (va_wsS RX4 277 yX4_mustBeThere wsX4_mustBeThere) := goodIn_app (goodIn_of _ (by decide +kernel)) ggX4_coversNode_X4_mustBeThere
set_option maxRecDepth 20000 in
theorem ggX4_mustBeThere_X3_has : GoodIn wsX4_mustBeThere wsX3_has := goodIn_r _ [5, 6, 12, 13, 14] (by decide +kernel) (by decide +kernel)
set_option maxRecDepth 20000 in
theorem gX4_mustBeThere_X3_has : GoodIn wsX4_mustBeThere (wsV RX4 137 RX3 yX3_has wsX3_has) := goodIn_app (goodIn_of _ (by decide +kernel)) ggX4_mustBeThere_X3_has
set_option maxRecDepth 20000 in
theorem ggX4_mustBeThere_X3_get : GoodIn wsX4_mustBeThere wsX3_get := goodIn_r _ [10, 6, 11, 12, 13, 14] (by decide +kernel) (by decide +kernel)
set_option maxRecDepth 20000 in
theorem gX4_mustBeThere_X3_get : GoodIn wsX4_mustBeThere (wsV RX4 217 RX3 yX3_get wsX3_get) := goodIn_app (goodIn_of _ (by decide +kernel)) ggX4_mustBeThere_X3_get
