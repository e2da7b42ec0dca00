set_option maxRecDepth 20000 in
theorem ggX5_sand_X0_mile : GoodIn wsX5_sand wsX0_mile := goodIn_r _ [46, 33, 47, 48, 49, 50, 51, 36, 52, 53, 54, 55, 40, 41, 6, 42, 34, 35, 56, 57, 58, 59, 60, 37, 27, 32, 61, 38, 62, 63, 64, 65, 66, 67, 68, 69, 70, 71, 72, 73, 74, 75, 76, 77, 78, 79, 80, 81, 82, 83, 84, 85, 86, 87, 88, 97, 98, 99, 100, 101, 102, 103, 104, 105, 106, 107, 108, 109, 110, 111, 112, 113] (by decide +kernel) (by decide +kernel)
set_option maxRecDepth 20000 in
theorem gX5_sand_X0_mile : GoodIn wsX5_sand (wsV RX5 158 RX0 yX0_mile wsX0_mile) := goodIn_app (goodIn_of _ (by decide +kernel)) ggX5_sand_X0_mile
set_option maxRecDepth 20000 in
theorem ggX5_unlike_X0_hasBoth : GoodIn wsX5_unlike wsX0_hasBoth := goodIn_r _ [6, 7, 8, 9, 5, 10, 11, 12, 13, 14, 15, 16, 108, 109, 110, 111, 112, 113, 114, 115, 116, 117, 118, 119] (by decide +kernel) (by decide +kernel)
set_option maxRecDepth 20000 in
theorem gX5_unlike_X0_hasBoth : GoodIn wsX5_unlike (wsV RX5 137 RX0 yX0_hasBoth wsX0_hasBoth) := goodIn_app (goodIn_of _ (by decide +kernel)) ggX5_unlike_X0_hasBoth
set_option maxRecDepth 20000 in
theorem ggX5_unlike_X0_hasJudge : GoodIn wsX5_unlike wsX0_hasJudge := goodIn_r _ [10, 11, 108, 109, 110, 111, 112, 113, 114, 115, 116, 117, 118, 119] (by decide +kernel) (by decide +kernel)
set_option maxRecDepth 20000 in
theorem gX5_unlike_X0_hasJudge : GoodIn wsX5_unlike (wsV RX5 94 RX0 yX0_hasJudge wsX0_hasJudge) := goodIn_app (goodIn_of _ (by decide +kernel)) ggX5_unlike_X0_hasJudge
set_option maxRecDepth 20000 in
theorem ggX5_unlike_X5_guiltyBits : GoodIn wsX5_unlike wsX5_guiltyBits := goodIn_r _ [22, 23, 24, 25, 26, 21, 27, 1, 28, 29, 30, 5, 31, 32, 33, 34, 35, 36, 37, 38, 39, 40, 41, 42, 11, 16, 43, 44, 45, 46, 47, 48, 49, 50, 51, 52, 53, 54, 55, 56, 57, 58, 59, 60, 61, 62, 63, 64, 65, 66, 67, 68, 69, 70, 71, 72, 73, 74, 75, 76, 77, 78, 79, 80, 81, 82, 83, 84, 85, 86, 87, 88, 89, 90, 91, 92, 93, 94, 95, 96, 100, 101, 102, 103, 104, 105, 106, 107, 108, 109, 110, 111, 112, 113, 114, 115, 116, 117, 118, 119, 120, 121, 122, 123, 124] (by decide +kernel) (by decide +kernel)
set_option maxRecDepth 20000 in
theorem gX5_unlike_X5_guiltyBits : GoodIn wsX5_unlike (wsV RX5 150 RX5 yX5_guiltyBits wsX5_guiltyBits) := goodIn_app (goodIn_of _ (by decide +kernel)) ggX5_unlike_X5_guiltyBits
set_option maxRecDepth 20000 in
theorem ggX5_unlike_X5_leastBit : GoodIn wsX5_unlike wsX5_leastBit := goodIn_r _ [99] (by decide +kernel) (by decide +kernel)
set_option maxRecDepth 20000 in
theorem gX5_unlike_X5_leastBit : GoodIn wsX5_unlike (va_wsS RX5 154 yX5_leastBit wsX5_leastBit) := goodIn_app (goodIn_of _ (by decide +kernel)) ggX5_unlike_X5_leastBit
set_option maxRecDepth 20000 in
theorem ggX5_hardest_X5_within : GoodIn wsX5_hardest wsX5_within := goodIn_r _ [6] (by decide +kernel) (by decide +kernel)
set_option maxRecDepth 20000 in
theorem gX5_hardest_X5_within : GoodIn wsX5_hardest (va_wsS RX5 86 yX5_within wsX5_within) := goodIn_app (goodIn_of _ (by decide +kernel)) ggX5_hardest_X5_within
set_option maxRecDepth 20000 in
theorem ggX5_hardest_X5_guiltyOfAll : GoodIn wsX5_hardest wsX5_guiltyOfAll := goodIn_r _ [10, 1, 11, 12, 13, 14, 15, 5, 16, 17, 18, 19, 20, 21, 22, 23, 24, 25, 26, 27, 28, 29, 30, 31, 32, 33, 34, 35, 36, 37, 38, 39, 40, 41, 42, 43, 44, 45, 46, 47, 48, 49, 50, 51, 52, 53, 54, 55, 56, 57, 58, 59, 60, 61, 62, 63, 64, 65, 66, 67, 68, 69, 70, 71, 72, 73, 74, 75, 76, 77, 78, 79, 80, 81, 82, 83, 84, 85, 86, 87, 88, 89, 90, 91, 92, 93, 94, 95, 96, 97, 98, 99, 100, 101, 102, 103, 104, 105, 106, 107, 108, 109, 110, 111, 112, 113, 114, 115, 116, 117] (by decide +kernel) (by decide +kernel)
set_option maxRecDepth 20000 in
theorem gX5_hardest_X5_guiltyOfAll : GoodIn wsX5_hardest (wsV RX5 161 RX5 yX5_guiltyOfAll wsX5_guiltyOfAll) := goodIn_app (goodIn_of _ (by decide +kernel)) ggX5_hardest_X5_guiltyOfAll
set_option maxRecDepth 20000 in
theorem ggX5_thick_X0_hasBoth : GoodIn wsX5_thick wsX0_hasBoth := goodIn_r _ [8, 9, 10, 11, 7, 12, 13, 14, 15, 16, 17, 18, 108, 109, 110, 111, 112, 113, 114, 115, 116, 117, 118, 119] (by decide +kernel) (by decide +kernel)
set_option maxRecDepth 20000 in
theorem gX5_thick_X0_hasBoth : GoodIn wsX5_thick (wsV RX5 137 RX0 yX0_hasBoth wsX0_hasBoth) := goodIn_app (goodIn_of _ (by decide +kernel)) ggX5_thick_X0_hasBoth
set_option maxRecDepth 20000 in
theorem ggX5_thick_X5_within : GoodIn wsX5_thick wsX5_within := goodIn_r _ [22] (by decide +kernel) (by decide +kernel)
set_option maxRecDepth 20000 in
theorem gX5_thick_X5_within : GoodIn wsX5_thick (va_wsS RX5 86 yX5_within wsX5_within) := goodIn_app (goodIn_of _ (by decide +kernel)) ggX5_thick_X5_within
set_option maxRecDepth 20000 in
theorem ggX5_thick_X5_think : GoodIn wsX5_thick wsX5_think := goodIn_r _ [26, 2, 1, 27, 28, 29, 7, 30, 31, 32, 33, 34, 35, 36, 37, 38, 39, 40, 41, 13, 18, 42, 100, 101, 102, 103, 104, 105, 106, 107, 108, 109, 110, 111, 112, 113, 114, 115, 116, 117, 118, 119] (by decide +kernel) (by decide +kernel)
set_option maxRecDepth 20000 in
theorem gX5_thick_X5_think : GoodIn wsX5_thick (wsV RX5 143 RX5 yX5_think wsX5_think) := goodIn_app (goodIn_of _ (by decide +kernel)) ggX5_thick_X5_think
set_option maxRecDepth 20000 in
theorem ggX5_thick_X0_go : GoodIn wsX5_thick wsX0_go := goodIn_r _ [46, 47, 48, 49, 7, 50, 37, 51, 52, 53, 54, 55, 40, 56, 57, 58, 59, 60, 61, 62, 38, 39, 63, 64, 65, 66, 67, 41, 31, 36, 68, 42, 69, 70, 71, 72, 73, 74, 75, 76, 77, 78, 79, 80, 81, 82, 83, 84, 85, 86, 87, 88, 89, 90, 91, 92, 93, 94, 95, 108, 109, 110, 111, 112, 113, 114, 115, 116, 117, 118, 119, 120, 121, 122, 123, 124] (by decide +kernel) (by decide +kernel)
set_option maxRecDepth 20000 in
theorem gX5_thick_X0_go : GoodIn wsX5_thick (wsV RX5 140 RX0 yX0_go wsX0_go) := goodIn_app (goodIn_of _ (by decide +kernel)) ggX5_thick_X0_go
set_option maxRecDepth 20000 in
theorem ggX5_thick_X0_verdict : GoodIn wsX5_thick wsX0_verdict := goodIn_r _ [99, 63, 64, 65, 7, 66, 67, 40, 41, 31, 36, 39, 68, 42, 52, 53, 54, 55, 56, 57, 58, 69, 70, 71, 72, 73, 74, 75, 76, 77, 78, 79, 80, 81, 82, 83, 108, 109, 110, 111, 112, 113, 114, 115, 116, 117, 118, 119, 120, 121, 122, 123, 124] (by decide +kernel) (by decide +kernel)
set_option maxRecDepth 20000 in
theorem gX5_thick_X0_verdict : GoodIn wsX5_thick (wsV RX5 164 RX0 yX0_verdict wsX0_verdict) := goodIn_app (goodIn_of _ (by decide +kernel)) ggX5_thick_X0_verdict
set_option maxRecDepth 20000 in
theorem ggX5_order_X0_hasJudge : GoodIn wsX5_order wsX0_hasJudge := goodIn_r _ [8, 9, 136, 137, 138, 139, 140, 141, 142, 143, 144, 145, 146, 147] (by decide +kernel) (by decide +kernel)
set_option maxRecDepth 20000 in
theorem gX5_order_X0_hasJudge : GoodIn wsX5_order (wsV RX5 94 RX0 yX0_hasJudge wsX0_hasJudge) := goodIn_app (goodIn_of _ (by decide +kernel)) ggX5_order_X0_hasJudge
set_option maxRecDepth 20000 in
theorem ggX5_order_X5_within : GoodIn wsX5_order wsX5_within := goodIn_r _ [13] (by decide +kernel) (by decide +kernel)
set_option maxRecDepth 20000 in
theorem gX5_order_X5_within : GoodIn wsX5_order (va_wsS RX5 86 yX5_within wsX5_within) := goodIn_app (goodIn_of _ (by decide +kernel)) ggX5_order_X5_within
set_option maxRecDepth 20000 in
theorem ggX5_order_X5_isPairOfBits : GoodIn wsX5_order wsX5_isPairOfBits := goodIn_r _ [16, 10, 11, 12, 13] (by decide +kernel) (by decide +kernel)
set_option maxRecDepth 20000 in
theorem gX5_order_X5_isPairOfBits : GoodIn wsX5_order (va_wsS RX5 167 yX5_isPairOfBits wsX5_isPairOfBits) := goodIn_app (goodIn_of _ (by decide +kernel)) ggX5_order_X5_isPairOfBits
set_option maxRecDepth 20000 in
theorem ggX5_order_X5_weighCases : GoodIn wsX5_order wsX5_weighCases := goodIn_r _ [20, 1, 3, 21, 2, 22, 23, 24, 25, 12, 26, 27, 28, 29, 7, 30, 31, 32, 33, 34, 35, 36, 37, 38, 39, 40, 41, 9, 42, 43, 44, 45, 46, 47, 48, 49, 50, 51, 52, 53, 54, 55, 56, 57, 58, 59, 60, 61, 62, 63, 64, 65, 66, 67, 68, 69, 70, 71, 72, 73, 74, 75, 76, 77, 78, 79, 80, 81, 82, 83, 84, 85, 86, 87, 88, 89, 90, 91, 92, 93, 94, 95, 96, 97, 98, 99, 100, 101, 128, 129, 130, 131, 132, 133, 134, 135, 136, 137, 138, 139, 140, 141, 142, 143, 144, 145, 146, 147, 148, 149, 150, 151, 152, 153, 154] (by decide +kernel) (by decide +kernel)
set_option maxRecDepth 20000 in
theorem gX5_order_X5_weighCases : GoodIn wsX5_order (wsV RX5 170 RX5 yX5_weighCases wsX5_weighCases) := goodIn_app (goodIn_of _ (by decide +kernel)) ggX5_order_X5_weighCases
set_option maxRecDepth 20000 in
theorem ggX5_order_X4_solve : GoodIn wsX5_order wsX4_solve := goodIn_r _ [106, 107, 108, 109, 110, 111, 112, 113, 114, 115, 148, 149] (by decide +kernel) (by decide +kernel)
set_option maxRecDepth 20000 in
theorem gX5_order_X4_solve : GoodIn wsX5_order (wsV RX5 174 RX4 yX4_solve wsX4_solve) := goodIn_app (goodIn_of _ (by decide +kernel)) ggX5_order_X4_solve
set_option maxRecDepth 20000 in
theorem ggX5_order_X4_digits : GoodIn wsX5_order wsX4_digits := goodIn_r _ [119, 120, 121, 122, 105, 123, 108, 107, 109, 110, 111, 112, 113, 114, 115, 148, 149] (by decide +kernel) (by decide +kernel)
set_option maxRecDepth 20000 in
theorem gX5_order_X4_digits : GoodIn wsX5_order (wsV RX5 178 RX4 yX4_digits wsX4_digits) := goodIn_app (goodIn_of _ (by decide +kernel)) ggX5_order_X4_digits
set_option maxRecDepth 20000 in
theorem ggX5_order_X4_total : GoodIn wsX5_order wsX4_total := goodIn_r _ [127, 107, 148, 149] (by decide +kernel) (by decide +kernel)
set_option maxRecDepth 20000 in
theorem gX5_order_X4_total : GoodIn wsX5_order (wsV RX5 181 RX4 yX4_total wsX4_total) := goodIn_app (goodIn_of _ (by decide +kernel)) ggX5_order_X4_total
set_option maxRecDepth 20000 in
theorem ggX5_counsel_X0_hasJudge : GoodIn wsX5_counsel wsX0_hasJudge := goodIn_r _ [8, 9, 129, 130, 131, 132, 133, 134, 135, 136, 137, 138, 139, 140] (by decide +kernel) (by decide +kernel)
set_option maxRecDepth 20000 in
theorem gX5_counsel_X0_hasJudge : GoodIn wsX5_counsel (wsV RX5 94 RX0 yX0_hasJudge wsX0_hasJudge) := goodIn_app (goodIn_of _ (by decide +kernel)) ggX5_counsel_X0_hasJudge
set_option maxRecDepth 20000 in
theorem ggX5_counsel_X5_within : GoodIn wsX5_counsel wsX5_within := goodIn_r _ [13] (by decide +kernel) (by decide +kernel)
set_option maxRecDepth 20000 in
theorem gX5_counsel_X5_within : GoodIn wsX5_counsel (va_wsS RX5 86 yX5_within wsX5_within) := goodIn_app (goodIn_of _ (by decide +kernel)) ggX5_counsel_X5_within
set_option maxRecDepth 20000 in
theorem ggX5_counsel_X5_weighCases : GoodIn wsX5_counsel wsX5_weighCases := goodIn_r _ [17, 1, 3, 18, 2, 19, 20, 21, 22, 12, 23, 24, 25, 26, 7, 27, 28, 29, 30, 31, 32, 33, 34, 35, 36, 37, 38, 9, 39, 40, 41, 42, 43, 44, 45, 46, 47, 48, 49, 50, 51, 52, 53, 54, 55, 56, 57, 58, 59, 60, 61, 62, 63, 64, 65, 66, 67, 68, 69, 70, 71, 72, 73, 74, 75, 76, 77, 78, 79, 80, 81, 82, 83, 84, 85, 86, 87, 88, 89, 90, 91, 92, 93, 94, 95, 96, 97, 98, 121, 122, 123, 124, 125, 126, 127, 128, 129, 130, 131, 132, 133, 134, 135, 136, 137, 138, 139, 140, 141, 142, 143, 144, 145, 146, 147] (by decide +kernel) (by decide +kernel)
set_option maxRecDepth 20000 in
theorem gX5_counsel_X5_weighCases : GoodIn wsX5_counsel (wsV RX5 170 RX5 yX5_weighCases wsX5_weighCases) := goodIn_app (goodIn_of _ (by decide +kernel)) ggX5_counsel_X5_weighCases
set_option maxRecDepth 20000 in
theorem ggX5_counsel_X4_solve : GoodIn wsX5_counsel wsX4_solve := goodIn_r _ [103, 104, 105, 106, 107, 108, 109, 110, 111, 112, 141, 142] (by decide +kernel) (by decide +kernel)
set_option maxRecDepth 20000 in
theorem gX5_counsel_X4_solve : GoodIn wsX5_counsel (wsV RX5 174 RX4 yX4_solve wsX4_solve) := goodIn_app (goodIn_of _ (by decide +kernel)) ggX5_counsel_X4_solve
set_option maxRecDepth 20000 in
theorem ggX5_counsel_X4_total : GoodIn wsX5_counsel wsX4_total := goodIn_r _ [116, 104, 141, 142] (by decide +kernel) (by decide +kernel)
set_option maxRecDepth 20000 in
theorem gX5_counsel_X4_total : GoodIn wsX5_counsel (wsV RX5 181 RX4 yX4_total wsX4_total) := goodIn_app (goodIn_of _ (by decide +kernel)) ggX5_counsel_X4_total
set_option maxRecDepth 20000 in
theorem ggX5_counsel_X4_chosen : GoodIn wsX5_counsel wsX4_chosen := goodIn_r _ [120, 105, 104, 106, 107, 108, 109, 110, 111, 112, 141, 142] (by decide +kernel) (by decide +kernel)
set_option maxRecDepth 20000 in
theorem gX5_counsel_X4_chosen : GoodIn wsX5_counsel (wsV RX5 184 RX4 yX4_chosen wsX4_chosen) := goodIn_app (goodIn_of _ (by decide +kernel)) ggX5_counsel_X4_chosen
set_option maxRecDepth 20000 in
theorem ggX5_reversed_X5_refusalOf : GoodIn wsX5_reversed wsX5_refusalOf := goodIn_r _ [5, 6, 7, 8, 9, 4, 10, 11, 12, 13, 14, 15, 16, 17, 18, 19, 20, 21, 22, 23, 24, 25, 26, 27, 28, 29, 30, 31, 32, 33, 116, 117, 118, 119, 120, 121, 122, 123, 124, 125, 126, 127, 128, 129, 130, 131, 132, 133, 134, 135, 136, 137, 138] (by decide +kernel) (by decide +kernel)
set_option maxRecDepth 20000 in
theorem gX5_reversed_X5_refusalOf : GoodIn wsX5_reversed (wsV RX5 187 RX5 yX5_refusalOf wsX5_refusalOf) := goodIn_app (goodIn_of _ (by decide +kernel)) ggX5_reversed_X5_refusalOf
set_option maxRecDepth 20000 in
theorem ggX5_reversed_X5_think : GoodIn wsX5_reversed wsX5_think := goodIn_r _ [37, 38, 6, 39, 40, 41, 25, 42, 43, 44, 45, 46, 47, 48, 49, 50, 51, 52, 53, 33, 27, 54, 116, 117, 118, 119, 120, 121, 122, 123, 127, 128, 129, 130, 131, 132, 133, 134, 135, 136, 137, 138] (by decide +kernel) (by decide +kernel)
set_option maxRecDepth 20000 in
theorem gX5_reversed_X5_think : GoodIn wsX5_reversed (wsV RX5 143 RX5 yX5_think wsX5_think) := goodIn_app (goodIn_of _ (by decide +kernel)) ggX5_reversed_X5_think
set_option maxRecDepth 20000 in
theorem ggX5_reversed_X5_firstOtherwise : GoodIn wsX5_reversed wsX5_firstOtherwise := goodIn_r _ [58, 11, 14, 13, 38, 59, 60, 61, 25, 62, 63, 64, 65, 66, 49, 67, 68, 69, 70, 71, 52, 72, 73, 74, 75, 76, 77, 78, 50, 51, 79, 80, 81, 82, 83, 53, 43, 48, 84, 54, 85, 86, 87, 88, 89, 90, 91, 92, 93, 94, 95, 96, 97, 98, 99, 100, 101, 102, 103, 104, 105, 106, 107, 108, 109, 110, 111, 112, 113, 114, 115, 116, 117, 118, 119, 120, 121, 122, 123, 124, 125, 126, 127, 128, 129, 130, 131, 132, 133, 134, 135, 136, 137, 138, 139, 140, 141, 142, 143] (by decide +kernel) (by decide +kernel)
set_option maxRecDepth 20000 in
theorem gX5_reversed_X5_firstOtherwise : GoodIn wsX5_reversed (wsV RX5 190 RX5 yX5_firstOtherwise wsX5_firstOtherwise) := goodIn_app (goodIn_of _ (by decide +kernel)) ggX5_reversed_X5_firstOtherwise
set_option maxRecDepth 20000 in
theorem ggX5_kinds_X5_refusalOf : GoodIn wsX5_kinds wsX5_refusalOf := goodIn_r _ [9, 1, 10, 11, 12, 8, 13, 14, 15, 16, 17, 18, 19, 20, 21, 22, 23, 24, 25, 26, 27, 28, 29, 30, 31, 32, 33, 34, 35, 36, 118, 119, 120, 121, 122, 123, 124, 125, 138, 139, 140, 126, 127, 128, 129, 130, 131, 132, 133, 134, 135, 136, 137] (by decide +kernel) (by decide +kernel)
set_option maxRecDepth 20000 in
theorem gX5_kinds_X5_refusalOf : GoodIn wsX5_kinds (wsV RX5 187 RX5 yX5_refusalOf wsX5_refusalOf) := goodIn_app (goodIn_of _ (by decide +kernel)) ggX5_kinds_X5_refusalOf
set_option maxRecDepth 20000 in
theorem ggX5_kinds_X0_hasPebble : GoodIn wsX5_kinds wsX0_hasPebble := goodIn_r _ [29, 30, 126, 127, 128, 129, 130, 131, 132, 133, 134, 135, 136, 137] (by decide +kernel) (by decide +kernel)
set_option maxRecDepth 20000 in
theorem gX5_kinds_X0_hasPebble : GoodIn wsX5_kinds (wsV RX5 111 RX0 yX0_hasPebble wsX0_hasPebble) := goodIn_app (goodIn_of _ (by decide +kernel)) ggX5_kinds_X0_hasPebble
set_option maxRecDepth 20000 in
theorem ggX5_kinds_X5_within : GoodIn wsX5_kinds wsX5_within := goodIn_r _ [24] (by decide +kernel) (by decide +kernel)
set_option maxRecDepth 20000 in
theorem gX5_kinds_X5_within : GoodIn wsX5_kinds (va_wsS RX5 86 yX5_within wsX5_within) := goodIn_app (goodIn_of _ (by decide +kernel)) ggX5_kinds_X5_within
set_option maxRecDepth 20000 in
theorem ggX5_kinds_X5_think : GoodIn wsX5_kinds wsX5_think := goodIn_r _ [40, 2, 1, 41, 42, 43, 28, 44, 45, 46, 47, 48, 49, 50, 51, 52, 53, 54, 55, 36, 30, 56, 118, 119, 120, 121, 122, 123, 124, 125, 126, 127, 128, 129, 130, 131, 132, 133, 134, 135, 136, 137] (by decide +kernel) (by decide +kernel)
set_option maxRecDepth 20000 in
theorem gX5_kinds_X5_think : GoodIn wsX5_kinds (wsV RX5 143 RX5 yX5_think wsX5_think) := goodIn_app (goodIn_of _ (by decide +kernel)) ggX5_kinds_X5_think
set_option maxRecDepth 20000 in
theorem ggX5_kinds_X5_firstOtherwise : GoodIn wsX5_kinds wsX5_firstOtherwise := goodIn_r _ [60, 14, 17, 16, 2, 61, 62, 63, 28, 64, 65, 66, 67, 68, 51, 69, 70, 71, 72, 73, 54, 74, 75, 76, 77, 78, 79, 80, 52, 53, 81, 82, 83, 84, 85, 55, 45, 50, 86, 56, 87, 88, 89, 90, 91, 92, 93, 94, 95, 96, 97, 98, 99, 100, 101, 102, 103, 104, 105, 106, 107, 108, 109, 110, 111, 112, 113, 114, 115, 116, 117, 118, 119, 120, 121, 122, 123, 124, 125, 138, 139, 140, 126, 127, 128, 129, 130, 131, 132, 133, 134, 135, 136, 137, 141, 142, 143, 144, 145] (by decide +kernel) (by decide +kernel)
set_option maxRecDepth 20000 in
theorem gX5_kinds_X5_firstOtherwise : GoodIn wsX5_kinds (wsV RX5 190 RX5 yX5_firstOtherwise wsX5_firstOtherwise) := goodIn_app (goodIn_of _ (by decide +kernel)) ggX5_kinds_X5_firstOtherwise
set_option maxRecDepth 20000 in
theorem ggX5_soled_X5_refusalOf : GoodIn wsX5_soled wsX5_refusalOf := goodIn_r _ [7, 8, 9, 10, 11, 6, 12, 13, 14, 15, 16, 17, 18, 19, 20, 21, 22, 23, 24, 25, 26, 27, 28, 29, 30, 31, 32, 33, 34, 35, 117, 118, 119, 120, 121, 122, 123, 124, 137, 138, 139, 125, 126, 127, 128, 129, 130, 131, 132, 133, 134, 135, 136] (by decide +kernel) (by decide +kernel)
set_option maxRecDepth 20000 in
theorem gX5_soled_X5_refusalOf : GoodIn wsX5_soled (wsV RX5 187 RX5 yX5_refusalOf wsX5_refusalOf) := goodIn_app (goodIn_of _ (by decide +kernel)) ggX5_soled_X5_refusalOf
set_option maxRecDepth 20000 in
theorem ggX5_soled_X5_think : GoodIn wsX5_soled wsX5_think := goodIn_r _ [39, 1, 8, 40, 41, 42, 27, 43, 44, 45, 46, 47, 48, 49, 50, 51, 52, 53, 54, 35, 29, 55, 117, 118, 119, 120, 121, 122, 123, 124, 125, 126, 127, 128, 129, 130, 131, 132, 133, 134, 135, 136] (by decide +kernel) (by decide +kernel)
set_option maxRecDepth 20000 in
theorem gX5_soled_X5_think : GoodIn wsX5_soled (wsV RX5 143 RX5 yX5_think wsX5_think) := goodIn_app (goodIn_of _ (by decide +kernel)) ggX5_soled_X5_think
set_option maxRecDepth 20000 in
theorem ggX5_soled_X5_firstOtherwise : GoodIn wsX5_soled wsX5_firstOtherwise := goodIn_r _ [59, 13, 16, 15, 1, 60, 61, 62, 27, 63, 64, 65, 66, 67, 50, 68, 69, 70, 71, 72, 53, 73, 74, 75, 76, 77, 78, 79, 51, 52, 80, 81, 82, 83, 84, 54, 44, 49, 85, 55, 86, 87, 88, 89, 90, 91, 92, 93, 94, 95, 96, 97, 98, 99, 100, 101, 102, 103, 104, 105, 106, 107, 108, 109, 110, 111, 112, 113, 114, 115, 116, 117, 118, 119, 120, 121, 122, 123, 124, 137, 138, 139, 125, 126, 127, 128, 129, 130, 131, 132, 133, 134, 135, 136, 140, 141, 142, 143, 144] (by decide +kernel) (by decide +kernel)
set_option maxRecDepth 20000 in
theorem gX5_soled_X5_firstOtherwise : GoodIn wsX5_soled (wsV RX5 190 RX5 yX5_firstOtherwise wsX5_firstOtherwise) := goodIn_app (goodIn_of _ (by decide +kernel)) ggX5_soled_X5_firstOtherwise
set_option maxRecDepth 20000 in
theorem ggX5_sizes_X5_refusalOf : GoodIn wsX5_sizes wsX5_refusalOf := goodIn_r _ [9, 1, 10, 11, 12, 8, 13, 14, 15, 16, 17, 18, 19, 20, 21, 22, 23, 24, 25, 26, 27, 28, 29, 30, 31, 32, 33, 34, 35, 36, 121, 122, 123, 124, 125, 126, 127, 128, 141, 142, 143, 129, 130, 131, 132, 133, 134, 135, 136, 137, 138, 139, 140] (by decide +kernel) (by decide +kernel)
set_option maxRecDepth 20000 in
theorem gX5_sizes_X5_refusalOf : GoodIn wsX5_sizes (wsV RX5 187 RX5 yX5_refusalOf wsX5_refusalOf) := goodIn_app (goodIn_of _ (by decide +kernel)) ggX5_sizes_X5_refusalOf
set_option maxRecDepth 20000 in
theorem ggX5_sizes_X0_hasPebble : GoodIn wsX5_sizes wsX0_hasPebble := goodIn_r _ [29, 30, 129, 130, 131, 132, 133, 134, 135, 136, 137, 138, 139, 140] (by decide +kernel) (by decide +kernel)
set_option maxRecDepth 20000 in
theorem gX5_sizes_X0_hasPebble : GoodIn wsX5_sizes (wsV RX5 111 RX0 yX0_hasPebble wsX0_hasPebble) := goodIn_app (goodIn_of _ (by decide +kernel)) ggX5_sizes_X0_hasPebble
set_option maxRecDepth 20000 in
theorem ggX5_sizes_X5_isPairOfBits : GoodIn wsX5_sizes wsX5_isPairOfBits := goodIn_r _ [39, 31, 23, 8, 24] (by decide +kernel) (by decide +kernel)
set_option maxRecDepth 20000 in
theorem gX5_sizes_X5_isPairOfBits : GoodIn wsX5_sizes (va_wsS RX5 167 yX5_isPairOfBits wsX5_isPairOfBits) := goodIn_app (goodIn_of _ (by decide +kernel)) ggX5_sizes_X5_isPairOfBits
set_option maxRecDepth 20000 in
theorem ggX5_sizes_X5_think : GoodIn wsX5_sizes wsX5_think := goodIn_r _ [43, 2, 1, 44, 45, 46, 28, 47, 48, 49, 50, 51, 52, 53, 54, 55, 56, 57, 58, 36, 30, 59, 121, 122, 123, 124, 125, 126, 127, 128, 129, 130, 131, 132, 133, 134, 135, 136, 137, 138, 139, 140] (by decide +kernel) (by decide +kernel)
set_option maxRecDepth 20000 in
theorem gX5_sizes_X5_think : GoodIn wsX5_sizes (wsV RX5 143 RX5 yX5_think wsX5_think) := goodIn_app (goodIn_of _ (by decide +kernel)) ggX5_sizes_X5_think
set_option maxRecDepth 20000 in
theorem ggX5_sizes_X5_firstOtherwise : GoodIn wsX5_sizes wsX5_firstOtherwise := goodIn_r _ [63, 14, 17, 16, 2, 64, 65, 66, 28, 67, 68, 69, 70, 71, 54, 72, 73, 74, 75, 76, 57, 77, 78, 79, 80, 81, 82, 83, 55, 56, 84, 85, 86, 87, 88, 58, 48, 53, 89, 59, 90, 91, 92, 93, 94, 95, 96, 97, 98, 99, 100, 101, 102, 103, 104, 105, 106, 107, 108, 109, 110, 111, 112, 113, 114, 115, 116, 117, 118, 119, 120, 121, 122, 123, 124, 125, 126, 127, 128, 141, 142, 143, 129, 130, 131, 132, 133, 134, 135, 136, 137, 138, 139, 140, 144, 145, 146, 147, 148] (by decide +kernel) (by decide +kernel)
set_option maxRecDepth 20000 in
theorem gX5_sizes_X5_firstOtherwise : GoodIn wsX5_sizes (wsV RX5 190 RX5 yX5_firstOtherwise wsX5_firstOtherwise) := goodIn_app (goodIn_of _ (by decide +kernel)) ggX5_sizes_X5_firstOtherwise
set_option maxRecDepth 20000 in
theorem ggX5_whose_X5_refusalOfSheet : GoodIn wsX5_whose wsX5_refusalOfSheet := goodIn_r _ [7, 8, 9, 10, 11, 1, 12, 13, 14, 15, 16, 17, 6, 18, 19, 20, 21, 22, 23, 24, 25, 109, 110, 111, 112, 113, 114, 115, 116, 129, 130, 131, 117, 118, 119, 120, 121, 122, 123, 124, 125, 126, 127, 128] (by decide +kernel) (by decide +kernel)
set_option maxRecDepth 20000 in
theorem gX5_whose_X5_refusalOfSheet : GoodIn wsX5_whose (wsV RX5 193 RX5 yX5_refusalOfSheet wsX5_refusalOfSheet) := goodIn_app (goodIn_of _ (by decide +kernel)) ggX5_whose_X5_refusalOfSheet
set_option maxRecDepth 20000 in
theorem ggX5_whose_X5_think : GoodIn wsX5_whose wsX5_think := goodIn_r _ [29, 30, 1, 31, 32, 33, 22, 34, 35, 36, 37, 38, 39, 40, 41, 42, 43, 44, 45, 46, 24, 47, 109, 110, 111, 112, 113, 114, 115, 116, 117, 118, 119, 120, 121, 122, 123, 124, 125, 126, 127, 128] (by decide +kernel) (by decide +kernel)
set_option maxRecDepth 20000 in
theorem gX5_whose_X5_think : GoodIn wsX5_whose (wsV RX5 143 RX5 yX5_think wsX5_think) := goodIn_app (goodIn_of _ (by decide +kernel)) ggX5_whose_X5_think
set_option maxRecDepth 20000 in
theorem ggX5_whose_X5_firstOtherwise : GoodIn wsX5_whose wsX5_firstOtherwise := goodIn_r _ [51, 8, 11, 10, 30, 52, 53, 54, 22, 55, 56, 57, 58, 59, 41, 60, 61, 62, 63, 64, 44, 65, 66, 67, 68, 69, 70, 71, 42, 43, 72, 73, 74, 75, 76, 45, 35, 40, 77, 47, 78, 79, 80, 81, 82, 83, 84, 85, 86, 87, 88, 89, 90, 91, 92, 93, 94, 95, 96, 97, 98, 99, 100, 101, 102, 103, 104, 105, 106, 107, 108, 109, 110, 111, 112, 113, 114, 115, 116, 129, 130, 131, 117, 118, 119, 120, 121, 122, 123, 124, 125, 126, 127, 128, 132, 133, 134, 135, 136] (by decide +kernel) (by decide +kernel)
set_option maxRecDepth 20000 in
theorem gX5_whose_X5_firstOtherwise : GoodIn wsX5_whose (wsV RX5 190 RX5 yX5_firstOtherwise wsX5_firstOtherwise) := goodIn_app (goodIn_of _ (by decide +kernel)) ggX5_whose_X5_firstOtherwise
set_option maxRecDepth 20000 in
theorem ggX5_laws_X5_refusalOf : GoodIn wsX5_laws wsX5_refusalOf := goodIn_r _ [9, 10, 11, 12, 13, 8, 14, 15, 16, 17, 18, 19, 20, 21, 22, 23, 24, 25, 26, 27, 28, 29, 30, 31, 32, 33, 34, 35, 36, 37, 119, 120, 121, 122, 123, 124, 125, 126, 144, 145, 146, 132, 133, 134, 135, 136, 137, 138, 139, 140, 141, 142, 143] (by decide +kernel) (by decide +kernel)
set_option maxRecDepth 20000 in
theorem gX5_laws_X5_refusalOf : GoodIn wsX5_laws (wsV RX5 187 RX5 yX5_refusalOf wsX5_refusalOf) := goodIn_app (goodIn_of _ (by decide +kernel)) ggX5_laws_X5_refusalOf
set_option maxRecDepth 20000 in
theorem ggX5_laws_X5_think : GoodIn wsX5_laws wsX5_think := goodIn_r _ [41, 3, 10, 42, 43, 44, 29, 45, 46, 47, 48, 49, 50, 51, 52, 53, 54, 55, 56, 37, 31, 57, 119, 120, 121, 122, 123, 124, 125, 126, 132, 133, 134, 135, 136, 137, 138, 139, 140, 141, 142, 143] (by decide +kernel) (by decide +kernel)
set_option maxRecDepth 20000 in
theorem gX5_laws_X5_think : GoodIn wsX5_laws (wsV RX5 143 RX5 yX5_think wsX5_think) := goodIn_app (goodIn_of _ (by decide +kernel)) ggX5_laws_X5_think
set_option maxRecDepth 20000 in
theorem ggX5_laws_X5_firstOtherwise : GoodIn wsX5_laws wsX5_firstOtherwise := goodIn_r _ [61, 15, 18, 17, 3, 62, 63, 64, 29, 65, 66, 67, 68, 69, 52, 70, 71, 72, 73, 74, 55, 75, 76, 77, 78, 79, 80, 81, 53, 54, 82, 83, 84, 85, 86, 56, 46, 51, 87, 57, 88, 89, 90, 91, 92, 93, 94, 95, 96, 97, 98, 99, 100, 101, 102, 103, 104, 105, 106, 107, 108, 109, 110, 111, 112, 113, 114, 115, 116, 117, 118, 119, 120, 121, 122, 123, 124, 125, 126, 144, 145, 146, 132, 133, 134, 135, 136, 137, 138, 139, 140, 141, 142, 143, 127, 128, 129, 130, 131] (by decide +kernel) (by decide +kernel)
set_option maxRecDepth 20000 in
theorem gX5_laws_X5_firstOtherwise : GoodIn wsX5_laws (wsV RX5 190 RX5 yX5_firstOtherwise wsX5_firstOtherwise) := goodIn_app (goodIn_of _ (by decide +kernel)) ggX5_laws_X5_firstOtherwise
set_option maxRecDepth 20000 in
theorem ggX5_film_X2_isSheet : GoodIn wsX5_film wsX2_isSheet := goodIn_r _ [9, 10, 11, 12] (by decide +kernel) (by decide +kernel)
set_option maxRecDepth 20000 in
theorem gX5_film_X2_isSheet : GoodIn wsX5_film (wsV RX5 196 RX2 yX2_isSheet wsX2_isSheet) := goodIn_app (goodIn_of _ (by decide +kernel)) ggX5_film_X2_isSheet
set_option maxRecDepth 20000 in
theorem ggX5_film_X0_hasJudge : GoodIn wsX5_film wsX0_hasJudge := goodIn_r _ [17, 18, 121, 122, 123, 124, 125, 126, 127, 128, 129, 130, 131, 132] (by decide +kernel) (by decide +kernel)
set_option maxRecDepth 20000 in
theorem gX5_film_X0_hasJudge : GoodIn wsX5_film (wsV RX5 94 RX0 yX0_hasJudge wsX0_hasJudge) := goodIn_app (goodIn_of _ (by decide +kernel)) ggX5_film_X0_hasJudge
set_option maxRecDepth 20000 in
theorem ggX5_film_X5_within : GoodIn wsX5_film wsX5_within := goodIn_r _ [12] (by decide +kernel) (by decide +kernel)
set_option maxRecDepth 20000 in
theorem gX5_film_X5_within : GoodIn wsX5_film (va_wsS RX5 86 yX5_within wsX5_within) := goodIn_app (goodIn_of _ (by decide +kernel)) ggX5_film_X5_within
set_option maxRecDepth 20000 in
theorem ggX5_film_X5_think : GoodIn wsX5_film wsX5_think := goodIn_r _ [23, 4, 2, 24, 25, 26, 16, 27, 28, 29, 30, 31, 32, 33, 34, 35, 36, 37, 38, 18, 39, 40, 113, 114, 115, 116, 117, 118, 119, 120, 121, 122, 123, 124, 125, 126, 127, 128, 129, 130, 131, 132] (by decide +kernel) (by decide +kernel)
set_option maxRecDepth 20000 in
theorem gX5_film_X5_think : GoodIn wsX5_film (wsV RX5 143 RX5 yX5_think wsX5_think) := goodIn_app (goodIn_of _ (by decide +kernel)) ggX5_film_X5_think
set_option maxRecDepth 20000 in
theorem ggX5_film_X2_become : GoodIn wsX5_film wsX2_become := goodIn_r _ [44, 45, 46, 47, 48, 49, 50, 51, 133, 134, 135] (by decide +kernel) (by decide +kernel)
set_option maxRecDepth 20000 in
theorem gX5_film_X2_become : GoodIn wsX5_film (wsV RX5 199 RX2 yX2_become wsX2_become) := goodIn_app (goodIn_of _ (by decide +kernel)) ggX5_film_X2_become
set_option maxRecDepth 20000 in
theorem ggX5_film_X0_go : GoodIn wsX5_film wsX0_go := goodIn_r _ [55, 56, 57, 58, 16, 59, 34, 60, 61, 62, 63, 64, 37, 65, 66, 67, 68, 69, 70, 71, 35, 36, 72, 73, 74, 75, 76, 38, 28, 33, 77, 40, 78, 79, 80, 81, 82, 83, 84, 85, 86, 87, 88, 89, 90, 91, 92, 93, 94, 95, 96, 97, 98, 99, 100, 101, 102, 103, 104, 121, 122, 123, 124, 125, 126, 127, 128, 129, 130, 131, 132, 136, 137, 138, 139, 140] (by decide +kernel) (by decide +kernel)
set_option maxRecDepth 20000 in
theorem gX5_film_X0_go : GoodIn wsX5_film (wsV RX5 140 RX0 yX0_go wsX0_go) := goodIn_app (goodIn_of _ (by decide +kernel)) ggX5_film_X0_go
set_option maxRecDepth 20000 in
theorem ggX5_film_X0_verdict : GoodIn wsX5_film wsX0_verdict := goodIn_r _ [108, 72, 73, 74, 16, 75, 76, 37, 38, 28, 33, 36, 77, 40, 61, 62, 63, 64, 65, 66, 67, 78, 79, 80, 81, 82, 83, 84, 85, 86, 87, 88, 89, 90, 91, 92, 121, 122, 123, 124, 125, 126, 127, 128, 129, 130, 131, 132, 136, 137, 138, 139, 140] (by decide +kernel) (by decide +kernel)
set_option maxRecDepth 20000 in
theorem gX5_film_X0_verdict : GoodIn wsX5_film (wsV RX5 164 RX0 yX0_verdict wsX0_verdict) := goodIn_app (goodIn_of _ (by decide +kernel)) ggX5_film_X0_verdict
set_option maxRecDepth 20000 in
theorem ggX5_film_X2_store : GoodIn wsX5_film wsX2_store := goodIn_r _ [112, 47, 45, 133, 134, 135] (by decide +kernel) (by decide +kernel)
set_option maxRecDepth 20000 in
theorem gX5_film_X2_store : GoodIn wsX5_film (wsV RX5 203 RX2 yX2_store wsX2_store) := goodIn_app (goodIn_of _ (by decide +kernel)) ggX5_film_X2_store
set_option maxRecDepth 20000 in
theorem ggX5_drawn_X0_hasBoth : GoodIn wsX5_drawn wsX0_hasBoth := goodIn_r _ [8, 9, 10, 11, 7, 12, 13, 14, 15, 16, 17, 18, 118, 119, 120, 121, 122, 123, 124, 125, 126, 127, 128, 129] (by decide +kernel) (by decide +kernel)
set_option maxRecDepth 20000 in
theorem gX5_drawn_X0_hasBoth : GoodIn wsX5_drawn (wsV RX5 137 RX0 yX0_hasBoth wsX0_hasBoth) := goodIn_app (goodIn_of _ (by decide +kernel)) ggX5_drawn_X0_hasBoth
set_option maxRecDepth 20000 in
theorem ggX5_drawn_X5_within : GoodIn wsX5_drawn wsX5_within := goodIn_r _ [22] (by decide +kernel) (by decide +kernel)
set_option maxRecDepth 20000 in
theorem gX5_drawn_X5_within : GoodIn wsX5_drawn (va_wsS RX5 86 yX5_within wsX5_within) := goodIn_app (goodIn_of _ (by decide +kernel)) ggX5_drawn_X5_within
set_option maxRecDepth 20000 in
theorem ggX5_drawn_X5_isMoreMiles : GoodIn wsX5_drawn wsX5_isMoreMiles := goodIn_r _ [25, 19, 20, 21, 22] (by decide +kernel) (by decide +kernel)
set_option maxRecDepth 20000 in
theorem gX5_drawn_X5_isMoreMiles : GoodIn wsX5_drawn (va_wsS RX5 207 yX5_isMoreMiles wsX5_isMoreMiles) := goodIn_app (goodIn_of _ (by decide +kernel)) ggX5_drawn_X5_isMoreMiles
set_option maxRecDepth 20000 in
theorem ggX5_drawn_X5_think : GoodIn wsX5_drawn wsX5_think := goodIn_r _ [29, 3, 1, 30, 31, 32, 7, 33, 34, 35, 36, 37, 38, 39, 40, 41, 42, 43, 44, 13, 18, 45, 110, 111, 112, 113, 114, 115, 116, 117, 118, 119, 120, 121, 122, 123, 124, 125, 126, 127, 128, 129] (by decide +kernel) (by decide +kernel)
set_option maxRecDepth 20000 in
theorem gX5_drawn_X5_think : GoodIn wsX5_drawn (wsV RX5 143 RX5 yX5_think wsX5_think) := goodIn_app (goodIn_of _ (by decide +kernel)) ggX5_drawn_X5_think
set_option maxRecDepth 20000 in
theorem ggX5_drawn_X0_goByLots : GoodIn wsX5_drawn wsX0_goByLots := goodIn_r _ [49, 50, 51, 52, 53, 54, 7, 55, 40, 56, 57, 58, 59, 60, 43, 61, 62, 63, 64, 65, 66, 67, 41, 42, 68, 69, 70, 71, 72, 44, 34, 39, 73, 45, 74, 75, 76, 77, 78, 79, 80, 81, 82, 83, 84, 85, 86, 87, 88, 89, 90, 91, 92, 93, 94, 95, 96, 97, 98, 99, 100, 118, 119, 120, 121, 122, 123, 124, 125, 126, 127, 128, 129, 130, 131, 132, 133, 134] (by decide +kernel) (by decide +kernel)
set_option maxRecDepth 20000 in
theorem gX5_drawn_X0_goByLots : GoodIn wsX5_drawn (wsV RX5 210 RX0 yX0_goByLots wsX0_goByLots) := goodIn_app (goodIn_of _ (by decide +kernel)) ggX5_drawn_X0_goByLots
set_option maxRecDepth 20000 in
theorem ggX5_drawn_X5_outcome : GoodIn wsX5_drawn wsX5_outcome := goodIn_r _ [104, 3, 105, 106, 107, 108, 7, 109, 68, 69, 70, 71, 72, 43, 44, 34, 39, 42, 73, 45, 57, 58, 59, 60, 61, 62, 63, 74, 75, 76, 77, 78, 79, 80, 81, 82, 83, 84, 85, 86, 87, 88, 110, 111, 112, 113, 114, 115, 116, 117, 118, 119, 120, 121, 122, 123, 124, 125, 126, 127, 128, 129, 130, 131, 132, 133, 134] (by decide +kernel) (by decide +kernel)
set_option maxRecDepth 20000 in
theorem gX5_drawn_X5_outcome : GoodIn wsX5_drawn (wsV RX5 146 RX5 yX5_outcome wsX5_outcome) := goodIn_app (goodIn_of _ (by decide +kernel)) ggX5_drawn_X5_outcome
set_option maxRecDepth 20000 in
theorem ggX5_odds_X5_within : GoodIn wsX5_odds wsX5_within := goodIn_r _ [8] (by decide +kernel) (by decide +kernel)
set_option maxRecDepth 20000 in
theorem gX5_odds_X5_within : GoodIn wsX5_odds (va_wsS RX5 86 yX5_within wsX5_within) := goodIn_app (goodIn_of _ (by decide +kernel)) ggX5_odds_X5_within
set_option maxRecDepth 20000 in
theorem ggX5_odds_X0_hasBoth : GoodIn wsX5_odds wsX0_hasBoth := goodIn_r _ [13, 14, 15, 16, 12, 17, 18, 19, 20, 21, 22, 23, 118, 119, 120, 121, 122, 123, 124, 125, 126, 127, 128, 129] (by decide +kernel) (by decide +kernel)
set_option maxRecDepth 20000 in
theorem gX5_odds_X0_hasBoth : GoodIn wsX5_odds (wsV RX5 137 RX0 yX0_hasBoth wsX0_hasBoth) := goodIn_app (goodIn_of _ (by decide +kernel)) ggX5_odds_X0_hasBoth
set_option maxRecDepth 20000 in
theorem ggX5_odds_X5_isMoreMiles : GoodIn wsX5_odds wsX5_isMoreMiles := goodIn_r _ [26, 5, 6, 7, 8] (by decide +kernel) (by decide +kernel)
set_option maxRecDepth 20000 in
theorem gX5_odds_X5_isMoreMiles : GoodIn wsX5_odds (va_wsS RX5 207 yX5_isMoreMiles wsX5_isMoreMiles) := goodIn_app (goodIn_of _ (by decide +kernel)) ggX5_odds_X5_isMoreMiles
set_option maxRecDepth 20000 in
theorem ggX5_odds_X5_think : GoodIn wsX5_odds wsX5_think := goodIn_r _ [30, 4, 3, 31, 32, 33, 12, 34, 35, 36, 37, 38, 39, 40, 41, 42, 43, 44, 45, 18, 23, 46, 110, 111, 112, 113, 114, 115, 116, 117, 118, 119, 120, 121, 122, 123, 124, 125, 126, 127, 128, 129] (by decide +kernel) (by decide +kernel)
set_option maxRecDepth 20000 in
theorem gX5_odds_X5_think : GoodIn wsX5_odds (wsV RX5 143 RX5 yX5_think wsX5_think) := goodIn_app (goodIn_of _ (by decide +kernel)) ggX5_odds_X5_think
set_option maxRecDepth 20000 in
theorem ggX5_odds_X0_goByLots : GoodIn wsX5_odds wsX0_goByLots := goodIn_r _ [50, 51, 52, 53, 54, 55, 12, 56, 41, 57, 58, 59, 60, 61, 44, 62, 63, 64, 65, 66, 67, 68, 42, 43, 69, 70, 71, 72, 73, 45, 35, 40, 74, 46, 75, 76, 77, 78, 79, 80, 81, 82, 83, 84, 85, 86, 87, 88, 89, 90, 91, 92, 93, 94, 95, 96, 97, 98, 99, 100, 101, 118, 119, 120, 121, 122, 123, 124, 125, 126, 127, 128, 129, 130, 131, 132, 133, 134] (by decide +kernel) (by decide +kernel)
set_option maxRecDepth 20000 in
theorem gX5_odds_X0_goByLots : GoodIn wsX5_odds (wsV RX5 210 RX0 yX0_goByLots wsX0_goByLots) := goodIn_app (goodIn_of _ (by decide +kernel)) ggX5_odds_X0_goByLots
set_option maxRecDepth 20000 in
theorem ggX5_odds_X0_verdict : GoodIn wsX5_odds wsX0_verdict := goodIn_r _ [105, 69, 70, 71, 12, 72, 73, 44, 45, 35, 40, 43, 74, 46, 58, 59, 60, 61, 62, 63, 64, 75, 76, 77, 78, 79, 80, 81, 82, 83, 84, 85, 86, 87, 88, 89, 118, 119, 120, 121, 122, 123, 124, 125, 126, 127, 128, 129, 130, 131, 132, 133, 134] (by decide +kernel) (by decide +kernel)
set_option maxRecDepth 20000 in
theorem gX5_odds_X0_verdict : GoodIn wsX5_odds (wsV RX5 164 RX0 yX0_verdict wsX0_verdict) := goodIn_app (goodIn_of _ (by decide +kernel)) ggX5_odds_X0_verdict
set_option maxRecDepth 20000 in
theorem ggX5_odds_X5_commonDivisor : GoodIn wsX5_odds wsX5_commonDivisor := goodIn_r _ [108, 109, 63, 60, 64] (by decide +kernel) (by decide +kernel)
set_option maxRecDepth 20000 in
theorem gX5_odds_X5_commonDivisor : GoodIn wsX5_odds (va_wsS RX5 215 yX5_commonDivisor wsX5_commonDivisor) := goodIn_app (goodIn_of _ (by decide +kernel)) ggX5_odds_X5_commonDivisor
set_option maxRecDepth 20000 in
theorem ggX5_image_X0_become : GoodIn wsX5_image wsX0_become := goodIn_r _ [9, 10, 11, 12, 13, 14, 15, 16, 17, 18, 19, 20, 21, 22, 23, 32, 33, 34, 35, 36, 37, 38, 39, 40, 41, 42, 43] (by decide +kernel) (by decide +kernel)
set_option maxRecDepth 20000 in
theorem gX5_image_X0_become : GoodIn wsX5_image (wsV RX5 218 RX0 yX0_become wsX0_become) := goodIn_app (goodIn_of _ (by decide +kernel)) ggX5_image_X0_become
set_option maxRecDepth 20000 in
theorem ggX5_back_X0_become : GoodIn wsX5_back wsX0_become := goodIn_r _ [9, 10, 11, 12, 13, 14, 15, 16, 17, 18, 19, 20, 21, 22, 23, 32, 33, 34, 35, 36, 37, 38, 39, 40, 41, 42, 43] (by decide +kernel) (by decide +kernel)
set_option maxRecDepth 20000 in
theorem gX5_back_X0_become : GoodIn wsX5_back (wsV RX5 218 RX0 yX0_become wsX0_become) := goodIn_app (goodIn_of _ (by decide +kernel)) ggX5_back_X0_become
set_option maxRecDepth 20000 in
theorem ggX5_sheet_X2_isSheet : GoodIn wsX5_sheet wsX2_isSheet := goodIn_r _ [6, 7, 8, 9] (by decide +kernel) (by decide +kernel)
set_option maxRecDepth 20000 in
theorem gX5_sheet_X2_isSheet : GoodIn wsX5_sheet (wsV RX5 196 RX2 yX2_isSheet wsX2_isSheet) := goodIn_app (goodIn_of _ (by decide +kernel)) ggX5_sheet_X2_isSheet
set_option maxRecDepth 20000 in
theorem ggX5_sheet_X2_become : GoodIn wsX5_sheet wsX2_become := goodIn_r _ [13, 14, 15, 16, 17, 18, 19, 20, 29, 30, 31] (by decide +kernel) (by decide +kernel)
set_option maxRecDepth 20000 in
theorem gX5_sheet_X2_become : GoodIn wsX5_sheet (wsV RX5 199 RX2 yX2_become wsX2_become) := goodIn_app (goodIn_of _ (by decide +kernel)) ggX5_sheet_X2_become
set_option maxRecDepth 20000 in
theorem ggX5_cell_X2_isSheet : GoodIn wsX5_cell wsX2_isSheet := goodIn_r _ [8, 9, 10, 11] (by decide +kernel) (by decide +kernel)
set_option maxRecDepth 20000 in
theorem gX5_cell_X2_isSheet : GoodIn wsX5_cell (wsV RX5 196 RX2 yX2_isSheet wsX2_isSheet) := goodIn_app (goodIn_of _ (by decide +kernel)) ggX5_cell_X2_isSheet
set_option maxRecDepth 20000 in
theorem ggX5_cell_X2_store : GoodIn wsX5_cell wsX2_store := goodIn_r _ [15, 16, 17, 26, 27, 28] (by decide +kernel) (by decide +kernel)
set_option maxRecDepth 20000 in
theorem gX5_cell_X2_store : GoodIn wsX5_cell (wsV RX5 203 RX2 yX2_store wsX2_store) := goodIn_app (goodIn_of _ (by decide +kernel)) ggX5_cell_X2_store
set_option maxRecDepth 20000 in
theorem ggX5_copy_X2_isSheet : GoodIn wsX5_copy wsX2_isSheet := goodIn_r _ [12, 13, 14, 15] (by decide +kernel) (by decide +kernel)
set_option maxRecDepth 20000 in
theorem gX5_copy_X2_isSheet : GoodIn wsX5_copy (wsV RX5 196 RX2 yX2_isSheet wsX2_isSheet) := goodIn_app (goodIn_of _ (by decide +kernel)) ggX5_copy_X2_isSheet
set_option maxRecDepth 20000 in
theorem ggX5_copy_X2_holds : GoodIn wsX5_copy wsX2_holds := goodIn_r _ [19, 20, 29, 30, 31] (by decide +kernel) (by decide +kernel)
set_option maxRecDepth 20000 in
theorem gX5_copy_X2_holds : GoodIn wsX5_copy (wsV RX5 231 RX2 yX2_holds wsX2_holds) := goodIn_app (goodIn_of _ (by decide +kernel)) ggX5_copy_X2_holds
set_option maxRecDepth 20000 in
theorem ggX5_pebblesBy_X2_isSheet : GoodIn wsX5_pebblesBy wsX2_isSheet := goodIn_r _ [8, 9, 10, 11] (by decide +kernel) (by decide +kernel)
set_option maxRecDepth 20000 in
theorem gX5_pebblesBy_X2_isSheet : GoodIn wsX5_pebblesBy (wsV RX5 196 RX2 yX2_isSheet wsX2_isSheet) := goodIn_app (goodIn_of _ (by decide +kernel)) ggX5_pebblesBy_X2_isSheet
set_option maxRecDepth 20000 in
theorem ggX5_pebblesBy_X5_within : GoodIn wsX5_pebblesBy wsX5_within := goodIn_r _ [11] (by decide +kernel) (by decide +kernel)
set_option maxRecDepth 20000 in
theorem gX5_pebblesBy_X5_within : GoodIn wsX5_pebblesBy (va_wsS RX5 86 yX5_within wsX5_within) := goodIn_app (goodIn_of _ (by decide +kernel)) ggX5_pebblesBy_X5_within
set_option maxRecDepth 20000 in
theorem ggX5_pebblesBy_X2_holds : GoodIn wsX5_pebblesBy wsX2_holds := goodIn_r _ [16, 17, 41, 42, 43] (by decide +kernel) (by decide +kernel)
set_option maxRecDepth 20000 in
theorem gX5_pebblesBy_X2_holds : GoodIn wsX5_pebblesBy (wsV RX5 231 RX2 yX2_holds wsX2_holds) := goodIn_app (goodIn_of _ (by decide +kernel)) ggX5_pebblesBy_X2_holds
set_option maxRecDepth 20000 in
theorem ggX5_pebblesBy_X5_pebble : GoodIn wsX5_pebblesBy wsX5_pebble := goodIn_r _ [21, 22, 12, 9, 10, 11, 23, 24, 25, 26, 27, 28, 29, 30, 31, 32, 33, 34, 35, 36, 37, 38, 39, 40, 44, 45, 46, 47, 48, 49, 50, 51, 52, 53, 54, 55] (by decide +kernel) (by decide +kernel)
set_option maxRecDepth 20000 in
theorem gX5_pebblesBy_X5_pebble : GoodIn wsX5_pebblesBy (wsV RX5 245 RX5 yX5_pebble wsX5_pebble) := goodIn_app (goodIn_of _ (by decide +kernel)) ggX5_pebblesBy_X5_pebble
set_option maxRecDepth 20000 in
theorem ggX5_taken_X5_within : GoodIn wsX5_taken wsX5_within := goodIn_r _ [11] (by decide +kernel) (by decide +kernel)
set_option maxRecDepth 20000 in
theorem gX5_taken_X5_within : GoodIn wsX5_taken (va_wsS RX5 86 yX5_within wsX5_within) := goodIn_app (goodIn_of _ (by decide +kernel)) ggX5_taken_X5_within
set_option maxRecDepth 20000 in
theorem ggX5_taken_X0_hasJudge : GoodIn wsX5_taken wsX0_hasJudge := goodIn_r _ [16, 17, 34, 35, 36, 37, 38, 39, 40, 41, 42, 43, 44, 45] (by decide +kernel) (by decide +kernel)
set_option maxRecDepth 20000 in
theorem gX5_taken_X0_hasJudge : GoodIn wsX5_taken (wsV RX5 94 RX0 yX0_hasJudge wsX0_hasJudge) := goodIn_app (goodIn_of _ (by decide +kernel)) ggX5_taken_X0_hasJudge
set_option maxRecDepth 20000 in
theorem ggX5_taken_X0_hasPebble : GoodIn wsX5_taken wsX0_hasPebble := goodIn_r _ [21, 22, 34, 35, 36, 37, 38, 39, 40, 41, 42, 43, 44, 45] (by decide +kernel) (by decide +kernel)
set_option maxRecDepth 20000 in
theorem gX5_taken_X0_hasPebble : GoodIn wsX5_taken (wsV RX5 111 RX0 yX0_hasPebble wsX0_hasPebble) := goodIn_app (goodIn_of _ (by decide +kernel)) ggX5_taken_X0_hasPebble
set_option maxRecDepth 20000 in
theorem ggX5_taken_X5_isOfKind : GoodIn wsX5_taken wsX5_isOfKind := goodIn_r _ [25] (by decide +kernel) (by decide +kernel)
set_option maxRecDepth 20000 in
theorem gX5_taken_X5_isOfKind : GoodIn wsX5_taken (va_wsS RX5 256 yX5_isOfKind wsX5_isOfKind) := goodIn_app (goodIn_of _ (by decide +kernel)) ggX5_taken_X5_isOfKind
set_option maxRecDepth 20000 in
theorem ggX5_isByte_X5_within : GoodIn wsX5_isByte wsX5_within := goodIn_r _ [4] (by decide +kernel) (by decide +kernel)
set_option maxRecDepth 20000 in
theorem gX5_isByte_X5_within : GoodIn wsX5_isByte (va_wsS RX5 86 yX5_within wsX5_within) := goodIn_app (goodIn_of _ (by decide +kernel)) ggX5_isByte_X5_within
set_option maxRecDepth 20000 in
theorem ggX5_isPairOfBits_X5_within : GoodIn wsX5_isPairOfBits wsX5_within := goodIn_r _ [4] (by decide +kernel) (by decide +kernel)
set_option maxRecDepth 20000 in
theorem gX5_isPairOfBits_X5_within : GoodIn wsX5_isPairOfBits (va_wsS RX5 86 yX5_within wsX5_within) := goodIn_app (goodIn_of _ (by decide +kernel)) ggX5_isPairOfBits_X5_within
set_option maxRecDepth 20000 in
theorem ggX5_isMoreMiles_X5_within : GoodIn wsX5_isMoreMiles wsX5_within := goodIn_r _ [4] (by decide +kernel) (by decide +kernel)
set_option maxRecDepth 20000 in
theorem gX5_isMoreMiles_X5_within : GoodIn wsX5_isMoreMiles (va_wsS RX5 86 yX5_within wsX5_within) := goodIn_app (goodIn_of _ (by decide +kernel)) ggX5_isMoreMiles_X5_within
set_option maxRecDepth 20000 in
theorem ggX5_think_X0_become : GoodIn wsX5_think wsX0_become := goodIn_r _ [7, 8, 9, 10, 11, 12, 13, 14, 15, 16, 17, 18, 19, 20, 21, 30, 31, 32, 33, 34, 35, 36, 37, 38, 39, 40, 41] (by decide +kernel) (by decide +kernel)
set_option maxRecDepth 20000 in
theorem gX5_think_X0_become : GoodIn wsX5_think (wsV RX5 218 RX0 yX0_become wsX0_become) := goodIn_app (goodIn_of _ (by decide +kernel)) ggX5_think_X0_become
set_option maxRecDepth 20000 in
theorem ggX5_outcome_X0_verdict : GoodIn wsX5_outcome wsX0_verdict := goodIn_r _ [7, 8, 9, 10, 6, 11, 12, 13, 14, 15, 16, 17, 18, 19, 20, 21, 22, 23, 24, 25, 26, 27, 28, 29, 30, 31, 32, 33, 34, 35, 36, 37, 38, 39, 40, 41, 50, 51, 52, 53, 54, 55, 56, 57, 58, 59, 60, 61, 62, 63, 64, 65, 66] (by decide +kernel) (by decide +kernel)
set_option maxRecDepth 20000 in
theorem gX5_outcome_X0_verdict : GoodIn wsX5_outcome (wsV RX5 164 RX0 yX0_verdict wsX0_verdict) := goodIn_app (goodIn_of _ (by decide +kernel)) ggX5_outcome_X0_verdict
set_option maxRecDepth 20000 in
theorem ggX5_guiltyBits_X5_think : GoodIn wsX5_guiltyBits wsX5_think := goodIn_r _ [6, 1, 7, 8, 9, 10, 11, 12, 13, 14, 15, 16, 17, 18, 19, 20, 21, 22, 23, 24, 25, 26, 80, 81, 82, 83, 84, 85, 86, 87, 88, 89, 90, 91, 92, 93, 94, 95, 96, 97, 98, 99] (by decide +kernel) (by decide +kernel)
set_option maxRecDepth 20000 in
theorem gX5_guiltyBits_X5_think : GoodIn wsX5_guiltyBits (wsV RX5 143 RX5 yX5_think wsX5_think) := goodIn_app (goodIn_of _ (by decide +kernel)) ggX5_guiltyBits_X5_think
set_option maxRecDepth 20000 in
theorem ggX5_guiltyBits_X0_verdict : GoodIn wsX5_guiltyBits wsX0_verdict := goodIn_r _ [30, 31, 32, 33, 11, 34, 35, 22, 23, 13, 18, 21, 36, 26, 37, 38, 39, 40, 41, 42, 43, 44, 45, 46, 47, 48, 49, 50, 51, 52, 53, 54, 55, 56, 57, 58, 88, 89, 90, 91, 92, 93, 94, 95, 96, 97, 98, 99, 100, 101, 102, 103, 104] (by decide +kernel) (by decide +kernel)
set_option maxRecDepth 20000 in
theorem gX5_guiltyBits_X0_verdict : GoodIn wsX5_guiltyBits (wsV RX5 164 RX0 yX0_verdict wsX0_verdict) := goodIn_app (goodIn_of _ (by decide +kernel)) ggX5_guiltyBits_X0_verdict
set_option maxRecDepth 20000 in
theorem ggX5_guiltyBits_X0_mile : GoodIn wsX5_guiltyBits wsX0_mile := goodIn_r _ [62, 19, 63, 37, 38, 39, 40, 22, 41, 42, 43, 64, 65, 66, 11, 67, 20, 21, 31, 32, 33, 34, 35, 23, 13, 18, 36, 26, 44, 45, 46, 47, 48, 49, 50, 51, 52, 53, 54, 55, 56, 57, 58, 68, 69, 70, 71, 72, 73, 74, 75, 76, 77, 78, 79, 88, 89, 90, 91, 92, 93, 94, 95, 96, 97, 98, 99, 100, 101, 102, 103, 104] (by decide +kernel) (by decide +kernel)
set_option maxRecDepth 20000 in
theorem gX5_guiltyBits_X0_mile : GoodIn wsX5_guiltyBits (wsV RX5 158 RX0 yX0_mile wsX0_mile) := goodIn_app (goodIn_of _ (by decide +kernel)) ggX5_guiltyBits_X0_mile
set_option maxRecDepth 20000 in
theorem ggX5_guiltyOfAll_X5_think : GoodIn wsX5_guiltyOfAll wsX5_think := goodIn_r _ [8, 3, 1, 9, 10, 11, 12, 13, 14, 15, 16, 17, 18, 19, 20, 21, 22, 23, 24, 25, 26, 27, 85, 86, 87, 88, 89, 90, 91, 92, 93, 94, 95, 96, 97, 98, 99, 100, 101, 102, 103, 104] (by decide +kernel) (by decide +kernel)
set_option maxRecDepth 20000 in
theorem gX5_guiltyOfAll_X5_think : GoodIn wsX5_guiltyOfAll (wsV RX5 143 RX5 yX5_think wsX5_think) := goodIn_app (goodIn_of _ (by decide +kernel)) ggX5_guiltyOfAll_X5_think
set_option maxRecDepth 20000 in
theorem ggX5_guiltyOfAll_X0_go : GoodIn wsX5_guiltyOfAll wsX0_go := goodIn_r _ [31, 32, 33, 34, 12, 35, 20, 36, 37, 38, 39, 40, 23, 41, 42, 43, 44, 45, 46, 47, 21, 22, 48, 49, 50, 51, 52, 24, 14, 19, 53, 27, 54, 55, 56, 57, 58, 59, 60, 61, 62, 63, 64, 65, 66, 67, 68, 69, 70, 71, 72, 73, 74, 75, 76, 77, 78, 79, 80, 93, 94, 95, 96, 97, 98, 99, 100, 101, 102, 103, 104, 105, 106, 107, 108, 109] (by decide +kernel) (by decide +kernel)
set_option maxRecDepth 20000 in
theorem gX5_guiltyOfAll_X0_go : GoodIn wsX5_guiltyOfAll (wsV RX5 140 RX0 yX0_go wsX0_go) := goodIn_app (goodIn_of _ (by decide +kernel)) ggX5_guiltyOfAll_X0_go
set_option maxRecDepth 20000 in
theorem ggX5_guiltyOfAll_X0_verdict : GoodIn wsX5_guiltyOfAll wsX0_verdict := goodIn_r _ [84, 48, 49, 50, 12, 51, 52, 23, 24, 14, 19, 22, 53, 27, 37, 38, 39, 40, 41, 42, 43, 54, 55, 56, 57, 58, 59, 60, 61, 62, 63, 64, 65, 66, 67, 68, 93, 94, 95, 96, 97, 98, 99, 100, 101, 102, 103, 104, 105, 106, 107, 108, 109] (by decide +kernel) (by decide +kernel)
set_option maxRecDepth 20000 in
theorem gX5_guiltyOfAll_X0_verdict : GoodIn wsX5_guiltyOfAll (wsV RX5 164 RX0 yX0_verdict wsX0_verdict) := goodIn_app (goodIn_of _ (by decide +kernel)) ggX5_guiltyOfAll_X0_verdict
set_option maxRecDepth 20000 in
theorem ggX5_weighCases_X5_think : GoodIn wsX5_weighCases wsX5_think := goodIn_r _ [10, 3, 1, 11, 12, 13, 14, 15, 16, 17, 18, 19, 20, 21, 22, 23, 24, 25, 26, 27, 28, 29, 88, 89, 90, 91, 92, 93, 94, 95, 96, 97, 98, 99, 100, 101, 102, 103, 104, 105, 106, 107] (by decide +kernel) (by decide +kernel)
set_option maxRecDepth 20000 in
theorem gX5_weighCases_X5_think : GoodIn wsX5_weighCases (wsV RX5 143 RX5 yX5_think wsX5_think) := goodIn_app (goodIn_of _ (by decide +kernel)) ggX5_weighCases_X5_think
set_option maxRecDepth 20000 in
theorem ggX5_weighCases_X0_tread : GoodIn wsX5_weighCases wsX0_tread := goodIn_r _ [33, 21, 16, 34, 35, 36, 37, 96, 97, 98, 99, 100, 101, 102, 103, 104, 105, 106, 107] (by decide +kernel) (by decide +kernel)
set_option maxRecDepth 20000 in
theorem gX5_weighCases_X0_tread : GoodIn wsX5_weighCases (wsV RX5 264 RX0 yX0_tread wsX0_tread) := goodIn_app (goodIn_of _ (by decide +kernel)) ggX5_weighCases_X0_tread
