set_option maxRecDepth 20000 in
theorem ggX5_weighCases_X0_go : GoodIn wsX5_weighCases wsX0_go := goodIn_r _ [41, 42, 43, 44, 14, 45, 22, 46, 34, 35, 36, 37, 25, 47, 48, 49, 50, 51, 52, 53, 23, 24, 54, 55, 56, 57, 58, 26, 16, 21, 59, 29, 60, 61, 62, 63, 64, 65, 66, 67, 68, 69, 70, 71, 72, 73, 74, 75, 76, 77, 78, 79, 80, 81, 82, 83, 31, 32, 33, 96, 97, 98, 99, 100, 101, 102, 103, 104, 105, 106, 107, 110, 111, 112, 113, 114] (by decide +kernel) (by decide +kernel)
set_option maxRecDepth 20000 in
theorem gX5_weighCases_X0_go : GoodIn wsX5_weighCases (wsV RX5 140 RX0 yX0_go wsX0_go) := goodIn_app (goodIn_of _ (by decide +kernel)) ggX5_weighCases_X0_go
set_option maxRecDepth 20000 in
theorem ggX5_weighCases_X0_verdict : GoodIn wsX5_weighCases wsX0_verdict := goodIn_r _ [87, 54, 55, 56, 14, 57, 58, 25, 26, 16, 21, 24, 59, 29, 34, 35, 36, 37, 47, 48, 49, 60, 61, 62, 63, 64, 65, 66, 67, 68, 69, 70, 71, 72, 73, 74, 96, 97, 98, 99, 100, 101, 102, 103, 104, 105, 106, 107, 110, 111, 112, 113, 114] (by decide +kernel) (by decide +kernel)
set_option maxRecDepth 20000 in
theorem gX5_weighCases_X0_verdict : GoodIn wsX5_weighCases (wsV RX5 164 RX0 yX0_verdict wsX0_verdict) := goodIn_app (goodIn_of _ (by decide +kernel)) ggX5_weighCases_X0_verdict
set_option maxRecDepth 20000 in
theorem ggX5_refusalOfSheet_X2_isSheet : GoodIn wsX5_refusalOfSheet wsX2_isSheet := goodIn_r _ [10, 11, 12, 13] (by decide +kernel) (by decide +kernel)
set_option maxRecDepth 20000 in
theorem gX5_refusalOfSheet_X2_isSheet : GoodIn wsX5_refusalOfSheet (wsV RX5 196 RX2 yX2_isSheet wsX2_isSheet) := goodIn_app (goodIn_of _ (by decide +kernel)) ggX5_refusalOfSheet_X2_isSheet
set_option maxRecDepth 20000 in
theorem ggX5_refusalOfSheet_X0_hasPebble : GoodIn wsX5_refusalOfSheet wsX0_hasPebble := goodIn_r _ [18, 19, 32, 33, 34, 35, 36, 37, 38, 39, 40, 41, 42, 43] (by decide +kernel) (by decide +kernel)
set_option maxRecDepth 20000 in
theorem gX5_refusalOfSheet_X0_hasPebble : GoodIn wsX5_refusalOfSheet (wsV RX5 111 RX0 yX0_hasPebble wsX0_hasPebble) := goodIn_app (goodIn_of _ (by decide +kernel)) ggX5_refusalOfSheet_X0_hasPebble
set_option maxRecDepth 20000 in
theorem ggX5_refusalOfSheet_X5_within : GoodIn wsX5_refusalOfSheet wsX5_within := goodIn_r _ [13] (by decide +kernel) (by decide +kernel)
set_option maxRecDepth 20000 in
theorem gX5_refusalOfSheet_X5_within : GoodIn wsX5_refusalOfSheet (va_wsS RX5 86 yX5_within wsX5_within) := goodIn_app (goodIn_of _ (by decide +kernel)) ggX5_refusalOfSheet_X5_within
set_option maxRecDepth 20000 in
theorem ggX5_refusalOf_X5_refusalOfSheet : GoodIn wsX5_refusalOf wsX5_refusalOfSheet := goodIn_r _ [6, 7, 8, 9, 10, 1, 11, 12, 13, 14, 15, 16, 5, 17, 18, 19, 20, 21, 22, 23, 24, 30, 31, 32, 33, 34, 35, 36, 37, 38, 39, 40, 41, 42, 43, 44, 45, 46, 47, 48, 49, 50, 51, 52] (by decide +kernel) (by decide +kernel)
set_option maxRecDepth 20000 in
theorem gX5_refusalOf_X5_refusalOfSheet : GoodIn wsX5_refusalOf (wsV RX5 193 RX5 yX5_refusalOfSheet wsX5_refusalOfSheet) := goodIn_app (goodIn_of _ (by decide +kernel)) ggX5_refusalOf_X5_refusalOfSheet
set_option maxRecDepth 20000 in
theorem ggX5_refusalOf_X0_hasJudge : GoodIn wsX5_refusalOf wsX0_hasJudge := goodIn_r _ [28, 29, 41, 42, 43, 44, 45, 46, 47, 48, 49, 50, 51, 52] (by decide +kernel) (by decide +kernel)
set_option maxRecDepth 20000 in
theorem gX5_refusalOf_X0_hasJudge : GoodIn wsX5_refusalOf (wsV RX5 94 RX0 yX0_hasJudge wsX0_hasJudge) := goodIn_app (goodIn_of _ (by decide +kernel)) ggX5_refusalOf_X0_hasJudge
set_option maxRecDepth 20000 in
theorem ggX5_firstOtherwise_X0_go : GoodIn wsX5_firstOtherwise wsX0_go := goodIn_r _ [9, 10, 11, 12, 8, 13, 14, 15, 16, 17, 18, 19, 20, 21, 22, 23, 24, 25, 26, 27, 28, 29, 30, 31, 32, 33, 34, 35, 36, 37, 38, 39, 40, 41, 42, 43, 44, 45, 46, 47, 48, 49, 50, 51, 52, 53, 54, 55, 56, 57, 58, 59, 60, 61, 62, 63, 64, 65, 66, 82, 83, 84, 85, 86, 87, 88, 89, 90, 91, 92, 93, 94, 95, 96, 97, 98] (by decide +kernel) (by decide +kernel)
set_option maxRecDepth 20000 in
theorem gX5_firstOtherwise_X0_go : GoodIn wsX5_firstOtherwise (wsV RX5 140 RX0 yX0_go wsX0_go) := goodIn_app (goodIn_of _ (by decide +kernel)) ggX5_firstOtherwise_X0_go
set_option maxRecDepth 20000 in
theorem ggX5_firstOtherwise_X0_verdict : GoodIn wsX5_firstOtherwise wsX0_verdict := goodIn_r _ [70, 30, 31, 32, 8, 33, 34, 20, 35, 36, 37, 29, 38, 39, 16, 17, 18, 19, 21, 22, 23, 40, 41, 42, 43, 44, 45, 46, 47, 48, 49, 50, 51, 52, 53, 54, 82, 83, 84, 85, 86, 87, 88, 89, 90, 91, 92, 93, 94, 95, 96, 97, 98] (by decide +kernel) (by decide +kernel)
set_option maxRecDepth 20000 in
theorem gX5_firstOtherwise_X0_verdict : GoodIn wsX5_firstOtherwise (wsV RX5 164 RX0 yX0_verdict wsX0_verdict) := goodIn_app (goodIn_of _ (by decide +kernel)) ggX5_firstOtherwise_X0_verdict
set_option maxRecDepth 20000 in
theorem ggX6_init_X6_text : GoodIn wsX6_init wsX6_text := goodIn_r _ [34, 35, 36, 37, 38, 39, 11, 29, 40, 41, 42, 43, 33, 44, 9, 45, 46, 47, 48, 49, 50, 51, 18, 52, 53, 54, 55, 56, 57, 58, 59, 60, 61, 62, 10, 63, 64, 65, 66, 19, 67, 68, 69, 70, 71, 72, 73, 74, 75, 76, 77, 78, 79, 80, 81, 82, 83, 84, 85, 86, 87, 88, 89, 90, 91, 92, 93, 94, 95, 96, 97, 98, 99, 100, 101, 102, 103, 104, 105, 106, 107, 108, 109, 110, 111, 112, 113, 114, 115, 116, 117, 118, 119, 120, 121, 122, 123, 124, 125, 126, 127] (by decide +kernel) (by decide +kernel)
set_option maxRecDepth 20000 in
theorem gX6_init_X6_text : GoodIn wsX6_init (wsV RX6 84 RX6 yX6_text wsX6_text) := goodIn_app (goodIn_of _ (by decide +kernel)) ggX6_init_X6_text
set_option maxRecDepth 20000 in
theorem ggX6_isPebble_X6_in : GoodIn wsX6_isPebble wsX6_in := goodIn_r _ [5] (by decide +kernel) (by decide +kernel)
set_option maxRecDepth 20000 in
theorem gX6_isPebble_X6_in : GoodIn wsX6_isPebble (va_wsS RX6 91 yX6_in wsX6_in) := goodIn_app (goodIn_of _ (by decide +kernel)) ggX6_isPebble_X6_in
set_option maxRecDepth 20000 in
theorem ggX6_isJudge_X6_in : GoodIn wsX6_isJudge wsX6_in := goodIn_r _ [5] (by decide +kernel) (by decide +kernel)
set_option maxRecDepth 20000 in
theorem gX6_isJudge_X6_in : GoodIn wsX6_isJudge (va_wsS RX6 91 yX6_in wsX6_in) := goodIn_app (goodIn_of _ (by decide +kernel)) ggX6_isJudge_X6_in
set_option maxRecDepth 20000 in
theorem ggX6_isCase_X6_in : GoodIn wsX6_isCase wsX6_in := goodIn_r _ [4] (by decide +kernel) (by decide +kernel)
set_option maxRecDepth 20000 in
theorem gX6_isCase_X6_in : GoodIn wsX6_isCase (va_wsS RX6 91 yX6_in wsX6_in) := goodIn_app (goodIn_of _ (by decide +kernel)) ggX6_isCase_X6_in
set_option maxRecDepth 20000 in
theorem ggX6_judge_X6_in : GoodIn wsX6_judge wsX6_in := goodIn_r _ [6] (by decide +kernel) (by decide +kernel)
set_option maxRecDepth 20000 in
theorem gX6_judge_X6_in : GoodIn wsX6_judge (va_wsS RX6 91 yX6_in wsX6_in) := goodIn_app (goodIn_of _ (by decide +kernel)) ggX6_judge_X6_in
set_option maxRecDepth 20000 in
theorem ggX6_shoe_X6_isJudge : GoodIn wsX6_shoe wsX6_isJudge := goodIn_r _ [6, 7, 8, 9, 5, 10, 11, 12, 13, 14, 15, 16, 17, 18, 19, 20, 21, 22, 23, 24, 25, 26, 27, 28, 29, 30, 31, 32, 33, 34, 35, 36, 37, 38, 39, 40, 41, 42, 43, 44, 45, 46, 47, 48, 49, 50, 51, 52] (by decide +kernel) (by decide +kernel)
set_option maxRecDepth 20000 in
theorem gX6_shoe_X6_isJudge : GoodIn wsX6_shoe (wsV RX6 104 RX6 yX6_isJudge wsX6_isJudge) := goodIn_app (goodIn_of _ (by decide +kernel)) ggX6_shoe_X6_isJudge
set_option maxRecDepth 20000 in
theorem ggX6_shoe_X6_in : GoodIn wsX6_shoe wsX6_in := goodIn_r _ [10] (by decide +kernel) (by decide +kernel)
set_option maxRecDepth 20000 in
theorem gX6_shoe_X6_in : GoodIn wsX6_shoe (va_wsS RX6 91 yX6_in wsX6_in) := goodIn_app (goodIn_of _ (by decide +kernel)) ggX6_shoe_X6_in
set_option maxRecDepth 20000 in
theorem ggX6_bench_X6_isJudge : GoodIn wsX6_bench wsX6_isJudge := goodIn_r _ [6, 7, 8, 9, 5, 10, 11, 12, 13, 14, 15, 16, 17, 18, 19, 20, 21, 22, 23, 24, 25, 26, 27, 28, 29, 30, 31, 32, 33, 34, 35, 36, 37, 38, 39, 40, 41, 42, 43, 44, 45, 46, 47, 48, 49, 50, 51, 52] (by decide +kernel) (by decide +kernel)
set_option maxRecDepth 20000 in
theorem gX6_bench_X6_isJudge : GoodIn wsX6_bench (wsV RX6 104 RX6 yX6_isJudge wsX6_isJudge) := goodIn_app (goodIn_of _ (by decide +kernel)) ggX6_bench_X6_isJudge
set_option maxRecDepth 20000 in
theorem ggX6_bench_X6_in : GoodIn wsX6_bench wsX6_in := goodIn_r _ [10] (by decide +kernel) (by decide +kernel)
set_option maxRecDepth 20000 in
theorem gX6_bench_X6_in : GoodIn wsX6_bench (va_wsS RX6 91 yX6_in wsX6_in) := goodIn_app (goodIn_of _ (by decide +kernel)) ggX6_bench_X6_in
set_option maxRecDepth 20000 in
theorem ggX6_isByte_X6_in : GoodIn wsX6_isByte wsX6_in := goodIn_r _ [4] (by decide +kernel) (by decide +kernel)
set_option maxRecDepth 20000 in
theorem gX6_isByte_X6_in : GoodIn wsX6_isByte (va_wsS RX6 91 yX6_in wsX6_in) := goodIn_app (goodIn_of _ (by decide +kernel)) ggX6_isByte_X6_in
set_option maxRecDepth 20000 in
theorem ggX6_feed_X6_in : GoodIn wsX6_feed wsX6_in := goodIn_r _ [6] (by decide +kernel) (by decide +kernel)
set_option maxRecDepth 20000 in
theorem gX6_feed_X6_in : GoodIn wsX6_feed (va_wsS RX6 91 yX6_in wsX6_in) := goodIn_app (goodIn_of _ (by decide +kernel)) ggX6_feed_X6_in
set_option maxRecDepth 20000 in
theorem ggX6_feed_X6_isByte : GoodIn wsX6_feed wsX6_isByte := goodIn_r _ [9, 3, 4, 5, 6] (by decide +kernel) (by decide +kernel)
set_option maxRecDepth 20000 in
theorem gX6_feed_X6_isByte : GoodIn wsX6_feed (va_wsS RX6 108 yX6_isByte wsX6_isByte) := goodIn_app (goodIn_of _ (by decide +kernel)) ggX6_feed_X6_isByte
set_option maxRecDepth 20000 in
theorem ggX6_next_X6_in : GoodIn wsX6_next wsX6_in := goodIn_r _ [10] (by decide +kernel) (by decide +kernel)
set_option maxRecDepth 20000 in
theorem gX6_next_X6_in : GoodIn wsX6_next (va_wsS RX6 91 yX6_in wsX6_in) := goodIn_app (goodIn_of _ (by decide +kernel)) ggX6_next_X6_in
set_option maxRecDepth 20000 in
theorem ggX6_next_X6_wordFrom : GoodIn wsX6_next wsX6_wordFrom := goodIn_r _ [14, 15, 3, 16, 17, 18, 19, 20, 21, 22, 23, 24, 25, 26, 27, 28, 29, 30, 31, 32, 33, 34, 35, 36, 37, 38, 39, 40, 41, 42, 43, 44, 45, 46, 47, 48, 49, 50, 51, 52, 53, 54, 55, 56, 57] (by decide +kernel) (by decide +kernel)
set_option maxRecDepth 20000 in
theorem gX6_next_X6_wordFrom : GoodIn wsX6_next (wsV RX6 123 RX6 yX6_wordFrom wsX6_wordFrom) := goodIn_app (goodIn_of _ (by decide +kernel)) ggX6_next_X6_wordFrom
set_option maxRecDepth 20000 in
theorem ggX6_unwinds_X6_rank : GoodIn wsX6_unwinds wsX6_rank := goodIn_r _ [7] (by decide +kernel) (by decide +kernel)
set_option maxRecDepth 20000 in
theorem gX6_unwinds_X6_rank : GoodIn wsX6_unwinds (va_wsS RX6 133 yX6_rank wsX6_rank) := goodIn_app (goodIn_of _ (by decide +kernel)) ggX6_unwinds_X6_rank
set_option maxRecDepth 20000 in
theorem ggX6_unwinds_X6_puts : GoodIn wsX6_unwinds wsX6_puts := goodIn_r _ [11, 12, 13, 14, 15, 16, 17, 18, 19, 20, 21, 22, 23, 24, 25, 26, 27, 28, 29, 30, 31, 32, 33, 34, 35, 36, 37, 38, 39, 40, 41, 42, 43, 44, 45, 46, 47, 48, 49, 50, 51, 52, 53, 54, 55, 56] (by decide +kernel) (by decide +kernel)
set_option maxRecDepth 20000 in
theorem gX6_unwinds_X6_puts : GoodIn wsX6_unwinds (wsV RX6 140 RX6 yX6_puts wsX6_puts) := goodIn_app (goodIn_of _ (by decide +kernel)) ggX6_unwinds_X6_puts
set_option maxRecDepth 20000 in
theorem ggX6_opensOne_X6_holds : GoodIn wsX6_opensOne wsX6_holds := goodIn_r _ [6, 7, 8, 9, 10, 11, 12, 13, 14, 15, 16, 17, 18, 19, 20, 21, 22, 23, 24, 25, 26, 27, 28, 29, 30, 31, 32, 33, 34, 35, 36, 37, 38, 39, 40, 41, 42, 43, 44, 45, 46, 47, 48, 49, 50] (by decide +kernel) (by decide +kernel)
set_option maxRecDepth 20000 in
theorem gX6_opensOne_X6_holds : GoodIn wsX6_opensOne (wsV RX6 144 RX6 yX6_holds wsX6_holds) := goodIn_app (goodIn_of _ (by decide +kernel)) ggX6_opensOne_X6_holds
set_option maxRecDepth 20000 in
theorem ggX6_between_X6_rank : GoodIn wsX6_between wsX6_rank := goodIn_r _ [6] (by decide +kernel) (by decide +kernel)
set_option maxRecDepth 20000 in
theorem gX6_between_X6_rank : GoodIn wsX6_between (va_wsS RX6 133 yX6_rank wsX6_rank) := goodIn_app (goodIn_of _ (by decide +kernel)) ggX6_between_X6_rank
set_option maxRecDepth 20000 in
theorem ggX6_between_X6_unwinds : GoodIn wsX6_between wsX6_unwinds := goodIn_r _ [10, 1, 2, 11, 3, 4, 5, 6, 12, 13, 14, 15, 16, 17, 18, 23, 24, 25, 26, 27, 28, 29, 30, 31, 32, 33, 34, 35, 36, 37, 38, 39, 40, 41, 42, 43, 44, 45, 46, 47, 48, 49, 50, 51, 52, 53, 54, 55, 56, 57, 58, 59, 60, 61, 62, 63, 64] (by decide +kernel) (by decide +kernel)
set_option maxRecDepth 20000 in
theorem gX6_between_X6_unwinds : GoodIn wsX6_between (wsV RX6 147 RX6 yX6_unwinds wsX6_unwinds) := goodIn_app (goodIn_of _ (by decide +kernel)) ggX6_between_X6_unwinds
set_option maxRecDepth 20000 in
theorem ggX6_between_X6_holds : GoodIn wsX6_between wsX6_holds := goodIn_r _ [22, 2, 1, 23, 24, 25, 26, 27, 28, 29, 30, 31, 32, 33, 34, 35, 36, 37, 38, 39, 40, 41, 42, 43, 44, 45, 46, 47, 48, 49, 50, 51, 52, 53, 54, 55, 56, 57, 58, 59, 60, 61, 62, 63, 64] (by decide +kernel) (by decide +kernel)
set_option maxRecDepth 20000 in
theorem gX6_between_X6_holds : GoodIn wsX6_between (wsV RX6 144 RX6 yX6_holds wsX6_holds) := goodIn_app (goodIn_of _ (by decide +kernel)) ggX6_between_X6_holds
set_option maxRecDepth 20000 in
theorem ggX6_eRead_X6_next : GoodIn wsX6_eRead wsX6_next := goodIn_r _ [10, 11, 12, 13, 14, 3, 5, 15, 16, 9, 17, 18, 19, 20, 21, 22, 54, 55, 56, 57, 58, 59, 60, 61, 62, 63, 64, 65, 66, 67, 68, 69, 70, 71, 72, 73, 74, 75, 76, 77, 78, 79, 80, 81, 82, 83, 84, 85, 86, 87, 88, 89, 90, 91, 92, 93, 94, 95] (by decide +kernel) (by decide +kernel)
set_option maxRecDepth 20000 in
theorem gX6_eRead_X6_next : GoodIn wsX6_eRead (wsV RX6 150 RX6 yX6_next wsX6_next) := goodIn_app (goodIn_of _ (by decide +kernel)) ggX6_eRead_X6_next
set_option maxRecDepth 20000 in
theorem ggX6_eRead_X6_puts : GoodIn wsX6_eRead wsX6_puts := goodIn_r _ [26, 27, 28, 29, 54, 55, 56, 57, 58, 59, 60, 61, 62, 63, 64, 65, 66, 67, 68, 69, 70, 71, 72, 73, 74, 75, 76, 77, 78, 79, 80, 81, 82, 83, 84, 85, 86, 87, 88, 89, 90, 91, 92, 93, 94, 95] (by decide +kernel) (by decide +kernel)
set_option maxRecDepth 20000 in
theorem gX6_eRead_X6_puts : GoodIn wsX6_eRead (wsV RX6 140 RX6 yX6_puts wsX6_puts) := goodIn_app (goodIn_of _ (by decide +kernel)) ggX6_eRead_X6_puts
set_option maxRecDepth 20000 in
theorem ggX6_eRead_X6_unwinds : GoodIn wsX6_eRead wsX6_unwinds := goodIn_r _ [33, 1, 34, 2, 35, 36, 9, 37, 23, 24, 25, 26, 27, 28, 29, 54, 55, 56, 57, 58, 59, 60, 61, 62, 63, 64, 65, 66, 67, 68, 69, 70, 71, 72, 73, 74, 75, 76, 77, 78, 79, 80, 81, 82, 83, 84, 85, 86, 87, 88, 89, 90, 91, 92, 93, 94, 95] (by decide +kernel) (by decide +kernel)
set_option maxRecDepth 20000 in
theorem gX6_eRead_X6_unwinds : GoodIn wsX6_eRead (wsV RX6 147 RX6 yX6_unwinds wsX6_unwinds) := goodIn_app (goodIn_of _ (by decide +kernel)) ggX6_eRead_X6_unwinds
set_option maxRecDepth 20000 in
theorem ggX6_eRead_X6_opensOne : GoodIn wsX6_eRead wsX6_opensOne := goodIn_r _ [41, 2, 42, 43, 44, 9, 45, 34, 1, 54, 55, 56, 57, 58, 59, 60, 61, 62, 63, 64, 65, 66, 67, 68, 69, 70, 71, 72, 73, 74, 75, 76, 77, 78, 79, 80, 81, 82, 83, 84, 85, 86, 87, 88, 89, 90, 91, 92, 93, 94, 95] (by decide +kernel) (by decide +kernel)
set_option maxRecDepth 20000 in
theorem gX6_eRead_X6_opensOne : GoodIn wsX6_eRead (wsV RX6 154 RX6 yX6_opensOne wsX6_opensOne) := goodIn_app (goodIn_of _ (by decide +kernel)) ggX6_eRead_X6_opensOne
set_option maxRecDepth 20000 in
theorem ggX6_eRead_X6_signOf : GoodIn wsX6_eRead wsX6_signOf := goodIn_r _ [49, 3, 54, 55, 56, 57, 58, 59, 60, 61, 62, 63, 64, 65, 66, 67, 68, 69, 70, 71, 72, 73, 74, 75, 76, 77, 78, 79, 80, 81, 82, 83, 84, 85, 86, 87, 88, 89, 90, 91, 92, 93, 94, 95] (by decide +kernel) (by decide +kernel)
set_option maxRecDepth 20000 in
theorem gX6_eRead_X6_signOf : GoodIn wsX6_eRead (wsV RX6 157 RX6 yX6_signOf wsX6_signOf) := goodIn_app (goodIn_of _ (by decide +kernel)) ggX6_eRead_X6_signOf
set_option maxRecDepth 20000 in
theorem ggX6_eRead_X6_between : GoodIn wsX6_eRead wsX6_between := goodIn_r _ [53, 1, 34, 35, 36, 9, 37, 30, 31, 32, 33, 2, 23, 24, 25, 26, 27, 28, 29, 42, 43, 44, 45, 54, 55, 56, 57, 58, 59, 60, 61, 62, 63, 64, 65, 66, 67, 68, 69, 70, 71, 72, 73, 74, 75, 76, 77, 78, 79, 80, 81, 82, 83, 84, 85, 86, 87, 88, 89, 90, 91, 92, 93, 94, 95] (by decide +kernel) (by decide +kernel)
set_option maxRecDepth 20000 in
theorem gX6_eRead_X6_between : GoodIn wsX6_eRead (wsV RX6 160 RX6 yX6_between wsX6_between) := goodIn_app (goodIn_of _ (by decide +kernel)) ggX6_eRead_X6_between
set_option maxRecDepth 20000 in
theorem ggX6_text_X6_next : GoodIn wsX6_text wsX6_next := goodIn_r _ [13, 2, 7, 14, 8, 4, 5, 15, 16, 12, 17, 18, 19, 20, 21, 22, 59, 60, 61, 62, 63, 64, 65, 66, 67, 68, 69, 70, 71, 72, 73, 74, 75, 76, 77, 78, 79, 80, 81, 82, 83, 84, 85, 86, 87, 88, 89, 90, 91, 92, 93, 94, 95, 96, 97, 98, 99, 100] (by decide +kernel) (by decide +kernel)
set_option maxRecDepth 20000 in
theorem gX6_text_X6_next : GoodIn wsX6_text (wsV RX6 150 RX6 yX6_next wsX6_next) := goodIn_app (goodIn_of _ (by decide +kernel)) ggX6_text_X6_next
set_option maxRecDepth 20000 in
theorem ggX6_text_X6_eRead : GoodIn wsX6_text wsX6_eRead := goodIn_r _ [26, 27, 28, 4, 29, 5, 9, 10, 11, 12, 13, 2, 7, 14, 8, 15, 16, 17, 18, 19, 20, 21, 22, 30, 31, 32, 33, 34, 1, 3, 35, 36, 37, 38, 39, 40, 41, 42, 43, 44, 45, 46, 47, 48, 49, 50, 51, 52, 53, 54, 55, 56, 57, 58, 59, 60, 61, 62, 63, 64, 65, 66, 67, 68, 69, 70, 71, 72, 73, 74, 75, 76, 77, 78, 79, 80, 81, 82, 83, 84, 85, 86, 87, 88, 89, 90, 91, 92, 93, 94, 95, 96, 97, 98, 99, 100] (by decide +kernel) (by decide +kernel)
set_option maxRecDepth 20000 in
theorem gX6_text_X6_eRead : GoodIn wsX6_text (wsV RX6 163 RX6 yX6_eRead wsX6_eRead) := goodIn_app (goodIn_of _ (by decide +kernel)) ggX6_text_X6_eRead
set_option maxRecDepth 20000 in
theorem ggX6_says_X6_two : GoodIn wsX6_says wsX6_two := goodIn_r _ [10] (by decide +kernel) (by decide +kernel)
set_option maxRecDepth 20000 in
theorem gX6_says_X6_two : GoodIn wsX6_says (va_wsS RX6 167 yX6_two wsX6_two) := goodIn_app (goodIn_of _ (by decide +kernel)) ggX6_says_X6_two
set_option maxRecDepth 20000 in
theorem ggX6_force_X6_in : GoodIn wsX6_force wsX6_in := goodIn_r _ [6] (by decide +kernel) (by decide +kernel)
set_option maxRecDepth 20000 in
theorem gX6_force_X6_in : GoodIn wsX6_force (va_wsS RX6 91 yX6_in wsX6_in) := goodIn_app (goodIn_of _ (by decide +kernel)) ggX6_force_X6_in
set_option maxRecDepth 20000 in
theorem ggX6_asksOf_X6_says : GoodIn wsX6_asksOf wsX6_says := goodIn_r _ [9, 10, 11, 12, 13, 14, 1, 15, 16, 8, 17, 21, 22, 23, 24, 25, 26, 27, 28, 29, 30, 31, 32, 33, 34, 35, 36, 37, 38, 39, 40, 41, 42, 43, 44, 45, 46, 47, 48, 49, 50, 51, 52, 53, 54, 55, 56, 57, 58, 59, 60, 61, 62] (by decide +kernel) (by decide +kernel)
set_option maxRecDepth 20000 in
theorem gX6_asksOf_X6_says : GoodIn wsX6_asksOf (wsV RX6 171 RX6 yX6_says wsX6_says) := goodIn_app (goodIn_of _ (by decide +kernel)) ggX6_asksOf_X6_says
set_option maxRecDepth 20000 in
theorem ggX6_asksOf_X6_within : GoodIn wsX6_asksOf wsX6_within := goodIn_r _ [20] (by decide +kernel) (by decide +kernel)
set_option maxRecDepth 20000 in
theorem gX6_asksOf_X6_within : GoodIn wsX6_asksOf (va_wsS RX6 174 yX6_within wsX6_within) := goodIn_app (goodIn_of _ (by decide +kernel)) ggX6_asksOf_X6_within
set_option maxRecDepth 20000 in
theorem ggX6_asks_X6_in : GoodIn wsX6_asks wsX6_in := goodIn_r _ [4] (by decide +kernel) (by decide +kernel)
set_option maxRecDepth 20000 in
theorem gX6_asks_X6_in : GoodIn wsX6_asks (va_wsS RX6 91 yX6_in wsX6_in) := goodIn_app (goodIn_of _ (by decide +kernel)) ggX6_asks_X6_in
set_option maxRecDepth 20000 in
theorem ggX6_asks_X6_isJudge : GoodIn wsX6_asks wsX6_isJudge := goodIn_r _ [8, 9, 1, 2, 3, 4, 38, 39, 40, 41, 42, 43, 44, 45, 46, 47, 48, 49, 50, 51, 52, 53, 54, 55, 56, 57, 58, 59, 60, 61, 62, 63, 64, 65, 66, 67, 68, 69, 70, 71, 72, 73, 74, 75, 76, 77, 78, 79] (by decide +kernel) (by decide +kernel)
set_option maxRecDepth 20000 in
theorem gX6_asks_X6_isJudge : GoodIn wsX6_asks (wsV RX6 104 RX6 yX6_isJudge wsX6_isJudge) := goodIn_app (goodIn_of _ (by decide +kernel)) ggX6_asks_X6_isJudge
set_option maxRecDepth 20000 in
theorem ggX6_asks_X6_isPebble : GoodIn wsX6_asks wsX6_isPebble := goodIn_r _ [13, 14, 1, 2, 3, 4, 38, 39, 40, 41, 42, 43, 44, 45, 46, 47, 48, 49, 50, 51, 52, 53, 54, 55, 56, 57, 58, 59, 60, 61, 62, 63, 64, 65, 66, 67, 68, 69, 70, 71, 72, 73, 74, 75, 76, 77, 78, 79] (by decide +kernel) (by decide +kernel)
set_option maxRecDepth 20000 in
theorem gX6_asks_X6_isPebble : GoodIn wsX6_asks (wsV RX6 177 RX6 yX6_isPebble wsX6_isPebble) := goodIn_app (goodIn_of _ (by decide +kernel)) ggX6_asks_X6_isPebble
set_option maxRecDepth 20000 in
theorem ggX6_asks_X6_asksOf : GoodIn wsX6_asks wsX6_asksOf := goodIn_r _ [18, 19, 20, 21, 22, 23, 24, 25, 3, 26, 27, 28, 29, 30, 31, 32, 33, 34, 35, 36, 37, 38, 39, 40, 41, 42, 43, 44, 45, 46, 47, 48, 49, 50, 51, 52, 53, 54, 55, 56, 57, 58, 59, 60, 61, 62, 63, 64, 65, 66, 67, 68, 69, 70, 71, 72, 73, 74, 75, 76, 77, 78, 79] (by decide +kernel) (by decide +kernel)
set_option maxRecDepth 20000 in
theorem gX6_asks_X6_asksOf : GoodIn wsX6_asks (wsV RX6 180 RX6 yX6_asksOf wsX6_asksOf) := goodIn_app (goodIn_of _ (by decide +kernel)) ggX6_asks_X6_asksOf
set_option maxRecDepth 20000 in
theorem ggX6_pebble_X6_in : GoodIn wsX6_pebble wsX6_in := goodIn_r _ [8] (by decide +kernel) (by decide +kernel)
set_option maxRecDepth 20000 in
theorem gX6_pebble_X6_in : GoodIn wsX6_pebble (va_wsS RX6 91 yX6_in wsX6_in) := goodIn_app (goodIn_of _ (by decide +kernel)) ggX6_pebble_X6_in
set_option maxRecDepth 20000 in
theorem ggX6_put_X6_isPebble : GoodIn wsX6_put wsX6_isPebble := goodIn_r _ [6, 7, 8, 9, 5, 10, 11, 12, 13, 14, 15, 16, 17, 18, 19, 20, 21, 22, 23, 24, 25, 26, 27, 28, 29, 30, 31, 32, 33, 34, 35, 36, 37, 38, 39, 40, 41, 42, 43, 44, 45, 46, 47, 48, 49, 50, 51, 52] (by decide +kernel) (by decide +kernel)
set_option maxRecDepth 20000 in
theorem gX6_put_X6_isPebble : GoodIn wsX6_put (wsV RX6 177 RX6 yX6_isPebble wsX6_isPebble) := goodIn_app (goodIn_of _ (by decide +kernel)) ggX6_put_X6_isPebble
set_option maxRecDepth 20000 in
theorem ggX6_put_X6_in : GoodIn wsX6_put wsX6_in := goodIn_r _ [10] (by decide +kernel) (by decide +kernel)
set_option maxRecDepth 20000 in
theorem gX6_put_X6_in : GoodIn wsX6_put (va_wsS RX6 91 yX6_in wsX6_in) := goodIn_app (goodIn_of _ (by decide +kernel)) ggX6_put_X6_in
set_option maxRecDepth 20000 in
theorem ggX6_told_X6_isPebble : GoodIn wsX6_told wsX6_isPebble := goodIn_r _ [8, 9, 10, 11, 7, 12, 17, 18, 19, 20, 21, 22, 23, 24, 25, 26, 27, 28, 29, 30, 31, 32, 33, 34, 35, 36, 37, 38, 39, 40, 41, 42, 43, 44, 45, 46, 47, 48, 49, 50, 51, 52, 53, 54, 55, 56, 57, 58] (by decide +kernel) (by decide +kernel)
set_option maxRecDepth 20000 in
theorem gX6_told_X6_isPebble : GoodIn wsX6_told (wsV RX6 177 RX6 yX6_isPebble wsX6_isPebble) := goodIn_app (goodIn_of _ (by decide +kernel)) ggX6_told_X6_isPebble
set_option maxRecDepth 20000 in
theorem ggX6_told_X6_isSand : GoodIn wsX6_told wsX6_isSand := goodIn_r _ [16, 3, 1, 2, 17, 18, 19, 20, 21, 22, 23, 24, 25, 26, 27, 28, 29, 30, 31, 32, 33, 34, 35, 36, 37, 38, 39, 40, 41, 42, 43, 44, 45, 46, 47, 48, 49, 50, 51, 52, 53, 54, 55, 56, 57, 58] (by decide +kernel) (by decide +kernel)
set_option maxRecDepth 20000 in
theorem gX6_told_X6_isSand : GoodIn wsX6_told (wsV RX6 183 RX6 yX6_isSand wsX6_isSand) := goodIn_app (goodIn_of _ (by decide +kernel)) ggX6_told_X6_isSand
set_option maxRecDepth 20000 in
theorem ggX6_hurtsOf_X6_asksOf : GoodIn wsX6_hurtsOf wsX6_asksOf := goodIn_r _ [8, 9, 10, 1, 2, 11, 12, 13, 7, 14, 15, 16, 17, 18, 19, 20, 21, 22, 23, 24, 25, 26, 27, 28, 29, 30, 31, 32, 33, 34, 35, 36, 37, 38, 39, 40, 41, 42, 43, 44, 45, 46, 47, 48, 49, 50, 51, 52, 53, 54, 55, 56, 57, 58, 59, 60, 61, 62, 63, 64, 65, 66, 67] (by decide +kernel) (by decide +kernel)
set_option maxRecDepth 20000 in
theorem gX6_hurtsOf_X6_asksOf : GoodIn wsX6_hurtsOf (wsV RX6 180 RX6 yX6_asksOf wsX6_asksOf) := goodIn_app (goodIn_of _ (by decide +kernel)) ggX6_hurtsOf_X6_asksOf
set_option maxRecDepth 20000 in
theorem ggX6_wearsOf_X6_asksOf : GoodIn wsX6_wearsOf wsX6_asksOf := goodIn_r _ [6, 7, 8, 9, 10, 11, 12, 13, 5, 14, 15, 16, 17, 18, 19, 20, 21, 22, 23, 24, 25, 26, 27, 28, 29, 30, 31, 32, 33, 34, 35, 36, 37, 38, 39, 40, 41, 42, 43, 44, 45, 46, 47, 48, 49, 50, 51, 52, 53, 54, 55, 56, 57, 58, 59, 60, 61, 62, 63, 64, 65, 66, 67] (by decide +kernel) (by decide +kernel)
set_option maxRecDepth 20000 in
theorem gX6_wearsOf_X6_asksOf : GoodIn wsX6_wearsOf (wsV RX6 180 RX6 yX6_asksOf wsX6_asksOf) := goodIn_app (goodIn_of _ (by decide +kernel)) ggX6_wearsOf_X6_asksOf
set_option maxRecDepth 20000 in
theorem ggX6_mile_X6_isSand : GoodIn wsX6_mile wsX6_isSand := goodIn_r _ [8, 3, 9, 10, 39, 40, 41, 42, 43, 44, 45, 46, 47, 48, 49, 50, 51, 52, 53, 54, 55, 56, 57, 58, 59, 60, 61, 62, 63, 64, 65, 66, 67, 68, 69, 70, 71, 72, 73, 74, 75, 76, 77, 78, 79, 80] (by decide +kernel) (by decide +kernel)
set_option maxRecDepth 20000 in
theorem gX6_mile_X6_isSand : GoodIn wsX6_mile (wsV RX6 183 RX6 yX6_isSand wsX6_isSand) := goodIn_app (goodIn_of _ (by decide +kernel)) ggX6_mile_X6_isSand
set_option maxRecDepth 20000 in
theorem ggX6_mile_X6_hurtsOf : GoodIn wsX6_mile wsX6_hurtsOf := goodIn_r _ [14, 1, 10, 9, 15, 16, 17, 7, 18, 19, 3, 20, 21, 22, 23, 24, 25, 26, 27, 28, 29, 30, 31, 32, 33, 34, 39, 40, 41, 42, 43, 44, 45, 46, 47, 48, 49, 50, 51, 52, 53, 54, 55, 56, 57, 58, 59, 60, 61, 62, 63, 64, 65, 66, 67, 68, 69, 70, 71, 72, 73, 74, 75, 76, 77, 78, 79, 80] (by decide +kernel) (by decide +kernel)
set_option maxRecDepth 20000 in
theorem gX6_mile_X6_hurtsOf : GoodIn wsX6_mile (wsV RX6 186 RX6 yX6_hurtsOf wsX6_hurtsOf) := goodIn_app (goodIn_of _ (by decide +kernel)) ggX6_mile_X6_hurtsOf
set_option maxRecDepth 20000 in
theorem ggX6_mile_X6_wearsOf : GoodIn wsX6_mile wsX6_wearsOf := goodIn_r _ [38, 9, 15, 16, 17, 7, 18, 19, 3, 1, 10, 20, 21, 22, 23, 24, 25, 26, 27, 28, 29, 30, 31, 32, 33, 34, 39, 40, 41, 42, 43, 44, 45, 46, 47, 48, 49, 50, 51, 52, 53, 54, 55, 56, 57, 58, 59, 60, 61, 62, 63, 64, 65, 66, 67, 68, 69, 70, 71, 72, 73, 74, 75, 76, 77, 78, 79, 80] (by decide +kernel) (by decide +kernel)
set_option maxRecDepth 20000 in
theorem gX6_mile_X6_wearsOf : GoodIn wsX6_mile (wsV RX6 189 RX6 yX6_wearsOf wsX6_wearsOf) := goodIn_app (goodIn_of _ (by decide +kernel)) ggX6_mile_X6_wearsOf
set_option maxRecDepth 20000 in
theorem ggX6_mile_X6_within : GoodIn wsX6_mile wsX6_within := goodIn_r _ [34] (by decide +kernel) (by decide +kernel)
set_option maxRecDepth 20000 in
theorem gX6_mile_X6_within : GoodIn wsX6_mile (va_wsS RX6 174 yX6_within wsX6_within) := goodIn_app (goodIn_of _ (by decide +kernel)) ggX6_mile_X6_within
set_option maxRecDepth 20000 in
theorem ggX6_caseOf_X6_mile : GoodIn wsX6_caseOf wsX6_mile := goodIn_r _ [5, 6, 7, 8, 9, 10, 11, 4, 12, 13, 14, 15, 16, 17, 18, 19, 20, 21, 22, 23, 24, 25, 26, 27, 28, 29, 30, 31, 32, 33, 34, 35, 36, 37, 38, 39, 40, 41, 42, 43, 44, 45, 46, 47, 48, 49, 50, 51, 52, 53, 54, 55, 56, 57, 58, 59, 60, 61, 62, 63, 64, 65, 66, 67, 68, 69, 70, 71, 72, 73, 74, 75, 76, 77, 78, 79, 80, 81, 82, 83, 84] (by decide +kernel) (by decide +kernel)
set_option maxRecDepth 20000 in
theorem gX6_caseOf_X6_mile : GoodIn wsX6_caseOf (wsV RX6 193 RX6 yX6_mile wsX6_mile) := goodIn_app (goodIn_of _ (by decide +kernel)) ggX6_caseOf_X6_mile
set_option maxRecDepth 20000 in
theorem ggX6_walk_X6_isJudge : GoodIn wsX6_walk wsX6_isJudge := goodIn_r _ [6, 7, 8, 9, 5, 10, 63, 64, 65, 66, 67, 68, 69, 70, 71, 72, 73, 74, 75, 76, 77, 78, 79, 80, 81, 82, 83, 84, 85, 86, 87, 88, 89, 90, 91, 92, 93, 94, 95, 96, 97, 98, 99, 100, 101, 102, 103, 104] (by decide +kernel) (by decide +kernel)
set_option maxRecDepth 20000 in
theorem gX6_walk_X6_isJudge : GoodIn wsX6_walk (wsV RX6 104 RX6 yX6_isJudge wsX6_isJudge) := goodIn_app (goodIn_of _ (by decide +kernel)) ggX6_walk_X6_isJudge
set_option maxRecDepth 20000 in
theorem ggX6_walk_X6_isPebble : GoodIn wsX6_walk wsX6_isPebble := goodIn_r _ [14, 15, 8, 9, 5, 10, 63, 64, 65, 66, 67, 68, 69, 70, 71, 72, 73, 74, 75, 76, 77, 78, 79, 80, 81, 82, 83, 84, 85, 86, 87, 88, 89, 90, 91, 92, 93, 94, 95, 96, 97, 98, 99, 100, 101, 102, 103, 104] (by decide +kernel) (by decide +kernel)
set_option maxRecDepth 20000 in
theorem gX6_walk_X6_isPebble : GoodIn wsX6_walk (wsV RX6 177 RX6 yX6_isPebble wsX6_isPebble) := goodIn_app (goodIn_of _ (by decide +kernel)) ggX6_walk_X6_isPebble
set_option maxRecDepth 20000 in
theorem ggX6_walk_X6_isCase : GoodIn wsX6_walk wsX6_isCase := goodIn_r _ [18, 8, 9, 5, 10] (by decide +kernel) (by decide +kernel)
set_option maxRecDepth 20000 in
theorem gX6_walk_X6_isCase : GoodIn wsX6_walk (va_wsS RX6 196 yX6_isCase wsX6_isCase) := goodIn_app (goodIn_of _ (by decide +kernel)) ggX6_walk_X6_isCase
set_option maxRecDepth 20000 in
theorem ggX6_walk_X6_caseOf : GoodIn wsX6_walk wsX6_caseOf := goodIn_r _ [22, 23, 24, 25, 5, 26, 1, 27, 28, 29, 30, 31, 32, 33, 34, 35, 36, 37, 38, 39, 40, 41, 42, 43, 44, 45, 46, 47, 48, 49, 50, 51, 52, 53, 54, 55, 56, 57, 58, 59, 60, 61, 62, 63, 64, 65, 66, 67, 68, 69, 70, 71, 72, 73, 74, 75, 76, 77, 78, 79, 80, 81, 82, 83, 84, 85, 86, 87, 88, 89, 90, 91, 92, 93, 94, 95, 96, 97, 98, 99, 100, 101, 102, 103, 104] (by decide +kernel) (by decide +kernel)
set_option maxRecDepth 20000 in
theorem gX6_walk_X6_caseOf : GoodIn wsX6_walk (wsV RX6 199 RX6 yX6_caseOf wsX6_caseOf) := goodIn_app (goodIn_of _ (by decide +kernel)) ggX6_walk_X6_caseOf
set_option maxRecDepth 20000 in
theorem ggX6_heard_X6_keeps : GoodIn wsX6_heard wsX6_keeps := goodIn_r _ [11, 12, 4, 2, 60, 61, 62, 63, 64, 65, 66, 67, 68, 69, 70, 71, 72, 73, 74, 75, 76, 77, 78, 79, 80, 81, 82, 83, 84, 85, 86, 87, 88, 89, 90, 91, 92, 93, 94, 95, 96, 97, 98, 99, 100, 101] (by decide +kernel) (by decide +kernel)
set_option maxRecDepth 20000 in
theorem gX6_heard_X6_keeps : GoodIn wsX6_heard (wsV RX6 202 RX6 yX6_keeps wsX6_keeps) := goodIn_app (goodIn_of _ (by decide +kernel)) ggX6_heard_X6_keeps
set_option maxRecDepth 20000 in
theorem ggX6_heard_X6_caseOf : GoodIn wsX6_heard wsX6_caseOf := goodIn_r _ [16, 17, 18, 19, 10, 20, 4, 21, 2, 22, 23, 24, 25, 26, 27, 28, 29, 30, 31, 32, 33, 34, 35, 36, 37, 38, 39, 40, 41, 42, 43, 44, 45, 46, 47, 48, 49, 50, 51, 52, 53, 54, 55, 60, 61, 62, 63, 64, 65, 66, 67, 68, 69, 70, 71, 72, 73, 74, 75, 76, 77, 78, 79, 80, 81, 82, 83, 84, 85, 86, 87, 88, 89, 90, 91, 92, 93, 94, 95, 96, 97, 98, 99, 100, 101] (by decide +kernel) (by decide +kernel)
set_option maxRecDepth 20000 in
theorem gX6_heard_X6_caseOf : GoodIn wsX6_heard (wsV RX6 199 RX6 yX6_caseOf wsX6_caseOf) := goodIn_app (goodIn_of _ (by decide +kernel)) ggX6_heard_X6_caseOf
set_option maxRecDepth 20000 in
theorem ggX6_heard_X6_asksOf : GoodIn wsX6_heard wsX6_asksOf := goodIn_r _ [35, 36, 2, 4, 27, 37, 38, 39, 10, 40, 41, 42, 43, 44, 45, 46, 47, 48, 49, 50, 51, 60, 61, 62, 63, 64, 65, 66, 67, 68, 69, 70, 71, 72, 73, 74, 75, 76, 77, 78, 79, 80, 81, 82, 83, 84, 85, 86, 87, 88, 89, 90, 91, 92, 93, 94, 95, 96, 97, 98, 99, 100, 101] (by decide +kernel) (by decide +kernel)
set_option maxRecDepth 20000 in
theorem gX6_heard_X6_asksOf : GoodIn wsX6_heard (wsV RX6 180 RX6 yX6_asksOf wsX6_asksOf) := goodIn_app (goodIn_of _ (by decide +kernel)) ggX6_heard_X6_asksOf
set_option maxRecDepth 20000 in
theorem ggX6_heard_X6_laysBack : GoodIn wsX6_heard wsX6_laysBack := goodIn_r _ [59, 4, 12, 2, 60, 61, 62, 63, 64, 65, 66, 67, 68, 69, 70, 71, 72, 73, 74, 75, 76, 77, 78, 79, 80, 81, 82, 83, 84, 85, 86, 87, 88, 89, 90, 91, 92, 93, 94, 95, 96, 97, 98, 99, 100, 101] (by decide +kernel) (by decide +kernel)
set_option maxRecDepth 20000 in
theorem gX6_heard_X6_laysBack : GoodIn wsX6_heard (wsV RX6 218 RX6 yX6_laysBack wsX6_laysBack) := goodIn_app (goodIn_of _ (by decide +kernel)) ggX6_heard_X6_laysBack
set_option maxRecDepth 20000 in
theorem ggX6_hear_X6_isJudge : GoodIn wsX6_hear wsX6_isJudge := goodIn_r _ [5, 6, 7, 8, 4, 9, 84, 85, 86, 87, 88, 89, 90, 91, 92, 93, 94, 95, 96, 97, 98, 99, 100, 101, 102, 103, 104, 105, 106, 107, 108, 109, 110, 111, 112, 113, 114, 115, 116, 117, 118, 119, 120, 121, 122, 123, 124, 125] (by decide +kernel) (by decide +kernel)
set_option maxRecDepth 20000 in
theorem gX6_hear_X6_isJudge : GoodIn wsX6_hear (wsV RX6 104 RX6 yX6_isJudge wsX6_isJudge) := goodIn_app (goodIn_of _ (by decide +kernel)) ggX6_hear_X6_isJudge
set_option maxRecDepth 20000 in
theorem ggX6_hear_X6_isPebble : GoodIn wsX6_hear wsX6_isPebble := goodIn_r _ [13, 14, 7, 8, 4, 9, 84, 85, 86, 87, 88, 89, 90, 91, 92, 93, 94, 95, 96, 97, 98, 99, 100, 101, 102, 103, 104, 105, 106, 107, 108, 109, 110, 111, 112, 113, 114, 115, 116, 117, 118, 119, 120, 121, 122, 123, 124, 125] (by decide +kernel) (by decide +kernel)
set_option maxRecDepth 20000 in
theorem gX6_hear_X6_isPebble : GoodIn wsX6_hear (wsV RX6 177 RX6 yX6_isPebble wsX6_isPebble) := goodIn_app (goodIn_of _ (by decide +kernel)) ggX6_hear_X6_isPebble
set_option maxRecDepth 20000 in
theorem ggX6_hear_X6_isCase : GoodIn wsX6_hear wsX6_isCase := goodIn_r _ [17, 7, 8, 4, 9] (by decide +kernel) (by decide +kernel)
set_option maxRecDepth 20000 in
theorem gX6_hear_X6_isCase : GoodIn wsX6_hear (va_wsS RX6 196 yX6_isCase wsX6_isCase) := goodIn_app (goodIn_of _ (by decide +kernel)) ggX6_hear_X6_isCase
set_option maxRecDepth 20000 in
theorem ggX6_hear_X6_in : GoodIn wsX6_hear wsX6_in := goodIn_r _ [9] (by decide +kernel) (by decide +kernel)
set_option maxRecDepth 20000 in
theorem gX6_hear_X6_in : GoodIn wsX6_hear (va_wsS RX6 91 yX6_in wsX6_in) := goodIn_app (goodIn_of _ (by decide +kernel)) ggX6_hear_X6_in
set_option maxRecDepth 20000 in
theorem ggX6_hear_X6_heard : GoodIn wsX6_hear wsX6_heard := goodIn_r _ [21, 22, 23, 24, 25, 26, 27, 28, 29, 30, 4, 31, 32, 33, 34, 35, 36, 37, 38, 39, 40, 41, 42, 43, 44, 45, 46, 47, 48, 49, 50, 51, 52, 53, 54, 55, 56, 57, 58, 59, 60, 61, 62, 63, 64, 65, 66, 67, 68, 69, 70, 71, 72, 73, 74, 75, 76, 77, 78, 79, 84, 85, 86, 87, 88, 89, 90, 91, 92, 93, 94, 95, 96, 97, 98, 99, 100, 101, 102, 103, 104, 105, 106, 107, 108, 109, 110, 111, 112, 113, 114, 115, 116, 117, 118, 119, 120, 121, 122, 123, 124, 125] (by decide +kernel) (by decide +kernel)
set_option maxRecDepth 20000 in
theorem gX6_hear_X6_heard : GoodIn wsX6_hear (wsV RX6 221 RX6 yX6_heard wsX6_heard) := goodIn_app (goodIn_of _ (by decide +kernel)) ggX6_hear_X6_heard
set_option maxRecDepth 20000 in
theorem ggX6_hear_X6_toldCase : GoodIn wsX6_hear wsX6_toldCase := goodIn_r _ [83, 22, 24, 27, 26, 84, 85, 86, 87, 88, 89, 90, 91, 92, 93, 94, 95, 96, 97, 98, 99, 100, 101, 102, 103, 104, 105, 106, 107, 108, 109, 110, 111, 112, 113, 114, 115, 116, 117, 118, 119, 120, 121, 122, 123, 124, 125] (by decide +kernel) (by decide +kernel)
set_option maxRecDepth 20000 in
theorem gX6_hear_X6_toldCase : GoodIn wsX6_hear (wsV RX6 225 RX6 yX6_toldCase wsX6_toldCase) := goodIn_app (goodIn_of _ (by decide +kernel)) ggX6_hear_X6_toldCase
set_option maxRecDepth 20000 in
theorem ggX6_tellsMiles_X6_keeps : GoodIn wsX6_tellsMiles wsX6_keeps := goodIn_r _ [6, 7, 8, 9, 53, 54, 55, 56, 57, 58, 59, 60, 61, 62, 63, 64, 65, 66, 67, 68, 69, 70, 71, 72, 73, 74, 75, 76, 77, 78, 79, 80, 81, 82, 83, 84, 85, 86, 87, 88, 89, 90, 91, 92, 93, 94] (by decide +kernel) (by decide +kernel)
set_option maxRecDepth 20000 in
theorem gX6_tellsMiles_X6_keeps : GoodIn wsX6_tellsMiles (wsV RX6 202 RX6 yX6_keeps wsX6_keeps) := goodIn_app (goodIn_of _ (by decide +kernel)) ggX6_tellsMiles_X6_keeps
set_option maxRecDepth 20000 in
theorem ggX6_tellsMiles_X6_asksOf : GoodIn wsX6_tellsMiles wsX6_asksOf := goodIn_r _ [13, 14, 9, 8, 15, 16, 17, 18, 5, 19, 20, 21, 22, 23, 24, 25, 26, 27, 28, 29, 30, 53, 54, 55, 56, 57, 58, 59, 60, 61, 62, 63, 64, 65, 66, 67, 68, 69, 70, 71, 72, 73, 74, 75, 76, 77, 78, 79, 80, 81, 82, 83, 84, 85, 86, 87, 88, 89, 90, 91, 92, 93, 94] (by decide +kernel) (by decide +kernel)
set_option maxRecDepth 20000 in
theorem gX6_tellsMiles_X6_asksOf : GoodIn wsX6_tellsMiles (wsV RX6 180 RX6 yX6_asksOf wsX6_asksOf) := goodIn_app (goodIn_of _ (by decide +kernel)) ggX6_tellsMiles_X6_asksOf
set_option maxRecDepth 20000 in
theorem ggX6_tellsMiles_X6_isSand : GoodIn wsX6_tellsMiles wsX6_isSand := goodIn_r _ [34, 9, 35, 15, 53, 54, 55, 56, 57, 58, 59, 60, 61, 62, 63, 64, 65, 66, 67, 68, 69, 70, 71, 72, 73, 74, 75, 76, 77, 78, 79, 80, 81, 82, 83, 84, 85, 86, 87, 88, 89, 90, 91, 92, 93, 94] (by decide +kernel) (by decide +kernel)
set_option maxRecDepth 20000 in
theorem gX6_tellsMiles_X6_isSand : GoodIn wsX6_tellsMiles (wsV RX6 183 RX6 yX6_isSand wsX6_isSand) := goodIn_app (goodIn_of _ (by decide +kernel)) ggX6_tellsMiles_X6_isSand
set_option maxRecDepth 20000 in
theorem ggX6_tellsMiles_X6_mile : GoodIn wsX6_tellsMiles wsX6_mile := goodIn_r _ [39, 8, 40, 9, 31, 32, 33, 5, 34, 35, 15, 41, 42, 43, 44, 10, 11, 12, 13, 14, 16, 17, 18, 19, 20, 21, 22, 23, 24, 25, 26, 27, 28, 29, 30, 45, 46, 47, 48, 53, 54, 55, 56, 57, 58, 59, 60, 61, 62, 63, 64, 65, 66, 67, 68, 69, 70, 71, 72, 73, 74, 75, 76, 77, 78, 79, 80, 81, 82, 83, 84, 85, 86, 87, 88, 89, 90, 91, 92, 93, 94] (by decide +kernel) (by decide +kernel)
set_option maxRecDepth 20000 in
theorem gX6_tellsMiles_X6_mile : GoodIn wsX6_tellsMiles (wsV RX6 193 RX6 yX6_mile wsX6_mile) := goodIn_app (goodIn_of _ (by decide +kernel)) ggX6_tellsMiles_X6_mile
set_option maxRecDepth 20000 in
theorem ggX6_tellsMiles_X6_laysBack : GoodIn wsX6_tellsMiles wsX6_laysBack := goodIn_r _ [52, 8, 7, 9, 53, 54, 55, 56, 57, 58, 59, 60, 61, 62, 63, 64, 65, 66, 67, 68, 69, 70, 71, 72, 73, 74, 75, 76, 77, 78, 79, 80, 81, 82, 83, 84, 85, 86, 87, 88, 89, 90, 91, 92, 93, 94] (by decide +kernel) (by decide +kernel)
set_option maxRecDepth 20000 in
theorem gX6_tellsMiles_X6_laysBack : GoodIn wsX6_tellsMiles (wsV RX6 218 RX6 yX6_laysBack wsX6_laysBack) := goodIn_app (goodIn_of _ (by decide +kernel)) ggX6_tellsMiles_X6_laysBack
set_option maxRecDepth 20000 in
theorem ggX6_fewest_X6_isJudge : GoodIn wsX6_fewest wsX6_isJudge := goodIn_r _ [6, 7, 8, 9, 5, 10, 70, 71, 72, 73, 74, 75, 76, 77, 78, 79, 80, 81, 82, 83, 84, 85, 86, 87, 88, 89, 90, 91, 92, 93, 94, 95, 96, 97, 98, 99, 100, 101, 102, 103, 104, 105, 106, 107, 108, 109, 110, 111] (by decide +kernel) (by decide +kernel)
set_option maxRecDepth 20000 in
theorem gX6_fewest_X6_isJudge : GoodIn wsX6_fewest (wsV RX6 104 RX6 yX6_isJudge wsX6_isJudge) := goodIn_app (goodIn_of _ (by decide +kernel)) ggX6_fewest_X6_isJudge
set_option maxRecDepth 20000 in
theorem ggX6_fewest_X6_isPebble : GoodIn wsX6_fewest wsX6_isPebble := goodIn_r _ [14, 15, 8, 9, 5, 10, 70, 71, 72, 73, 74, 75, 76, 77, 78, 79, 80, 81, 82, 83, 84, 85, 86, 87, 88, 89, 90, 91, 92, 93, 94, 95, 96, 97, 98, 99, 100, 101, 102, 103, 104, 105, 106, 107, 108, 109, 110, 111] (by decide +kernel) (by decide +kernel)
set_option maxRecDepth 20000 in
theorem gX6_fewest_X6_isPebble : GoodIn wsX6_fewest (wsV RX6 177 RX6 yX6_isPebble wsX6_isPebble) := goodIn_app (goodIn_of _ (by decide +kernel)) ggX6_fewest_X6_isPebble
set_option maxRecDepth 20000 in
theorem ggX6_fewest_X6_tellsMiles : GoodIn wsX6_fewest wsX6_tellsMiles := goodIn_r _ [19, 1, 20, 21, 22, 5, 23, 24, 25, 26, 27, 28, 29, 30, 31, 32, 33, 34, 35, 36, 37, 38, 39, 40, 41, 42, 43, 44, 45, 46, 47, 48, 49, 50, 51, 52, 53, 54, 55, 56, 57, 58, 59, 60, 61, 62, 63, 64, 65, 66, 67, 68, 69, 70, 71, 72, 73, 74, 75, 76, 77, 78, 79, 80, 81, 82, 83, 84, 85, 86, 87, 88, 89, 90, 91, 92, 93, 94, 95, 96, 97, 98, 99, 100, 101, 102, 103, 104, 105, 106, 107, 108, 109, 110, 111] (by decide +kernel) (by decide +kernel)
set_option maxRecDepth 20000 in
theorem gX6_fewest_X6_tellsMiles : GoodIn wsX6_fewest (wsV RX6 228 RX6 yX6_tellsMiles wsX6_tellsMiles) := goodIn_app (goodIn_of _ (by decide +kernel)) ggX6_fewest_X6_tellsMiles
set_option maxRecDepth 20000 in
theorem ggX6_sand_X6_isJudge : GoodIn wsX6_sand wsX6_isJudge := goodIn_r _ [5, 6, 7, 8, 4, 9, 70, 71, 72, 73, 74, 75, 76, 77, 78, 79, 80, 81, 82, 83, 84, 85, 86, 87, 88, 89, 90, 91, 92, 93, 94, 95, 96, 97, 98, 99, 100, 101, 102, 103, 104, 105, 106, 107, 108, 109, 110, 111] (by decide +kernel) (by decide +kernel)
set_option maxRecDepth 20000 in
theorem gX6_sand_X6_isJudge : GoodIn wsX6_sand (wsV RX6 104 RX6 yX6_isJudge wsX6_isJudge) := goodIn_app (goodIn_of _ (by decide +kernel)) ggX6_sand_X6_isJudge
set_option maxRecDepth 20000 in
theorem ggX6_sand_X6_isPebble : GoodIn wsX6_sand wsX6_isPebble := goodIn_r _ [13, 14, 7, 8, 4, 9, 70, 71, 72, 73, 74, 75, 76, 77, 78, 79, 80, 81, 82, 83, 84, 85, 86, 87, 88, 89, 90, 91, 92, 93, 94, 95, 96, 97, 98, 99, 100, 101, 102, 103, 104, 105, 106, 107, 108, 109, 110, 111] (by decide +kernel) (by decide +kernel)
set_option maxRecDepth 20000 in
theorem gX6_sand_X6_isPebble : GoodIn wsX6_sand (wsV RX6 177 RX6 yX6_isPebble wsX6_isPebble) := goodIn_app (goodIn_of _ (by decide +kernel)) ggX6_sand_X6_isPebble
set_option maxRecDepth 20000 in
theorem ggX6_sand_X6_tellsMiles : GoodIn wsX6_sand wsX6_tellsMiles := goodIn_r _ [18, 19, 20, 21, 22, 4, 23, 24, 25, 26, 27, 28, 29, 30, 31, 32, 33, 34, 35, 36, 37, 38, 39, 40, 41, 42, 43, 44, 45, 46, 47, 48, 49, 50, 51, 52, 53, 54, 55, 56, 57, 58, 59, 60, 61, 62, 63, 64, 65, 66, 67, 68, 69, 70, 71, 72, 73, 74, 75, 76, 77, 78, 79, 80, 81, 82, 83, 84, 85, 86, 87, 88, 89, 90, 91, 92, 93, 94, 95, 96, 97, 98, 99, 100, 101, 102, 103, 104, 105, 106, 107, 108, 109, 110, 111] (by decide +kernel) (by decide +kernel)
set_option maxRecDepth 20000 in
theorem gX6_sand_X6_tellsMiles : GoodIn wsX6_sand (wsV RX6 228 RX6 yX6_tellsMiles wsX6_tellsMiles) := goodIn_app (goodIn_of _ (by decide +kernel)) ggX6_sand_X6_tellsMiles
set_option maxRecDepth 20000 in
theorem ggX6_unlike_X6_isJudge : GoodIn wsX6_unlike wsX6_isJudge := goodIn_r _ [7, 8, 9, 10, 6, 11, 71, 72, 73, 74, 75, 76, 77, 78, 79, 80, 81, 82, 83, 84, 85, 86, 87, 88, 89, 90, 91, 92, 93, 94, 95, 96, 97, 98, 99, 100, 101, 102, 103, 104, 105, 106, 107, 108, 109, 110, 111, 112] (by decide +kernel) (by decide +kernel)
set_option maxRecDepth 20000 in
theorem gX6_unlike_X6_isJudge : GoodIn wsX6_unlike (wsV RX6 104 RX6 yX6_isJudge wsX6_isJudge) := goodIn_app (goodIn_of _ (by decide +kernel)) ggX6_unlike_X6_isJudge
set_option maxRecDepth 20000 in
theorem ggX6_unlike_X6_isPebble : GoodIn wsX6_unlike wsX6_isPebble := goodIn_r _ [15, 16, 9, 10, 6, 11, 71, 72, 73, 74, 75, 76, 77, 78, 79, 80, 81, 82, 83, 84, 85, 86, 87, 88, 89, 90, 91, 92, 93, 94, 95, 96, 97, 98, 99, 100, 101, 102, 103, 104, 105, 106, 107, 108, 109, 110, 111, 112] (by decide +kernel) (by decide +kernel)
set_option maxRecDepth 20000 in
theorem gX6_unlike_X6_isPebble : GoodIn wsX6_unlike (wsV RX6 177 RX6 yX6_isPebble wsX6_isPebble) := goodIn_app (goodIn_of _ (by decide +kernel)) ggX6_unlike_X6_isPebble
set_option maxRecDepth 20000 in
theorem ggX6_unlike_X6_tellsMiles : GoodIn wsX6_unlike wsX6_tellsMiles := goodIn_r _ [20, 2, 21, 22, 23, 6, 24, 25, 26, 27, 28, 29, 30, 31, 32, 33, 34, 35, 36, 37, 38, 39, 40, 41, 42, 43, 44, 45, 46, 47, 48, 49, 50, 51, 52, 53, 54, 55, 56, 57, 58, 59, 60, 61, 62, 63, 64, 65, 66, 67, 68, 69, 70, 71, 72, 73, 74, 75, 76, 77, 78, 79, 80, 81, 82, 83, 84, 85, 86, 87, 88, 89, 90, 91, 92, 93, 94, 95, 96, 97, 98, 99, 100, 101, 102, 103, 104, 105, 106, 107, 108, 109, 110, 111, 112] (by decide +kernel) (by decide +kernel)
set_option maxRecDepth 20000 in
theorem gX6_unlike_X6_tellsMiles : GoodIn wsX6_unlike (wsV RX6 228 RX6 yX6_tellsMiles wsX6_tellsMiles) := goodIn_app (goodIn_of _ (by decide +kernel)) ggX6_unlike_X6_tellsMiles
set_option maxRecDepth 20000 in
theorem ggX6_hardest_X6_isCase : GoodIn wsX6_hardest wsX6_isCase := goodIn_r _ [7, 8, 9, 6, 10] (by decide +kernel) (by decide +kernel)
set_option maxRecDepth 20000 in
theorem gX6_hardest_X6_isCase : GoodIn wsX6_hardest (va_wsS RX6 196 yX6_isCase wsX6_isCase) := goodIn_app (goodIn_of _ (by decide +kernel)) ggX6_hardest_X6_isCase
set_option maxRecDepth 20000 in
theorem ggX6_hardest_X6_in : GoodIn wsX6_hardest wsX6_in := goodIn_r _ [10] (by decide +kernel) (by decide +kernel)
set_option maxRecDepth 20000 in
theorem gX6_hardest_X6_in : GoodIn wsX6_hardest (va_wsS RX6 91 yX6_in wsX6_in) := goodIn_app (goodIn_of _ (by decide +kernel)) ggX6_hardest_X6_in
set_option maxRecDepth 20000 in
theorem ggX6_hardest_X6_heard : GoodIn wsX6_hardest wsX6_heard := goodIn_r _ [14, 15, 16, 17, 18, 19, 3, 20, 21, 22, 6, 23, 24, 25, 26, 27, 28, 29, 30, 31, 32, 33, 34, 35, 36, 37, 38, 39, 40, 41, 42, 43, 44, 45, 46, 47, 48, 49, 50, 51, 52, 53, 54, 55, 56, 57, 58, 59, 60, 61, 62, 63, 64, 65, 66, 67, 68, 69, 70, 71, 72, 73, 74, 75, 76, 77, 78, 79, 80, 81, 82, 83, 84, 85, 86, 87, 88, 89, 90, 91, 92, 93, 94, 95, 96, 97, 98, 99, 100, 101, 102, 103, 104, 105, 106, 107, 108, 109, 110, 111, 112, 113] (by decide +kernel) (by decide +kernel)
set_option maxRecDepth 20000 in
theorem gX6_hardest_X6_heard : GoodIn wsX6_hardest (wsV RX6 221 RX6 yX6_heard wsX6_heard) := goodIn_app (goodIn_of _ (by decide +kernel)) ggX6_hardest_X6_heard
set_option maxRecDepth 20000 in
theorem ggX6_thick_X6_isJudge : GoodIn wsX6_thick wsX6_isJudge := goodIn_r _ [7, 8, 9, 10, 6, 11, 80, 81, 82, 83, 84, 85, 86, 87, 88, 89, 90, 91, 92, 93, 94, 95, 96, 97, 98, 99, 100, 101, 102, 103, 104, 105, 106, 107, 108, 109, 110, 111, 112, 113, 114, 115, 116, 117, 118, 119, 120, 121] (by decide +kernel) (by decide +kernel)
set_option maxRecDepth 20000 in
theorem gX6_thick_X6_isJudge : GoodIn wsX6_thick (wsV RX6 104 RX6 yX6_isJudge wsX6_isJudge) := goodIn_app (goodIn_of _ (by decide +kernel)) ggX6_thick_X6_isJudge
set_option maxRecDepth 20000 in
theorem ggX6_thick_X6_isPebble : GoodIn wsX6_thick wsX6_isPebble := goodIn_r _ [15, 16, 9, 10, 6, 11, 80, 81, 82, 83, 84, 85, 86, 87, 88, 89, 90, 91, 92, 93, 94, 95, 96, 97, 98, 99, 100, 101, 102, 103, 104, 105, 106, 107, 108, 109, 110, 111, 112, 113, 114, 115, 116, 117, 118, 119, 120, 121] (by decide +kernel) (by decide +kernel)
set_option maxRecDepth 20000 in
theorem gX6_thick_X6_isPebble : GoodIn wsX6_thick (wsV RX6 177 RX6 yX6_isPebble wsX6_isPebble) := goodIn_app (goodIn_of _ (by decide +kernel)) ggX6_thick_X6_isPebble
set_option maxRecDepth 20000 in
theorem ggX6_thick_X6_isCase : GoodIn wsX6_thick wsX6_isCase := goodIn_r _ [19, 9, 10, 6, 11] (by decide +kernel) (by decide +kernel)
set_option maxRecDepth 20000 in
theorem gX6_thick_X6_isCase : GoodIn wsX6_thick (va_wsS RX6 196 yX6_isCase wsX6_isCase) := goodIn_app (goodIn_of _ (by decide +kernel)) ggX6_thick_X6_isCase
set_option maxRecDepth 20000 in
theorem ggX6_thick_X6_heard : GoodIn wsX6_thick wsX6_heard := goodIn_r _ [23, 24, 25, 26, 1, 27, 2, 28, 29, 30, 6, 31, 32, 33, 34, 35, 36, 37, 38, 39, 40, 41, 42, 43, 44, 45, 46, 47, 48, 49, 50, 51, 52, 53, 54, 55, 56, 57, 58, 59, 60, 61, 62, 63, 64, 65, 66, 67, 68, 69, 70, 71, 72, 73, 74, 75, 76, 77, 78, 79, 80, 81, 82, 83, 84, 85, 86, 87, 88, 89, 90, 91, 92, 93, 94, 95, 96, 97, 98, 99, 100, 101, 102, 103, 104, 105, 106, 107, 108, 109, 110, 111, 112, 113, 114, 115, 116, 117, 118, 119, 120, 121] (by decide +kernel) (by decide +kernel)
set_option maxRecDepth 20000 in
theorem gX6_thick_X6_heard : GoodIn wsX6_thick (wsV RX6 221 RX6 yX6_heard wsX6_heard) := goodIn_app (goodIn_of _ (by decide +kernel)) ggX6_thick_X6_heard
set_option maxRecDepth 20000 in
theorem ggX6_tellsPlaces_X6_heard : GoodIn wsX6_tellsPlaces wsX6_heard := goodIn_r _ [11, 4, 12, 13, 1, 14, 6, 15, 16, 17, 10, 18, 19, 20, 21, 22, 23, 24, 25, 26, 27, 28, 29, 30, 31, 32, 33, 34, 35, 36, 37, 38, 39, 40, 41, 42, 43, 44, 45, 46, 47, 48, 49, 50, 51, 52, 53, 54, 55, 56, 57, 58, 59, 60, 61, 62, 63, 64, 65, 66, 67, 68, 69, 70, 71, 72, 73, 74, 75, 76, 77, 78, 79, 80, 81, 82, 83, 84, 85, 86, 87, 88, 89, 90, 91, 92, 93, 94, 95, 96, 97, 98, 99, 100, 101, 102, 103, 104, 105, 106, 107, 108] (by decide +kernel) (by decide +kernel)
set_option maxRecDepth 20000 in
theorem gX6_tellsPlaces_X6_heard : GoodIn wsX6_tellsPlaces (wsV RX6 221 RX6 yX6_heard wsX6_heard) := goodIn_app (goodIn_of _ (by decide +kernel)) ggX6_tellsPlaces_X6_heard
set_option maxRecDepth 20000 in
theorem ggX6_tellsPlaces_X6_within : GoodIn wsX6_tellsPlaces wsX6_within := goodIn_r _ [58] (by decide +kernel) (by decide +kernel)
set_option maxRecDepth 20000 in
theorem gX6_tellsPlaces_X6_within : GoodIn wsX6_tellsPlaces (va_wsS RX6 174 yX6_within wsX6_within) := goodIn_app (goodIn_of _ (by decide +kernel)) ggX6_tellsPlaces_X6_within
set_option maxRecDepth 20000 in
theorem ggX6_order_X6_isJudge : GoodIn wsX6_order wsX6_isJudge := goodIn_r _ [8, 9, 10, 11, 7, 12, 88, 89, 90, 91, 92, 93, 94, 95, 96, 97, 98, 99, 100, 101, 102, 103, 104, 105, 106, 107, 108, 109, 110, 111, 112, 113, 114, 115, 116, 117, 118, 119, 120, 121, 122, 123, 124, 125, 126, 127, 128, 129] (by decide +kernel) (by decide +kernel)
set_option maxRecDepth 20000 in
theorem gX6_order_X6_isJudge : GoodIn wsX6_order (wsV RX6 104 RX6 yX6_isJudge wsX6_isJudge) := goodIn_app (goodIn_of _ (by decide +kernel)) ggX6_order_X6_isJudge
set_option maxRecDepth 20000 in
theorem ggX6_order_X6_isCase : GoodIn wsX6_order wsX6_isCase := goodIn_r _ [15, 10, 11, 7, 12] (by decide +kernel) (by decide +kernel)
set_option maxRecDepth 20000 in
theorem gX6_order_X6_isCase : GoodIn wsX6_order (va_wsS RX6 196 yX6_isCase wsX6_isCase) := goodIn_app (goodIn_of _ (by decide +kernel)) ggX6_order_X6_isCase
set_option maxRecDepth 20000 in
theorem ggX6_order_X6_in : GoodIn wsX6_order wsX6_in := goodIn_r _ [12] (by decide +kernel) (by decide +kernel)
set_option maxRecDepth 20000 in
theorem gX6_order_X6_in : GoodIn wsX6_order (va_wsS RX6 91 yX6_in wsX6_in) := goodIn_app (goodIn_of _ (by decide +kernel)) ggX6_order_X6_in
