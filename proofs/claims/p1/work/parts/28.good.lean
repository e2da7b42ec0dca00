set_option maxRecDepth 20000 in
theorem ggX6_init_X6_text : GoodIn wsX6_init wsX6_text := goodIn_r _ [34, 35, 36, 37, 38, 39, 11, 29, 40, 41, 42, 43, 33, 44, 9, 45, 46, 47, 48, 49, 50, 51, 18, 52, 53, 54, 55, 56, 57, 58, 59, 60, 61, 62, 10, 63, 64, 65, 66, 19, 67, 68, 69, 70, 71, 72, 73, 74, 75, 76, 77, 78, 79, 80, 81, 82, 83, 84, 85, 86, 87, 88, 89, 90, 91, 92, 93, 94, 95, 96, 97, 98, 99, 100, 101, 102, 103, 104, 105, 106, 107, 108, 109, 110, 111, 112, 113, 114, 115, 116, 117, 118, 119, 120, 121, 122, 123, 124, 125, 126, 127] (by decide +kernel) (by decide +kernel)
set_option maxRecDepth 20000 in
theorem gX6_init_X6_text : GoodIn wsX6_init (wsV RX6 84 RX6 yX6_text wsX6_text) := goodIn_app (goodIn_of _ (by decide +kernel)) ggX6_init_X6_text
set_option maxRecDepth 20000 in
theorem ggX6_isPebble_X6_in : GoodIn wsX6_isPebble wsX6_in := goodIn_r _ [5] (by decide +kernel) (by decide +kernel)
set_option maxRecDepth 20000 in
theorem gX6_isPebble_X6_in : GoodIn wsX6_isPebble (va_wsS RX6 91 yX6_in wsX6_in) := goodIn_app (goodIn_of _ (by decide +kernel)) ggX6_isPebble_X6_in
set_option maxRecDepth 20000 in
theorem ggX6_isJudge_X6_in : GoodIn wsX6_isJudge wsX6_in := goodIn_r _ [5] (by decide +kernel) (by decide +kernel)
set_option maxRecDepth 20000 in
theorem gX6_isJudge_X6_in : GoodIn wsX6_isJudge (va_wsS RX6 91 yX6_in wsX6_in) := goodIn_app (goodIn_of _ (by decide +kernel)) ggX6_isJudge_X6_in
set_option maxRecDepth 20000 in
theorem ggX6_isCase_X6_in : GoodIn wsX6_isCase wsX6_in := goodIn_r _ [4] (by decide +kernel) (by decide +kernel)
set_option maxRecDepth 20000 in
theorem gX6_isCase_X6_in : GoodIn wsX6_isCase (va_wsS RX6 91 yX6_in wsX6_in) := goodIn_app (goodIn_of _ (by decide +kernel)) ggX6_isCase_X6_in
set_option maxRecDepth 20000 in
theorem ggX6_judge_X6_in : GoodIn wsX6_judge wsX6_in := goodIn_r _ [6] (by decide +kernel) (by decide +kernel)
set_option maxRecDepth 20000 in
theorem gX6_judge_X6_in : GoodIn wsX6_judge (va_wsS RX6 91 yX6_in wsX6_in) := goodIn_app (goodIn_of _ (by decide +kernel)) ggX6_judge_X6_in
set_option maxRecDepth 20000 in
theorem ggX6_shoe_X6_isJudge : GoodIn wsX6_shoe wsX6_isJudge := goodIn_r _ [6, 7, 8, 9, 5, 10, 11, 12, 13, 14, 15, 16, 17, 18, 19, 20, 21, 22, 23, 24, 25, 26, 27, 28, 29, 30, 31, 32, 33, 34, 35, 36, 37, 38, 39, 40, 41, 42, 43, 44, 45, 46, 47, 48, 49, 50, 51, 52] (by decide +kernel) (by decide +kernel)
set_option maxRecDepth 20000 in
theorem gX6_shoe_X6_isJudge : GoodIn wsX6_shoe (wsV RX6 104 RX6 yX6_isJudge wsX6_isJudge) := goodIn_app (goodIn_of _ (by decide +kernel)) ggX6_shoe_X6_isJudge
set_option maxRecDepth 20000 in
theorem ggX6_bench_X6_isJudge : GoodIn wsX6_bench wsX6_isJudge := goodIn_r _ [6, 7, 8, 9, 5, 10, 11, 12, 13, 14, 15, 16, 17, 18, 19, 20, 21, 22, 23, 24, 25, 26, 27, 28, 29, 30, 31, 32, 33, 34, 35, 36, 37, 38, 39, 40, 41, 42, 43, 44, 45, 46, 47, 48, 49, 50, 51, 52] (by decide +kernel) (by decide +kernel)
set_option maxRecDepth 20000 in
theorem gX6_bench_X6_isJudge : GoodIn wsX6_bench (wsV RX6 104 RX6 yX6_isJudge wsX6_isJudge) := goodIn_app (goodIn_of _ (by decide +kernel)) ggX6_bench_X6_isJudge
set_option maxRecDepth 20000 in
theorem ggX6_isByte_X6_in : GoodIn wsX6_isByte wsX6_in := goodIn_r _ [4] (by decide +kernel) (by decide +kernel)
set_option maxRecDepth 20000 in
theorem gX6_isByte_X6_in : GoodIn wsX6_isByte (va_wsS RX6 91 yX6_in wsX6_in) := goodIn_app (goodIn_of _ (by decide +kernel)) ggX6_isByte_X6_in
set_option maxRecDepth 20000 in
theorem ggX6_feed_X6_in : GoodIn wsX6_feed wsX6_in := goodIn_r _ [6] (by decide +kernel) (by decide +kernel)
set_option maxRecDepth 20000 in
theorem gX6_feed_X6_in : GoodIn wsX6_feed (va_wsS RX6 91 yX6_in wsX6_in) := goodIn_app (goodIn_of _ (by decide +kernel)) ggX6_feed_X6_in
set_option maxRecDepth 20000 in
theorem ggX6_feed_X6_isByte : GoodIn wsX6_feed wsX6_isByte := goodIn_r _ [9, 3, 4, 5, 6] (by decide +kernel) (by decide +kernel)
set_option maxRecDepth 20000 in
theorem gX6_feed_X6_isByte : GoodIn wsX6_feed (va_wsS RX6 108 yX6_isByte wsX6_isByte) := goodIn_app (goodIn_of _ (by decide +kernel)) ggX6_feed_X6_isByte
set_option maxRecDepth 20000 in
theorem ggX6_next_X6_in : GoodIn wsX6_next wsX6_in := goodIn_r _ [10] (by decide +kernel) (by decide +kernel)
set_option maxRecDepth 20000 in
theorem gX6_next_X6_in : GoodIn wsX6_next (va_wsS RX6 91 yX6_in wsX6_in) := goodIn_app (goodIn_of _ (by decide +kernel)) ggX6_next_X6_in
set_option maxRecDepth 20000 in
theorem ggX6_next_X6_wordFrom : GoodIn wsX6_next wsX6_wordFrom := goodIn_r _ [14, 15, 3, 16, 17, 18, 19, 20, 21, 22, 23, 24, 25, 26, 27, 28, 29, 30, 31, 32, 33, 34, 35, 36, 37, 38, 39, 40, 41, 42, 43, 44, 45, 46, 47, 48, 49, 50, 51, 52, 53, 54, 55, 56, 57] (by decide +kernel) (by decide +kernel)
set_option maxRecDepth 20000 in
theorem gX6_next_X6_wordFrom : GoodIn wsX6_next (wsV RX6 123 RX6 yX6_wordFrom wsX6_wordFrom) := goodIn_app (goodIn_of _ (by decide +kernel)) ggX6_next_X6_wordFrom
set_option maxRecDepth 20000 in
theorem ggX6_unwinds_X6_rank : GoodIn wsX6_unwinds wsX6_rank := goodIn_r _ [7] (by decide +kernel) (by decide +kernel)
set_option maxRecDepth 20000 in
theorem gX6_unwinds_X6_rank : GoodIn wsX6_unwinds (va_wsS RX6 133 yX6_rank wsX6_rank) := goodIn_app (goodIn_of _ (by decide +kernel)) ggX6_unwinds_X6_rank
set_option maxRecDepth 20000 in
theorem ggX6_unwinds_X6_puts : GoodIn wsX6_unwinds wsX6_puts := goodIn_r _ [11, 12, 13, 14, 15, 16, 17, 18, 19, 20, 21, 22, 23, 24, 25, 26, 27, 28, 29, 30, 31, 32, 33, 34, 35, 36, 37, 38, 39, 40, 41, 42, 43, 44, 45, 46, 47, 48, 49, 50, 51, 52, 53, 54, 55, 56] (by decide +kernel) (by decide +kernel)
set_option maxRecDepth 20000 in
theorem gX6_unwinds_X6_puts : GoodIn wsX6_unwinds (wsV RX6 140 RX6 yX6_puts wsX6_puts) := goodIn_app (goodIn_of _ (by decide +kernel)) ggX6_unwinds_X6_puts
set_option maxRecDepth 20000 in
theorem ggX6_between_X6_rank : GoodIn wsX6_between wsX6_rank := goodIn_r _ [6] (by decide +kernel) (by decide +kernel)
set_option maxRecDepth 20000 in
theorem gX6_between_X6_rank : GoodIn wsX6_between (va_wsS RX6 133 yX6_rank wsX6_rank) := goodIn_app (goodIn_of _ (by decide +kernel)) ggX6_between_X6_rank
set_option maxRecDepth 20000 in
theorem ggX6_between_X6_unwinds : GoodIn wsX6_between wsX6_unwinds := goodIn_r _ [10, 1, 2, 11, 3, 4, 5, 6, 12, 13, 14, 15, 16, 17, 18, 23, 24, 25, 26, 27, 28, 29, 30, 31, 32, 33, 34, 35, 36, 37, 38, 39, 40, 41, 42, 43, 44, 45, 46, 47, 48, 49, 50, 51, 52, 53, 54, 55, 56, 57, 58, 59, 60, 61, 62, 63, 64] (by decide +kernel) (by decide +kernel)
set_option maxRecDepth 20000 in
theorem gX6_between_X6_unwinds : GoodIn wsX6_between (wsV RX6 147 RX6 yX6_unwinds wsX6_unwinds) := goodIn_app (goodIn_of _ (by decide +kernel)) ggX6_between_X6_unwinds
set_option maxRecDepth 20000 in
theorem ggX6_between_X6_holds : GoodIn wsX6_between wsX6_holds := goodIn_r _ [22, 2, 1, 23, 24, 25, 26, 27, 28, 29, 30, 31, 32, 33, 34, 35, 36, 37, 38, 39, 40, 41, 42, 43, 44, 45, 46, 47, 48, 49, 50, 51, 52, 53, 54, 55, 56, 57, 58, 59, 60, 61, 62, 63, 64] (by decide +kernel) (by decide +kernel)
set_option maxRecDepth 20000 in
theorem gX6_between_X6_holds : GoodIn wsX6_between (wsV RX6 144 RX6 yX6_holds wsX6_holds) := goodIn_app (goodIn_of _ (by decide +kernel)) ggX6_between_X6_holds
set_option maxRecDepth 20000 in
theorem ggX6_eRead_X6_next : GoodIn wsX6_eRead wsX6_next := goodIn_r _ [10, 11, 12, 13, 14, 3, 5, 15, 16, 9, 17, 18, 19, 20, 21, 22, 54, 55, 56, 57, 58, 59, 60, 61, 62, 63, 64, 65, 66, 67, 68, 69, 70, 71, 72, 73, 74, 75, 76, 77, 78, 79, 80, 81, 82, 83, 84, 85, 86, 87, 88, 89, 90, 91, 92, 93, 94, 95] (by decide +kernel) (by decide +kernel)
set_option maxRecDepth 20000 in
theorem gX6_eRead_X6_next : GoodIn wsX6_eRead (wsV RX6 150 RX6 yX6_next wsX6_next) := goodIn_app (goodIn_of _ (by decide +kernel)) ggX6_eRead_X6_next
set_option maxRecDepth 20000 in
theorem ggX6_eRead_X6_puts : GoodIn wsX6_eRead wsX6_puts := goodIn_r _ [26, 27, 28, 29, 54, 55, 56, 57, 58, 59, 60, 61, 62, 63, 64, 65, 66, 67, 68, 69, 70, 71, 72, 73, 74, 75, 76, 77, 78, 79, 80, 81, 82, 83, 84, 85, 86, 87, 88, 89, 90, 91, 92, 93, 94, 95] (by decide +kernel) (by decide +kernel)
set_option maxRecDepth 20000 in
theorem gX6_eRead_X6_puts : GoodIn wsX6_eRead (wsV RX6 140 RX6 yX6_puts wsX6_puts) := goodIn_app (goodIn_of _ (by decide +kernel)) ggX6_eRead_X6_puts
set_option maxRecDepth 20000 in
theorem ggX6_eRead_X6_unwinds : GoodIn wsX6_eRead wsX6_unwinds := goodIn_r _ [33, 1, 34, 2, 35, 36, 9, 37, 23, 24, 25, 26, 27, 28, 29, 54, 55, 56, 57, 58, 59, 60, 61, 62, 63, 64, 65, 66, 67, 68, 69, 70, 71, 72, 73, 74, 75, 76, 77, 78, 79, 80, 81, 82, 83, 84, 85, 86, 87, 88, 89, 90, 91, 92, 93, 94, 95] (by decide +kernel) (by decide +kernel)
set_option maxRecDepth 20000 in
theorem gX6_eRead_X6_unwinds : GoodIn wsX6_eRead (wsV RX6 147 RX6 yX6_unwinds wsX6_unwinds) := goodIn_app (goodIn_of _ (by decide +kernel)) ggX6_eRead_X6_unwinds
set_option maxRecDepth 20000 in
theorem ggX6_eRead_X6_signOf : GoodIn wsX6_eRead wsX6_signOf := goodIn_r _ [49, 3, 54, 55, 56, 57, 58, 59, 60, 61, 62, 63, 64, 65, 66, 67, 68, 69, 70, 71, 72, 73, 74, 75, 76, 77, 78, 79, 80, 81, 82, 83, 84, 85, 86, 87, 88, 89, 90, 91, 92, 93, 94, 95] (by decide +kernel) (by decide +kernel)
set_option maxRecDepth 20000 in
theorem gX6_eRead_X6_signOf : GoodIn wsX6_eRead (wsV RX6 157 RX6 yX6_signOf wsX6_signOf) := goodIn_app (goodIn_of _ (by decide +kernel)) ggX6_eRead_X6_signOf
set_option maxRecDepth 20000 in
theorem ggX6_eRead_X6_between : GoodIn wsX6_eRead wsX6_between := goodIn_r _ [53, 1, 34, 35, 36, 9, 37, 30, 31, 32, 33, 2, 23, 24, 25, 26, 27, 28, 29, 42, 43, 44, 45, 54, 55, 56, 57, 58, 59, 60, 61, 62, 63, 64, 65, 66, 67, 68, 69, 70, 71, 72, 73, 74, 75, 76, 77, 78, 79, 80, 81, 82, 83, 84, 85, 86, 87, 88, 89, 90, 91, 92, 93, 94, 95] (by decide +kernel) (by decide +kernel)
set_option maxRecDepth 20000 in
theorem gX6_eRead_X6_between : GoodIn wsX6_eRead (wsV RX6 160 RX6 yX6_between wsX6_between) := goodIn_app (goodIn_of _ (by decide +kernel)) ggX6_eRead_X6_between
set_option maxRecDepth 20000 in
theorem ggX6_text_X6_next : GoodIn wsX6_text wsX6_next := goodIn_r _ [13, 2, 7, 14, 8, 4, 5, 15, 16, 12, 17, 18, 19, 20, 21, 22, 59, 60, 61, 62, 63, 64, 65, 66, 67, 68, 69, 70, 71, 72, 73, 74, 75, 76, 77, 78, 79, 80, 81, 82, 83, 84, 85, 86, 87, 88, 89, 90, 91, 92, 93, 94, 95, 96, 97, 98, 99, 100] (by decide +kernel) (by decide +kernel)
set_option maxRecDepth 20000 in
theorem gX6_text_X6_next : GoodIn wsX6_text (wsV RX6 150 RX6 yX6_next wsX6_next) := goodIn_app (goodIn_of _ (by decide +kernel)) ggX6_text_X6_next
set_option maxRecDepth 20000 in
theorem ggX6_text_X6_eRead : GoodIn wsX6_text wsX6_eRead := goodIn_r _ [26, 27, 28, 4, 29, 5, 9, 10, 11, 12, 13, 2, 7, 14, 8, 15, 16, 17, 18, 19, 20, 21, 22, 30, 31, 32, 33, 34, 1, 3, 35, 36, 37, 38, 39, 40, 41, 42, 43, 44, 45, 46, 47, 48, 49, 50, 51, 52, 53, 54, 55, 56, 57, 58, 59, 60, 61, 62, 63, 64, 65, 66, 67, 68, 69, 70, 71, 72, 73, 74, 75, 76, 77, 78, 79, 80, 81, 82, 83, 84, 85, 86, 87, 88, 89, 90, 91, 92, 93, 94, 95, 96, 97, 98, 99, 100] (by decide +kernel) (by decide +kernel)
set_option maxRecDepth 20000 in
theorem gX6_text_X6_eRead : GoodIn wsX6_text (wsV RX6 163 RX6 yX6_eRead wsX6_eRead) := goodIn_app (goodIn_of _ (by decide +kernel)) ggX6_text_X6_eRead
set_option maxRecDepth 20000 in
theorem ggX6_force_X6_in : GoodIn wsX6_force wsX6_in := goodIn_r _ [6] (by decide +kernel) (by decide +kernel)
set_option maxRecDepth 20000 in
theorem gX6_force_X6_in : GoodIn wsX6_force (va_wsS RX6 91 yX6_in wsX6_in) := goodIn_app (goodIn_of _ (by decide +kernel)) ggX6_force_X6_in
set_option maxRecDepth 20000 in
theorem ggX6_asks_X6_in : GoodIn wsX6_asks wsX6_in := goodIn_r _ [4] (by decide +kernel) (by decide +kernel)
set_option maxRecDepth 20000 in
theorem gX6_asks_X6_in : GoodIn wsX6_asks (va_wsS RX6 91 yX6_in wsX6_in) := goodIn_app (goodIn_of _ (by decide +kernel)) ggX6_asks_X6_in
set_option maxRecDepth 20000 in
theorem ggX6_asks_X6_isJudge : GoodIn wsX6_asks wsX6_isJudge := goodIn_r _ [8, 9, 1, 2, 3, 4, 38, 39, 40, 41, 42, 43, 44, 45, 46, 47, 48, 49, 50, 51, 52, 53, 54, 55, 56, 57, 58, 59, 60, 61, 62, 63, 64, 65, 66, 67, 68, 69, 70, 71, 72, 73, 74, 75, 76, 77, 78, 79] (by decide +kernel) (by decide +kernel)
set_option maxRecDepth 20000 in
theorem gX6_asks_X6_isJudge : GoodIn wsX6_asks (wsV RX6 104 RX6 yX6_isJudge wsX6_isJudge) := goodIn_app (goodIn_of _ (by decide +kernel)) ggX6_asks_X6_isJudge
set_option maxRecDepth 20000 in
theorem ggX6_pebble_X6_in : GoodIn wsX6_pebble wsX6_in := goodIn_r _ [8] (by decide +kernel) (by decide +kernel)
set_option maxRecDepth 20000 in
theorem gX6_pebble_X6_in : GoodIn wsX6_pebble (va_wsS RX6 91 yX6_in wsX6_in) := goodIn_app (goodIn_of _ (by decide +kernel)) ggX6_pebble_X6_in
set_option maxRecDepth 20000 in
theorem ggX6_put_X6_isPebble : GoodIn wsX6_put wsX6_isPebble := goodIn_r _ [6, 7, 8, 9, 5, 10, 11, 12, 13, 14, 15, 16, 17, 18, 19, 20, 21, 22, 23, 24, 25, 26, 27, 28, 29, 30, 31, 32, 33, 34, 35, 36, 37, 38, 39, 40, 41, 42, 43, 44, 45, 46, 47, 48, 49, 50, 51, 52] (by decide +kernel) (by decide +kernel)
set_option maxRecDepth 20000 in
theorem gX6_put_X6_isPebble : GoodIn wsX6_put (wsV RX6 177 RX6 yX6_isPebble wsX6_isPebble) := goodIn_app (goodIn_of _ (by decide +kernel)) ggX6_put_X6_isPebble
set_option maxRecDepth 20000 in
theorem ggX6_told_X6_isPebble : GoodIn wsX6_told wsX6_isPebble := goodIn_r _ [8, 9, 10, 11, 7, 12, 17, 18, 19, 20, 21, 22, 23, 24, 25, 26, 27, 28, 29, 30, 31, 32, 33, 34, 35, 36, 37, 38, 39, 40, 41, 42, 43, 44, 45, 46, 47, 48, 49, 50, 51, 52, 53, 54, 55, 56, 57, 58] (by decide +kernel) (by decide +kernel)
set_option maxRecDepth 20000 in
theorem gX6_told_X6_isPebble : GoodIn wsX6_told (wsV RX6 177 RX6 yX6_isPebble wsX6_isPebble) := goodIn_app (goodIn_of _ (by decide +kernel)) ggX6_told_X6_isPebble
set_option maxRecDepth 20000 in
theorem ggX6_walk_X6_isJudge : GoodIn wsX6_walk wsX6_isJudge := goodIn_r _ [6, 7, 8, 9, 5, 10, 63, 64, 65, 66, 67, 68, 69, 70, 71, 72, 73, 74, 75, 76, 77, 78, 79, 80, 81, 82, 83, 84, 85, 86, 87, 88, 89, 90, 91, 92, 93, 94, 95, 96, 97, 98, 99, 100, 101, 102, 103, 104] (by decide +kernel) (by decide +kernel)
set_option maxRecDepth 20000 in
theorem gX6_walk_X6_isJudge : GoodIn wsX6_walk (wsV RX6 104 RX6 yX6_isJudge wsX6_isJudge) := goodIn_app (goodIn_of _ (by decide +kernel)) ggX6_walk_X6_isJudge
set_option maxRecDepth 20000 in
theorem ggX6_hear_X6_isJudge : GoodIn wsX6_hear wsX6_isJudge := goodIn_r _ [5, 6, 7, 8, 4, 9, 84, 85, 86, 87, 88, 89, 90, 91, 92, 93, 94, 95, 96, 97, 98, 99, 100, 101, 102, 103, 104, 105, 106, 107, 108, 109, 110, 111, 112, 113, 114, 115, 116, 117, 118, 119, 120, 121, 122, 123, 124, 125] (by decide +kernel) (by decide +kernel)
set_option maxRecDepth 20000 in
theorem gX6_hear_X6_isJudge : GoodIn wsX6_hear (wsV RX6 104 RX6 yX6_isJudge wsX6_isJudge) := goodIn_app (goodIn_of _ (by decide +kernel)) ggX6_hear_X6_isJudge
set_option maxRecDepth 20000 in
theorem ggX6_fewest_X6_isJudge : GoodIn wsX6_fewest wsX6_isJudge := goodIn_r _ [6, 7, 8, 9, 5, 10, 70, 71, 72, 73, 74, 75, 76, 77, 78, 79, 80, 81, 82, 83, 84, 85, 86, 87, 88, 89, 90, 91, 92, 93, 94, 95, 96, 97, 98, 99, 100, 101, 102, 103, 104, 105, 106, 107, 108, 109, 110, 111] (by decide +kernel) (by decide +kernel)
set_option maxRecDepth 20000 in
theorem gX6_fewest_X6_isJudge : GoodIn wsX6_fewest (wsV RX6 104 RX6 yX6_isJudge wsX6_isJudge) := goodIn_app (goodIn_of _ (by decide +kernel)) ggX6_fewest_X6_isJudge
set_option maxRecDepth 20000 in
theorem ggX6_sand_X6_isJudge : GoodIn wsX6_sand wsX6_isJudge := goodIn_r _ [5, 6, 7, 8, 4, 9, 70, 71, 72, 73, 74, 75, 76, 77, 78, 79, 80, 81, 82, 83, 84, 85, 86, 87, 88, 89, 90, 91, 92, 93, 94, 95, 96, 97, 98, 99, 100, 101, 102, 103, 104, 105, 106, 107, 108, 109, 110, 111] (by decide +kernel) (by decide +kernel)
set_option maxRecDepth 20000 in
theorem gX6_sand_X6_isJudge : GoodIn wsX6_sand (wsV RX6 104 RX6 yX6_isJudge wsX6_isJudge) := goodIn_app (goodIn_of _ (by decide +kernel)) ggX6_sand_X6_isJudge
set_option maxRecDepth 20000 in
theorem ggX6_unlike_X6_isJudge : GoodIn wsX6_unlike wsX6_isJudge := goodIn_r _ [7, 8, 9, 10, 6, 11, 71, 72, 73, 74, 75, 76, 77, 78, 79, 80, 81, 82, 83, 84, 85, 86, 87, 88, 89, 90, 91, 92, 93, 94, 95, 96, 97, 98, 99, 100, 101, 102, 103, 104, 105, 106, 107, 108, 109, 110, 111, 112] (by decide +kernel) (by decide +kernel)
set_option maxRecDepth 20000 in
theorem gX6_unlike_X6_isJudge : GoodIn wsX6_unlike (wsV RX6 104 RX6 yX6_isJudge wsX6_isJudge) := goodIn_app (goodIn_of _ (by decide +kernel)) ggX6_unlike_X6_isJudge
set_option maxRecDepth 20000 in
theorem ggX6_hardest_X6_isCase : GoodIn wsX6_hardest wsX6_isCase := goodIn_r _ [7, 8, 9, 6, 10] (by decide +kernel) (by decide +kernel)
set_option maxRecDepth 20000 in
theorem gX6_hardest_X6_isCase : GoodIn wsX6_hardest (va_wsS RX6 196 yX6_isCase wsX6_isCase) := goodIn_app (goodIn_of _ (by decide +kernel)) ggX6_hardest_X6_isCase
set_option maxRecDepth 20000 in
theorem ggX6_hardest_X6_in : GoodIn wsX6_hardest wsX6_in := goodIn_r _ [10] (by decide +kernel) (by decide +kernel)
set_option maxRecDepth 20000 in
theorem gX6_hardest_X6_in : GoodIn wsX6_hardest (va_wsS RX6 91 yX6_in wsX6_in) := goodIn_app (goodIn_of _ (by decide +kernel)) ggX6_hardest_X6_in
set_option maxRecDepth 20000 in
theorem ggX6_thick_X6_isJudge : GoodIn wsX6_thick wsX6_isJudge := goodIn_r _ [7, 8, 9, 10, 6, 11, 80, 81, 82, 83, 84, 85, 86, 87, 88, 89, 90, 91, 92, 93, 94, 95, 96, 97, 98, 99, 100, 101, 102, 103, 104, 105, 106, 107, 108, 109, 110, 111, 112, 113, 114, 115, 116, 117, 118, 119, 120, 121] (by decide +kernel) (by decide +kernel)
set_option maxRecDepth 20000 in
theorem gX6_thick_X6_isJudge : GoodIn wsX6_thick (wsV RX6 104 RX6 yX6_isJudge wsX6_isJudge) := goodIn_app (goodIn_of _ (by decide +kernel)) ggX6_thick_X6_isJudge
set_option maxRecDepth 20000 in
theorem ggX6_order_X6_isJudge : GoodIn wsX6_order wsX6_isJudge := goodIn_r _ [8, 9, 10, 11, 7, 12, 88, 89, 90, 91, 92, 93, 94, 95, 96, 97, 98, 99, 100, 101, 102, 103, 104, 105, 106, 107, 108, 109, 110, 111, 112, 113, 114, 115, 116, 117, 118, 119, 120, 121, 122, 123, 124, 125, 126, 127, 128, 129] (by decide +kernel) (by decide +kernel)
set_option maxRecDepth 20000 in
theorem gX6_order_X6_isJudge : GoodIn wsX6_order (wsV RX6 104 RX6 yX6_isJudge wsX6_isJudge) := goodIn_app (goodIn_of _ (by decide +kernel)) ggX6_order_X6_isJudge
set_option maxRecDepth 20000 in
theorem ggX6_counsel_X6_isJudge : GoodIn wsX6_counsel wsX6_isJudge := goodIn_r _ [8, 9, 10, 11, 7, 12, 86, 87, 88, 89, 90, 91, 92, 93, 94, 95, 96, 97, 98, 99, 100, 101, 102, 103, 104, 105, 106, 107, 108, 109, 110, 111, 112, 113, 114, 115, 116, 117, 118, 119, 120, 121, 122, 123, 124, 125, 126, 127] (by decide +kernel) (by decide +kernel)
set_option maxRecDepth 20000 in
theorem gX6_counsel_X6_isJudge : GoodIn wsX6_counsel (wsV RX6 104 RX6 yX6_isJudge wsX6_isJudge) := goodIn_app (goodIn_of _ (by decide +kernel)) ggX6_counsel_X6_isJudge
set_option maxRecDepth 20000 in
theorem ggX6_sheetWrong_X6_in : GoodIn wsX6_sheetWrong wsX6_in := goodIn_r _ [7] (by decide +kernel) (by decide +kernel)
set_option maxRecDepth 20000 in
theorem gX6_sheetWrong_X6_in : GoodIn wsX6_sheetWrong (va_wsS RX6 91 yX6_in wsX6_in) := goodIn_app (goodIn_of _ (by decide +kernel)) ggX6_sheetWrong_X6_in
set_option maxRecDepth 20000 in
theorem ggX6_toldWrong_X6_sheetWrong : GoodIn wsX6_toldWrong wsX6_sheetWrong := goodIn_r _ [5, 6, 7, 8, 9, 10, 4, 11, 12, 13, 14, 15, 16, 17, 18, 19, 25, 26, 27, 28, 29, 30, 31, 32, 33, 34, 35, 36, 37, 38, 39, 40, 41, 42, 43, 44, 45, 46, 47, 48, 49, 50, 51, 52, 53, 54, 55, 56, 57, 58, 59, 60, 61, 62, 63, 64, 65, 66] (by decide +kernel) (by decide +kernel)
set_option maxRecDepth 20000 in
theorem gX6_toldWrong_X6_sheetWrong : GoodIn wsX6_toldWrong (wsV RX6 248 RX6 yX6_sheetWrong wsX6_sheetWrong) := goodIn_app (goodIn_of _ (by decide +kernel)) ggX6_toldWrong_X6_sheetWrong
set_option maxRecDepth 20000 in
theorem ggX6_reversed_X6_toldWrong : GoodIn wsX6_reversed wsX6_toldWrong := goodIn_r _ [5, 6, 7, 8, 4, 9, 10, 11, 12, 13, 14, 15, 16, 17, 18, 19, 20, 21, 22, 23, 24, 25, 26, 27, 28, 87, 88, 89, 90, 91, 92, 93, 94, 95, 96, 97, 98, 99, 100, 101, 102, 103, 104, 105, 106, 107, 108, 109, 110, 111, 112, 113, 114, 115, 116, 117, 118, 119, 120, 121, 122, 123, 124, 125, 126, 127, 128] (by decide +kernel) (by decide +kernel)
set_option maxRecDepth 20000 in
theorem gX6_reversed_X6_toldWrong : GoodIn wsX6_reversed (wsV RX6 251 RX6 yX6_toldWrong wsX6_toldWrong) := goodIn_app (goodIn_of _ (by decide +kernel)) ggX6_reversed_X6_toldWrong
set_option maxRecDepth 20000 in
theorem ggX6_kinds_X6_toldWrong : GoodIn wsX6_kinds wsX6_toldWrong := goodIn_r _ [7, 8, 9, 10, 6, 11, 12, 13, 14, 15, 16, 17, 18, 19, 20, 21, 22, 23, 24, 25, 26, 27, 28, 29, 30, 87, 88, 89, 90, 91, 92, 93, 94, 95, 96, 97, 98, 99, 100, 101, 102, 103, 104, 105, 106, 107, 108, 109, 110, 111, 112, 113, 114, 115, 116, 117, 118, 119, 120, 121, 122, 123, 124, 125, 126, 127, 128] (by decide +kernel) (by decide +kernel)
set_option maxRecDepth 20000 in
theorem gX6_kinds_X6_toldWrong : GoodIn wsX6_kinds (wsV RX6 251 RX6 yX6_toldWrong wsX6_toldWrong) := goodIn_app (goodIn_of _ (by decide +kernel)) ggX6_kinds_X6_toldWrong
set_option maxRecDepth 20000 in
theorem ggX6_soled_X6_toldWrong : GoodIn wsX6_soled wsX6_toldWrong := goodIn_r _ [6, 7, 8, 9, 5, 10, 11, 12, 13, 14, 15, 16, 17, 18, 19, 20, 21, 22, 23, 24, 25, 26, 27, 28, 29, 87, 88, 89, 90, 91, 92, 93, 94, 95, 96, 97, 98, 99, 100, 101, 102, 103, 104, 105, 106, 107, 108, 109, 110, 111, 112, 113, 114, 115, 116, 117, 118, 119, 120, 121, 122, 123, 124, 125, 126, 127, 128] (by decide +kernel) (by decide +kernel)
set_option maxRecDepth 20000 in
theorem gX6_soled_X6_toldWrong : GoodIn wsX6_soled (wsV RX6 251 RX6 yX6_toldWrong wsX6_toldWrong) := goodIn_app (goodIn_of _ (by decide +kernel)) ggX6_soled_X6_toldWrong
set_option maxRecDepth 20000 in
theorem ggX6_sizes_X6_toldWrong : GoodIn wsX6_sizes wsX6_toldWrong := goodIn_r _ [6, 7, 8, 9, 5, 10, 11, 12, 13, 14, 15, 16, 17, 18, 19, 20, 21, 22, 23, 24, 25, 26, 27, 28, 29, 87, 88, 89, 90, 91, 92, 93, 94, 95, 96, 97, 98, 99, 100, 101, 102, 103, 104, 105, 106, 107, 108, 109, 110, 111, 112, 113, 114, 115, 116, 117, 118, 119, 120, 121, 122, 123, 124, 125, 126, 127, 128] (by decide +kernel) (by decide +kernel)
set_option maxRecDepth 20000 in
theorem gX6_sizes_X6_toldWrong : GoodIn wsX6_sizes (wsV RX6 251 RX6 yX6_toldWrong wsX6_toldWrong) := goodIn_app (goodIn_of _ (by decide +kernel)) ggX6_sizes_X6_toldWrong
set_option maxRecDepth 20000 in
theorem ggX6_whose_X6_sheetWrong : GoodIn wsX6_whose wsX6_sheetWrong := goodIn_r _ [6, 7, 8, 9, 10, 11, 5, 12, 13, 14, 15, 16, 17, 18, 19, 20, 79, 80, 81, 82, 83, 84, 85, 86, 87, 88, 89, 90, 91, 92, 93, 94, 95, 96, 97, 98, 99, 100, 101, 102, 103, 104, 105, 106, 107, 108, 109, 110, 111, 112, 113, 114, 115, 116, 117, 118, 119, 120] (by decide +kernel) (by decide +kernel)
set_option maxRecDepth 20000 in
theorem gX6_whose_X6_sheetWrong : GoodIn wsX6_whose (wsV RX6 248 RX6 yX6_sheetWrong wsX6_sheetWrong) := goodIn_app (goodIn_of _ (by decide +kernel)) ggX6_whose_X6_sheetWrong
set_option maxRecDepth 20000 in
theorem ggX6_laws_X6_toldWrong : GoodIn wsX6_laws wsX6_toldWrong := goodIn_r _ [7, 8, 9, 10, 6, 11, 12, 13, 14, 15, 16, 17, 18, 19, 20, 21, 22, 23, 24, 25, 26, 27, 28, 29, 30, 88, 89, 90, 91, 92, 93, 94, 95, 96, 97, 98, 99, 100, 101, 102, 103, 104, 105, 106, 107, 108, 109, 110, 111, 112, 113, 114, 115, 116, 117, 118, 119, 120, 121, 122, 123, 124, 125, 126, 127, 128, 129] (by decide +kernel) (by decide +kernel)
set_option maxRecDepth 20000 in
theorem gX6_laws_X6_toldWrong : GoodIn wsX6_laws (wsV RX6 251 RX6 yX6_toldWrong wsX6_toldWrong) := goodIn_app (goodIn_of _ (by decide +kernel)) ggX6_laws_X6_toldWrong
set_option maxRecDepth 20000 in
theorem ggX6_film_X6_in : GoodIn wsX6_film wsX6_in := goodIn_r _ [8] (by decide +kernel) (by decide +kernel)
set_option maxRecDepth 20000 in
theorem gX6_film_X6_in : GoodIn wsX6_film (va_wsS RX6 91 yX6_in wsX6_in) := goodIn_app (goodIn_of _ (by decide +kernel)) ggX6_film_X6_in
set_option maxRecDepth 20000 in
theorem ggX6_film_X6_isJudge : GoodIn wsX6_film wsX6_isJudge := goodIn_r _ [12, 13, 5, 6, 7, 8, 71, 72, 73, 74, 75, 76, 77, 78, 79, 80, 81, 82, 83, 84, 85, 86, 87, 88, 89, 90, 91, 92, 93, 94, 95, 96, 97, 98, 99, 100, 101, 102, 103, 104, 105, 106, 107, 108, 109, 110, 111, 112] (by decide +kernel) (by decide +kernel)
set_option maxRecDepth 20000 in
theorem gX6_film_X6_isJudge : GoodIn wsX6_film (wsV RX6 104 RX6 yX6_isJudge wsX6_isJudge) := goodIn_app (goodIn_of _ (by decide +kernel)) ggX6_film_X6_isJudge
set_option maxRecDepth 20000 in
theorem ggX6_drawn_X6_isJudge : GoodIn wsX6_drawn wsX6_isJudge := goodIn_r _ [6, 7, 8, 9, 5, 10, 82, 83, 84, 85, 86, 87, 88, 89, 90, 91, 92, 93, 94, 95, 96, 97, 98, 99, 100, 101, 102, 103, 104, 105, 106, 107, 108, 109, 110, 111, 112, 113, 114, 115, 116, 117, 118, 119, 120, 121, 122, 123] (by decide +kernel) (by decide +kernel)
set_option maxRecDepth 20000 in
theorem gX6_drawn_X6_isJudge : GoodIn wsX6_drawn (wsV RX6 104 RX6 yX6_isJudge wsX6_isJudge) := goodIn_app (goodIn_of _ (by decide +kernel)) ggX6_drawn_X6_isJudge
set_option maxRecDepth 20000 in
theorem ggX6_odds_X6_in : GoodIn wsX6_odds wsX6_in := goodIn_r _ [7] (by decide +kernel) (by decide +kernel)
set_option maxRecDepth 20000 in
theorem gX6_odds_X6_in : GoodIn wsX6_odds (va_wsS RX6 91 yX6_in wsX6_in) := goodIn_app (goodIn_of _ (by decide +kernel)) ggX6_odds_X6_in
set_option maxRecDepth 20000 in
theorem ggX6_odds_X6_isJudge : GoodIn wsX6_odds wsX6_isJudge := goodIn_r _ [11, 12, 4, 5, 6, 7, 81, 82, 83, 84, 85, 86, 87, 88, 89, 90, 91, 92, 93, 94, 95, 96, 97, 98, 99, 100, 101, 102, 103, 104, 105, 106, 107, 108, 109, 110, 111, 112, 113, 114, 115, 116, 117, 118, 119, 120, 121, 122] (by decide +kernel) (by decide +kernel)
set_option maxRecDepth 20000 in
theorem gX6_odds_X6_isJudge : GoodIn wsX6_odds (wsV RX6 104 RX6 yX6_isJudge wsX6_isJudge) := goodIn_app (goodIn_of _ (by decide +kernel)) ggX6_odds_X6_isJudge
set_option maxRecDepth 20000 in
theorem ggX6_sheet_X6_in : GoodIn wsX6_sheet wsX6_in := goodIn_r _ [7] (by decide +kernel) (by decide +kernel)
set_option maxRecDepth 20000 in
theorem gX6_sheet_X6_in : GoodIn wsX6_sheet (va_wsS RX6 91 yX6_in wsX6_in) := goodIn_app (goodIn_of _ (by decide +kernel)) ggX6_sheet_X6_in
set_option maxRecDepth 20000 in
theorem ggX6_cell_X6_in : GoodIn wsX6_cell wsX6_in := goodIn_r _ [7] (by decide +kernel) (by decide +kernel)
set_option maxRecDepth 20000 in
theorem gX6_cell_X6_in : GoodIn wsX6_cell (va_wsS RX6 91 yX6_in wsX6_in) := goodIn_app (goodIn_of _ (by decide +kernel)) ggX6_cell_X6_in
set_option maxRecDepth 20000 in
theorem ggX6_copy_X6_in : GoodIn wsX6_copy wsX6_in := goodIn_r _ [7] (by decide +kernel) (by decide +kernel)
set_option maxRecDepth 20000 in
theorem gX6_copy_X6_in : GoodIn wsX6_copy (va_wsS RX6 91 yX6_in wsX6_in) := goodIn_app (goodIn_of _ (by decide +kernel)) ggX6_copy_X6_in
set_option maxRecDepth 20000 in
theorem ggX6_pebblesBy_X6_in : GoodIn wsX6_pebblesBy wsX6_in := goodIn_r _ [7] (by decide +kernel) (by decide +kernel)
set_option maxRecDepth 20000 in
theorem gX6_pebblesBy_X6_in : GoodIn wsX6_pebblesBy (va_wsS RX6 91 yX6_in wsX6_in) := goodIn_app (goodIn_of _ (by decide +kernel)) ggX6_pebblesBy_X6_in
set_option maxRecDepth 20000 in
theorem ggX6_taken_X6_in : GoodIn wsX6_taken wsX6_in := goodIn_r _ [12] (by decide +kernel) (by decide +kernel)
set_option maxRecDepth 20000 in
theorem gX6_taken_X6_in : GoodIn wsX6_taken (va_wsS RX6 91 yX6_in wsX6_in) := goodIn_app (goodIn_of _ (by decide +kernel)) ggX6_taken_X6_in
