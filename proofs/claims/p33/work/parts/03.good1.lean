set_option maxRecDepth 20000 in
theorem ggX0_hasBoth_X0_hasJudge : GoodIn wsX0_hasBoth wsX0_hasJudge := goodIn_r _ [5, 6, 12, 13, 14, 15, 16, 17, 18, 19, 20, 21, 22, 23] (by decide +kernel) (by decide +kernel)
set_option maxRecDepth 20000 in
theorem gX0_hasBoth_X0_hasJudge : GoodIn wsX0_hasBoth (wsV RX0 58 RX0 yX0_hasJudge wsX0_hasJudge) := goodIn_app (goodIn_of _ (by decide +kernel)) ggX0_hasBoth_X0_hasJudge
set_option maxRecDepth 20000 in
theorem ggX0_hasBoth_X0_hasPebble : GoodIn wsX0_hasBoth wsX0_hasPebble := goodIn_r _ [10, 11, 12, 13, 14, 15, 16, 17, 18, 19, 20, 21, 22, 23] (by decide +kernel) (by decide +kernel)
set_option maxRecDepth 20000 in
theorem gX0_hasBoth_X0_hasPebble : GoodIn wsX0_hasBoth (wsV RX0 62 RX0 yX0_hasPebble wsX0_hasPebble) := goodIn_app (goodIn_of _ (by decide +kernel)) ggX0_hasBoth_X0_hasPebble
set_option maxRecDepth 20000 in
theorem ggX0_says_X3_value : GoodIn wsX0_says wsX3_value := goodIn_r _ [20, 21, 22, 23, 24, 25, 26, 19, 27, 28, 29, 30, 43, 44, 45, 46, 47] (by decide +kernel) (by decide +kernel)
set_option maxRecDepth 20000 in
theorem gX0_says_X3_value : GoodIn wsX0_says (wsV RX0 65 RX3 yX3_value wsX3_value) := goodIn_app (goodIn_of _ (by decide +kernel)) ggX0_says_X3_value
set_option maxRecDepth 20000 in
theorem ggX0_mile_X0_isSand : GoodIn wsX0_mile wsX0_isSand := goodIn_r _ [15, 16, 7, 17, 55, 56, 57, 58, 59, 60, 61, 62, 63, 64, 65, 66] (by decide +kernel) (by decide +kernel)
set_option maxRecDepth 20000 in
theorem gX0_mile_X0_isSand : GoodIn wsX0_mile (wsV RX0 80 RX0 yX0_isSand wsX0_isSand) := goodIn_app (goodIn_of _ (by decide +kernel)) ggX0_mile_X0_isSand
set_option maxRecDepth 20000 in
theorem ggX0_mile_X0_says : GoodIn wsX0_mile wsX0_says := goodIn_r _ [21, 22, 7, 23, 24, 25, 17, 26, 27, 3, 4, 5, 6, 8, 9, 10, 28, 29, 30, 31, 32, 33, 34, 35, 36, 37, 38, 39, 40, 41, 42, 55, 56, 57, 58, 59, 60, 61, 62, 63, 64, 65, 66, 67, 68, 69, 70, 71] (by decide +kernel) (by decide +kernel)
set_option maxRecDepth 20000 in
theorem gX0_mile_X0_says : GoodIn wsX0_mile (wsV RX0 83 RX0 yX0_says wsX0_says) := goodIn_app (goodIn_of _ (by decide +kernel)) ggX0_mile_X0_says
set_option maxRecDepth 20000 in
theorem ggX0_mile_X0_hurts : GoodIn wsX0_mile wsX0_hurts := goodIn_r _ [46, 24, 17, 16, 8, 9, 5, 10, 55, 56, 57, 58, 59, 60, 61, 62, 63, 64, 65, 66] (by decide +kernel) (by decide +kernel)
set_option maxRecDepth 20000 in
theorem gX0_mile_X0_hurts : GoodIn wsX0_mile (wsV RX0 87 RX0 yX0_hurts wsX0_hurts) := goodIn_app (goodIn_of _ (by decide +kernel)) ggX0_mile_X0_hurts
set_option maxRecDepth 20000 in
theorem ggX0_mile_X0_wears : GoodIn wsX0_mile wsX0_wears := goodIn_r _ [50, 16, 55, 56, 57, 58, 59, 60, 61, 62, 63, 64, 65, 66] (by decide +kernel) (by decide +kernel)
set_option maxRecDepth 20000 in
theorem gX0_mile_X0_wears : GoodIn wsX0_mile (wsV RX0 90 RX0 yX0_wears wsX0_wears) := goodIn_app (goodIn_of _ (by decide +kernel)) ggX0_mile_X0_wears
set_option maxRecDepth 20000 in
theorem ggX0_mile_X0_tread : GoodIn wsX0_mile wsX0_tread := goodIn_r _ [54, 25, 24, 3, 4, 5, 6, 55, 56, 57, 58, 59, 60, 61, 62, 63, 64, 65, 66] (by decide +kernel) (by decide +kernel)
set_option maxRecDepth 20000 in
theorem gX0_mile_X0_tread : GoodIn wsX0_mile (wsV RX0 94 RX0 yX0_tread wsX0_tread) := goodIn_app (goodIn_of _ (by decide +kernel)) ggX0_mile_X0_tread
set_option maxRecDepth 20000 in
theorem ggX0_go_X0_mile : GoodIn wsX0_go wsX0_mile := goodIn_r _ [5, 6, 7, 8, 9, 10, 11, 12, 13, 14, 15, 16, 17, 18, 4, 19, 20, 21, 22, 23, 24, 25, 26, 27, 28, 29, 30, 31, 32, 33, 34, 35, 36, 37, 38, 39, 40, 41, 42, 43, 44, 45, 46, 47, 48, 49, 50, 51, 52, 53, 54, 55, 56, 57, 58, 59, 60, 61, 62, 63, 64, 65, 66, 67, 68, 69, 70, 71, 72, 73, 74, 75] (by decide +kernel) (by decide +kernel)
set_option maxRecDepth 20000 in
theorem gX0_go_X0_mile : GoodIn wsX0_go (wsV RX0 98 RX0 yX0_mile wsX0_mile) := goodIn_app (goodIn_of _ (by decide +kernel)) ggX0_go_X0_mile
set_option maxRecDepth 20000 in
theorem ggX0_goByLots_X0_mile : GoodIn wsX0_goByLots wsX0_mile := goodIn_r _ [7, 8, 9, 10, 11, 12, 13, 14, 15, 16, 17, 18, 19, 20, 6, 21, 22, 23, 24, 25, 26, 27, 28, 29, 30, 31, 32, 33, 34, 35, 36, 37, 38, 39, 40, 41, 42, 43, 44, 45, 46, 47, 48, 49, 50, 51, 52, 53, 54, 55, 56, 57, 58, 59, 60, 61, 62, 63, 64, 65, 66, 67, 68, 69, 70, 71, 72, 73, 74, 75, 76, 77] (by decide +kernel) (by decide +kernel)
set_option maxRecDepth 20000 in
theorem gX0_goByLots_X0_mile : GoodIn wsX0_goByLots (wsV RX0 98 RX0 yX0_mile wsX0_mile) := goodIn_app (goodIn_of _ (by decide +kernel)) ggX0_goByLots_X0_mile
set_option maxRecDepth 20000 in
theorem ggX0_verdict_X0_says : GoodIn wsX0_verdict wsX0_says := goodIn_r _ [5, 6, 7, 8, 9, 10, 11, 12, 13, 14, 15, 16, 17, 18, 19, 20, 21, 22, 23, 24, 25, 26, 27, 28, 29, 30, 31, 32, 33, 34, 35, 36, 37, 38, 39, 40, 41, 42, 43, 44, 45, 46, 47, 48, 49, 50, 51, 52] (by decide +kernel) (by decide +kernel)
set_option maxRecDepth 20000 in
theorem gX0_verdict_X0_says : GoodIn wsX0_verdict (wsV RX0 83 RX0 yX0_says wsX0_says) := goodIn_app (goodIn_of _ (by decide +kernel)) ggX0_verdict_X0_says
set_option maxRecDepth 20000 in
theorem ggX1_read_X3_begin : GoodIn wsX1_read wsX3_begin := goodIn_r _ [9, 10, 202, 203, 204, 205, 206] (by decide +kernel) (by decide +kernel)
set_option maxRecDepth 20000 in
theorem gX1_read_X3_begin : GoodIn wsX1_read (wsV RX1 26 RX3 yX3_begin wsX3_begin) := goodIn_app (goodIn_of _ (by decide +kernel)) ggX1_read_X3_begin
set_option maxRecDepth 20000 in
theorem ggX1_read_X1_readParts : GoodIn wsX1_read wsX1_readParts := goodIn_r _ [15, 16, 2, 17, 18, 19, 14, 20, 1, 3, 21, 4, 22, 23, 24, 25, 26, 27, 28, 29, 30, 31, 32, 33, 34, 35, 36, 37, 38, 39, 40, 41, 42, 43, 44, 45, 46, 47, 48, 49, 50, 51, 52, 53, 54, 55, 56, 57, 58, 59, 60, 61, 62, 63, 64, 65, 66, 67, 68, 69, 70, 71, 72, 73, 74, 75, 76, 77, 78, 79, 80, 81, 82, 83, 84, 85, 86, 87, 88, 89, 90, 91, 92, 93, 94, 95, 96, 97, 98, 99, 100, 101, 102, 103, 104, 105, 106, 107, 108, 109, 110, 111, 112, 113, 114, 115, 116, 117, 118, 119, 120, 121, 122, 123, 124, 125, 126, 127, 128, 129, 130, 131, 132, 133, 134, 135, 136, 137, 138, 139, 140, 141, 142, 143, 144, 145, 146, 147, 148, 149, 150, 151, 152, 153, 154, 155, 156, 157, 158, 159, 160, 161, 162, 163, 164, 165, 8, 166, 167, 10, 168, 169, 170, 171, 172, 173, 174, 175, 176, 177, 178, 179, 180, 181, 182, 183, 184, 185, 186, 187, 188, 189, 190, 195, 196, 197, 198, 199, 200, 201, 202, 203, 204, 205, 206] (by decide +kernel) (by decide +kernel)
set_option maxRecDepth 20000 in
theorem gX1_read_X1_readParts : GoodIn wsX1_read (wsV RX1 31 RX1 yX1_readParts wsX1_readParts) := goodIn_app (goodIn_of _ (by decide +kernel)) ggX1_read_X1_readParts
set_option maxRecDepth 20000 in
theorem ggX1_read_X3_keep : GoodIn wsX1_read wsX3_keep := goodIn_r _ [194, 167, 202, 203, 204, 205, 206] (by decide +kernel) (by decide +kernel)
set_option maxRecDepth 20000 in
theorem gX1_read_X3_keep : GoodIn wsX1_read (wsV RX1 35 RX3 yX3_keep wsX3_keep) := goodIn_app (goodIn_of _ (by decide +kernel)) ggX1_read_X3_keep
set_option maxRecDepth 20000 in
theorem ggX1_readParts_X1_next : GoodIn wsX1_readParts wsX1_next := goodIn_r _ [7, 8, 9, 10, 11, 1, 12, 13, 14, 6, 15, 16, 17, 18, 19, 20, 21, 22, 23, 24, 25, 26, 27, 28, 29, 30, 31, 32, 33, 34, 35, 36, 37, 38, 39, 40, 41, 42, 43, 44, 45, 46, 47, 48, 49, 50, 51, 52, 53, 54, 55, 56, 57, 58, 59, 60, 61, 62, 63, 64, 65, 66, 67, 68, 69, 70, 71, 72, 73, 74, 75, 76, 77, 78, 79, 80, 81, 82, 83, 84, 85, 86, 87, 88, 89, 90, 91, 92, 93, 94, 95, 96, 97, 98, 99, 100, 101, 102, 103, 104, 105, 106, 107, 108, 109, 110, 111, 112, 113, 114, 115, 116, 117, 118, 119, 120, 121, 122, 123, 124, 125, 126, 127, 128, 129, 130, 131, 132, 133, 134, 135, 136, 137, 138, 139, 140, 141, 142, 143, 144, 145, 183, 184, 185, 186, 187, 188, 189] (by decide +kernel) (by decide +kernel)
set_option maxRecDepth 20000 in
theorem gX1_readParts_X1_next : GoodIn wsX1_readParts (wsV RX1 42 RX1 yX1_next wsX1_next) := goodIn_app (goodIn_of _ (by decide +kernel)) ggX1_readParts_X1_next
set_option maxRecDepth 20000 in
theorem ggX1_readParts_X1_readOr : GoodIn wsX1_readParts wsX1_readOr := goodIn_r _ [149, 1, 2, 150, 151, 152, 6, 3, 4, 5, 7, 8, 9, 10, 11, 12, 13, 14, 15, 16, 17, 18, 19, 20, 21, 22, 23, 24, 25, 26, 27, 28, 29, 30, 31, 32, 33, 34, 35, 36, 37, 38, 39, 40, 41, 42, 43, 44, 45, 46, 47, 48, 49, 50, 51, 52, 53, 54, 55, 56, 57, 58, 59, 60, 61, 62, 63, 64, 65, 66, 67, 68, 69, 70, 71, 72, 73, 74, 75, 76, 77, 78, 79, 80, 81, 82, 83, 84, 85, 86, 87, 88, 89, 90, 91, 92, 93, 94, 95, 96, 97, 98, 99, 100, 101, 102, 103, 104, 105, 106, 107, 108, 109, 110, 111, 112, 113, 114, 115, 116, 117, 118, 119, 120, 121, 122, 123, 124, 125, 126, 127, 128, 129, 130, 131, 132, 133, 134, 135, 136, 137, 138, 139, 140, 141, 142, 143, 144, 145, 153, 154, 155, 156, 157, 158, 159, 160, 161, 162, 163, 164, 165, 166, 167, 168, 169, 170, 171, 172, 146, 147, 148, 173, 174, 175, 176, 177, 183, 184, 185, 186, 187, 188, 189, 190, 191, 192, 193, 194] (by decide +kernel) (by decide +kernel)
set_option maxRecDepth 20000 in
theorem gX1_readParts_X1_readOr : GoodIn wsX1_readParts (wsV RX1 48 RX1 yX1_readOr wsX1_readOr) := goodIn_app (goodIn_of _ (by decide +kernel)) ggX1_readParts_X1_readOr
set_option maxRecDepth 20000 in
theorem ggX1_readParts_X3_endPart : GoodIn wsX1_readParts wsX3_endPart := goodIn_r _ [181, 158, 182, 159, 190, 191, 192, 193, 194] (by decide +kernel) (by decide +kernel)
set_option maxRecDepth 20000 in
theorem gX1_readParts_X3_endPart : GoodIn wsX1_readParts (wsV RX1 52 RX3 yX3_endPart wsX3_endPart) := goodIn_app (goodIn_of _ (by decide +kernel)) ggX1_readParts_X3_endPart
set_option maxRecDepth 20000 in
theorem ggX1_readOr_X1_readAnd : GoodIn wsX1_readOr wsX1_readAnd := goodIn_r _ [157, 1, 2, 158, 159, 160, 6, 7, 8, 9, 10, 11, 12, 13, 14, 15, 16, 17, 18, 19, 20, 21, 22, 23, 24, 25, 26, 27, 28, 29, 30, 31, 32, 33, 34, 35, 36, 37, 38, 39, 40, 41, 42, 43, 44, 45, 46, 47, 48, 49, 50, 51, 52, 53, 54, 55, 56, 57, 58, 59, 60, 61, 62, 63, 64, 65, 66, 67, 68, 69, 70, 71, 72, 73, 74, 75, 76, 77, 78, 79, 80, 81, 82, 83, 84, 85, 86, 87, 88, 89, 90, 91, 92, 93, 94, 95, 96, 97, 98, 99, 100, 101, 102, 103, 104, 105, 106, 107, 108, 109, 110, 111, 112, 113, 114, 115, 116, 117, 118, 119, 120, 121, 122, 123, 124, 125, 126, 127, 128, 129, 130, 131, 132, 133, 134, 135, 136, 137, 138, 139, 140, 141, 142, 143, 144, 145, 146, 147, 148, 149, 150, 151, 152, 153, 154, 155, 156, 161, 162, 163, 164, 165, 166, 167, 168, 169, 170, 171, 0, 3, 4, 5, 172, 173, 174, 175, 176, 177, 178, 179, 180, 181, 182, 183, 184, 185, 186, 187, 188] (by decide +kernel) (by decide +kernel)
set_option maxRecDepth 20000 in
theorem gX1_readOr_X1_readAnd : GoodIn wsX1_readOr (wsV RX1 56 RX1 yX1_readAnd wsX1_readAnd) := goodIn_app (goodIn_of _ (by decide +kernel)) ggX1_readOr_X1_readAnd
set_option maxRecDepth 20000 in
theorem ggX1_readOr_X1_next : GoodIn wsX1_readOr wsX1_next := goodIn_r _ [10, 11, 12, 13, 14, 1, 15, 16, 17, 6, 18, 19, 20, 21, 22, 23, 24, 25, 26, 27, 28, 29, 30, 31, 32, 33, 34, 35, 36, 37, 38, 39, 40, 41, 42, 43, 44, 45, 46, 47, 48, 49, 50, 51, 52, 53, 54, 55, 56, 57, 58, 59, 60, 61, 62, 63, 64, 65, 66, 67, 68, 69, 70, 71, 72, 73, 74, 75, 76, 77, 78, 79, 80, 81, 82, 83, 84, 85, 86, 87, 88, 89, 90, 91, 92, 93, 94, 95, 96, 97, 98, 99, 100, 101, 102, 103, 104, 105, 106, 107, 108, 109, 110, 111, 112, 113, 114, 115, 116, 117, 118, 119, 120, 121, 122, 123, 124, 125, 126, 127, 128, 129, 130, 131, 132, 133, 134, 135, 136, 137, 138, 139, 140, 141, 142, 143, 144, 145, 146, 147, 148, 177, 178, 179, 180, 181, 182, 183] (by decide +kernel) (by decide +kernel)
set_option maxRecDepth 20000 in
theorem gX1_readOr_X1_next : GoodIn wsX1_readOr (wsV RX1 42 RX1 yX1_next wsX1_next) := goodIn_app (goodIn_of _ (by decide +kernel)) ggX1_readOr_X1_next
set_option maxRecDepth 20000 in
theorem ggX1_readOr_X3_write : GoodIn wsX1_readOr wsX3_write := goodIn_r _ [153, 154, 155, 156, 184, 185, 186, 187, 188] (by decide +kernel) (by decide +kernel)
set_option maxRecDepth 20000 in
theorem gX1_readOr_X3_write : GoodIn wsX1_readOr (wsV RX1 59 RX3 yX3_write wsX3_write) := goodIn_app (goodIn_of _ (by decide +kernel)) ggX1_readOr_X3_write
set_option maxRecDepth 20000 in
theorem ggX1_readAnd_X1_readNot : GoodIn wsX1_readAnd wsX1_readNot := goodIn_r _ [157, 1, 2, 7, 8, 9, 6, 10, 11, 12, 13, 14, 15, 16, 17, 18, 19, 20, 21, 22, 23, 24, 25, 26, 27, 28, 29, 30, 31, 32, 33, 34, 35, 36, 37, 38, 39, 40, 41, 42, 43, 44, 45, 46, 47, 48, 49, 50, 51, 52, 53, 54, 55, 56, 57, 58, 59, 60, 61, 62, 63, 64, 65, 66, 67, 68, 69, 70, 71, 72, 73, 74, 75, 76, 77, 78, 79, 80, 81, 82, 83, 84, 85, 86, 87, 88, 89, 90, 91, 92, 93, 94, 95, 96, 97, 98, 99, 100, 101, 102, 103, 104, 105, 106, 107, 108, 109, 110, 111, 112, 113, 114, 115, 116, 117, 118, 119, 120, 121, 122, 123, 124, 125, 126, 127, 128, 129, 130, 131, 132, 133, 134, 135, 136, 137, 138, 139, 140, 141, 142, 143, 144, 145, 146, 147, 148, 3, 4, 5, 149, 150, 151, 152, 153, 154, 155, 156, 158, 159, 160, 0, 161, 162, 163, 164, 165, 166, 167, 168, 169, 170, 171, 172, 173, 174, 175, 176, 177, 178, 179, 180, 181, 182, 183, 184, 185, 186, 187, 188] (by decide +kernel) (by decide +kernel)
set_option maxRecDepth 20000 in
theorem gX1_readAnd_X1_readNot : GoodIn wsX1_readAnd (wsV RX1 62 RX1 yX1_readNot wsX1_readNot) := goodIn_app (goodIn_of _ (by decide +kernel)) ggX1_readAnd_X1_readNot
set_option maxRecDepth 20000 in
theorem ggX1_readAnd_X1_next : GoodIn wsX1_readAnd wsX1_next := goodIn_r _ [10, 11, 12, 13, 14, 1, 15, 16, 17, 6, 18, 19, 20, 21, 22, 23, 24, 25, 26, 27, 28, 29, 30, 31, 32, 33, 34, 35, 36, 37, 38, 39, 40, 41, 42, 43, 44, 45, 46, 47, 48, 49, 50, 51, 52, 53, 54, 55, 56, 57, 58, 59, 60, 61, 62, 63, 64, 65, 66, 67, 68, 69, 70, 71, 72, 73, 74, 75, 76, 77, 78, 79, 80, 81, 82, 83, 84, 85, 86, 87, 88, 89, 90, 91, 92, 93, 94, 95, 96, 97, 98, 99, 100, 101, 102, 103, 104, 105, 106, 107, 108, 109, 110, 111, 112, 113, 114, 115, 116, 117, 118, 119, 120, 121, 122, 123, 124, 125, 126, 127, 128, 129, 130, 131, 132, 133, 134, 135, 136, 137, 138, 139, 140, 141, 142, 143, 144, 145, 146, 147, 148, 177, 178, 179, 180, 181, 182, 183] (by decide +kernel) (by decide +kernel)
set_option maxRecDepth 20000 in
theorem gX1_readAnd_X1_next : GoodIn wsX1_readAnd (wsV RX1 42 RX1 yX1_next wsX1_next) := goodIn_app (goodIn_of _ (by decide +kernel)) ggX1_readAnd_X1_next
set_option maxRecDepth 20000 in
theorem ggX1_readAnd_X3_write : GoodIn wsX1_readAnd wsX3_write := goodIn_r _ [153, 154, 155, 156, 184, 185, 186, 187, 188] (by decide +kernel) (by decide +kernel)
set_option maxRecDepth 20000 in
theorem gX1_readAnd_X3_write : GoodIn wsX1_readAnd (wsV RX1 59 RX3 yX3_write wsX3_write) := goodIn_app (goodIn_of _ (by decide +kernel)) ggX1_readAnd_X3_write
set_option maxRecDepth 20000 in
theorem ggX1_readNot_X1_next : GoodIn wsX1_readNot wsX1_next := goodIn_r _ [7, 8, 9, 10, 11, 1, 12, 13, 14, 6, 15, 16, 17, 18, 19, 20, 21, 22, 23, 24, 25, 26, 27, 28, 29, 30, 31, 32, 33, 34, 35, 36, 37, 38, 39, 40, 41, 42, 43, 44, 45, 46, 47, 48, 49, 50, 51, 52, 53, 54, 55, 56, 57, 58, 59, 60, 61, 62, 63, 64, 65, 66, 67, 68, 69, 70, 71, 72, 73, 74, 75, 76, 77, 78, 79, 80, 81, 82, 83, 84, 85, 86, 87, 88, 89, 90, 91, 92, 93, 94, 95, 96, 97, 98, 99, 100, 101, 102, 103, 104, 105, 106, 107, 108, 109, 110, 111, 112, 113, 114, 115, 116, 117, 118, 119, 120, 121, 122, 123, 124, 125, 126, 127, 128, 129, 130, 131, 132, 133, 134, 135, 136, 137, 138, 139, 140, 141, 142, 143, 144, 145, 177, 178, 179, 180, 181, 182, 183] (by decide +kernel) (by decide +kernel)
set_option maxRecDepth 20000 in
theorem gX1_readNot_X1_next : GoodIn wsX1_readNot (wsV RX1 42 RX1 yX1_next wsX1_next) := goodIn_app (goodIn_of _ (by decide +kernel)) ggX1_readNot_X1_next
set_option maxRecDepth 20000 in
theorem ggX1_readNot_X1_readNot : GoodIn wsX1_readNot wsX1_readNot := goodIn_r _ [0, 1, 2, 3, 4, 5, 6, 7, 8, 9, 10, 11, 12, 13, 14, 15, 16, 17, 18, 19, 20, 21, 22, 23, 24, 25, 26, 27, 28, 29, 30, 31, 32, 33, 34, 35, 36, 37, 38, 39, 40, 41, 42, 43, 44, 45, 46, 47, 48, 49, 50, 51, 52, 53, 54, 55, 56, 57, 58, 59, 60, 61, 62, 63, 64, 65, 66, 67, 68, 69, 70, 71, 72, 73, 74, 75, 76, 77, 78, 79, 80, 81, 82, 83, 84, 85, 86, 87, 88, 89, 90, 91, 92, 93, 94, 95, 96, 97, 98, 99, 100, 101, 102, 103, 104, 105, 106, 107, 108, 109, 110, 111, 112, 113, 114, 115, 116, 117, 118, 119, 120, 121, 122, 123, 124, 125, 126, 127, 128, 129, 130, 131, 132, 133, 134, 135, 136, 137, 138, 139, 140, 141, 142, 143, 144, 145, 146, 147, 148, 149, 150, 151, 152, 153, 154, 155, 156, 157, 158, 159, 160, 161, 162, 163, 164, 165, 166, 167, 168, 169, 170, 171, 172, 173, 174, 175, 176, 177, 178, 179, 180, 181, 182, 183, 184, 185, 186, 187, 188] (by decide +kernel) (by decide +kernel)
set_option maxRecDepth 20000 in
theorem gX1_readNot_X1_readNot : GoodIn wsX1_readNot (wsV RX1 62 RX1 yX1_readNot wsX1_readNot) := goodIn_app (goodIn_of _ (by decide +kernel)) ggX1_readNot_X1_readNot
set_option maxRecDepth 20000 in
theorem ggX1_readNot_X3_write : GoodIn wsX1_readNot wsX3_write := goodIn_r _ [153, 154, 155, 156, 184, 185, 186, 187, 188] (by decide +kernel) (by decide +kernel)
set_option maxRecDepth 20000 in
theorem gX1_readNot_X3_write : GoodIn wsX1_readNot (wsV RX1 59 RX3 yX3_write wsX3_write) := goodIn_app (goodIn_of _ (by decide +kernel)) ggX1_readNot_X3_write
set_option maxRecDepth 20000 in
theorem ggX1_readNot_X1_readSum : GoodIn wsX1_readNot wsX1_readSum := goodIn_r _ [172, 1, 2, 173, 174, 175, 6, 3, 4, 5, 7, 8, 9, 10, 11, 12, 13, 14, 15, 16, 17, 18, 19, 20, 21, 22, 23, 24, 25, 26, 27, 28, 29, 30, 31, 32, 33, 34, 35, 36, 37, 38, 39, 40, 41, 42, 43, 44, 45, 46, 47, 48, 49, 50, 51, 52, 53, 54, 55, 56, 57, 58, 59, 60, 61, 62, 63, 64, 65, 66, 67, 68, 69, 70, 71, 72, 73, 74, 75, 76, 77, 78, 79, 80, 81, 82, 83, 84, 85, 86, 87, 88, 89, 90, 91, 92, 93, 94, 95, 96, 97, 98, 99, 100, 101, 102, 103, 104, 105, 106, 107, 108, 109, 110, 111, 112, 113, 114, 115, 116, 117, 118, 119, 120, 121, 122, 123, 124, 125, 126, 127, 128, 129, 130, 131, 132, 133, 134, 135, 136, 137, 138, 139, 140, 141, 142, 143, 144, 145, 149, 150, 151, 152, 153, 154, 155, 156, 160, 146, 147, 148, 0, 157, 158, 159, 161, 162, 163, 164, 165, 166, 167, 168, 169, 170, 171, 176, 177, 178, 179, 180, 181, 182, 183, 184, 185, 186, 187, 188] (by decide +kernel) (by decide +kernel)
set_option maxRecDepth 20000 in
theorem gX1_readNot_X1_readSum : GoodIn wsX1_readNot (wsV RX1 65 RX1 yX1_readSum wsX1_readSum) := goodIn_app (goodIn_of _ (by decide +kernel)) ggX1_readNot_X1_readSum
set_option maxRecDepth 20000 in
theorem ggX1_readSum_X1_readTerm : GoodIn wsX1_readSum wsX1_readTerm := goodIn_r _ [176, 1, 2, 166, 167, 168, 6, 7, 8, 9, 10, 11, 12, 13, 14, 15, 16, 17, 18, 19, 20, 21, 22, 23, 24, 25, 26, 27, 28, 29, 30, 31, 32, 33, 34, 35, 36, 37, 38, 39, 40, 41, 42, 43, 44, 45, 46, 47, 48, 49, 50, 51, 52, 53, 54, 55, 56, 57, 58, 59, 60, 61, 62, 63, 64, 65, 66, 67, 68, 69, 70, 71, 72, 73, 74, 75, 76, 77, 78, 79, 80, 81, 82, 83, 84, 85, 86, 87, 88, 89, 90, 91, 92, 93, 94, 95, 96, 97, 98, 99, 100, 101, 102, 103, 104, 105, 106, 107, 108, 109, 110, 111, 112, 113, 114, 115, 116, 117, 118, 119, 120, 121, 122, 123, 124, 125, 126, 127, 128, 129, 130, 131, 132, 133, 134, 135, 136, 137, 138, 139, 140, 141, 142, 143, 144, 145, 146, 147, 148, 149, 150, 151, 152, 153, 154, 155, 156, 157, 158, 159, 160, 161, 162, 163, 164, 165, 169, 170, 171, 172, 173, 174, 175, 0, 3, 4, 5, 177, 178, 179, 180, 181, 182, 183, 184, 185, 186, 187, 188] (by decide +kernel) (by decide +kernel)
set_option maxRecDepth 20000 in
theorem gX1_readSum_X1_readTerm : GoodIn wsX1_readSum (wsV RX1 68 RX1 yX1_readTerm wsX1_readTerm) := goodIn_app (goodIn_of _ (by decide +kernel)) ggX1_readSum_X1_readTerm
set_option maxRecDepth 20000 in
theorem ggX1_readSum_X1_next : GoodIn wsX1_readSum wsX1_next := goodIn_r _ [10, 11, 12, 13, 14, 1, 15, 16, 17, 6, 18, 19, 20, 21, 22, 23, 24, 25, 26, 27, 28, 29, 30, 31, 32, 33, 34, 35, 36, 37, 38, 39, 40, 41, 42, 43, 44, 45, 46, 47, 48, 49, 50, 51, 52, 53, 54, 55, 56, 57, 58, 59, 60, 61, 62, 63, 64, 65, 66, 67, 68, 69, 70, 71, 72, 73, 74, 75, 76, 77, 78, 79, 80, 81, 82, 83, 84, 85, 86, 87, 88, 89, 90, 91, 92, 93, 94, 95, 96, 97, 98, 99, 100, 101, 102, 103, 104, 105, 106, 107, 108, 109, 110, 111, 112, 113, 114, 115, 116, 117, 118, 119, 120, 121, 122, 123, 124, 125, 126, 127, 128, 129, 130, 131, 132, 133, 134, 135, 136, 137, 138, 139, 140, 141, 142, 143, 144, 145, 146, 147, 148, 177, 178, 179, 180, 181, 182, 183] (by decide +kernel) (by decide +kernel)
set_option maxRecDepth 20000 in
theorem gX1_readSum_X1_next : GoodIn wsX1_readSum (wsV RX1 42 RX1 yX1_next wsX1_next) := goodIn_app (goodIn_of _ (by decide +kernel)) ggX1_readSum_X1_next
set_option maxRecDepth 20000 in
theorem ggX1_readSum_X3_write : GoodIn wsX1_readSum wsX3_write := goodIn_r _ [153, 154, 155, 156, 184, 185, 186, 187, 188] (by decide +kernel) (by decide +kernel)
set_option maxRecDepth 20000 in
theorem gX1_readSum_X3_write : GoodIn wsX1_readSum (wsV RX1 59 RX3 yX3_write wsX3_write) := goodIn_app (goodIn_of _ (by decide +kernel)) ggX1_readSum_X3_write
set_option maxRecDepth 20000 in
theorem ggX1_readTerm_X1_readOne : GoodIn wsX1_readTerm wsX1_readOne := goodIn_r _ [165, 1, 2, 23, 149, 150, 151, 152, 153, 154, 155, 156, 7, 8, 9, 6, 10, 11, 12, 13, 14, 15, 16, 17, 18, 19, 20, 21, 22, 24, 25, 26, 27, 28, 29, 30, 31, 32, 33, 34, 35, 36, 37, 38, 39, 40, 41, 42, 43, 44, 45, 46, 47, 48, 49, 50, 51, 52, 53, 54, 55, 56, 57, 58, 59, 60, 61, 62, 63, 64, 65, 66, 67, 68, 69, 70, 71, 72, 73, 74, 75, 76, 77, 78, 79, 80, 81, 82, 83, 84, 85, 86, 87, 88, 89, 90, 91, 92, 93, 94, 95, 96, 97, 98, 99, 100, 101, 102, 103, 104, 105, 106, 107, 108, 109, 110, 111, 112, 113, 114, 115, 116, 117, 118, 119, 120, 121, 122, 123, 124, 125, 126, 127, 128, 129, 130, 131, 132, 133, 134, 135, 136, 137, 138, 139, 140, 141, 142, 143, 144, 145, 146, 147, 148, 3, 4, 5, 166, 167, 168, 157, 158, 159, 160, 161, 162, 163, 164, 169, 170, 171, 172, 173, 174, 175, 176, 0, 177, 178, 179, 180, 181, 182, 183, 184, 185, 186, 187, 188] (by decide +kernel) (by decide +kernel)
set_option maxRecDepth 20000 in
theorem gX1_readTerm_X1_readOne : GoodIn wsX1_readTerm (wsV RX1 71 RX1 yX1_readOne wsX1_readOne) := goodIn_app (goodIn_of _ (by decide +kernel)) ggX1_readTerm_X1_readOne
set_option maxRecDepth 20000 in
theorem ggX1_readTerm_X1_next : GoodIn wsX1_readTerm wsX1_next := goodIn_r _ [10, 11, 12, 13, 14, 1, 15, 16, 17, 6, 18, 19, 20, 21, 22, 23, 24, 25, 26, 27, 28, 29, 30, 31, 32, 33, 34, 35, 36, 37, 38, 39, 40, 41, 42, 43, 44, 45, 46, 47, 48, 49, 50, 51, 52, 53, 54, 55, 56, 57, 58, 59, 60, 61, 62, 63, 64, 65, 66, 67, 68, 69, 70, 71, 72, 73, 74, 75, 76, 77, 78, 79, 80, 81, 82, 83, 84, 85, 86, 87, 88, 89, 90, 91, 92, 93, 94, 95, 96, 97, 98, 99, 100, 101, 102, 103, 104, 105, 106, 107, 108, 109, 110, 111, 112, 113, 114, 115, 116, 117, 118, 119, 120, 121, 122, 123, 124, 125, 126, 127, 128, 129, 130, 131, 132, 133, 134, 135, 136, 137, 138, 139, 140, 141, 142, 143, 144, 145, 146, 147, 148, 177, 178, 179, 180, 181, 182, 183] (by decide +kernel) (by decide +kernel)
set_option maxRecDepth 20000 in
theorem gX1_readTerm_X1_next : GoodIn wsX1_readTerm (wsV RX1 42 RX1 yX1_next wsX1_next) := goodIn_app (goodIn_of _ (by decide +kernel)) ggX1_readTerm_X1_next
set_option maxRecDepth 20000 in
theorem ggX1_readTerm_X3_write : GoodIn wsX1_readTerm wsX3_write := goodIn_r _ [153, 154, 155, 156, 184, 185, 186, 187, 188] (by decide +kernel) (by decide +kernel)
set_option maxRecDepth 20000 in
theorem gX1_readTerm_X3_write : GoodIn wsX1_readTerm (wsV RX1 59 RX3 yX3_write wsX3_write) := goodIn_app (goodIn_of _ (by decide +kernel)) ggX1_readTerm_X3_write
set_option maxRecDepth 20000 in
theorem ggX1_readOne_X3_write : GoodIn wsX1_readOne wsX3_write := goodIn_r _ [8, 9, 10, 11, 184, 185, 186, 187, 188] (by decide +kernel) (by decide +kernel)
set_option maxRecDepth 20000 in
theorem gX1_readOne_X3_write : GoodIn wsX1_readOne (wsV RX1 59 RX3 yX3_write wsX3_write) := goodIn_app (goodIn_of _ (by decide +kernel)) ggX1_readOne_X3_write
set_option maxRecDepth 20000 in
theorem ggX1_readOne_X1_next : GoodIn wsX1_readOne wsX1_next := goodIn_r _ [16, 17, 18, 19, 20, 1, 21, 22, 23, 15, 24, 25, 26, 27, 28, 3, 29, 30, 31, 32, 33, 34, 35, 36, 37, 38, 39, 40, 41, 42, 43, 44, 45, 46, 47, 48, 49, 50, 51, 52, 53, 54, 55, 56, 57, 58, 59, 60, 61, 62, 63, 64, 65, 66, 67, 68, 69, 70, 71, 72, 73, 74, 75, 76, 77, 78, 79, 80, 81, 82, 83, 84, 85, 86, 87, 88, 89, 90, 91, 92, 93, 94, 95, 96, 97, 98, 99, 100, 101, 102, 103, 104, 105, 106, 107, 108, 109, 110, 111, 112, 113, 114, 115, 116, 117, 118, 119, 120, 121, 122, 123, 124, 125, 126, 127, 128, 129, 130, 131, 132, 133, 134, 135, 136, 137, 138, 139, 140, 141, 142, 143, 144, 145, 146, 147, 148, 149, 150, 151, 152, 153, 177, 178, 179, 180, 181, 182, 183] (by decide +kernel) (by decide +kernel)
set_option maxRecDepth 20000 in
theorem gX1_readOne_X1_next : GoodIn wsX1_readOne (wsV RX1 42 RX1 yX1_next wsX1_next) := goodIn_app (goodIn_of _ (by decide +kernel)) ggX1_readOne_X1_next
set_option maxRecDepth 20000 in
theorem ggX1_readOne_X1_readOne : GoodIn wsX1_readOne wsX1_readOne := goodIn_r _ [0, 1, 2, 3, 4, 5, 6, 7, 8, 9, 10, 11, 12, 13, 14, 15, 16, 17, 18, 19, 20, 21, 22, 23, 24, 25, 26, 27, 28, 29, 30, 31, 32, 33, 34, 35, 36, 37, 38, 39, 40, 41, 42, 43, 44, 45, 46, 47, 48, 49, 50, 51, 52, 53, 54, 55, 56, 57, 58, 59, 60, 61, 62, 63, 64, 65, 66, 67, 68, 69, 70, 71, 72, 73, 74, 75, 76, 77, 78, 79, 80, 81, 82, 83, 84, 85, 86, 87, 88, 89, 90, 91, 92, 93, 94, 95, 96, 97, 98, 99, 100, 101, 102, 103, 104, 105, 106, 107, 108, 109, 110, 111, 112, 113, 114, 115, 116, 117, 118, 119, 120, 121, 122, 123, 124, 125, 126, 127, 128, 129, 130, 131, 132, 133, 134, 135, 136, 137, 138, 139, 140, 141, 142, 143, 144, 145, 146, 147, 148, 149, 150, 151, 152, 153, 154, 155, 156, 157, 158, 159, 160, 161, 162, 163, 164, 165, 166, 167, 168, 169, 170, 171, 172, 173, 174, 175, 176, 177, 178, 179, 180, 181, 182, 183, 184, 185, 186, 187, 188] (by decide +kernel) (by decide +kernel)
set_option maxRecDepth 20000 in
theorem gX1_readOne_X1_readOne : GoodIn wsX1_readOne (wsV RX1 71 RX1 yX1_readOne wsX1_readOne) := goodIn_app (goodIn_of _ (by decide +kernel)) ggX1_readOne_X1_readOne
set_option maxRecDepth 20000 in
theorem ggX1_readOne_X1_readOr : GoodIn wsX1_readOne wsX1_readOr := goodIn_r _ [168, 1, 2, 169, 170, 171, 15, 12, 13, 14, 16, 17, 18, 19, 20, 21, 22, 23, 24, 25, 26, 27, 28, 3, 29, 30, 31, 32, 33, 34, 35, 36, 37, 38, 39, 40, 41, 42, 43, 44, 45, 46, 47, 48, 49, 50, 51, 52, 53, 54, 55, 56, 57, 58, 59, 60, 61, 62, 63, 64, 65, 66, 67, 68, 69, 70, 71, 72, 73, 74, 75, 76, 77, 78, 79, 80, 81, 82, 83, 84, 85, 86, 87, 88, 89, 90, 91, 92, 93, 94, 95, 96, 97, 98, 99, 100, 101, 102, 103, 104, 105, 106, 107, 108, 109, 110, 111, 112, 113, 114, 115, 116, 117, 118, 119, 120, 121, 122, 123, 124, 125, 126, 127, 128, 129, 130, 131, 132, 133, 134, 135, 136, 137, 138, 139, 140, 141, 142, 143, 144, 145, 146, 147, 148, 149, 150, 151, 152, 153, 4, 5, 6, 7, 8, 9, 10, 11, 160, 161, 162, 163, 164, 165, 166, 167, 0, 154, 155, 156, 157, 158, 159, 172, 173, 174, 175, 176, 177, 178, 179, 180, 181, 182, 183, 184, 185, 186, 187, 188] (by decide +kernel) (by decide +kernel)
set_option maxRecDepth 20000 in
theorem gX1_readOne_X1_readOr : GoodIn wsX1_readOne (wsV RX1 48 RX1 yX1_readOr wsX1_readOr) := goodIn_app (goodIn_of _ (by decide +kernel)) ggX1_readOne_X1_readOr
set_option maxRecDepth 20000 in
theorem ggX1_next_X1_isLetter : GoodIn wsX1_next wsX1_isLetter := goodIn_r _ [10, 3, 141, 142, 143, 144, 145, 146, 147] (by decide +kernel) (by decide +kernel)
set_option maxRecDepth 20000 in
theorem gX1_next_X1_isLetter : GoodIn wsX1_next (wsV RX1 77 RX1 yX1_isLetter wsX1_isLetter) := goodIn_app (goodIn_of _ (by decide +kernel)) ggX1_next_X1_isLetter
set_option maxRecDepth 20000 in
theorem ggX1_next_X1_nextWord : GoodIn wsX1_next wsX1_nextWord := goodIn_r _ [14, 1, 2, 5, 15, 6, 7, 8, 9, 10, 3, 16, 17, 18, 19, 20, 21, 22, 4, 23, 24, 25, 26, 27, 28, 29, 30, 31, 32, 33, 34, 35, 36, 37, 38, 39, 40, 41, 42, 43, 44, 45, 46, 47, 48, 49, 50, 51, 52, 53, 54, 55, 56, 57, 58, 59, 60, 61, 62, 63, 64, 65, 66, 67, 68, 69, 70, 71, 141, 142, 143, 144, 145, 146, 147] (by decide +kernel) (by decide +kernel)
set_option maxRecDepth 20000 in
theorem gX1_next_X1_nextWord : GoodIn wsX1_next (wsV RX1 80 RX1 yX1_nextWord wsX1_nextWord) := goodIn_app (goodIn_of _ (by decide +kernel)) ggX1_next_X1_nextWord
set_option maxRecDepth 20000 in
theorem ggX1_next_X1_isDigit : GoodIn wsX1_next wsX1_isDigit := goodIn_r _ [75, 3, 141, 142, 143, 144, 145, 146, 147] (by decide +kernel) (by decide +kernel)
set_option maxRecDepth 20000 in
theorem gX1_next_X1_isDigit : GoodIn wsX1_next (wsV RX1 83 RX1 yX1_isDigit wsX1_isDigit) := goodIn_app (goodIn_of _ (by decide +kernel)) ggX1_next_X1_isDigit
set_option maxRecDepth 20000 in
theorem ggX1_next_X1_nextNumber : GoodIn wsX1_next wsX1_nextNumber := goodIn_r _ [79, 15, 1, 2, 3, 4, 5, 72, 73, 74, 9, 75, 141, 142, 143, 144, 145, 146, 147] (by decide +kernel) (by decide +kernel)
set_option maxRecDepth 20000 in
theorem gX1_next_X1_nextNumber : GoodIn wsX1_next (wsV RX1 86 RX1 yX1_nextNumber wsX1_nextNumber) := goodIn_app (goodIn_of _ (by decide +kernel)) ggX1_next_X1_nextNumber
set_option maxRecDepth 20000 in
theorem ggX1_next_J0_indexOf_0f7a4 : GoodIn wsX1_next wsJ0_indexOf_0f7a4 := goodIn_r _ [83, 84, 85, 86, 26, 87, 28, 39, 40, 41, 42, 33, 34, 88, 24, 25, 27, 29, 30, 31, 32, 89, 90, 45, 91, 92, 93, 94, 95, 96, 97, 98, 99, 100, 101, 102, 103, 104, 105, 106, 57, 107, 108, 109, 110, 111, 112, 113, 114, 115, 116, 62, 63, 64, 117, 118, 119, 50, 120, 121, 53, 122, 123, 124, 125, 66, 67, 68, 69, 70, 71, 126, 127, 128, 129, 130, 131, 132, 133, 134, 135, 136, 137, 138, 139, 140] (by decide +kernel) (by decide +kernel)
set_option maxRecDepth 20000 in
theorem gX1_next_J0_indexOf_0f7a4 : GoodIn wsX1_next (wsV RX1 91 RJ0 yJ0_indexOf_0f7a4 wsJ0_indexOf_0f7a4) := goodIn_app (goodIn_of _ (by decide +kernel)) ggX1_next_J0_indexOf_0f7a4
set_option maxRecDepth 20000 in
theorem ggX1_nextWord_X1_isLetter : GoodIn wsX1_nextWord wsX1_isLetter := goodIn_r _ [9, 10, 68, 69, 70, 71, 72, 73, 74] (by decide +kernel) (by decide +kernel)
set_option maxRecDepth 20000 in
theorem gX1_nextWord_X1_isLetter : GoodIn wsX1_nextWord (wsV RX1 77 RX1 yX1_isLetter wsX1_isLetter) := goodIn_app (goodIn_of _ (by decide +kernel)) ggX1_nextWord_X1_isLetter
set_option maxRecDepth 20000 in
theorem ggX1_nextWord_X1_word : GoodIn wsX1_nextWord wsX1_word := goodIn_r _ [13] (by decide +kernel) (by decide +kernel)
set_option maxRecDepth 20000 in
theorem gX1_nextWord_X1_word : GoodIn wsX1_nextWord (va_wsS RX1 97 yX1_word wsX1_word) := goodIn_app (goodIn_of _ (by decide +kernel)) ggX1_nextWord_X1_word
set_option maxRecDepth 20000 in
theorem ggX1_nextWord_X1_isSpelled : GoodIn wsX1_nextWord wsX1_isSpelled := goodIn_r _ [17, 1, 18, 10, 19, 20, 21, 22, 23, 24, 25, 26, 27, 28, 29, 30, 31, 32, 33, 34, 35, 36, 37, 38, 39, 40, 41, 42, 43, 44, 45, 46, 47, 48, 49, 50, 51, 52, 53, 54, 55, 56, 57, 58, 59, 60, 61, 62, 63, 64, 65, 66, 67, 68, 69, 70, 71, 72, 73, 74] (by decide +kernel) (by decide +kernel)
set_option maxRecDepth 20000 in
theorem gX1_nextWord_X1_isSpelled : GoodIn wsX1_nextWord (wsV RX1 101 RX1 yX1_isSpelled wsX1_isSpelled) := goodIn_app (goodIn_of _ (by decide +kernel)) ggX1_nextWord_X1_isSpelled
set_option maxRecDepth 20000 in
theorem ggX1_nextNumber_X1_isDigit : GoodIn wsX1_nextNumber wsX1_isDigit := goodIn_r _ [11, 4, 12, 13, 14, 15, 16, 17, 18] (by decide +kernel) (by decide +kernel)
set_option maxRecDepth 20000 in
theorem gX1_nextNumber_X1_isDigit : GoodIn wsX1_nextNumber (wsV RX1 83 RX1 yX1_isDigit wsX1_isDigit) := goodIn_app (goodIn_of _ (by decide +kernel)) ggX1_nextNumber_X1_isDigit
set_option maxRecDepth 20000 in
theorem ggX1_isSpelled_J0_length_8abf5 : GoodIn wsX1_isSpelled wsJ0_length_8abf5 := goodIn_r _ [8, 9, 10, 11, 12, 7, 13, 14, 15] (by decide +kernel) (by decide +kernel)
set_option maxRecDepth 20000 in
theorem gX1_isSpelled_J0_length_8abf5 : GoodIn wsX1_isSpelled (wsV RX1 105 RJ0 yJ0_length_8abf5 wsJ0_length_8abf5) := goodIn_app (goodIn_of _ (by decide +kernel)) ggX1_isSpelled_J0_length_8abf5
set_option maxRecDepth 20000 in
theorem ggX1_isSpelled_J0_charAt_5068e : GoodIn wsX1_isSpelled wsJ0_charAt_5068e := goodIn_r _ [19, 9, 20, 21, 22, 7, 23, 14, 15, 24, 25, 26, 27, 28, 29, 30, 31, 32, 33, 34, 35, 36, 37, 38, 39, 40, 41, 42, 43, 44, 45, 46, 47, 48, 49, 50, 51, 52] (by decide +kernel) (by decide +kernel)
set_option maxRecDepth 20000 in
theorem gX1_isSpelled_J0_charAt_5068e : GoodIn wsX1_isSpelled (wsV RX1 107 RJ0 yJ0_charAt_5068e wsJ0_charAt_5068e) := goodIn_app (goodIn_of _ (by decide +kernel)) ggX1_isSpelled_J0_charAt_5068e
set_option maxRecDepth 20000 in
theorem ggX2_init_J7_fill_53178 : GoodIn wsX2_init wsJ7_fill_53178 := goodIn_r _ [12] (by decide +kernel) (by decide +kernel)
set_option maxRecDepth 20000 in
theorem gX2_init_J7_fill_53178 : GoodIn wsX2_init (va_wsS RX2 23 yJ7_fill_53178 wsJ7_fill_53178) := goodIn_app (goodIn_of _ (by decide +kernel)) ggX2_init_J7_fill_53178
set_option maxRecDepth 20000 in
theorem ggX2_isSheet_X5_within : GoodIn wsX2_isSheet wsX5_within := goodIn_r _ [3] (by decide +kernel) (by decide +kernel)
set_option maxRecDepth 20000 in
theorem gX2_isSheet_X5_within_n29 : GoodIn wsX2_isSheet (wsX5_within) := ggX2_isSheet_X5_within
set_option maxRecDepth 20000 in
theorem ggX2_become_J7_fill_53178 : GoodIn wsX2_become wsJ7_fill_53178 := goodIn_r _ [7] (by decide +kernel) (by decide +kernel)
set_option maxRecDepth 20000 in
theorem gX2_become_J7_fill_53178 : GoodIn wsX2_become (va_wsS RX2 23 yJ7_fill_53178 wsJ7_fill_53178) := goodIn_app (goodIn_of _ (by decide +kernel)) ggX2_become_J7_fill_53178
set_option maxRecDepth 20000 in
theorem ggX3_value_X3_one : GoodIn wsX3_value wsX3_one := goodIn_r _ [8] (by decide +kernel) (by decide +kernel)
set_option maxRecDepth 20000 in
theorem gX3_value_X3_one : GoodIn wsX3_value (va_wsS RX3 32 yX3_one wsX3_one) := goodIn_app (goodIn_of _ (by decide +kernel)) ggX3_value_X3_one
set_option maxRecDepth 20000 in
theorem ggX3_value_X3_two : GoodIn wsX3_value wsX3_two := goodIn_r _ [11] (by decide +kernel) (by decide +kernel)
set_option maxRecDepth 20000 in
theorem gX3_value_X3_two : GoodIn wsX3_value (va_wsS RX3 36 yX3_two wsX3_two) := goodIn_app (goodIn_of _ (by decide +kernel)) ggX3_value_X3_two
set_option maxRecDepth 20000 in
theorem ggX4_solve_J6_bitCount_0f7a4 : GoodIn wsX4_solve wsJ6_bitCount_0f7a4 := goodIn_r _ [6, 7, 8, 9] (by decide +kernel) (by decide +kernel)
set_option maxRecDepth 20000 in
theorem gX4_solve_J6_bitCount_0f7a4 : GoodIn wsX4_solve (va_wsS RX4 20 yJ6_bitCount_0f7a4 wsJ6_bitCount_0f7a4) := goodIn_app (goodIn_of _ (by decide +kernel)) ggX4_solve_J6_bitCount_0f7a4
set_option maxRecDepth 20000 in
theorem ggX4_chosen_J6_bitCount_0f7a4 : GoodIn wsX4_chosen wsJ6_bitCount_0f7a4 := goodIn_r _ [6, 7, 8, 9] (by decide +kernel) (by decide +kernel)
set_option maxRecDepth 20000 in
theorem gX4_chosen_J6_bitCount_0f7a4 : GoodIn wsX4_chosen (va_wsS RX4 20 yJ6_bitCount_0f7a4 wsJ6_bitCount_0f7a4) := goodIn_app (goodIn_of _ (by decide +kernel)) ggX4_chosen_J6_bitCount_0f7a4
set_option maxRecDepth 20000 in
theorem ggX4_digits_X4_chosen : GoodIn wsX4_digits wsX4_chosen := goodIn_r _ [5, 6, 7, 8, 9, 10, 11, 12, 13, 14, 15, 16] (by decide +kernel) (by decide +kernel)
set_option maxRecDepth 20000 in
theorem gX4_digits_X4_chosen : GoodIn wsX4_digits (wsV RX4 26 RX4 yX4_chosen wsX4_chosen) := goodIn_app (goodIn_of _ (by decide +kernel)) ggX4_digits_X4_chosen
set_option maxRecDepth 20000 in
theorem ggX5_init_X3_init : GoodIn wsX5_init wsX3_init := goodIn_r _ [27, 28, 2, 3, 29, 30, 31, 32, 33, 269, 270, 271, 272, 273] (by decide +kernel) (by decide +kernel)
set_option maxRecDepth 20000 in
theorem gX5_init_X3_init_n9 : GoodIn wsX5_init (wsX3_init) := ggX5_init_X3_init
set_option maxRecDepth 20000 in
theorem ggX5_init_X1_init : GoodIn wsX5_init wsX1_init := goodIn_r _ [36, 37, 2, 3, 30, 38, 39, 282, 283, 284, 285, 286, 287, 288] (by decide +kernel) (by decide +kernel)
set_option maxRecDepth 20000 in
theorem gX5_init_X1_init : GoodIn wsX5_init (wsX1_init) := ggX5_init_X1_init
set_option maxRecDepth 20000 in
theorem ggX5_init_X0_init : GoodIn wsX5_init wsX0_init := goodIn_r _ [42, 43, 2, 3, 30, 44, 45, 46, 47, 48, 49, 50, 51, 52, 289, 290, 291, 292, 293, 294, 295, 296, 297, 298, 299, 300] (by decide +kernel) (by decide +kernel)
set_option maxRecDepth 20000 in
theorem gX5_init_X0_init : GoodIn wsX5_init (wsX0_init) := ggX5_init_X0_init
set_option maxRecDepth 20000 in
theorem ggX5_init_X2_init : GoodIn wsX5_init wsX2_init := goodIn_r _ [55, 56, 2, 3, 57, 30, 58, 59, 60, 61, 62, 63, 64, 301, 302, 303] (by decide +kernel) (by decide +kernel)
set_option maxRecDepth 20000 in
theorem gX5_init_X2_init : GoodIn wsX5_init (wsX2_init) := ggX5_init_X2_init
set_option maxRecDepth 20000 in
theorem ggX5_init_X4_init : GoodIn wsX5_init wsX4_init := goodIn_r _ [66, 67, 2, 3, 68, 30, 69, 70, 304, 305] (by decide +kernel) (by decide +kernel)
set_option maxRecDepth 20000 in
theorem gX5_init_X4_init_n47 : GoodIn wsX5_init (wsX4_init) := ggX5_init_X4_init
set_option maxRecDepth 20000 in
theorem ggX5_init_J0_length_8abf5 : GoodIn wsX5_init wsJ0_length_8abf5 := goodIn_r _ [75, 76, 77, 78, 79, 74, 80, 81, 82] (by decide +kernel) (by decide +kernel)
set_option maxRecDepth 20000 in
theorem gX5_init_J0_length_8abf5 : GoodIn wsX5_init (wsV RX5 54 RJ0 yJ0_length_8abf5 wsJ0_length_8abf5) := goodIn_app (goodIn_of _ (by decide +kernel)) ggX5_init_J0_length_8abf5
set_option maxRecDepth 20000 in
theorem ggX5_init_J0_charAt_5068e : GoodIn wsX5_init wsJ0_charAt_5068e := goodIn_r _ [86, 76, 87, 88, 89, 74, 90, 81, 82, 91, 92, 93, 94, 95, 96, 97, 98, 99, 100, 101, 102, 103, 104, 105, 106, 107, 108, 109, 110, 111, 112, 113, 114, 115, 116, 117, 118, 119] (by decide +kernel) (by decide +kernel)
set_option maxRecDepth 20000 in
theorem gX5_init_J0_charAt_5068e : GoodIn wsX5_init (wsV RX5 60 RJ0 yJ0_charAt_5068e wsJ0_charAt_5068e) := goodIn_app (goodIn_of _ (by decide +kernel)) ggX5_init_J0_charAt_5068e
set_option maxRecDepth 20000 in
theorem ggX5_init_X1_add : GoodIn wsX5_init wsX1_add := goodIn_r _ [123, 124, 38, 282, 283, 284, 285, 286, 287, 288] (by decide +kernel) (by decide +kernel)
set_option maxRecDepth 20000 in
theorem gX5_init_X1_add : GoodIn wsX5_init (wsV RX5 64 RX1 yX1_add wsX1_add) := goodIn_app (goodIn_of _ (by decide +kernel)) ggX5_init_X1_add
set_option maxRecDepth 20000 in
theorem ggX5_init_X1_read : GoodIn wsX5_init wsX1_read := goodIn_r _ [128, 129, 39, 124, 130, 131, 132, 133, 6, 134, 135, 136, 137, 138, 10, 139, 140, 141, 142, 143, 144, 38, 145, 146, 147, 148, 149, 150, 151, 152, 153, 154, 155, 156, 157, 158, 159, 160, 161, 72, 73, 74, 75, 76, 77, 78, 79, 80, 81, 82, 162, 84, 85, 86, 87, 88, 89, 90, 91, 92, 93, 94, 95, 96, 97, 98, 99, 100, 101, 102, 103, 104, 105, 106, 107, 108, 109, 110, 111, 112, 113, 114, 115, 116, 117, 118, 119, 163, 164, 165, 166, 167, 168, 169, 170, 171, 172, 173, 174, 175, 176, 177, 178, 179, 180, 181, 182, 183, 184, 185, 186, 187, 188, 189, 190, 191, 192, 193, 194, 195, 196, 197, 198, 199, 200, 201, 202, 203, 204, 205, 206, 207, 208, 209, 210, 211, 212, 213, 214, 215, 216, 217, 218, 219, 220, 221, 222, 223, 224, 225, 226, 227, 228, 229, 230, 231, 232, 233, 234, 235, 236, 237, 238, 239, 240, 241, 242, 243, 31, 244, 245, 246, 247, 248, 249, 250, 251, 252, 253, 254, 255, 256, 257, 258, 259, 260, 261, 262, 263, 264, 32, 265, 266, 267, 268, 282, 283, 284, 285, 286, 287, 288, 269, 270, 271, 272, 273] (by decide +kernel) (by decide +kernel)
set_option maxRecDepth 20000 in
theorem gX5_init_X1_read : GoodIn wsX5_init (wsV RX5 68 RX1 yX1_read wsX1_read) := goodIn_app (goodIn_of _ (by decide +kernel)) ggX5_init_X1_read
set_option maxRecDepth 20000 in
theorem ggX5_judge_X5_within : GoodIn wsX5_judge wsX5_within := goodIn_r _ [5] (by decide +kernel) (by decide +kernel)
set_option maxRecDepth 20000 in
theorem gX5_judge_X5_within : GoodIn wsX5_judge (va_wsS RX5 86 yX5_within wsX5_within) := goodIn_app (goodIn_of _ (by decide +kernel)) ggX5_judge_X5_within
set_option maxRecDepth 20000 in
theorem ggX5_judge_X0_addJudge : GoodIn wsX5_judge wsX0_addJudge := goodIn_r _ [10, 11, 12, 13, 14, 23, 24, 25, 26, 27, 28, 29, 30, 31, 32, 33, 34] (by decide +kernel) (by decide +kernel)
set_option maxRecDepth 20000 in
theorem gX5_judge_X0_addJudge : GoodIn wsX5_judge (wsV RX5 90 RX0 yX0_addJudge wsX0_addJudge) := goodIn_app (goodIn_of _ (by decide +kernel)) ggX5_judge_X0_addJudge
set_option maxRecDepth 20000 in
theorem ggX5_shoe_X0_hasJudge : GoodIn wsX5_shoe wsX0_hasJudge := goodIn_r _ [8, 9, 22, 23, 24, 25, 26, 27, 28, 29, 30, 31, 32, 33] (by decide +kernel) (by decide +kernel)
set_option maxRecDepth 20000 in
theorem gX5_shoe_X0_hasJudge : GoodIn wsX5_shoe (wsV RX5 94 RX0 yX0_hasJudge wsX0_hasJudge) := goodIn_app (goodIn_of _ (by decide +kernel)) ggX5_shoe_X0_hasJudge
set_option maxRecDepth 20000 in
theorem ggX5_shoe_X5_within : GoodIn wsX5_shoe wsX5_within := goodIn_r _ [13] (by decide +kernel) (by decide +kernel)
set_option maxRecDepth 20000 in
theorem gX5_shoe_X5_within : GoodIn wsX5_shoe (va_wsS RX5 86 yX5_within wsX5_within) := goodIn_app (goodIn_of _ (by decide +kernel)) ggX5_shoe_X5_within
set_option maxRecDepth 20000 in
theorem ggX5_bench_X0_hasJudge : GoodIn wsX5_bench wsX0_hasJudge := goodIn_r _ [9, 10, 19, 20, 21, 22, 23, 24, 25, 26, 27, 28, 29, 30] (by decide +kernel) (by decide +kernel)
set_option maxRecDepth 20000 in
theorem gX5_bench_X0_hasJudge : GoodIn wsX5_bench (wsV RX5 94 RX0 yX0_hasJudge wsX0_hasJudge) := goodIn_app (goodIn_of _ (by decide +kernel)) ggX5_bench_X0_hasJudge
set_option maxRecDepth 20000 in
theorem ggX5_feed_X5_isByte : GoodIn wsX5_feed wsX5_isByte := goodIn_r _ [6, 7, 8, 5, 9] (by decide +kernel) (by decide +kernel)
set_option maxRecDepth 20000 in
theorem gX5_feed_X5_isByte : GoodIn wsX5_feed (va_wsS RX5 108 yX5_isByte wsX5_isByte) := goodIn_app (goodIn_of _ (by decide +kernel)) ggX5_feed_X5_isByte
set_option maxRecDepth 20000 in
theorem ggX5_feed_X1_add : GoodIn wsX5_feed wsX1_add := goodIn_r _ [14, 15, 16, 25, 26, 27, 28, 29, 30, 31] (by decide +kernel) (by decide +kernel)
set_option maxRecDepth 20000 in
theorem gX5_feed_X1_add : GoodIn wsX5_feed (wsV RX5 64 RX1 yX1_add wsX1_add) := goodIn_app (goodIn_of _ (by decide +kernel)) ggX5_feed_X1_add
set_option maxRecDepth 20000 in
theorem ggX5_text_X1_read : GoodIn wsX5_text wsX1_read := goodIn_r _ [8, 9, 10, 11, 12, 13, 14, 15, 16, 17, 18, 19, 20, 21, 7, 22, 23, 24, 25, 26, 27, 28, 29, 30, 31, 32, 33, 34, 35, 36, 37, 38, 39, 40, 41, 42, 43, 44, 45, 46, 47, 48, 49, 50, 51, 52, 53, 54, 55, 56, 57, 58, 59, 60, 61, 62, 63, 64, 65, 66, 67, 68, 69, 70, 71, 72, 73, 74, 75, 76, 77, 78, 79, 80, 81, 82, 83, 84, 85, 86, 87, 88, 89, 90, 91, 92, 93, 94, 95, 96, 97, 98, 99, 100, 101, 102, 103, 104, 105, 106, 107, 108, 109, 110, 111, 112, 113, 114, 115, 116, 117, 118, 119, 120, 121, 122, 123, 124, 125, 126, 127, 128, 129, 130, 131, 132, 133, 134, 135, 136, 137, 138, 139, 140, 141, 142, 143, 144, 145, 146, 147, 148, 149, 150, 151, 152, 153, 154, 155, 156, 157, 158, 159, 160, 161, 162, 163, 164, 165, 166, 167, 168, 169, 170, 171, 172, 173, 174, 175, 176, 177, 178, 179, 180, 181, 182, 183, 184, 185, 186, 187, 188, 189, 190, 191, 192, 193, 194, 195, 196, 197, 198, 199, 200, 201, 215, 216, 217, 218, 219, 220, 221, 210, 211, 212, 213, 214] (by decide +kernel) (by decide +kernel)
set_option maxRecDepth 20000 in
theorem gX5_text_X1_read : GoodIn wsX5_text (wsV RX5 68 RX1 yX1_read wsX1_read) := goodIn_app (goodIn_of _ (by decide +kernel)) ggX5_text_X1_read
set_option maxRecDepth 20000 in
theorem ggX5_asks_X5_within : GoodIn wsX5_asks wsX5_within := goodIn_r _ [5] (by decide +kernel) (by decide +kernel)
set_option maxRecDepth 20000 in
theorem gX5_asks_X5_within : GoodIn wsX5_asks (va_wsS RX5 86 yX5_within wsX5_within) := goodIn_app (goodIn_of _ (by decide +kernel)) ggX5_asks_X5_within
set_option maxRecDepth 20000 in
theorem ggX5_asks_X0_hasJudge : GoodIn wsX5_asks wsX0_hasJudge := goodIn_r _ [10, 11, 59, 60, 61, 62, 63, 64, 65, 66, 67, 68, 69, 70] (by decide +kernel) (by decide +kernel)
set_option maxRecDepth 20000 in
theorem gX5_asks_X0_hasJudge : GoodIn wsX5_asks (wsV RX5 94 RX0 yX0_hasJudge wsX0_hasJudge) := goodIn_app (goodIn_of _ (by decide +kernel)) ggX5_asks_X0_hasJudge
set_option maxRecDepth 20000 in
theorem ggX5_asks_X0_hasPebble : GoodIn wsX5_asks wsX0_hasPebble := goodIn_r _ [15, 16, 59, 60, 61, 62, 63, 64, 65, 66, 67, 68, 69, 70] (by decide +kernel) (by decide +kernel)
set_option maxRecDepth 20000 in
theorem gX5_asks_X0_hasPebble : GoodIn wsX5_asks (wsV RX5 111 RX0 yX0_hasPebble wsX0_hasPebble) := goodIn_app (goodIn_of _ (by decide +kernel)) ggX5_asks_X0_hasPebble
set_option maxRecDepth 20000 in
theorem ggX5_asks_X0_says : GoodIn wsX5_asks wsX0_says := goodIn_r _ [20, 21, 22, 23, 24, 25, 26, 27, 28, 29, 30, 31, 32, 33, 34, 35, 36, 37, 38, 39, 40, 41, 42, 43, 44, 45, 46, 47, 48, 49, 50, 59, 60, 61, 62, 63, 64, 65, 66, 67, 68, 69, 70, 71, 72, 73, 74, 75] (by decide +kernel) (by decide +kernel)
set_option maxRecDepth 20000 in
theorem gX5_asks_X0_says : GoodIn wsX5_asks (wsV RX5 114 RX0 yX0_says wsX0_says) := goodIn_app (goodIn_of _ (by decide +kernel)) ggX5_asks_X0_says
set_option maxRecDepth 20000 in
theorem ggX5_pebble_X5_within : GoodIn wsX5_pebble wsX5_within := goodIn_r _ [5] (by decide +kernel) (by decide +kernel)
set_option maxRecDepth 20000 in
theorem gX5_pebble_X5_within : GoodIn wsX5_pebble (va_wsS RX5 86 yX5_within wsX5_within) := goodIn_app (goodIn_of _ (by decide +kernel)) ggX5_pebble_X5_within
set_option maxRecDepth 20000 in
theorem ggX5_pebble_X0_addPebble : GoodIn wsX5_pebble wsX0_addPebble := goodIn_r _ [10, 11, 12, 13, 14, 15, 24, 25, 26, 27, 28, 29, 30, 31, 32, 33, 34, 35] (by decide +kernel) (by decide +kernel)
set_option maxRecDepth 20000 in
theorem gX5_pebble_X0_addPebble : GoodIn wsX5_pebble (wsV RX5 118 RX0 yX0_addPebble wsX0_addPebble) := goodIn_app (goodIn_of _ (by decide +kernel)) ggX5_pebble_X0_addPebble
set_option maxRecDepth 20000 in
theorem ggX5_put_X0_hasPebble : GoodIn wsX5_put wsX0_hasPebble := goodIn_r _ [8, 9, 22, 23, 24, 25, 26, 27, 28, 29, 30, 31, 32, 33] (by decide +kernel) (by decide +kernel)
set_option maxRecDepth 20000 in
theorem gX5_put_X0_hasPebble : GoodIn wsX5_put (wsV RX5 111 RX0 yX0_hasPebble wsX0_hasPebble) := goodIn_app (goodIn_of _ (by decide +kernel)) ggX5_put_X0_hasPebble
set_option maxRecDepth 20000 in
theorem ggX5_put_X5_within : GoodIn wsX5_put wsX5_within := goodIn_r _ [13] (by decide +kernel) (by decide +kernel)
set_option maxRecDepth 20000 in
theorem gX5_put_X5_within : GoodIn wsX5_put (va_wsS RX5 86 yX5_within wsX5_within) := goodIn_app (goodIn_of _ (by decide +kernel)) ggX5_put_X5_within
set_option maxRecDepth 20000 in
theorem ggX5_told_X0_hasPebble : GoodIn wsX5_told wsX0_hasPebble := goodIn_r _ [10, 11, 27, 28, 29, 30, 31, 32, 33, 34, 35, 36, 37, 38] (by decide +kernel) (by decide +kernel)
set_option maxRecDepth 20000 in
theorem gX5_told_X0_hasPebble : GoodIn wsX5_told (wsV RX5 111 RX0 yX0_hasPebble wsX0_hasPebble) := goodIn_app (goodIn_of _ (by decide +kernel)) ggX5_told_X0_hasPebble
set_option maxRecDepth 20000 in
theorem ggX5_told_X0_isSand : GoodIn wsX5_told wsX0_isSand := goodIn_r _ [15, 16, 17, 18, 27, 28, 29, 30, 31, 32, 33, 34, 35, 36, 37, 38] (by decide +kernel) (by decide +kernel)
set_option maxRecDepth 20000 in
theorem gX5_told_X0_isSand : GoodIn wsX5_told (wsV RX5 134 RX0 yX0_isSand wsX0_isSand) := goodIn_app (goodIn_of _ (by decide +kernel)) ggX5_told_X0_isSand
set_option maxRecDepth 20000 in
theorem ggX5_walk_X0_hasBoth : GoodIn wsX5_walk wsX0_hasBoth := goodIn_r _ [7, 8, 9, 10, 6, 11, 12, 13, 14, 15, 16, 17, 91, 92, 93, 94, 95, 96, 97, 98, 99, 100, 101, 102] (by decide +kernel) (by decide +kernel)
set_option maxRecDepth 20000 in
theorem gX5_walk_X0_hasBoth : GoodIn wsX5_walk (wsV RX5 137 RX0 yX0_hasBoth wsX0_hasBoth) := goodIn_app (goodIn_of _ (by decide +kernel)) ggX5_walk_X0_hasBoth
set_option maxRecDepth 20000 in
theorem ggX5_walk_X5_within : GoodIn wsX5_walk wsX5_within := goodIn_r _ [21] (by decide +kernel) (by decide +kernel)
set_option maxRecDepth 20000 in
theorem gX5_walk_X5_within : GoodIn wsX5_walk (va_wsS RX5 86 yX5_within wsX5_within) := goodIn_app (goodIn_of _ (by decide +kernel)) ggX5_walk_X5_within
set_option maxRecDepth 20000 in
theorem ggX5_walk_X0_go : GoodIn wsX5_walk wsX0_go := goodIn_r _ [25, 26, 27, 28, 6, 29, 30, 31, 32, 33, 34, 35, 36, 37, 38, 39, 40, 41, 42, 43, 44, 45, 46, 47, 48, 49, 50, 51, 52, 53, 54, 55, 56, 57, 58, 59, 60, 61, 62, 63, 64, 65, 66, 67, 68, 69, 70, 71, 72, 73, 74, 75, 76, 77, 78, 79, 80, 81, 82, 91, 92, 93, 94, 95, 96, 97, 98, 99, 100, 101, 102, 103, 104, 105, 106, 107] (by decide +kernel) (by decide +kernel)
set_option maxRecDepth 20000 in
theorem gX5_walk_X0_go : GoodIn wsX5_walk (wsV RX5 140 RX0 yX0_go wsX0_go) := goodIn_app (goodIn_of _ (by decide +kernel)) ggX5_walk_X0_go
set_option maxRecDepth 20000 in
theorem ggX5_hear_X0_hasBoth : GoodIn wsX5_hear wsX0_hasBoth := goodIn_r _ [8, 9, 10, 11, 7, 12, 13, 14, 15, 16, 17, 18, 113, 114, 115, 116, 117, 118, 119, 120, 121, 122, 123, 124] (by decide +kernel) (by decide +kernel)
set_option maxRecDepth 20000 in
theorem gX5_hear_X0_hasBoth : GoodIn wsX5_hear (wsV RX5 137 RX0 yX0_hasBoth wsX0_hasBoth) := goodIn_app (goodIn_of _ (by decide +kernel)) ggX5_hear_X0_hasBoth
set_option maxRecDepth 20000 in
theorem ggX5_hear_X5_within : GoodIn wsX5_hear wsX5_within := goodIn_r _ [22] (by decide +kernel) (by decide +kernel)
set_option maxRecDepth 20000 in
theorem gX5_hear_X5_within : GoodIn wsX5_hear (va_wsS RX5 86 yX5_within wsX5_within) := goodIn_app (goodIn_of _ (by decide +kernel)) ggX5_hear_X5_within
set_option maxRecDepth 20000 in
theorem ggX5_hear_X5_think : GoodIn wsX5_hear wsX5_think := goodIn_r _ [26, 2, 1, 27, 28, 29, 7, 30, 31, 32, 33, 34, 35, 36, 37, 38, 39, 40, 41, 13, 18, 42, 105, 106, 107, 108, 109, 110, 111, 112, 113, 114, 115, 116, 117, 118, 119, 120, 121, 122, 123, 124] (by decide +kernel) (by decide +kernel)
set_option maxRecDepth 20000 in
theorem gX5_hear_X5_think : GoodIn wsX5_hear (wsV RX5 143 RX5 yX5_think wsX5_think) := goodIn_app (goodIn_of _ (by decide +kernel)) ggX5_hear_X5_think
set_option maxRecDepth 20000 in
theorem ggX5_hear_X0_go : GoodIn wsX5_hear wsX0_go := goodIn_r _ [46, 47, 48, 49, 7, 50, 37, 51, 52, 53, 54, 55, 40, 56, 57, 58, 59, 60, 61, 62, 38, 39, 63, 64, 65, 66, 67, 41, 31, 36, 68, 42, 69, 70, 71, 72, 73, 74, 75, 76, 77, 78, 79, 80, 81, 82, 83, 84, 85, 86, 87, 88, 89, 90, 91, 92, 93, 94, 95, 113, 114, 115, 116, 117, 118, 119, 120, 121, 122, 123, 124, 125, 126, 127, 128, 129] (by decide +kernel) (by decide +kernel)
set_option maxRecDepth 20000 in
theorem gX5_hear_X0_go : GoodIn wsX5_hear (wsV RX5 140 RX0 yX0_go wsX0_go) := goodIn_app (goodIn_of _ (by decide +kernel)) ggX5_hear_X0_go
set_option maxRecDepth 20000 in
theorem ggX5_hear_X5_outcome : GoodIn wsX5_hear wsX5_outcome := goodIn_r _ [99, 2, 100, 101, 102, 103, 7, 104, 63, 64, 65, 66, 67, 40, 41, 31, 36, 39, 68, 42, 52, 53, 54, 55, 56, 57, 58, 69, 70, 71, 72, 73, 74, 75, 76, 77, 78, 79, 80, 81, 82, 83, 105, 106, 107, 108, 109, 110, 111, 112, 113, 114, 115, 116, 117, 118, 119, 120, 121, 122, 123, 124, 125, 126, 127, 128, 129] (by decide +kernel) (by decide +kernel)
set_option maxRecDepth 20000 in
theorem gX5_hear_X5_outcome : GoodIn wsX5_hear (wsV RX5 146 RX5 yX5_outcome wsX5_outcome) := goodIn_app (goodIn_of _ (by decide +kernel)) ggX5_hear_X5_outcome
set_option maxRecDepth 20000 in
theorem ggX5_fewest_X0_hasBoth : GoodIn wsX5_fewest wsX0_hasBoth := goodIn_r _ [6, 7, 8, 9, 5, 10, 11, 12, 13, 14, 15, 16, 107, 108, 109, 110, 111, 112, 113, 114, 115, 116, 117, 118] (by decide +kernel) (by decide +kernel)
set_option maxRecDepth 20000 in
theorem gX5_fewest_X0_hasBoth : GoodIn wsX5_fewest (wsV RX5 137 RX0 yX0_hasBoth wsX0_hasBoth) := goodIn_app (goodIn_of _ (by decide +kernel)) ggX5_fewest_X0_hasBoth
set_option maxRecDepth 20000 in
theorem ggX5_fewest_X5_guiltyBits : GoodIn wsX5_fewest wsX5_guiltyBits := goodIn_r _ [21, 22, 23, 24, 25, 20, 26, 1, 27, 28, 29, 5, 30, 31, 32, 33, 34, 35, 36, 37, 38, 39, 40, 41, 11, 16, 42, 43, 44, 45, 46, 47, 48, 49, 50, 51, 52, 53, 54, 55, 56, 57, 58, 59, 60, 61, 62, 63, 64, 65, 66, 67, 68, 69, 70, 71, 72, 73, 74, 75, 76, 77, 78, 79, 80, 81, 82, 83, 84, 85, 86, 87, 88, 89, 90, 91, 92, 93, 94, 95, 99, 100, 101, 102, 103, 104, 105, 106, 107, 108, 109, 110, 111, 112, 113, 114, 115, 116, 117, 118, 119, 120, 121, 122, 123] (by decide +kernel) (by decide +kernel)
set_option maxRecDepth 20000 in
theorem gX5_fewest_X5_guiltyBits : GoodIn wsX5_fewest (wsV RX5 150 RX5 yX5_guiltyBits wsX5_guiltyBits) := goodIn_app (goodIn_of _ (by decide +kernel)) ggX5_fewest_X5_guiltyBits
set_option maxRecDepth 20000 in
theorem ggX5_fewest_X5_leastBit : GoodIn wsX5_fewest wsX5_leastBit := goodIn_r _ [98] (by decide +kernel) (by decide +kernel)
set_option maxRecDepth 20000 in
theorem gX5_fewest_X5_leastBit : GoodIn wsX5_fewest (va_wsS RX5 154 yX5_leastBit wsX5_leastBit) := goodIn_app (goodIn_of _ (by decide +kernel)) ggX5_fewest_X5_leastBit
set_option maxRecDepth 20000 in
theorem ggX5_sand_X0_hasBoth : GoodIn wsX5_sand wsX0_hasBoth := goodIn_r _ [7, 8, 9, 10, 6, 11, 12, 13, 14, 15, 16, 17, 97, 98, 99, 100, 101, 102, 103, 104, 105, 106, 107, 108] (by decide +kernel) (by decide +kernel)
set_option maxRecDepth 20000 in
theorem gX5_sand_X0_hasBoth : GoodIn wsX5_sand (wsV RX5 137 RX0 yX0_hasBoth wsX0_hasBoth) := goodIn_app (goodIn_of _ (by decide +kernel)) ggX5_sand_X0_hasBoth
set_option maxRecDepth 20000 in
theorem ggX5_sand_X5_think : GoodIn wsX5_sand wsX5_think := goodIn_r _ [22, 2, 1, 23, 24, 25, 6, 26, 27, 28, 29, 30, 31, 32, 33, 34, 35, 36, 37, 12, 17, 38, 89, 90, 91, 92, 93, 94, 95, 96, 97, 98, 99, 100, 101, 102, 103, 104, 105, 106, 107, 108] (by decide +kernel) (by decide +kernel)
set_option maxRecDepth 20000 in
theorem gX5_sand_X5_think : GoodIn wsX5_sand (wsV RX5 143 RX5 yX5_think wsX5_think) := goodIn_app (goodIn_of _ (by decide +kernel)) ggX5_sand_X5_think
set_option maxRecDepth 20000 in
theorem ggX5_sand_X0_isSand : GoodIn wsX5_sand wsX0_isSand := goodIn_r _ [42, 34, 36, 35, 97, 98, 99, 100, 101, 102, 103, 104, 105, 106, 107, 108] (by decide +kernel) (by decide +kernel)
set_option maxRecDepth 20000 in
theorem gX5_sand_X0_isSand : GoodIn wsX5_sand (wsV RX5 134 RX0 yX0_isSand wsX0_isSand) := goodIn_app (goodIn_of _ (by decide +kernel)) ggX5_sand_X0_isSand
