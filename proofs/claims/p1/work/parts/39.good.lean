set_option maxRecDepth 20000 in
theorem ggL_law_X5_init : GoodIn wsL_law wsX5_init := goodIn_r _ [8, 9, 10, 11, 12, 13, 14, 15, 16, 17, 18, 19, 20, 21, 22, 23, 24, 25, 26, 27, 28, 29, 30, 31, 32, 33, 34, 35, 36, 37, 38, 39, 40, 41, 42, 43, 44, 45, 46, 47, 48, 49, 50, 51, 52, 53, 54, 55, 56, 57, 58, 59, 60, 61, 62, 63, 64, 65, 66, 67, 68, 69, 70, 71, 72, 73, 74, 75, 76, 77, 78, 79, 80, 81, 82, 83, 84, 85, 86, 87, 88, 89, 90, 91, 92, 93, 94, 95, 96, 97, 98, 99, 100, 101, 102, 103, 104, 105, 106, 107, 108, 109, 110, 111, 112, 113, 114, 115, 116, 117, 118, 119, 120, 121, 122, 123, 124, 125, 126, 127, 128, 129, 130, 131, 132, 133, 134, 135, 136, 137, 138, 139, 140, 141, 142, 143, 144, 145, 146, 147, 148, 149, 150, 151, 152, 153, 154, 155, 156, 157, 158, 159, 160, 161, 162, 163, 164, 165, 166, 167, 168, 169, 170, 171, 172, 173, 174, 175, 176, 177, 178, 179, 180, 181, 182, 183, 184, 185, 186, 187, 188, 189, 190, 191, 192, 193, 194, 195, 196, 197, 198, 199, 200, 201, 202, 203, 204, 205, 206, 207, 208, 209, 210, 211, 212, 213, 214, 215, 216, 217, 218, 219, 220, 221, 222, 223, 224, 225, 226, 227, 228, 229, 230, 231, 232, 233, 234, 235, 236, 237, 238, 239, 240, 241, 242, 243, 244, 245, 246, 247, 248, 249, 250, 251, 252, 253, 254, 255, 256, 257, 258, 259, 260, 261, 262, 263, 264, 265, 266, 267, 268, 269, 270, 271, 272, 273, 274, 275, 276, 1026, 1027, 1028, 1029, 1030, 976, 977, 978, 979, 980, 981, 982, 983, 1031, 1032, 1033, 1034, 1035, 1036, 1037, 1038, 1039, 1040, 1041, 1042, 1043, 1044, 1045, 1046, 1047, 1048, 1049, 1050, 1051, 1052, 1053, 1054] (by decide +kernel) (by decide +kernel)
set_option maxRecDepth 20000 in
theorem gL_law_X5_init : GoodIn wsL_law (wsX5_init) := ggL_law_X5_init
set_option maxRecDepth 20000 in
theorem ggL_law_X6_init : GoodIn wsL_law wsX6_init := goodIn_r _ [279, 280, 10, 11, 38, 281, 282, 283, 284, 285, 286, 287, 288, 289, 290, 291, 292, 293, 294, 295, 296, 297, 298, 299, 300, 301, 302, 303, 304, 305, 306, 307, 308, 5, 309, 310, 311, 312, 313, 314, 315, 316, 317, 318, 319, 320, 321, 322, 323, 324, 325, 326, 327, 328, 329, 330, 331, 332, 333, 334, 335, 336, 337, 338, 339, 340, 341, 342, 343, 344, 345, 346, 347, 348, 349, 350, 351, 352, 353, 354, 355, 356, 357, 358, 359, 360, 984, 985, 986, 987, 988, 989, 990, 991, 992, 993, 994, 995, 996, 997, 998, 999, 1000, 1001, 1002, 1003, 1004, 1005, 1006, 1007, 1008, 1009, 1010, 1011, 1012, 1013, 1014, 1015, 1016, 1017, 1018, 1019, 1020, 1021, 1022, 1023, 1024, 1025] (by decide +kernel) (by decide +kernel)
set_option maxRecDepth 20000 in
theorem gL_law_X6_init : GoodIn wsL_law (wsX6_init) := ggL_law_X6_init
set_option maxRecDepth 20000 in
theorem ggL_law_X5_count : GoodIn wsL_law wsX5_count := goodIn_r _ [364, 23, 365, 366, 15, 367, 368, 19, 369, 976, 977, 978, 979, 980, 981, 982, 983, 1038, 1039, 1040, 1041, 1042, 1043, 1044, 1045, 1046, 1047, 1048, 1049, 1026, 1027, 1028, 1029, 1030, 1031, 1032, 1033, 1034, 1035, 1036, 1037] (by decide +kernel) (by decide +kernel)
set_option maxRecDepth 20000 in
theorem gL_law_X5_count : GoodIn wsL_law (wsV RL 13 RX5 yX5_count wsX5_count) := goodIn_app (goodIn_of _ (by decide +kernel)) ggL_law_X5_count
set_option maxRecDepth 20000 in
theorem ggL_law_X6_count : GoodIn wsL_law wsX6_count := goodIn_r _ [373, 374, 375, 310, 376, 305, 984, 985, 986, 987, 988, 989, 990, 991, 992, 993, 994, 995, 996, 997, 998, 999, 1000, 1001, 1002, 1003, 1004, 1005, 1006, 1007, 1008, 1009, 1010, 1011, 1012, 1013, 1014, 1015, 1016, 1017, 1018, 1019, 1020, 1021, 1022, 1023, 1024, 1025] (by decide +kernel) (by decide +kernel)
set_option maxRecDepth 20000 in
theorem gL_law_X6_count : GoodIn wsL_law (wsV RL 17 RX6 yX6_count wsX6_count) := goodIn_app (goodIn_of _ (by decide +kernel)) ggL_law_X6_count
set_option maxRecDepth 20000 in
theorem ggL_law_X5_judge : GoodIn wsL_law wsX5_judge := goodIn_r _ [380, 23, 381, 382, 2, 383, 384, 385, 386, 22, 387, 388, 53, 54, 55, 976, 977, 978, 979, 980, 981, 982, 983, 1038, 1039, 1040, 1041, 1042, 1043, 1044, 1045, 1046, 1047, 1048, 1049] (by decide +kernel) (by decide +kernel)
set_option maxRecDepth 20000 in
theorem gL_law_X5_judge : GoodIn wsL_law (wsV RL 18 RX5 yX5_judge wsX5_judge) := goodIn_app (goodIn_of _ (by decide +kernel)) ggL_law_X5_judge
set_option maxRecDepth 20000 in
theorem ggL_law_X6_judge : GoodIn wsL_law wsX6_judge := goodIn_r _ [392, 375, 284, 320, 321, 5, 322, 984, 985, 986, 987, 988, 989, 990, 991, 992, 993, 994, 995, 996, 997, 998, 999, 1000, 1001, 1002, 1003, 1004, 1005, 1006, 1007, 1008, 1009, 1010, 1011, 1012, 1013, 1014, 1015, 1016, 1017, 1018, 1019, 1020, 1021, 1022, 1023, 1024, 1025] (by decide +kernel) (by decide +kernel)
set_option maxRecDepth 20000 in
theorem gL_law_X6_judge : GoodIn wsL_law (wsV RL 21 RX6 yX6_judge wsX6_judge) := goodIn_app (goodIn_of _ (by decide +kernel)) ggL_law_X6_judge
set_option maxRecDepth 20000 in
theorem ggL_law_X5_shoe : GoodIn wsL_law wsX5_shoe := goodIn_r _ [396, 23, 397, 398, 399, 400, 401, 22, 402, 388, 381, 382, 2, 383, 976, 977, 978, 979, 980, 981, 982, 983, 1038, 1039, 1040, 1041, 1042, 1043, 1044, 1045, 1046, 1047, 1048, 1049] (by decide +kernel) (by decide +kernel)
set_option maxRecDepth 20000 in
theorem gL_law_X5_shoe : GoodIn wsL_law (wsV RL 22 RX5 yX5_shoe wsX5_shoe) := goodIn_app (goodIn_of _ (by decide +kernel)) ggL_law_X5_shoe
set_option maxRecDepth 20000 in
theorem ggL_law_X6_shoe : GoodIn wsL_law wsX6_shoe := goodIn_r _ [406, 284, 407, 408, 409, 5, 410, 375, 320, 321, 322, 984, 985, 986, 987, 988, 989, 990, 991, 992, 993, 994, 995, 996, 997, 998, 999, 1000, 1001, 1002, 1003, 1004, 1005, 1006, 1007, 1008, 1009, 1010, 1011, 1012, 1013, 1014, 1015, 1016, 1017, 1018, 1019, 1020, 1021, 1022, 1023, 1024, 1025] (by decide +kernel) (by decide +kernel)
set_option maxRecDepth 20000 in
theorem gL_law_X6_shoe : GoodIn wsL_law (wsV RL 26 RX6 yX6_shoe wsX6_shoe) := goodIn_app (goodIn_of _ (by decide +kernel)) ggL_law_X6_shoe
set_option maxRecDepth 20000 in
theorem ggL_law_X5_bench : GoodIn wsL_law wsX5_bench := goodIn_r _ [414, 23, 397, 398, 415, 399, 400, 401, 22, 402, 388, 976, 977, 978, 979, 980, 981, 982, 983, 1038, 1039, 1040, 1041, 1042, 1043, 1044, 1045, 1046, 1047, 1048, 1049] (by decide +kernel) (by decide +kernel)
set_option maxRecDepth 20000 in
theorem gL_law_X5_bench : GoodIn wsL_law (wsV RL 27 RX5 yX5_bench wsX5_bench) := goodIn_app (goodIn_of _ (by decide +kernel)) ggL_law_X5_bench
set_option maxRecDepth 20000 in
theorem ggL_law_X6_bench : GoodIn wsL_law wsX6_bench := goodIn_r _ [419, 284, 407, 408, 409, 5, 410, 375, 320, 321, 322, 984, 985, 986, 987, 988, 989, 990, 991, 992, 993, 994, 995, 996, 997, 998, 999, 1000, 1001, 1002, 1003, 1004, 1005, 1006, 1007, 1008, 1009, 1010, 1011, 1012, 1013, 1014, 1015, 1016, 1017, 1018, 1019, 1020, 1021, 1022, 1023, 1024, 1025] (by decide +kernel) (by decide +kernel)
set_option maxRecDepth 20000 in
theorem gL_law_X6_bench : GoodIn wsL_law (wsV RL 31 RX6 yX6_bench wsX6_bench) := goodIn_app (goodIn_of _ (by decide +kernel)) ggL_law_X6_bench
set_option maxRecDepth 20000 in
theorem ggL_law_X5_feed : GoodIn wsL_law wsX5_feed := goodIn_r _ [423, 19, 369, 424, 425, 2, 426, 381, 382, 383, 128, 129, 130, 18, 131, 132, 46, 976, 977, 978, 979, 980, 981, 982, 983, 1031, 1032, 1033, 1034, 1035, 1036, 1037] (by decide +kernel) (by decide +kernel)
set_option maxRecDepth 20000 in
theorem gL_law_X5_feed : GoodIn wsL_law (wsV RL 32 RX5 yX5_feed wsX5_feed) := goodIn_app (goodIn_of _ (by decide +kernel)) ggL_law_X5_feed
set_option maxRecDepth 20000 in
theorem ggL_law_X6_feed : GoodIn wsL_law wsX6_feed := goodIn_r _ [430, 305, 285, 320, 321, 5, 322, 431, 432, 433, 984, 985, 986, 987, 988, 989, 990, 991, 992, 993, 994, 995, 996, 997, 998, 999, 1000, 1001, 1002, 1003, 1004, 1005, 1006, 1007, 1008, 1009, 1010, 1011, 1012, 1013, 1014, 1015, 1016, 1017, 1018, 1019, 1020, 1021, 1022, 1023, 1024, 1025] (by decide +kernel) (by decide +kernel)
set_option maxRecDepth 20000 in
theorem gL_law_X6_feed : GoodIn wsL_law (wsV RL 36 RX6 yX6_feed wsX6_feed) := goodIn_app (goodIn_of _ (by decide +kernel)) ggL_law_X6_feed
set_option maxRecDepth 20000 in
theorem ggL_law_X5_text : GoodIn wsL_law wsX5_text := goodIn_r _ [437, 15, 367, 19, 133, 134, 135, 18, 136, 137, 47, 132, 138, 139, 140, 141, 14, 142, 143, 144, 145, 146, 147, 148, 149, 150, 151, 152, 46, 153, 154, 155, 156, 157, 158, 159, 160, 161, 162, 163, 164, 165, 166, 167, 168, 169, 80, 81, 82, 83, 84, 85, 86, 87, 88, 89, 90, 170, 92, 93, 94, 95, 96, 97, 98, 99, 100, 101, 102, 103, 104, 105, 106, 107, 108, 109, 110, 111, 112, 113, 114, 115, 116, 117, 118, 119, 120, 121, 122, 123, 124, 125, 126, 127, 171, 172, 173, 174, 175, 176, 177, 178, 179, 180, 181, 182, 183, 184, 185, 186, 187, 188, 189, 190, 191, 192, 193, 194, 195, 196, 197, 198, 199, 200, 201, 202, 203, 204, 205, 206, 207, 208, 209, 210, 211, 212, 213, 214, 215, 216, 217, 218, 219, 220, 221, 222, 223, 224, 225, 226, 227, 228, 229, 230, 231, 232, 233, 234, 235, 236, 237, 238, 239, 240, 241, 242, 243, 244, 245, 246, 247, 248, 249, 250, 251, 39, 252, 253, 254, 255, 256, 257, 258, 259, 260, 261, 262, 263, 264, 265, 266, 267, 268, 269, 270, 271, 272, 40, 273, 274, 275, 276, 976, 977, 978, 979, 980, 981, 982, 983, 1026, 1027, 1028, 1029, 1030, 1031, 1032, 1033, 1034, 1035, 1036, 1037] (by decide +kernel) (by decide +kernel)
set_option maxRecDepth 20000 in
theorem gL_law_X5_text : GoodIn wsL_law (wsV RL 37 RX5 yX5_text wsX5_text) := goodIn_app (goodIn_of _ (by decide +kernel)) ggL_law_X5_text
set_option maxRecDepth 20000 in
theorem ggL_law_X6_text : GoodIn wsL_law wsX6_text := goodIn_r _ [309, 310, 311, 312, 313, 314, 287, 305, 315, 316, 317, 318, 5, 319, 285, 320, 321, 322, 323, 324, 325, 326, 294, 327, 328, 329, 330, 331, 332, 333, 334, 335, 336, 337, 286, 338, 339, 340, 341, 295, 342, 343, 344, 345, 346, 347, 348, 349, 350, 351, 352, 353, 354, 355, 356, 357, 358, 359, 360, 984, 985, 986, 987, 988, 989, 990, 991, 992, 993, 994, 995, 996, 997, 998, 999, 1000, 1001, 1002, 1003, 1004, 1005, 1006, 1007, 1008, 1009, 1010, 1011, 1012, 1013, 1014, 1015, 1016, 1017, 1018, 1019, 1020, 1021, 1022, 1023, 1024, 1025] (by decide +kernel) (by decide +kernel)
set_option maxRecDepth 20000 in
theorem gL_law_X6_text : GoodIn wsL_law (wsV RL 41 RX6 yX6_text wsX6_text) := goodIn_app (goodIn_of _ (by decide +kernel)) ggL_law_X6_text
set_option maxRecDepth 20000 in
theorem ggL_law_X5_force : GoodIn wsL_law wsX5_force := goodIn_r _ [442, 15, 367, 23, 368, 976, 977, 978, 979, 980, 981, 982, 983, 1026, 1027, 1028, 1029, 1030, 1038, 1039, 1040, 1041, 1042, 1043, 1044, 1045, 1046, 1047, 1048, 1049] (by decide +kernel) (by decide +kernel)
set_option maxRecDepth 20000 in
theorem gL_law_X5_force : GoodIn wsL_law (wsV RL 42 RX5 yX5_force wsX5_force) := goodIn_app (goodIn_of _ (by decide +kernel)) ggL_law_X5_force
set_option maxRecDepth 20000 in
theorem ggL_law_X6_force : GoodIn wsL_law wsX6_force := goodIn_r _ [446, 310, 376, 320, 321, 5, 322, 984, 985, 986, 987, 988, 989, 990, 991, 992, 993, 994, 995, 996, 997, 998, 999, 1000, 1001, 1002, 1003, 1004, 1005, 1006, 1007, 1008, 1009, 1010, 1011, 1012, 1013, 1014, 1015, 1016, 1017, 1018, 1019, 1020, 1021, 1022, 1023, 1024, 1025] (by decide +kernel) (by decide +kernel)
set_option maxRecDepth 20000 in
theorem gL_law_X6_force : GoodIn wsL_law (wsV RL 45 RX6 yX6_force wsX6_force) := goodIn_app (goodIn_of _ (by decide +kernel)) ggL_law_X6_force
set_option maxRecDepth 20000 in
theorem ggL_law_X5_asks : GoodIn wsL_law wsX5_asks := goodIn_r _ [450, 23, 381, 382, 2, 383, 399, 400, 401, 22, 402, 388, 451, 452, 453, 454, 455, 456, 457, 458, 459, 52, 58, 59, 53, 54, 57, 60, 460, 461, 196, 193, 197, 462, 192, 194, 463, 464, 465, 14, 466, 251, 40, 39, 41, 467, 468, 469, 470, 471, 472, 976, 977, 978, 979, 980, 981, 982, 983, 1038, 1039, 1040, 1041, 1042, 1043, 1044, 1045, 1046, 1047, 1048, 1049, 1026, 1027, 1028, 1029, 1030] (by decide +kernel) (by decide +kernel)
set_option maxRecDepth 20000 in
theorem gL_law_X5_asks : GoodIn wsL_law (wsV RL 46 RX5 yX5_asks wsX5_asks) := goodIn_app (goodIn_of _ (by decide +kernel)) ggL_law_X5_asks
set_option maxRecDepth 20000 in
theorem ggL_law_X6_asks : GoodIn wsL_law wsX6_asks := goodIn_r _ [476, 320, 321, 5, 322, 407, 408, 409, 410, 375, 477, 478, 479, 480, 374, 481, 482, 483, 484, 297, 283, 284, 282, 485, 486, 487, 488, 287, 376, 286, 333, 296, 489, 490, 491, 492, 493, 494, 984, 985, 986, 987, 988, 989, 990, 991, 992, 993, 994, 995, 996, 997, 998, 999, 1000, 1001, 1002, 1003, 1004, 1005, 1006, 1007, 1008, 1009, 1010, 1011, 1012, 1013, 1014, 1015, 1016, 1017, 1018, 1019, 1020, 1021, 1022, 1023, 1024, 1025] (by decide +kernel) (by decide +kernel)
set_option maxRecDepth 20000 in
theorem gL_law_X6_asks : GoodIn wsL_law (wsV RL 49 RX6 yX6_asks wsX6_asks) := goodIn_app (goodIn_of _ (by decide +kernel)) ggL_law_X6_asks
set_option maxRecDepth 20000 in
theorem ggL_law_X5_pebble : GoodIn wsL_law wsX5_pebble := goodIn_r _ [498, 23, 381, 382, 2, 383, 499, 500, 501, 22, 502, 455, 56, 57, 58, 59, 976, 977, 978, 979, 980, 981, 982, 983, 1038, 1039, 1040, 1041, 1042, 1043, 1044, 1045, 1046, 1047, 1048, 1049] (by decide +kernel) (by decide +kernel)
set_option maxRecDepth 20000 in
theorem gL_law_X5_pebble : GoodIn wsL_law (wsV RL 50 RX5 yX5_pebble wsX5_pebble) := goodIn_app (goodIn_of _ (by decide +kernel)) ggL_law_X5_pebble
set_option maxRecDepth 20000 in
theorem ggL_law_X6_pebble : GoodIn wsL_law wsX6_pebble := goodIn_r _ [506, 374, 281, 282, 283, 320, 321, 5, 322, 984, 985, 986, 987, 988, 989, 990, 991, 992, 993, 994, 995, 996, 997, 998, 999, 1000, 1001, 1002, 1003, 1004, 1005, 1006, 1007, 1008, 1009, 1010, 1011, 1012, 1013, 1014, 1015, 1016, 1017, 1018, 1019, 1020, 1021, 1022, 1023, 1024, 1025] (by decide +kernel) (by decide +kernel)
set_option maxRecDepth 20000 in
theorem gL_law_X6_pebble : GoodIn wsL_law (wsV RL 53 RX6 yX6_pebble wsX6_pebble) := goodIn_app (goodIn_of _ (by decide +kernel)) ggL_law_X6_pebble
set_option maxRecDepth 20000 in
theorem ggL_law_X5_put : GoodIn wsL_law wsX5_put := goodIn_r _ [510, 23, 511, 512, 451, 452, 453, 22, 454, 455, 381, 382, 2, 383, 976, 977, 978, 979, 980, 981, 982, 983, 1038, 1039, 1040, 1041, 1042, 1043, 1044, 1045, 1046, 1047, 1048, 1049] (by decide +kernel) (by decide +kernel)
set_option maxRecDepth 20000 in
theorem gL_law_X5_put : GoodIn wsL_law (wsV RL 54 RX5 yX5_put wsX5_put) := goodIn_app (goodIn_of _ (by decide +kernel)) ggL_law_X5_put
set_option maxRecDepth 20000 in
theorem ggL_law_X6_put : GoodIn wsL_law wsX6_put := goodIn_r _ [516, 283, 477, 478, 479, 5, 480, 374, 320, 321, 322, 984, 985, 986, 987, 988, 989, 990, 991, 992, 993, 994, 995, 996, 997, 998, 999, 1000, 1001, 1002, 1003, 1004, 1005, 1006, 1007, 1008, 1009, 1010, 1011, 1012, 1013, 1014, 1015, 1016, 1017, 1018, 1019, 1020, 1021, 1022, 1023, 1024, 1025] (by decide +kernel) (by decide +kernel)
set_option maxRecDepth 20000 in
theorem gL_law_X6_put : GoodIn wsL_law (wsV RL 57 RX6 yX6_put wsX6_put) := goodIn_app (goodIn_of _ (by decide +kernel)) ggL_law_X6_put
set_option maxRecDepth 20000 in
theorem ggL_law_X5_told : GoodIn wsL_law wsX5_told := goodIn_r _ [520, 23, 521, 522, 511, 512, 451, 452, 453, 22, 454, 455, 523, 524, 525, 526, 56, 58, 57, 976, 977, 978, 979, 980, 981, 982, 983, 1038, 1039, 1040, 1041, 1042, 1043, 1044, 1045, 1046, 1047, 1048, 1049] (by decide +kernel) (by decide +kernel)
set_option maxRecDepth 20000 in
theorem gL_law_X5_told : GoodIn wsL_law (wsV RL 58 RX5 yX5_told wsX5_told) := goodIn_app (goodIn_of _ (by decide +kernel)) ggL_law_X5_told
set_option maxRecDepth 20000 in
theorem ggL_law_X6_told : GoodIn wsL_law wsX6_told := goodIn_r _ [530, 281, 282, 283, 477, 478, 479, 5, 480, 374, 320, 321, 322, 531, 532, 533, 534, 984, 985, 986, 987, 988, 989, 990, 991, 992, 993, 994, 995, 996, 997, 998, 999, 1000, 1001, 1002, 1003, 1004, 1005, 1006, 1007, 1008, 1009, 1010, 1011, 1012, 1013, 1014, 1015, 1016, 1017, 1018, 1019, 1020, 1021, 1022, 1023, 1024, 1025] (by decide +kernel) (by decide +kernel)
set_option maxRecDepth 20000 in
theorem gL_law_X6_told : GoodIn wsL_law (wsV RL 61 RX6 yX6_told wsX6_told) := goodIn_app (goodIn_of _ (by decide +kernel)) ggL_law_X6_told
set_option maxRecDepth 20000 in
theorem ggL_law_X5_walk : GoodIn wsL_law wsX5_walk := goodIn_r _ [538, 23, 398, 539, 540, 541, 22, 542, 543, 400, 401, 402, 388, 544, 452, 453, 454, 455, 381, 382, 2, 383, 545, 546, 547, 548, 549, 550, 551, 552, 55, 553, 461, 196, 193, 197, 58, 462, 192, 194, 554, 524, 525, 526, 56, 57, 555, 457, 458, 459, 52, 59, 53, 54, 60, 460, 463, 464, 465, 14, 466, 251, 40, 39, 41, 467, 468, 469, 470, 471, 472, 556, 557, 558, 559, 560, 561, 562, 563, 564, 565, 566, 567, 976, 977, 978, 979, 980, 981, 982, 983, 1038, 1039, 1040, 1041, 1042, 1043, 1044, 1045, 1046, 1047, 1048, 1049, 1026, 1027, 1028, 1029, 1030] (by decide +kernel) (by decide +kernel)
set_option maxRecDepth 20000 in
theorem gL_law_X5_walk : GoodIn wsL_law (wsV RL 62 RX5 yX5_walk wsX5_walk) := goodIn_app (goodIn_of _ (by decide +kernel)) ggL_law_X5_walk
set_option maxRecDepth 20000 in
theorem ggL_law_X6_walk : GoodIn wsL_law wsX6_walk := goodIn_r _ [571, 284, 407, 408, 409, 5, 410, 375, 320, 321, 322, 477, 478, 479, 480, 374, 572, 573, 574, 575, 576, 577, 578, 579, 580, 581, 582, 583, 283, 531, 532, 533, 534, 281, 282, 584, 585, 586, 587, 481, 482, 483, 484, 297, 485, 486, 487, 488, 287, 376, 286, 333, 296, 489, 490, 491, 492, 493, 494, 588, 589, 590, 591, 984, 985, 986, 987, 988, 989, 990, 991, 992, 993, 994, 995, 996, 997, 998, 999, 1000, 1001, 1002, 1003, 1004, 1005, 1006, 1007, 1008, 1009, 1010, 1011, 1012, 1013, 1014, 1015, 1016, 1017, 1018, 1019, 1020, 1021, 1022, 1023, 1024, 1025] (by decide +kernel) (by decide +kernel)
set_option maxRecDepth 20000 in
theorem gL_law_X6_walk : GoodIn wsL_law (wsV RL 65 RX6 yX6_walk wsX6_walk) := goodIn_app (goodIn_of _ (by decide +kernel)) ggL_law_X6_walk
set_option maxRecDepth 20000 in
theorem ggL_law_X5_hear : GoodIn wsL_law wsX5_hear := goodIn_r _ [595, 23, 24, 397, 539, 540, 541, 22, 542, 543, 400, 401, 402, 388, 544, 452, 453, 454, 455, 381, 382, 2, 383, 596, 597, 598, 599, 600, 601, 602, 603, 53, 604, 605, 606, 607, 54, 55, 56, 57, 58, 59, 460, 545, 546, 547, 548, 549, 550, 551, 552, 553, 461, 196, 193, 197, 462, 192, 194, 554, 524, 525, 526, 555, 457, 458, 459, 52, 60, 463, 464, 465, 14, 466, 251, 40, 39, 41, 467, 468, 469, 470, 471, 472, 556, 557, 558, 559, 560, 561, 562, 563, 564, 565, 566, 567, 608, 609, 610, 611, 511, 612, 613, 614, 615, 976, 977, 978, 979, 980, 981, 982, 983, 1038, 1039, 1040, 1041, 1042, 1043, 1044, 1045, 1046, 1047, 1048, 1049, 1026, 1027, 1028, 1029, 1030] (by decide +kernel) (by decide +kernel)
set_option maxRecDepth 20000 in
theorem gL_law_X5_hear : GoodIn wsL_law (wsV RL 66 RX5 yX5_hear wsX5_hear) := goodIn_app (goodIn_of _ (by decide +kernel)) ggL_law_X5_hear
set_option maxRecDepth 20000 in
theorem ggL_law_X6_hear : GoodIn wsL_law wsX6_hear := goodIn_r _ [619, 407, 408, 409, 5, 410, 375, 320, 321, 322, 477, 478, 479, 480, 374, 572, 573, 574, 620, 621, 622, 623, 624, 283, 625, 284, 626, 627, 628, 629, 630, 631, 298, 575, 576, 577, 578, 579, 580, 581, 582, 583, 531, 532, 533, 534, 281, 282, 584, 585, 586, 587, 481, 482, 483, 484, 297, 485, 486, 487, 488, 287, 376, 286, 333, 296, 489, 490, 491, 492, 493, 494, 588, 589, 590, 591, 632, 633, 634, 635, 636, 637, 638, 639, 984, 985, 986, 987, 988, 989, 990, 991, 992, 993, 994, 995, 996, 997, 998, 999, 1000, 1001, 1002, 1003, 1004, 1005, 1006, 1007, 1008, 1009, 1010, 1011, 1012, 1013, 1014, 1015, 1016, 1017, 1018, 1019, 1020, 1021, 1022, 1023, 1024, 1025] (by decide +kernel) (by decide +kernel)
set_option maxRecDepth 20000 in
theorem gL_law_X6_hear : GoodIn wsL_law (wsV RL 70 RX6 yX6_hear wsX6_hear) := goodIn_app (goodIn_of _ (by decide +kernel)) ggL_law_X6_hear
set_option maxRecDepth 20000 in
theorem ggL_law_X5_fewest : GoodIn wsL_law wsX5_fewest := goodIn_r _ [643, 23, 539, 540, 541, 22, 542, 543, 400, 401, 402, 388, 544, 452, 453, 454, 455, 644, 645, 646, 2, 647, 24, 596, 597, 598, 599, 600, 601, 602, 603, 53, 604, 605, 606, 607, 54, 55, 56, 57, 58, 59, 460, 612, 613, 614, 615, 555, 457, 458, 459, 52, 60, 461, 196, 193, 197, 462, 192, 194, 463, 464, 465, 14, 466, 251, 40, 39, 41, 467, 468, 469, 470, 471, 472, 648, 550, 551, 552, 553, 554, 524, 525, 526, 556, 557, 558, 559, 560, 561, 562, 563, 564, 565, 566, 567, 649, 650, 651, 976, 977, 978, 979, 980, 981, 982, 983, 1038, 1039, 1040, 1041, 1042, 1043, 1044, 1045, 1046, 1047, 1048, 1049, 1026, 1027, 1028, 1029, 1030] (by decide +kernel) (by decide +kernel)
set_option maxRecDepth 20000 in
theorem gL_law_X5_fewest : GoodIn wsL_law (wsV RL 71 RX5 yX5_fewest wsX5_fewest) := goodIn_app (goodIn_of _ (by decide +kernel)) ggL_law_X5_fewest
set_option maxRecDepth 20000 in
theorem ggL_law_X6_fewest : GoodIn wsL_law wsX6_fewest := goodIn_r _ [655, 300, 407, 408, 409, 5, 410, 375, 320, 321, 322, 477, 478, 479, 480, 374, 656, 657, 658, 659, 628, 629, 630, 631, 298, 284, 283, 481, 482, 483, 484, 297, 282, 485, 486, 487, 488, 287, 376, 286, 333, 296, 489, 490, 491, 492, 493, 494, 531, 532, 533, 534, 281, 579, 580, 581, 582, 583, 584, 585, 586, 587, 588, 589, 590, 591, 632, 633, 634, 635, 984, 985, 986, 987, 988, 989, 990, 991, 992, 993, 994, 995, 996, 997, 998, 999, 1000, 1001, 1002, 1003, 1004, 1005, 1006, 1007, 1008, 1009, 1010, 1011, 1012, 1013, 1014, 1015, 1016, 1017, 1018, 1019, 1020, 1021, 1022, 1023, 1024, 1025] (by decide +kernel) (by decide +kernel)
set_option maxRecDepth 20000 in
theorem gL_law_X6_fewest : GoodIn wsL_law (wsV RL 74 RX6 yX6_fewest wsX6_fewest) := goodIn_app (goodIn_of _ (by decide +kernel)) ggL_law_X6_fewest
set_option maxRecDepth 20000 in
theorem ggL_law_X5_sand : GoodIn wsL_law wsX5_sand := goodIn_r _ [663, 23, 24, 539, 540, 541, 22, 542, 543, 400, 401, 402, 388, 544, 452, 453, 454, 455, 596, 597, 598, 2, 599, 600, 601, 602, 603, 53, 604, 605, 606, 607, 54, 55, 56, 57, 58, 59, 460, 523, 524, 525, 526, 648, 550, 551, 552, 553, 461, 196, 193, 197, 462, 192, 194, 554, 555, 457, 458, 459, 52, 60, 463, 464, 465, 14, 466, 251, 40, 39, 41, 467, 468, 469, 470, 471, 472, 556, 557, 558, 559, 560, 561, 562, 563, 564, 565, 566, 567, 976, 977, 978, 979, 980, 981, 982, 983, 1038, 1039, 1040, 1041, 1042, 1043, 1044, 1045, 1046, 1047, 1048, 1049, 1026, 1027, 1028, 1029, 1030] (by decide +kernel) (by decide +kernel)
set_option maxRecDepth 20000 in
theorem gL_law_X5_sand : GoodIn wsL_law (wsV RL 75 RX5 yX5_sand wsX5_sand) := goodIn_app (goodIn_of _ (by decide +kernel)) ggL_law_X5_sand
set_option maxRecDepth 20000 in
theorem ggL_law_X6_sand : GoodIn wsL_law wsX6_sand := goodIn_r _ [667, 407, 408, 409, 5, 410, 375, 320, 321, 322, 477, 478, 479, 480, 374, 656, 657, 658, 659, 300, 628, 629, 630, 631, 298, 284, 283, 481, 482, 483, 484, 297, 282, 485, 486, 487, 488, 287, 376, 286, 333, 296, 489, 490, 491, 492, 493, 494, 531, 532, 533, 534, 281, 579, 580, 581, 582, 583, 584, 585, 586, 587, 588, 589, 590, 591, 632, 633, 634, 635, 984, 985, 986, 987, 988, 989, 990, 991, 992, 993, 994, 995, 996, 997, 998, 999, 1000, 1001, 1002, 1003, 1004, 1005, 1006, 1007, 1008, 1009, 1010, 1011, 1012, 1013, 1014, 1015, 1016, 1017, 1018, 1019, 1020, 1021, 1022, 1023, 1024, 1025] (by decide +kernel) (by decide +kernel)
set_option maxRecDepth 20000 in
theorem gL_law_X6_sand : GoodIn wsL_law (wsV RL 78 RX6 yX6_sand wsX6_sand) := goodIn_app (goodIn_of _ (by decide +kernel)) ggL_law_X6_sand
set_option maxRecDepth 20000 in
theorem ggL_law_X5_unlike : GoodIn wsL_law wsX5_unlike := goodIn_r _ [671, 23, 539, 540, 541, 22, 542, 543, 400, 401, 402, 388, 544, 452, 453, 454, 455, 399, 644, 645, 646, 2, 647, 24, 596, 597, 598, 599, 600, 601, 602, 603, 53, 604, 605, 606, 607, 54, 55, 56, 57, 58, 59, 460, 612, 613, 614, 615, 555, 457, 458, 459, 52, 60, 461, 196, 193, 197, 462, 192, 194, 463, 464, 465, 14, 466, 251, 40, 39, 41, 467, 468, 469, 470, 471, 472, 648, 550, 551, 552, 553, 554, 524, 525, 526, 556, 557, 558, 559, 560, 561, 562, 563, 564, 565, 566, 567, 649, 650, 651, 976, 977, 978, 979, 980, 981, 982, 983, 1038, 1039, 1040, 1041, 1042, 1043, 1044, 1045, 1046, 1047, 1048, 1049, 1026, 1027, 1028, 1029, 1030] (by decide +kernel) (by decide +kernel)
set_option maxRecDepth 20000 in
theorem gL_law_X5_unlike : GoodIn wsL_law (wsV RL 79 RX5 yX5_unlike wsX5_unlike) := goodIn_app (goodIn_of _ (by decide +kernel)) ggL_law_X5_unlike
set_option maxRecDepth 20000 in
theorem ggL_law_X6_unlike : GoodIn wsL_law wsX6_unlike := goodIn_r _ [675, 301, 300, 407, 408, 409, 5, 410, 375, 320, 321, 322, 477, 478, 479, 480, 374, 656, 657, 658, 659, 628, 629, 630, 631, 298, 284, 283, 481, 482, 483, 484, 297, 282, 485, 486, 487, 488, 287, 376, 286, 333, 296, 489, 490, 491, 492, 493, 494, 531, 532, 533, 534, 281, 579, 580, 581, 582, 583, 584, 585, 586, 587, 588, 589, 590, 591, 632, 633, 634, 635, 984, 985, 986, 987, 988, 989, 990, 991, 992, 993, 994, 995, 996, 997, 998, 999, 1000, 1001, 1002, 1003, 1004, 1005, 1006, 1007, 1008, 1009, 1010, 1011, 1012, 1013, 1014, 1015, 1016, 1017, 1018, 1019, 1020, 1021, 1022, 1023, 1024, 1025] (by decide +kernel) (by decide +kernel)
set_option maxRecDepth 20000 in
theorem gL_law_X6_unlike : GoodIn wsL_law (wsV RL 82 RX6 yX6_unlike wsX6_unlike) := goodIn_app (goodIn_of _ (by decide +kernel)) ggL_law_X6_unlike
set_option maxRecDepth 20000 in
theorem ggL_law_X5_hardest : GoodIn wsL_law wsX5_hardest := goodIn_r _ [679, 23, 366, 381, 382, 2, 383, 680, 681, 682, 683, 365, 24, 596, 597, 598, 599, 600, 601, 602, 22, 603, 53, 604, 605, 606, 607, 54, 55, 56, 57, 58, 59, 388, 455, 460, 545, 546, 547, 548, 549, 550, 551, 552, 553, 461, 196, 193, 197, 462, 192, 194, 554, 524, 525, 526, 555, 457, 458, 459, 52, 60, 463, 464, 465, 14, 466, 251, 40, 39, 41, 467, 468, 469, 470, 471, 472, 556, 557, 558, 559, 560, 561, 562, 563, 564, 565, 566, 567, 612, 613, 614, 615, 976, 977, 978, 979, 980, 981, 982, 983, 1038, 1039, 1040, 1041, 1042, 1043, 1044, 1045, 1046, 1047, 1048, 1049, 1026, 1027, 1028, 1029, 1030] (by decide +kernel) (by decide +kernel)
set_option maxRecDepth 20000 in
theorem gL_law_X5_hardest : GoodIn wsL_law (wsV RL 83 RX5 yX5_hardest wsX5_hardest) := goodIn_app (goodIn_of _ (by decide +kernel)) ggL_law_X5_hardest
set_option maxRecDepth 20000 in
theorem ggL_law_X6_hardest : GoodIn wsL_law wsX6_hardest := goodIn_r _ [687, 375, 374, 627, 572, 573, 5, 574, 320, 321, 322, 620, 621, 622, 623, 624, 283, 625, 284, 626, 628, 629, 630, 631, 298, 575, 576, 577, 578, 579, 580, 581, 582, 583, 531, 532, 533, 534, 281, 282, 584, 585, 586, 587, 481, 482, 483, 484, 297, 485, 486, 487, 488, 287, 376, 286, 333, 296, 489, 490, 491, 492, 493, 494, 588, 589, 590, 591, 632, 633, 634, 635, 984, 985, 986, 987, 988, 989, 990, 991, 992, 993, 994, 995, 996, 997, 998, 999, 1000, 1001, 1002, 1003, 1004, 1005, 1006, 1007, 1008, 1009, 1010, 1011, 1012, 1013, 1014, 1015, 1016, 1017, 1018, 1019, 1020, 1021, 1022, 1023, 1024, 1025] (by decide +kernel) (by decide +kernel)
set_option maxRecDepth 20000 in
theorem gL_law_X6_hardest : GoodIn wsL_law (wsV RL 86 RX6 yX6_hardest wsX6_hardest) := goodIn_app (goodIn_of _ (by decide +kernel)) ggL_law_X6_hardest
set_option maxRecDepth 20000 in
theorem ggL_law_X5_thick : GoodIn wsL_law wsX5_thick := goodIn_r _ [691, 23, 24, 397, 539, 540, 541, 22, 542, 543, 400, 401, 402, 388, 544, 452, 453, 454, 455, 381, 382, 2, 383, 596, 597, 598, 599, 600, 601, 602, 603, 53, 604, 605, 606, 607, 54, 55, 56, 57, 58, 59, 460, 545, 546, 547, 548, 549, 550, 551, 552, 553, 461, 196, 193, 197, 462, 192, 194, 554, 524, 525, 526, 555, 457, 458, 459, 52, 60, 463, 464, 465, 14, 466, 251, 40, 39, 41, 467, 468, 469, 470, 471, 472, 556, 557, 558, 559, 560, 561, 562, 563, 564, 565, 566, 567, 612, 613, 614, 615, 976, 977, 978, 979, 980, 981, 982, 983, 1038, 1039, 1040, 1041, 1042, 1043, 1044, 1045, 1046, 1047, 1048, 1049, 1026, 1027, 1028, 1029, 1030] (by decide +kernel) (by decide +kernel)
set_option maxRecDepth 20000 in
theorem gL_law_X5_thick : GoodIn wsL_law (wsV RL 87 RX5 yX5_thick wsX5_thick) := goodIn_app (goodIn_of _ (by decide +kernel)) ggL_law_X5_thick
set_option maxRecDepth 20000 in
theorem ggL_law_X6_thick : GoodIn wsL_law wsX6_thick := goodIn_r _ [695, 284, 627, 407, 408, 409, 5, 410, 375, 320, 321, 322, 477, 478, 479, 480, 374, 572, 573, 574, 620, 621, 622, 623, 624, 283, 625, 626, 628, 629, 630, 631, 298, 575, 576, 577, 578, 579, 580, 581, 582, 583, 531, 532, 533, 534, 281, 282, 584, 585, 586, 587, 481, 482, 483, 484, 297, 485, 486, 487, 488, 287, 376, 286, 333, 296, 489, 490, 491, 492, 493, 494, 588, 589, 590, 591, 632, 633, 634, 635, 984, 985, 986, 987, 988, 989, 990, 991, 992, 993, 994, 995, 996, 997, 998, 999, 1000, 1001, 1002, 1003, 1004, 1005, 1006, 1007, 1008, 1009, 1010, 1011, 1012, 1013, 1014, 1015, 1016, 1017, 1018, 1019, 1020, 1021, 1022, 1023, 1024, 1025] (by decide +kernel) (by decide +kernel)
set_option maxRecDepth 20000 in
theorem gL_law_X6_thick : GoodIn wsL_law (wsV RL 90 RX6 yX6_thick wsX6_thick) := goodIn_app (goodIn_of _ (by decide +kernel)) ggL_law_X6_thick
set_option maxRecDepth 20000 in
theorem ggL_law_X5_order : GoodIn wsL_law wsX5_order := goodIn_r _ [699, 23, 33, 365, 399, 400, 401, 22, 402, 388, 381, 382, 2, 383, 700, 701, 702, 703, 704, 705, 706, 24, 707, 596, 597, 598, 599, 600, 601, 602, 603, 53, 604, 605, 606, 607, 54, 55, 56, 57, 58, 59, 455, 460, 708, 565, 566, 567, 461, 196, 193, 197, 545, 546, 547, 548, 549, 550, 551, 552, 553, 462, 192, 194, 554, 524, 525, 526, 555, 457, 458, 459, 52, 60, 463, 464, 465, 14, 466, 251, 40, 39, 41, 467, 468, 469, 470, 471, 472, 556, 557, 558, 559, 560, 561, 562, 563, 564, 612, 613, 614, 615, 709, 710, 711, 32, 712, 78, 77, 713, 714, 715, 716, 717, 718, 719, 720, 721, 722, 723, 724, 725, 726, 727, 728, 729, 730, 731, 976, 977, 978, 979, 980, 981, 982, 983, 1038, 1039, 1040, 1041, 1042, 1043, 1044, 1045, 1046, 1047, 1048, 1049, 1053, 1054, 1026, 1027, 1028, 1029, 1030] (by decide +kernel) (by decide +kernel)
set_option maxRecDepth 20000 in
theorem gL_law_X5_order : GoodIn wsL_law (wsV RL 91 RX5 yX5_order wsX5_order) := goodIn_app (goodIn_of _ (by decide +kernel)) ggL_law_X5_order
set_option maxRecDepth 20000 in
theorem ggL_law_X6_order : GoodIn wsL_law wsX6_order := goodIn_r _ [735, 374, 736, 737, 407, 408, 409, 5, 410, 375, 320, 321, 322, 572, 573, 574, 738, 739, 740, 741, 284, 302, 624, 303, 627, 620, 621, 622, 623, 283, 625, 626, 628, 629, 630, 631, 298, 575, 576, 577, 578, 579, 580, 581, 582, 583, 531, 532, 533, 534, 281, 282, 584, 585, 586, 587, 481, 482, 483, 484, 297, 485, 486, 487, 488, 287, 376, 286, 333, 296, 489, 490, 491, 492, 493, 494, 588, 589, 590, 591, 632, 633, 634, 635, 742, 743, 744, 745, 984, 985, 986, 987, 988, 989, 990, 991, 992, 993, 994, 995, 996, 997, 998, 999, 1000, 1001, 1002, 1003, 1004, 1005, 1006, 1007, 1008, 1009, 1010, 1011, 1012, 1013, 1014, 1015, 1016, 1017, 1018, 1019, 1020, 1021, 1022, 1023, 1024, 1025] (by decide +kernel) (by decide +kernel)
set_option maxRecDepth 20000 in
theorem gL_law_X6_order : GoodIn wsL_law (wsV RL 94 RX6 yX6_order wsX6_order) := goodIn_app (goodIn_of _ (by decide +kernel)) ggL_law_X6_order
set_option maxRecDepth 20000 in
theorem ggL_law_X5_counsel : GoodIn wsL_law wsX5_counsel := goodIn_r _ [749, 23, 33, 365, 399, 400, 401, 22, 402, 388, 381, 382, 2, 383, 703, 704, 705, 706, 24, 707, 596, 597, 598, 599, 600, 601, 602, 603, 53, 604, 605, 606, 607, 54, 55, 56, 57, 58, 59, 455, 460, 708, 565, 566, 567, 461, 196, 193, 197, 545, 546, 547, 548, 549, 550, 551, 552, 553, 462, 192, 194, 554, 524, 525, 526, 555, 457, 458, 459, 52, 60, 463, 464, 465, 14, 466, 251, 40, 39, 41, 467, 468, 469, 470, 471, 472, 556, 557, 558, 559, 560, 561, 562, 563, 564, 612, 613, 614, 615, 709, 710, 711, 32, 712, 78, 77, 713, 714, 715, 716, 717, 718, 719, 728, 729, 730, 731, 750, 725, 726, 727, 976, 977, 978, 979, 980, 981, 982, 983, 1038, 1039, 1040, 1041, 1042, 1043, 1044, 1045, 1046, 1047, 1048, 1049, 1053, 1054, 1026, 1027, 1028, 1029, 1030] (by decide +kernel) (by decide +kernel)
set_option maxRecDepth 20000 in
theorem gL_law_X5_counsel : GoodIn wsL_law (wsV RL 95 RX5 yX5_counsel wsX5_counsel) := goodIn_app (goodIn_of _ (by decide +kernel)) ggL_law_X5_counsel
set_option maxRecDepth 20000 in
theorem ggL_law_X6_counsel : GoodIn wsL_law wsX6_counsel := goodIn_r _ [754, 374, 304, 303, 407, 408, 409, 5, 410, 375, 320, 321, 322, 572, 573, 574, 738, 739, 740, 741, 284, 302, 624, 627, 620, 621, 622, 623, 283, 625, 626, 628, 629, 630, 631, 298, 575, 576, 577, 578, 579, 580, 581, 582, 583, 531, 532, 533, 534, 281, 282, 584, 585, 586, 587, 481, 482, 483, 484, 297, 485, 486, 487, 488, 287, 376, 286, 333, 296, 489, 490, 491, 492, 493, 494, 588, 589, 590, 591, 632, 633, 634, 635, 755, 756, 757, 984, 985, 986, 987, 988, 989, 990, 991, 992, 993, 994, 995, 996, 997, 998, 999, 1000, 1001, 1002, 1003, 1004, 1005, 1006, 1007, 1008, 1009, 1010, 1011, 1012, 1013, 1014, 1015, 1016, 1017, 1018, 1019, 1020, 1021, 1022, 1023, 1024, 1025] (by decide +kernel) (by decide +kernel)
set_option maxRecDepth 20000 in
theorem gL_law_X6_counsel : GoodIn wsL_law (wsV RL 98 RX6 yX6_counsel wsX6_counsel) := goodIn_app (goodIn_of _ (by decide +kernel)) ggL_law_X6_counsel
set_option maxRecDepth 20000 in
theorem ggL_law_X5_reversed : GoodIn wsL_law wsX5_reversed := goodIn_r _ [761, 762, 763, 764, 2, 765, 23, 766, 767, 768, 769, 29, 770, 771, 772, 773, 774, 775, 28, 776, 382, 383, 451, 452, 453, 22, 454, 455, 381, 399, 400, 401, 402, 388, 596, 597, 598, 599, 24, 600, 601, 602, 603, 53, 604, 605, 606, 607, 54, 55, 56, 57, 58, 59, 460, 777, 778, 779, 780, 545, 546, 547, 548, 549, 550, 551, 552, 553, 461, 196, 193, 197, 462, 192, 194, 554, 524, 525, 526, 555, 457, 458, 459, 52, 60, 463, 464, 465, 14, 466, 251, 40, 39, 41, 467, 468, 469, 470, 471, 472, 556, 557, 558, 559, 560, 561, 562, 563, 564, 565, 566, 567, 612, 613, 614, 615, 976, 977, 978, 979, 980, 981, 982, 983, 1050, 1051, 1052, 1038, 1039, 1040, 1041, 1042, 1043, 1044, 1045, 1046, 1047, 1048, 1049, 1026, 1027, 1028, 1029, 1030] (by decide +kernel) (by decide +kernel)
set_option maxRecDepth 20000 in
theorem gL_law_X5_reversed : GoodIn wsL_law (wsV RL 99 RX5 yX5_reversed wsX5_reversed) := goodIn_app (goodIn_of _ (by decide +kernel)) ggL_law_X5_reversed
set_option maxRecDepth 20000 in
theorem ggL_law_X6_reversed : GoodIn wsL_law wsX6_reversed := goodIn_r _ [784, 785, 786, 787, 5, 788, 789, 790, 791, 792, 290, 291, 292, 320, 321, 322, 477, 478, 479, 480, 374, 572, 573, 574, 407, 408, 409, 410, 375, 793, 794, 795, 796, 628, 629, 630, 631, 298, 284, 283, 575, 576, 577, 578, 579, 580, 581, 582, 583, 531, 532, 533, 534, 281, 282, 584, 585, 586, 587, 481, 482, 483, 484, 297, 485, 486, 487, 488, 287, 376, 286, 333, 296, 489, 490, 491, 492, 493, 494, 588, 589, 590, 591, 632, 633, 634, 635, 984, 985, 986, 987, 988, 989, 990, 991, 992, 993, 994, 995, 996, 997, 998, 999, 1000, 1001, 1002, 1003, 1004, 1005, 1006, 1007, 1008, 1009, 1010, 1011, 1012, 1013, 1014, 1015, 1016, 1017, 1018, 1019, 1020, 1021, 1022, 1023, 1024, 1025] (by decide +kernel) (by decide +kernel)
set_option maxRecDepth 20000 in
theorem gL_law_X6_reversed : GoodIn wsL_law (wsV RL 102 RX6 yX6_reversed wsX6_reversed) := goodIn_app (goodIn_of _ (by decide +kernel)) ggL_law_X6_reversed
set_option maxRecDepth 20000 in
theorem ggL_law_X5_kinds : GoodIn wsL_law wsX5_kinds := goodIn_r _ [800, 23, 24, 521, 522, 762, 763, 764, 2, 765, 766, 767, 768, 769, 29, 770, 771, 772, 773, 774, 775, 28, 776, 382, 383, 451, 452, 453, 22, 454, 455, 381, 399, 400, 401, 402, 388, 596, 597, 598, 599, 600, 601, 602, 603, 53, 604, 605, 606, 607, 54, 55, 56, 57, 58, 59, 460, 777, 778, 779, 780, 545, 546, 547, 548, 549, 550, 551, 552, 553, 461, 196, 193, 197, 462, 192, 194, 554, 524, 525, 526, 555, 457, 458, 459, 52, 60, 463, 464, 465, 14, 466, 251, 40, 39, 41, 467, 468, 469, 470, 471, 472, 556, 557, 558, 559, 560, 561, 562, 563, 564, 565, 566, 567, 612, 613, 614, 615, 976, 977, 978, 979, 980, 981, 982, 983, 1038, 1039, 1040, 1041, 1042, 1043, 1044, 1045, 1046, 1047, 1048, 1049, 1050, 1051, 1052, 1026, 1027, 1028, 1029, 1030] (by decide +kernel) (by decide +kernel)
set_option maxRecDepth 20000 in
theorem gL_law_X5_kinds : GoodIn wsL_law (wsV RL 103 RX5 yX5_kinds wsX5_kinds) := goodIn_app (goodIn_of _ (by decide +kernel)) ggL_law_X5_kinds
set_option maxRecDepth 20000 in
theorem ggL_law_X6_kinds : GoodIn wsL_law wsX6_kinds := goodIn_r _ [804, 281, 282, 785, 786, 787, 5, 788, 789, 790, 791, 792, 290, 291, 292, 320, 321, 322, 477, 478, 479, 480, 374, 572, 573, 574, 407, 408, 409, 410, 375, 793, 794, 795, 796, 628, 629, 630, 631, 298, 284, 283, 575, 576, 577, 578, 579, 580, 581, 582, 583, 531, 532, 533, 534, 584, 585, 586, 587, 481, 482, 483, 484, 297, 485, 486, 487, 488, 287, 376, 286, 333, 296, 489, 490, 491, 492, 493, 494, 588, 589, 590, 591, 632, 633, 634, 635, 984, 985, 986, 987, 988, 989, 990, 991, 992, 993, 994, 995, 996, 997, 998, 999, 1000, 1001, 1002, 1003, 1004, 1005, 1006, 1007, 1008, 1009, 1010, 1011, 1012, 1013, 1014, 1015, 1016, 1017, 1018, 1019, 1020, 1021, 1022, 1023, 1024, 1025] (by decide +kernel) (by decide +kernel)
set_option maxRecDepth 20000 in
theorem gL_law_X6_kinds : GoodIn wsL_law (wsV RL 106 RX6 yX6_kinds wsX6_kinds) := goodIn_app (goodIn_of _ (by decide +kernel)) ggL_law_X6_kinds
set_option maxRecDepth 20000 in
theorem ggL_law_X5_soled : GoodIn wsL_law wsX5_soled := goodIn_r _ [808, 24, 397, 762, 763, 764, 2, 765, 23, 766, 767, 768, 769, 29, 770, 771, 772, 773, 774, 775, 28, 776, 382, 383, 451, 452, 453, 22, 454, 455, 381, 399, 400, 401, 402, 388, 596, 597, 598, 599, 600, 601, 602, 603, 53, 604, 605, 606, 607, 54, 55, 56, 57, 58, 59, 460, 777, 778, 779, 780, 545, 546, 547, 548, 549, 550, 551, 552, 553, 461, 196, 193, 197, 462, 192, 194, 554, 524, 525, 526, 555, 457, 458, 459, 52, 60, 463, 464, 465, 14, 466, 251, 40, 39, 41, 467, 468, 469, 470, 471, 472, 556, 557, 558, 559, 560, 561, 562, 563, 564, 565, 566, 567, 612, 613, 614, 615, 976, 977, 978, 979, 980, 981, 982, 983, 1038, 1039, 1040, 1041, 1042, 1043, 1044, 1045, 1046, 1047, 1048, 1049, 1050, 1051, 1052, 1026, 1027, 1028, 1029, 1030] (by decide +kernel) (by decide +kernel)
set_option maxRecDepth 20000 in
theorem gL_law_X5_soled : GoodIn wsL_law (wsV RL 107 RX5 yX5_soled wsX5_soled) := goodIn_app (goodIn_of _ (by decide +kernel)) ggL_law_X5_soled
set_option maxRecDepth 20000 in
theorem ggL_law_X6_soled : GoodIn wsL_law wsX6_soled := goodIn_r _ [812, 284, 785, 786, 787, 5, 788, 789, 790, 791, 792, 290, 291, 292, 320, 321, 322, 477, 478, 479, 480, 374, 572, 573, 574, 407, 408, 409, 410, 375, 793, 794, 795, 796, 628, 629, 630, 631, 298, 283, 575, 576, 577, 578, 579, 580, 581, 582, 583, 531, 532, 533, 534, 281, 282, 584, 585, 586, 587, 481, 482, 483, 484, 297, 485, 486, 487, 488, 287, 376, 286, 333, 296, 489, 490, 491, 492, 493, 494, 588, 589, 590, 591, 632, 633, 634, 635, 984, 985, 986, 987, 988, 989, 990, 991, 992, 993, 994, 995, 996, 997, 998, 999, 1000, 1001, 1002, 1003, 1004, 1005, 1006, 1007, 1008, 1009, 1010, 1011, 1012, 1013, 1014, 1015, 1016, 1017, 1018, 1019, 1020, 1021, 1022, 1023, 1024, 1025] (by decide +kernel) (by decide +kernel)
set_option maxRecDepth 20000 in
theorem gL_law_X6_soled : GoodIn wsL_law (wsV RL 110 RX6 yX6_soled wsX6_soled) := goodIn_app (goodIn_of _ (by decide +kernel)) ggL_law_X6_soled
set_option maxRecDepth 20000 in
theorem ggL_law_X5_sizes : GoodIn wsL_law wsX5_sizes := goodIn_r _ [816, 23, 24, 511, 512, 762, 763, 764, 2, 765, 766, 767, 768, 769, 29, 770, 771, 772, 773, 774, 775, 28, 776, 382, 383, 451, 452, 453, 22, 454, 455, 381, 399, 400, 401, 402, 388, 700, 701, 702, 596, 597, 598, 599, 600, 601, 602, 603, 53, 604, 605, 606, 607, 54, 55, 56, 57, 58, 59, 460, 777, 778, 779, 780, 545, 546, 547, 548, 549, 550, 551, 552, 553, 461, 196, 193, 197, 462, 192, 194, 554, 524, 525, 526, 555, 457, 458, 459, 52, 60, 463, 464, 465, 14, 466, 251, 40, 39, 41, 467, 468, 469, 470, 471, 472, 556, 557, 558, 559, 560, 561, 562, 563, 564, 565, 566, 567, 612, 613, 614, 615, 976, 977, 978, 979, 980, 981, 982, 983, 1038, 1039, 1040, 1041, 1042, 1043, 1044, 1045, 1046, 1047, 1048, 1049, 1050, 1051, 1052, 1026, 1027, 1028, 1029, 1030] (by decide +kernel) (by decide +kernel)
set_option maxRecDepth 20000 in
theorem gL_law_X5_sizes : GoodIn wsL_law (wsV RL 111 RX5 yX5_sizes wsX5_sizes) := goodIn_app (goodIn_of _ (by decide +kernel)) ggL_law_X5_sizes
set_option maxRecDepth 20000 in
theorem ggL_law_X6_sizes : GoodIn wsL_law wsX6_sizes := goodIn_r _ [820, 283, 785, 786, 787, 5, 788, 789, 790, 791, 792, 290, 291, 292, 320, 321, 322, 477, 478, 479, 480, 374, 572, 573, 574, 407, 408, 409, 410, 375, 793, 794, 795, 796, 628, 629, 630, 631, 298, 284, 575, 576, 577, 578, 579, 580, 581, 582, 583, 531, 532, 533, 534, 281, 282, 584, 585, 586, 587, 481, 482, 483, 484, 297, 485, 486, 487, 488, 287, 376, 286, 333, 296, 489, 490, 491, 492, 493, 494, 588, 589, 590, 591, 632, 633, 634, 635, 984, 985, 986, 987, 988, 989, 990, 991, 992, 993, 994, 995, 996, 997, 998, 999, 1000, 1001, 1002, 1003, 1004, 1005, 1006, 1007, 1008, 1009, 1010, 1011, 1012, 1013, 1014, 1015, 1016, 1017, 1018, 1019, 1020, 1021, 1022, 1023, 1024, 1025] (by decide +kernel) (by decide +kernel)
set_option maxRecDepth 20000 in
theorem gL_law_X6_sizes : GoodIn wsL_law (wsV RL 114 RX6 yX6_sizes wsX6_sizes) := goodIn_app (goodIn_of _ (by decide +kernel)) ggL_law_X6_sizes
set_option maxRecDepth 20000 in
theorem ggL_law_X5_whose : GoodIn wsL_law wsX5_whose := goodIn_r _ [824, 23, 366, 766, 767, 768, 2, 769, 29, 770, 771, 772, 773, 774, 775, 28, 776, 382, 383, 451, 452, 453, 22, 454, 455, 381, 596, 597, 598, 599, 24, 600, 601, 602, 603, 53, 604, 605, 606, 607, 54, 55, 56, 57, 58, 59, 388, 460, 777, 778, 779, 780, 545, 546, 547, 548, 549, 550, 551, 552, 553, 461, 196, 193, 197, 462, 192, 194, 554, 524, 525, 526, 555, 457, 458, 459, 52, 60, 463, 464, 465, 14, 466, 251, 40, 39, 41, 467, 468, 469, 470, 471, 472, 556, 557, 558, 559, 560, 561, 562, 563, 564, 565, 566, 567, 612, 613, 614, 615, 976, 977, 978, 979, 980, 981, 982, 983, 1038, 1039, 1040, 1041, 1042, 1043, 1044, 1045, 1046, 1047, 1048, 1049, 1050, 1051, 1052, 1026, 1027, 1028, 1029, 1030] (by decide +kernel) (by decide +kernel)
set_option maxRecDepth 20000 in
theorem gL_law_X5_whose : GoodIn wsL_law (wsV RL 115 RX5 yX5_whose wsX5_whose) := goodIn_app (goodIn_of _ (by decide +kernel)) ggL_law_X5_whose
set_option maxRecDepth 20000 in
theorem ggL_law_X6_whose : GoodIn wsL_law wsX6_whose := goodIn_r _ [828, 375, 789, 790, 791, 5, 792, 290, 291, 292, 320, 321, 322, 477, 478, 479, 480, 374, 572, 573, 574, 793, 794, 795, 796, 628, 629, 630, 631, 298, 284, 283, 575, 576, 577, 578, 579, 580, 581, 582, 583, 531, 532, 533, 534, 281, 282, 584, 585, 586, 587, 481, 482, 483, 484, 297, 485, 486, 487, 488, 287, 376, 286, 333, 296, 489, 490, 491, 492, 493, 494, 588, 589, 590, 591, 632, 633, 634, 635, 984, 985, 986, 987, 988, 989, 990, 991, 992, 993, 994, 995, 996, 997, 998, 999, 1000, 1001, 1002, 1003, 1004, 1005, 1006, 1007, 1008, 1009, 1010, 1011, 1012, 1013, 1014, 1015, 1016, 1017, 1018, 1019, 1020, 1021, 1022, 1023, 1024, 1025] (by decide +kernel) (by decide +kernel)
set_option maxRecDepth 20000 in
theorem gL_law_X6_whose : GoodIn wsL_law (wsV RL 118 RX6 yX6_whose wsX6_whose) := goodIn_app (goodIn_of _ (by decide +kernel)) ggL_law_X6_whose
set_option maxRecDepth 20000 in
theorem ggL_law_X5_laws : GoodIn wsL_law wsX5_laws := goodIn_r _ [832, 15, 367, 24, 368, 762, 763, 764, 2, 765, 23, 766, 767, 768, 769, 29, 770, 771, 772, 773, 774, 775, 28, 776, 382, 383, 451, 452, 453, 22, 454, 455, 381, 399, 400, 401, 402, 388, 596, 597, 598, 599, 600, 601, 602, 603, 53, 604, 605, 606, 607, 54, 55, 56, 57, 58, 59, 460, 777, 778, 779, 780, 545, 546, 547, 548, 549, 550, 551, 552, 553, 461, 196, 193, 197, 462, 192, 194, 554, 524, 525, 526, 555, 457, 458, 459, 52, 60, 463, 464, 465, 14, 466, 251, 40, 39, 41, 467, 468, 469, 470, 471, 472, 556, 557, 558, 559, 560, 561, 562, 563, 564, 565, 566, 567, 612, 613, 614, 615, 976, 977, 978, 979, 980, 981, 982, 983, 1026, 1027, 1028, 1029, 1030, 1038, 1039, 1040, 1041, 1042, 1043, 1044, 1045, 1046, 1047, 1048, 1049, 1050, 1051, 1052] (by decide +kernel) (by decide +kernel)
set_option maxRecDepth 20000 in
theorem gL_law_X5_laws : GoodIn wsL_law (wsV RL 119 RX5 yX5_laws wsX5_laws) := goodIn_app (goodIn_of _ (by decide +kernel)) ggL_law_X5_laws
set_option maxRecDepth 20000 in
theorem ggL_law_X6_laws : GoodIn wsL_law wsX6_laws := goodIn_r _ [836, 376, 310, 785, 786, 787, 5, 788, 789, 790, 791, 792, 290, 291, 292, 320, 321, 322, 477, 478, 479, 480, 374, 572, 573, 574, 407, 408, 409, 410, 375, 793, 794, 795, 796, 628, 629, 630, 631, 298, 284, 283, 575, 576, 577, 578, 579, 580, 581, 582, 583, 531, 532, 533, 534, 281, 282, 584, 585, 586, 587, 481, 482, 483, 484, 297, 485, 486, 487, 488, 287, 286, 333, 296, 489, 490, 491, 492, 493, 494, 588, 589, 590, 591, 632, 633, 634, 635, 984, 985, 986, 987, 988, 989, 990, 991, 992, 993, 994, 995, 996, 997, 998, 999, 1000, 1001, 1002, 1003, 1004, 1005, 1006, 1007, 1008, 1009, 1010, 1011, 1012, 1013, 1014, 1015, 1016, 1017, 1018, 1019, 1020, 1021, 1022, 1023, 1024, 1025] (by decide +kernel) (by decide +kernel)
set_option maxRecDepth 20000 in
theorem gL_law_X6_laws : GoodIn wsL_law (wsV RL 122 RX6 yX6_laws wsX6_laws) := goodIn_app (goodIn_of _ (by decide +kernel)) ggL_law_X6_laws
set_option maxRecDepth 20000 in
theorem ggL_law_X5_film : GoodIn wsL_law wsX5_film := goodIn_r _ [840, 29, 23, 365, 24, 773, 774, 775, 28, 776, 382, 2, 383, 399, 400, 401, 22, 402, 388, 381, 596, 597, 598, 599, 600, 601, 602, 603, 53, 604, 605, 606, 607, 54, 55, 56, 57, 58, 59, 455, 460, 841, 842, 843, 844, 67, 68, 66, 69, 70, 71, 72, 545, 546, 547, 548, 549, 550, 551, 552, 553, 461, 196, 193, 197, 462, 192, 194, 554, 524, 525, 526, 555, 457, 458, 459, 52, 60, 463, 464, 465, 14, 466, 251, 40, 39, 41, 467, 468, 469, 470, 471, 472, 556, 557, 558, 559, 560, 561, 562, 563, 564, 565, 566, 567, 612, 613, 614, 615, 845, 846, 847, 848, 976, 977, 978, 979, 980, 981, 982, 983, 1038, 1039, 1040, 1041, 1042, 1043, 1044, 1045, 1046, 1047, 1048, 1049, 1050, 1051, 1052, 1026, 1027, 1028, 1029, 1030] (by decide +kernel) (by decide +kernel)
set_option maxRecDepth 20000 in
theorem gL_law_X5_film : GoodIn wsL_law (wsV RL 123 RX5 yX5_film wsX5_film) := goodIn_app (goodIn_of _ (by decide +kernel)) ggL_law_X5_film
set_option maxRecDepth 20000 in
theorem ggL_law_X6_film : GoodIn wsL_law wsX6_film := goodIn_r _ [852, 292, 374, 290, 291, 320, 321, 5, 322, 407, 408, 409, 410, 375, 572, 573, 574, 628, 629, 630, 631, 298, 284, 283, 575, 576, 577, 578, 579, 580, 581, 582, 583, 531, 532, 533, 534, 281, 282, 584, 585, 586, 587, 481, 482, 483, 484, 297, 485, 486, 487, 488, 287, 376, 286, 333, 296, 489, 490, 491, 492, 493, 494, 588, 589, 590, 591, 632, 633, 634, 635, 984, 985, 986, 987, 988, 989, 990, 991, 992, 993, 994, 995, 996, 997, 998, 999, 1000, 1001, 1002, 1003, 1004, 1005, 1006, 1007, 1008, 1009, 1010, 1011, 1012, 1013, 1014, 1015, 1016, 1017, 1018, 1019, 1020, 1021, 1022, 1023, 1024, 1025] (by decide +kernel) (by decide +kernel)
set_option maxRecDepth 20000 in
theorem gL_law_X6_film : GoodIn wsL_law (wsV RL 126 RX6 yX6_film wsX6_film) := goodIn_app (goodIn_of _ (by decide +kernel)) ggL_law_X6_film
set_option maxRecDepth 20000 in
theorem ggL_law_X5_drawn : GoodIn wsL_law wsX5_drawn := goodIn_r _ [856, 23, 857, 24, 539, 540, 541, 22, 542, 543, 400, 401, 402, 388, 544, 452, 453, 454, 455, 381, 382, 2, 383, 858, 859, 860, 596, 597, 598, 599, 600, 601, 602, 603, 53, 604, 605, 606, 607, 54, 55, 56, 57, 58, 59, 460, 861, 862, 863, 864, 865, 866, 549, 550, 551, 552, 553, 461, 196, 193, 197, 462, 192, 194, 554, 524, 525, 526, 555, 457, 458, 459, 52, 60, 463, 464, 465, 14, 466, 251, 40, 39, 41, 467, 468, 469, 470, 471, 472, 556, 557, 558, 559, 560, 561, 562, 563, 564, 565, 566, 567, 608, 609, 610, 611, 511, 612, 613, 614, 615, 976, 977, 978, 979, 980, 981, 982, 983, 1038, 1039, 1040, 1041, 1042, 1043, 1044, 1045, 1046, 1047, 1048, 1049, 1026, 1027, 1028, 1029, 1030] (by decide +kernel) (by decide +kernel)
set_option maxRecDepth 20000 in
theorem gL_law_X5_drawn : GoodIn wsL_law (wsV RL 127 RX5 yX5_drawn wsX5_drawn) := goodIn_app (goodIn_of _ (by decide +kernel)) ggL_law_X5_drawn
set_option maxRecDepth 20000 in
theorem ggL_law_X6_drawn : GoodIn wsL_law wsX6_drawn := goodIn_r _ [870, 583, 407, 408, 409, 5, 410, 375, 320, 321, 322, 477, 478, 479, 480, 374, 871, 872, 873, 874, 875, 876, 877, 624, 878, 879, 283, 625, 627, 628, 629, 630, 631, 298, 284, 579, 580, 581, 582, 531, 532, 533, 534, 281, 282, 584, 585, 586, 587, 481, 482, 483, 484, 297, 485, 486, 487, 488, 287, 376, 286, 333, 296, 489, 490, 491, 492, 493, 494, 588, 589, 590, 591, 632, 633, 634, 635, 636, 637, 638, 639, 626, 984, 985, 986, 987, 988, 989, 990, 991, 992, 993, 994, 995, 996, 997, 998, 999, 1000, 1001, 1002, 1003, 1004, 1005, 1006, 1007, 1008, 1009, 1010, 1011, 1012, 1013, 1014, 1015, 1016, 1017, 1018, 1019, 1020, 1021, 1022, 1023, 1024, 1025] (by decide +kernel) (by decide +kernel)
set_option maxRecDepth 20000 in
theorem gL_law_X6_drawn : GoodIn wsL_law (wsV RL 131 RX6 yX6_drawn wsX6_drawn) := goodIn_app (goodIn_of _ (by decide +kernel)) ggL_law_X6_drawn
set_option maxRecDepth 20000 in
theorem ggL_law_X5_odds : GoodIn wsL_law wsX5_odds := goodIn_r _ [883, 857, 884, 23, 24, 381, 382, 2, 383, 539, 540, 541, 22, 542, 543, 400, 401, 402, 388, 544, 452, 453, 454, 455, 858, 859, 860, 596, 597, 598, 599, 600, 601, 602, 603, 53, 604, 605, 606, 607, 54, 55, 56, 57, 58, 59, 460, 861, 862, 863, 864, 865, 866, 549, 550, 551, 552, 553, 461, 196, 193, 197, 462, 192, 194, 554, 524, 525, 526, 555, 457, 458, 459, 52, 60, 463, 464, 465, 14, 466, 251, 40, 39, 41, 467, 468, 469, 470, 471, 472, 556, 557, 558, 559, 560, 561, 562, 563, 564, 565, 566, 567, 612, 613, 614, 615, 885, 886, 887, 888, 976, 977, 978, 979, 980, 981, 982, 983, 1038, 1039, 1040, 1041, 1042, 1043, 1044, 1045, 1046, 1047, 1048, 1049, 1026, 1027, 1028, 1029, 1030] (by decide +kernel) (by decide +kernel)
set_option maxRecDepth 20000 in
theorem gL_law_X5_odds : GoodIn wsL_law (wsV RL 132 RX5 yX5_odds wsX5_odds) := goodIn_app (goodIn_of _ (by decide +kernel)) ggL_law_X5_odds
set_option maxRecDepth 20000 in
theorem ggL_law_X6_odds : GoodIn wsL_law wsX6_odds := goodIn_r _ [892, 583, 893, 627, 320, 321, 5, 322, 407, 408, 409, 410, 375, 477, 478, 479, 480, 374, 871, 872, 873, 874, 875, 876, 877, 624, 878, 879, 283, 625, 628, 629, 630, 631, 298, 284, 579, 580, 581, 582, 531, 532, 533, 534, 281, 282, 584, 585, 586, 587, 481, 482, 483, 484, 297, 485, 486, 487, 488, 287, 376, 286, 333, 296, 489, 490, 491, 492, 493, 494, 588, 589, 590, 591, 632, 633, 634, 635, 894, 895, 896, 984, 985, 986, 987, 988, 989, 990, 991, 992, 993, 994, 995, 996, 997, 998, 999, 1000, 1001, 1002, 1003, 1004, 1005, 1006, 1007, 1008, 1009, 1010, 1011, 1012, 1013, 1014, 1015, 1016, 1017, 1018, 1019, 1020, 1021, 1022, 1023, 1024, 1025] (by decide +kernel) (by decide +kernel)
set_option maxRecDepth 20000 in
theorem gL_law_X6_odds : GoodIn wsL_law (wsV RL 136 RX6 yX6_odds wsX6_odds) := goodIn_app (goodIn_of _ (by decide +kernel)) ggL_law_X6_odds
set_option maxRecDepth 20000 in
theorem ggL_law_X5_image : GoodIn wsL_law wsX5_image := goodIn_r _ [900, 25, 23, 901, 365, 600, 601, 602, 22, 603, 53, 604, 605, 606, 607, 54, 55, 56, 57, 58, 59, 388, 455, 460, 976, 977, 978, 979, 980, 981, 982, 983, 1038, 1039, 1040, 1041, 1042, 1043, 1044, 1045, 1046, 1047, 1048, 1049] (by decide +kernel) (by decide +kernel)
set_option maxRecDepth 20000 in
theorem gL_law_X5_image : GoodIn wsL_law (wsV RL 137 RX5 yX5_image wsX5_image) := goodIn_app (goodIn_of _ (by decide +kernel)) ggL_law_X5_image
set_option maxRecDepth 20000 in
theorem ggL_law_X6_image : GoodIn wsL_law wsX6_image := goodIn_r _ [905, 906, 288, 284, 283, 289, 374, 375, 376, 984, 985, 986, 987, 988, 989, 990, 991, 992, 993, 994, 995, 996, 997, 998, 999, 1000, 1001, 1002, 1003, 1004, 1005, 1006, 1007, 1008, 1009, 1010, 1011, 1012, 1013, 1014, 1015, 1016, 1017, 1018, 1019, 1020, 1021, 1022, 1023, 1024, 1025] (by decide +kernel) (by decide +kernel)
set_option maxRecDepth 20000 in
theorem gL_law_X6_image : GoodIn wsL_law (wsV RL 140 RX6 yX6_image wsX6_image) := goodIn_app (goodIn_of _ (by decide +kernel)) ggL_law_X6_image
set_option maxRecDepth 20000 in
theorem ggL_law_X5_back : GoodIn wsL_law wsX5_back := goodIn_r _ [910, 901, 23, 25, 365, 600, 601, 602, 22, 603, 53, 604, 605, 606, 607, 54, 55, 56, 57, 58, 59, 388, 455, 460, 976, 977, 978, 979, 980, 981, 982, 983, 1038, 1039, 1040, 1041, 1042, 1043, 1044, 1045, 1046, 1047, 1048, 1049] (by decide +kernel) (by decide +kernel)
set_option maxRecDepth 20000 in
theorem gL_law_X5_back : GoodIn wsL_law (wsV RL 141 RX5 yX5_back wsX5_back) := goodIn_app (goodIn_of _ (by decide +kernel)) ggL_law_X5_back
set_option maxRecDepth 20000 in
theorem ggL_law_X6_back : GoodIn wsL_law wsX6_back := goodIn_r _ [914, 906, 284, 288, 283, 289, 374, 375, 376, 984, 985, 986, 987, 988, 989, 990, 991, 992, 993, 994, 995, 996, 997, 998, 999, 1000, 1001, 1002, 1003, 1004, 1005, 1006, 1007, 1008, 1009, 1010, 1011, 1012, 1013, 1014, 1015, 1016, 1017, 1018, 1019, 1020, 1021, 1022, 1023, 1024, 1025] (by decide +kernel) (by decide +kernel)
set_option maxRecDepth 20000 in
theorem gL_law_X6_back : GoodIn wsL_law (wsV RL 144 RX6 yX6_back wsX6_back) := goodIn_app (goodIn_of _ (by decide +kernel)) ggL_law_X6_back
set_option maxRecDepth 20000 in
theorem ggL_law_X5_sheet : GoodIn wsL_law wsX5_sheet := goodIn_r _ [918, 29, 773, 774, 775, 28, 776, 382, 2, 383, 841, 842, 843, 844, 67, 68, 66, 69, 70, 71, 72, 976, 977, 978, 979, 980, 981, 982, 983, 1050, 1051, 1052] (by decide +kernel) (by decide +kernel)
set_option maxRecDepth 20000 in
theorem gL_law_X5_sheet : GoodIn wsL_law (wsV RL 145 RX5 yX5_sheet wsX5_sheet) := goodIn_app (goodIn_of _ (by decide +kernel)) ggL_law_X5_sheet
set_option maxRecDepth 20000 in
theorem ggL_law_X6_sheet : GoodIn wsL_law wsX6_sheet := goodIn_r _ [922, 290, 291, 292, 320, 321, 5, 322, 984, 985, 986, 987, 988, 989, 990, 991, 992, 993, 994, 995, 996, 997, 998, 999, 1000, 1001, 1002, 1003, 1004, 1005, 1006, 1007, 1008, 1009, 1010, 1011, 1012, 1013, 1014, 1015, 1016, 1017, 1018, 1019, 1020, 1021, 1022, 1023, 1024, 1025] (by decide +kernel) (by decide +kernel)
set_option maxRecDepth 20000 in
theorem gL_law_X6_sheet : GoodIn wsL_law (wsV RL 148 RX6 yX6_sheet wsX6_sheet) := goodIn_app (goodIn_of _ (by decide +kernel)) ggL_law_X6_sheet
set_option maxRecDepth 20000 in
theorem ggL_law_X5_cell : GoodIn wsL_law wsX5_cell := goodIn_r _ [926, 29, 770, 771, 773, 774, 775, 28, 776, 382, 2, 383, 845, 846, 847, 848, 66, 67, 976, 977, 978, 979, 980, 981, 982, 983, 1050, 1051, 1052] (by decide +kernel) (by decide +kernel)
set_option maxRecDepth 20000 in
theorem gL_law_X5_cell : GoodIn wsL_law (wsV RL 149 RX5 yX5_cell wsX5_cell) := goodIn_app (goodIn_of _ (by decide +kernel)) ggL_law_X5_cell
set_option maxRecDepth 20000 in
theorem ggL_law_X6_cell : GoodIn wsL_law wsX6_cell := goodIn_r _ [930, 290, 291, 292, 320, 321, 5, 322, 984, 985, 986, 987, 988, 989, 990, 991, 992, 993, 994, 995, 996, 997, 998, 999, 1000, 1001, 1002, 1003, 1004, 1005, 1006, 1007, 1008, 1009, 1010, 1011, 1012, 1013, 1014, 1015, 1016, 1017, 1018, 1019, 1020, 1021, 1022, 1023, 1024, 1025] (by decide +kernel) (by decide +kernel)
set_option maxRecDepth 20000 in
theorem gL_law_X6_cell : GoodIn wsL_law (wsV RL 152 RX6 yX6_cell wsX6_cell) := goodIn_app (goodIn_of _ (by decide +kernel)) ggL_law_X6_cell
set_option maxRecDepth 20000 in
theorem ggL_law_X5_copy : GoodIn wsL_law wsX5_copy := goodIn_r _ [934, 29, 770, 772, 935, 605, 606, 607, 773, 774, 775, 28, 776, 382, 2, 383, 936, 937, 938, 939, 68, 976, 977, 978, 979, 980, 981, 982, 983, 1050, 1051, 1052] (by decide +kernel) (by decide +kernel)
set_option maxRecDepth 20000 in
theorem gL_law_X5_copy : GoodIn wsL_law (wsV RL 153 RX5 yX5_copy wsX5_copy) := goodIn_app (goodIn_of _ (by decide +kernel)) ggL_law_X5_copy
set_option maxRecDepth 20000 in
theorem ggL_law_X6_copy : GoodIn wsL_law wsX6_copy := goodIn_r _ [943, 290, 291, 292, 320, 321, 5, 322, 984, 985, 986, 987, 988, 989, 990, 991, 992, 993, 994, 995, 996, 997, 998, 999, 1000, 1001, 1002, 1003, 1004, 1005, 1006, 1007, 1008, 1009, 1010, 1011, 1012, 1013, 1014, 1015, 1016, 1017, 1018, 1019, 1020, 1021, 1022, 1023, 1024, 1025] (by decide +kernel) (by decide +kernel)
set_option maxRecDepth 20000 in
theorem gL_law_X6_copy : GoodIn wsL_law (wsV RL 156 RX6 yX6_copy wsX6_copy) := goodIn_app (goodIn_of _ (by decide +kernel)) ggL_law_X6_copy
set_option maxRecDepth 20000 in
theorem ggL_law_X5_pebblesBy : GoodIn wsL_law wsX5_pebblesBy := goodIn_r _ [947, 29, 770, 772, 773, 774, 775, 28, 776, 382, 2, 383, 381, 936, 937, 938, 939, 68, 948, 496, 497, 498, 23, 499, 500, 501, 22, 502, 455, 56, 57, 58, 59, 976, 977, 978, 979, 980, 981, 982, 983, 1050, 1051, 1052, 1038, 1039, 1040, 1041, 1042, 1043, 1044, 1045, 1046, 1047, 1048, 1049] (by decide +kernel) (by decide +kernel)
set_option maxRecDepth 20000 in
theorem gL_law_X5_pebblesBy : GoodIn wsL_law (wsV RL 157 RX5 yX5_pebblesBy wsX5_pebblesBy) := goodIn_app (goodIn_of _ (by decide +kernel)) ggL_law_X5_pebblesBy
set_option maxRecDepth 20000 in
theorem ggL_law_X6_pebblesBy : GoodIn wsL_law wsX6_pebblesBy := goodIn_r _ [952, 290, 291, 292, 320, 321, 5, 322, 953, 504, 505, 506, 374, 281, 282, 283, 984, 985, 986, 987, 988, 989, 990, 991, 992, 993, 994, 995, 996, 997, 998, 999, 1000, 1001, 1002, 1003, 1004, 1005, 1006, 1007, 1008, 1009, 1010, 1011, 1012, 1013, 1014, 1015, 1016, 1017, 1018, 1019, 1020, 1021, 1022, 1023, 1024, 1025] (by decide +kernel) (by decide +kernel)
set_option maxRecDepth 20000 in
theorem gL_law_X6_pebblesBy : GoodIn wsL_law (wsV RL 160 RX6 yX6_pebblesBy wsX6_pebblesBy) := goodIn_app (goodIn_of _ (by decide +kernel)) ggL_law_X6_pebblesBy
set_option maxRecDepth 20000 in
theorem ggL_law_X5_taken : GoodIn wsL_law wsX5_taken := goodIn_r _ [957, 958, 959, 23, 960, 415, 961, 521, 381, 382, 2, 383, 399, 400, 401, 22, 402, 388, 451, 452, 453, 454, 455, 962, 963, 964, 976, 977, 978, 979, 980, 981, 982, 983, 1038, 1039, 1040, 1041, 1042, 1043, 1044, 1045, 1046, 1047, 1048, 1049] (by decide +kernel) (by decide +kernel)
set_option maxRecDepth 20000 in
theorem gL_law_X5_taken : GoodIn wsL_law (wsV RL 161 RX5 yX5_taken wsX5_taken) := goodIn_app (goodIn_of _ (by decide +kernel)) ggL_law_X5_taken
set_option maxRecDepth 20000 in
theorem ggL_law_X6_taken : GoodIn wsL_law wsX6_taken := goodIn_r _ [968, 969, 970, 375, 971, 284, 972, 374, 281, 320, 321, 5, 322, 973, 974, 975, 984, 985, 986, 987, 988, 989, 990, 991, 992, 993, 994, 995, 996, 997, 998, 999, 1000, 1001, 1002, 1003, 1004, 1005, 1006, 1007, 1008, 1009, 1010, 1011, 1012, 1013, 1014, 1015, 1016, 1017, 1018, 1019, 1020, 1021, 1022, 1023, 1024, 1025] (by decide +kernel) (by decide +kernel)
set_option maxRecDepth 20000 in
theorem gL_law_X6_taken : GoodIn wsL_law (wsV RL 165 RX6 yX6_taken wsX6_taken) := goodIn_app (goodIn_of _ (by decide +kernel)) ggL_law_X6_taken
