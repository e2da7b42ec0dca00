set_option maxRecDepth 20000 in
theorem ggL_law_X5_force : GoodIn wsL_law wsX5_force := goodIn_r _ [442, 15, 367, 23, 368, 976, 977, 978, 979, 980, 981, 982, 983, 1026, 1027, 1028, 1029, 1030, 1038, 1039, 1040, 1041, 1042, 1043, 1044, 1045, 1046, 1047, 1048, 1049] (by decide +kernel) (by decide +kernel)
set_option maxRecDepth 20000 in
theorem gL_law_X5_force : GoodIn wsL_law (wsV RL 42 RX5 yX5_force wsX5_force) := goodIn_app (goodIn_of _ (by decide +kernel)) ggL_law_X5_force
set_option maxRecDepth 20000 in
theorem ggL_law_X6_force : GoodIn wsL_law wsX6_force := goodIn_r _ [446, 310, 376, 320, 321, 5, 322, 984, 985, 986, 987, 988, 989, 990, 991, 992, 993, 994, 995, 996, 997, 998, 999, 1000, 1001, 1002, 1003, 1004, 1005, 1006, 1007, 1008, 1009, 1010, 1011, 1012, 1013, 1014, 1015, 1016, 1017, 1018, 1019, 1020, 1021, 1022, 1023, 1024, 1025] (by decide +kernel) (by decide +kernel)
set_option maxRecDepth 20000 in
theorem gL_law_X6_force : GoodIn wsL_law (wsV RL 45 RX6 yX6_force wsX6_force) := goodIn_app (goodIn_of _ (by decide +kernel)) ggL_law_X6_force
set_option maxRecDepth 20000 in
theorem ggL_law_X5_asks : GoodIn wsL_law wsX5_asks := goodIn_r _ [450, 23, 381, 382, 2, 383, 399, 400, 401, 22, 402, 388, 451, 452, 453, 454, 455, 456, 457, 458, 459, 52, 58, 59, 53, 54, 57, 60, 460, 461, 196, 193, 197, 462, 192, 194, 463, 464, 465, 14, 466, 251, 40, 39, 41, 467, 468, 469, 470, 471, 472, 976, 977, 978, 979, 980, 981, 982, 983, 1038, 1039, 1040, 1041, 1042, 1043, 1044, 1045, 1046, 1047, 1048, 1049, 1026, 1027, 1028, 1029, 1030] (by decide +kernel) (by decide +kernel)
set_option maxRecDepth 20000 in
theorem gL_law_X5_asks : GoodIn wsL_law (wsV RL 46 RX5 yX5_asks wsX5_asks) := goodIn_app (goodIn_of _ (by decide +kernel)) ggL_law_X5_asks
set_option maxRecDepth 20000 in
theorem ggL_law_X6_asks : GoodIn wsL_law wsX6_asks := goodIn_r _ [476, 320, 321, 5, 322, 407, 408, 409, 410, 375, 477, 478, 479, 480, 374, 481, 482, 483, 484, 297, 283, 284, 282, 485, 486, 487, 488, 287, 376, 286, 333, 296, 489, 490, 491, 492, 493, 494, 984, 985, 986, 987, 988, 989, 990, 991, 992, 993, 994, 995, 996, 997, 998, 999, 1000, 1001, 1002, 1003, 1004, 1005, 1006, 1007, 1008, 1009, 1010, 1011, 1012, 1013, 1014, 1015, 1016, 1017, 1018, 1019, 1020, 1021, 1022, 1023, 1024, 1025] (by decide +kernel) (by decide +kernel)
set_option maxRecDepth 20000 in
theorem gL_law_X6_asks : GoodIn wsL_law (wsV RL 49 RX6 yX6_asks wsX6_asks) := goodIn_app (goodIn_of _ (by decide +kernel)) ggL_law_X6_asks
set_option maxRecDepth 20000 in
theorem ggL_law_X5_pebble : GoodIn wsL_law wsX5_pebble := goodIn_r _ [498, 23, 381, 382, 2, 383, 499, 500, 501, 22, 502, 455, 56, 57, 58, 59, 976, 977, 978, 979, 980, 981, 982, 983, 1038, 1039, 1040, 1041, 1042, 1043, 1044, 1045, 1046, 1047, 1048, 1049] (by decide +kernel) (by decide +kernel)
set_option maxRecDepth 20000 in
theorem gL_law_X5_pebble : GoodIn wsL_law (wsV RL 50 RX5 yX5_pebble wsX5_pebble) := goodIn_app (goodIn_of _ (by decide +kernel)) ggL_law_X5_pebble
set_option maxRecDepth 20000 in
theorem ggL_law_X6_pebble : GoodIn wsL_law wsX6_pebble := goodIn_r _ [506, 374, 281, 282, 283, 320, 321, 5, 322, 984, 985, 986, 987, 988, 989, 990, 991, 992, 993, 994, 995, 996, 997, 998, 999, 1000, 1001, 1002, 1003, 1004, 1005, 1006, 1007, 1008, 1009, 1010, 1011, 1012, 1013, 1014, 1015, 1016, 1017, 1018, 1019, 1020, 1021, 1022, 1023, 1024, 1025] (by decide +kernel) (by decide +kernel)
set_option maxRecDepth 20000 in
theorem gL_law_X6_pebble : GoodIn wsL_law (wsV RL 53 RX6 yX6_pebble wsX6_pebble) := goodIn_app (goodIn_of _ (by decide +kernel)) ggL_law_X6_pebble
set_option maxRecDepth 20000 in
theorem ggL_law_X5_put : GoodIn wsL_law wsX5_put := goodIn_r _ [510, 23, 511, 512, 451, 452, 453, 22, 454, 455, 381, 382, 2, 383, 976, 977, 978, 979, 980, 981, 982, 983, 1038, 1039, 1040, 1041, 1042, 1043, 1044, 1045, 1046, 1047, 1048, 1049] (by decide +kernel) (by decide +kernel)
set_option maxRecDepth 20000 in
theorem gL_law_X5_put : GoodIn wsL_law (wsV RL 54 RX5 yX5_put wsX5_put) := goodIn_app (goodIn_of _ (by decide +kernel)) ggL_law_X5_put
set_option maxRecDepth 20000 in
theorem ggL_law_X6_put : GoodIn wsL_law wsX6_put := goodIn_r _ [516, 283, 477, 478, 479, 5, 480, 374, 320, 321, 322, 984, 985, 986, 987, 988, 989, 990, 991, 992, 993, 994, 995, 996, 997, 998, 999, 1000, 1001, 1002, 1003, 1004, 1005, 1006, 1007, 1008, 1009, 1010, 1011, 1012, 1013, 1014, 1015, 1016, 1017, 1018, 1019, 1020, 1021, 1022, 1023, 1024, 1025] (by decide +kernel) (by decide +kernel)
set_option maxRecDepth 20000 in
theorem gL_law_X6_put : GoodIn wsL_law (wsV RL 57 RX6 yX6_put wsX6_put) := goodIn_app (goodIn_of _ (by decide +kernel)) ggL_law_X6_put
set_option maxRecDepth 20000 in
theorem ggL_law_X5_told : GoodIn wsL_law wsX5_told := goodIn_r _ [520, 23, 521, 522, 511, 512, 451, 452, 453, 22, 454, 455, 523, 524, 525, 526, 56, 58, 57, 976, 977, 978, 979, 980, 981, 982, 983, 1038, 1039, 1040, 1041, 1042, 1043, 1044, 1045, 1046, 1047, 1048, 1049] (by decide +kernel) (by decide +kernel)
set_option maxRecDepth 20000 in
theorem gL_law_X5_told : GoodIn wsL_law (wsV RL 58 RX5 yX5_told wsX5_told) := goodIn_app (goodIn_of _ (by decide +kernel)) ggL_law_X5_told
set_option maxRecDepth 20000 in
theorem ggL_law_X6_told : GoodIn wsL_law wsX6_told := goodIn_r _ [530, 281, 282, 283, 477, 478, 479, 5, 480, 374, 320, 321, 322, 531, 532, 533, 534, 984, 985, 986, 987, 988, 989, 990, 991, 992, 993, 994, 995, 996, 997, 998, 999, 1000, 1001, 1002, 1003, 1004, 1005, 1006, 1007, 1008, 1009, 1010, 1011, 1012, 1013, 1014, 1015, 1016, 1017, 1018, 1019, 1020, 1021, 1022, 1023, 1024, 1025] (by decide +kernel) (by decide +kernel)
set_option maxRecDepth 20000 in
theorem gL_law_X6_told : GoodIn wsL_law (wsV RL 61 RX6 yX6_told wsX6_told) := goodIn_app (goodIn_of _ (by decide +kernel)) ggL_law_X6_told
set_option maxRecDepth 20000 in
theorem ggL_law_X5_walk : GoodIn wsL_law wsX5_walk := goodIn_r _ [538, 23, 398, 539, 540, 541, 22, 542, 543, 400, 401, 402, 388, 544, 452, 453, 454, 455, 381, 382, 2, 383, 545, 546, 547, 548, 549, 550, 551, 552, 55, 553, 461, 196, 193, 197, 58, 462, 192, 194, 554, 524, 525, 526, 56, 57, 555, 457, 458, 459, 52, 59, 53, 54, 60, 460, 463, 464, 465, 14, 466, 251, 40, 39, 41, 467, 468, 469, 470, 471, 472, 556, 557, 558, 559, 560, 561, 562, 563, 564, 565, 566, 567, 976, 977, 978, 979, 980, 981, 982, 983, 1038, 1039, 1040, 1041, 1042, 1043, 1044, 1045, 1046, 1047, 1048, 1049, 1026, 1027, 1028, 1029, 1030] (by decide +kernel) (by decide +kernel)
set_option maxRecDepth 20000 in
theorem gL_law_X5_walk : GoodIn wsL_law (wsV RL 62 RX5 yX5_walk wsX5_walk) := goodIn_app (goodIn_of _ (by decide +kernel)) ggL_law_X5_walk
set_option maxRecDepth 20000 in
theorem ggL_law_X6_walk : GoodIn wsL_law wsX6_walk := goodIn_r _ [571, 284, 407, 408, 409, 5, 410, 375, 320, 321, 322, 477, 478, 479, 480, 374, 572, 573, 574, 575, 576, 577, 578, 579, 580, 581, 582, 583, 283, 531, 532, 533, 534, 281, 282, 584, 585, 586, 587, 481, 482, 483, 484, 297, 485, 486, 487, 488, 287, 376, 286, 333, 296, 489, 490, 491, 492, 493, 494, 588, 589, 590, 591, 984, 985, 986, 987, 988, 989, 990, 991, 992, 993, 994, 995, 996, 997, 998, 999, 1000, 1001, 1002, 1003, 1004, 1005, 1006, 1007, 1008, 1009, 1010, 1011, 1012, 1013, 1014, 1015, 1016, 1017, 1018, 1019, 1020, 1021, 1022, 1023, 1024, 1025] (by decide +kernel) (by decide +kernel)
set_option maxRecDepth 20000 in
theorem gL_law_X6_walk : GoodIn wsL_law (wsV RL 65 RX6 yX6_walk wsX6_walk) := goodIn_app (goodIn_of _ (by decide +kernel)) ggL_law_X6_walk
set_option maxRecDepth 20000 in
theorem ggL_law_X5_hear : GoodIn wsL_law wsX5_hear := goodIn_r _ [595, 23, 24, 397, 539, 540, 541, 22, 542, 543, 400, 401, 402, 388, 544, 452, 453, 454, 455, 381, 382, 2, 383, 596, 597, 598, 599, 600, 601, 602, 603, 53, 604, 605, 606, 607, 54, 55, 56, 57, 58, 59, 460, 545, 546, 547, 548, 549, 550, 551, 552, 553, 461, 196, 193, 197, 462, 192, 194, 554, 524, 525, 526, 555, 457, 458, 459, 52, 60, 463, 464, 465, 14, 466, 251, 40, 39, 41, 467, 468, 469, 470, 471, 472, 556, 557, 558, 559, 560, 561, 562, 563, 564, 565, 566, 567, 608, 609, 610, 611, 511, 612, 613, 614, 615, 976, 977, 978, 979, 980, 981, 982, 983, 1038, 1039, 1040, 1041, 1042, 1043, 1044, 1045, 1046, 1047, 1048, 1049, 1026, 1027, 1028, 1029, 1030] (by decide +kernel) (by decide +kernel)
set_option maxRecDepth 20000 in
theorem gL_law_X5_hear : GoodIn wsL_law (wsV RL 66 RX5 yX5_hear wsX5_hear) := goodIn_app (goodIn_of _ (by decide +kernel)) ggL_law_X5_hear
