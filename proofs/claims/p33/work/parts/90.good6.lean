set_option maxRecDepth 20000 in
theorem ggL_law_X6_laws : GoodIn wsL_law wsX6_laws := goodIn_r _ [836, 376, 310, 785, 786, 787, 5, 788, 789, 790, 791, 792, 290, 291, 292, 320, 321, 322, 477, 478, 479, 480, 374, 572, 573, 574, 407, 408, 409, 410, 375, 793, 794, 795, 796, 628, 629, 630, 631, 298, 284, 283, 575, 576, 577, 578, 579, 580, 581, 582, 583, 531, 532, 533, 534, 281, 282, 584, 585, 586, 587, 481, 482, 483, 484, 297, 485, 486, 487, 488, 287, 286, 333, 296, 489, 490, 491, 492, 493, 494, 588, 589, 590, 591, 632, 633, 634, 635, 984, 985, 986, 987, 988, 989, 990, 991, 992, 993, 994, 995, 996, 997, 998, 999, 1000, 1001, 1002, 1003, 1004, 1005, 1006, 1007, 1008, 1009, 1010, 1011, 1012, 1013, 1014, 1015, 1016, 1017, 1018, 1019, 1020, 1021, 1022, 1023, 1024, 1025] (by decide +kernel) (by decide +kernel)
set_option maxRecDepth 20000 in
theorem gL_law_X6_laws : GoodIn wsL_law (wsV RL 122 RX6 yX6_laws wsX6_laws) := goodIn_app (goodIn_of _ (by decide +kernel)) ggL_law_X6_laws
set_option maxRecDepth 20000 in
theorem ggL_law_X5_film : GoodIn wsL_law wsX5_film := goodIn_r _ [840, 29, 23, 365, 24, 773, 774, 775, 28, 776, 382, 2, 383, 399, 400, 401, 22, 402, 388, 381, 596, 597, 598, 599, 600, 601, 602, 603, 53, 604, 605, 606, 607, 54, 55, 56, 57, 58, 59, 455, 460, 841, 842, 843, 844, 67, 68, 66, 69, 70, 71, 72, 545, 546, 547, 548, 549, 550, 551, 552, 553, 461, 196, 193, 197, 462, 192, 194, 554, 524, 525, 526, 555, 457, 458, 459, 52, 60, 463, 464, 465, 14, 466, 251, 40, 39, 41, 467, 468, 469, 470, 471, 472, 556, 557, 558, 559, 560, 561, 562, 563, 564, 565, 566, 567, 612, 613, 614, 615, 845, 846, 847, 848, 976, 977, 978, 979, 980, 981, 982, 983, 1038, 1039, 1040, 1041, 1042, 1043, 1044, 1045, 1046, 1047, 1048, 1049, 1050, 1051, 1052, 1026, 1027, 1028, 1029, 1030] (by decide +kernel) (by decide +kernel)
set_option maxRecDepth 20000 in
theorem gL_law_X5_film : GoodIn wsL_law (wsV RL 123 RX5 yX5_film wsX5_film) := goodIn_app (goodIn_of _ (by decide +kernel)) ggL_law_X5_film
set_option maxRecDepth 20000 in
theorem ggL_law_X6_film : GoodIn wsL_law wsX6_film := goodIn_r _ [852, 292, 374, 290, 291, 320, 321, 5, 322, 407, 408, 409, 410, 375, 572, 573, 574, 628, 629, 630, 631, 298, 284, 283, 575, 576, 577, 578, 579, 580, 581, 582, 583, 531, 532, 533, 534, 281, 282, 584, 585, 586, 587, 481, 482, 483, 484, 297, 485, 486, 487, 488, 287, 376, 286, 333, 296, 489, 490, 491, 492, 493, 494, 588, 589, 590, 591, 632, 633, 634, 635, 984, 985, 986, 987, 988, 989, 990, 991, 992, 993, 994, 995, 996, 997, 998, 999, 1000, 1001, 1002, 1003, 1004, 1005, 1006, 1007, 1008, 1009, 1010, 1011, 1012, 1013, 1014, 1015, 1016, 1017, 1018, 1019, 1020, 1021, 1022, 1023, 1024, 1025] (by decide +kernel) (by decide +kernel)
set_option maxRecDepth 20000 in
theorem gL_law_X6_film : GoodIn wsL_law (wsV RL 126 RX6 yX6_film wsX6_film) := goodIn_app (goodIn_of _ (by decide +kernel)) ggL_law_X6_film
set_option maxRecDepth 20000 in
theorem ggL_law_X5_drawn : GoodIn wsL_law wsX5_drawn := goodIn_r _ [856, 23, 857, 24, 539, 540, 541, 22, 542, 543, 400, 401, 402, 388, 544, 452, 453, 454, 455, 381, 382, 2, 383, 858, 859, 860, 596, 597, 598, 599, 600, 601, 602, 603, 53, 604, 605, 606, 607, 54, 55, 56, 57, 58, 59, 460, 861, 862, 863, 864, 865, 866, 549, 550, 551, 552, 553, 461, 196, 193, 197, 462, 192, 194, 554, 524, 525, 526, 555, 457, 458, 459, 52, 60, 463, 464, 465, 14, 466, 251, 40, 39, 41, 467, 468, 469, 470, 471, 472, 556, 557, 558, 559, 560, 561, 562, 563, 564, 565, 566, 567, 608, 609, 610, 611, 511, 612, 613, 614, 615, 976, 977, 978, 979, 980, 981, 982, 983, 1038, 1039, 1040, 1041, 1042, 1043, 1044, 1045, 1046, 1047, 1048, 1049, 1026, 1027, 1028, 1029, 1030] (by decide +kernel) (by decide +kernel)
set_option maxRecDepth 20000 in
theorem gL_law_X5_drawn : GoodIn wsL_law (wsV RL 127 RX5 yX5_drawn wsX5_drawn) := goodIn_app (goodIn_of _ (by decide +kernel)) ggL_law_X5_drawn
set_option maxRecDepth 20000 in
theorem ggL_law_X6_drawn : GoodIn wsL_law wsX6_drawn := goodIn_r _ [870, 583, 407, 408, 409, 5, 410, 375, 320, 321, 322, 477, 478, 479, 480, 374, 871, 872, 873, 874, 875, 876, 877, 624, 878, 879, 283, 625, 627, 628, 629, 630, 631, 298, 284, 579, 580, 581, 582, 531, 532, 533, 534, 281, 282, 584, 585, 586, 587, 481, 482, 483, 484, 297, 485, 486, 487, 488, 287, 376, 286, 333, 296, 489, 490, 491, 492, 493, 494, 588, 589, 590, 591, 632, 633, 634, 635, 636, 637, 638, 639, 626, 984, 985, 986, 987, 988, 989, 990, 991, 992, 993, 994, 995, 996, 997, 998, 999, 1000, 1001, 1002, 1003, 1004, 1005, 1006, 1007, 1008, 1009, 1010, 1011, 1012, 1013, 1014, 1015, 1016, 1017, 1018, 1019, 1020, 1021, 1022, 1023, 1024, 1025] (by decide +kernel) (by decide +kernel)
set_option maxRecDepth 20000 in
theorem gL_law_X6_drawn : GoodIn wsL_law (wsV RL 131 RX6 yX6_drawn wsX6_drawn) := goodIn_app (goodIn_of _ (by decide +kernel)) ggL_law_X6_drawn
set_option maxRecDepth 20000 in
theorem ggL_law_X5_odds : GoodIn wsL_law wsX5_odds := goodIn_r _ [883, 857, 884, 23, 24, 381, 382, 2, 383, 539, 540, 541, 22, 542, 543, 400, 401, 402, 388, 544, 452, 453, 454, 455, 858, 859, 860, 596, 597, 598, 599, 600, 601, 602, 603, 53, 604, 605, 606, 607, 54, 55, 56, 57, 58, 59, 460, 861, 862, 863, 864, 865, 866, 549, 550, 551, 552, 553, 461, 196, 193, 197, 462, 192, 194, 554, 524, 525, 526, 555, 457, 458, 459, 52, 60, 463, 464, 465, 14, 466, 251, 40, 39, 41, 467, 468, 469, 470, 471, 472, 556, 557, 558, 559, 560, 561, 562, 563, 564, 565, 566, 567, 612, 613, 614, 615, 885, 886, 887, 888, 976, 977, 978, 979, 980, 981, 982, 983, 1038, 1039, 1040, 1041, 1042, 1043, 1044, 1045, 1046, 1047, 1048, 1049, 1026, 1027, 1028, 1029, 1030] (by decide +kernel) (by decide +kernel)
set_option maxRecDepth 20000 in
theorem gL_law_X5_odds : GoodIn wsL_law (wsV RL 132 RX5 yX5_odds wsX5_odds) := goodIn_app (goodIn_of _ (by decide +kernel)) ggL_law_X5_odds
set_option maxRecDepth 20000 in
theorem ggL_law_X6_odds : GoodIn wsL_law wsX6_odds := goodIn_r _ [892, 583, 893, 627, 320, 321, 5, 322, 407, 408, 409, 410, 375, 477, 478, 479, 480, 374, 871, 872, 873, 874, 875, 876, 877, 624, 878, 879, 283, 625, 628, 629, 630, 631, 298, 284, 579, 580, 581, 582, 531, 532, 533, 534, 281, 282, 584, 585, 586, 587, 481, 482, 483, 484, 297, 485, 486, 487, 488, 287, 376, 286, 333, 296, 489, 490, 491, 492, 493, 494, 588, 589, 590, 591, 632, 633, 634, 635, 894, 895, 896, 984, 985, 986, 987, 988, 989, 990, 991, 992, 993, 994, 995, 996, 997, 998, 999, 1000, 1001, 1002, 1003, 1004, 1005, 1006, 1007, 1008, 1009, 1010, 1011, 1012, 1013, 1014, 1015, 1016, 1017, 1018, 1019, 1020, 1021, 1022, 1023, 1024, 1025] (by decide +kernel) (by decide +kernel)
set_option maxRecDepth 20000 in
theorem gL_law_X6_odds : GoodIn wsL_law (wsV RL 136 RX6 yX6_odds wsX6_odds) := goodIn_app (goodIn_of _ (by decide +kernel)) ggL_law_X6_odds
set_option maxRecDepth 20000 in
theorem ggL_law_X5_image : GoodIn wsL_law wsX5_image := goodIn_r _ [900, 25, 23, 901, 365, 600, 601, 602, 22, 603, 53, 604, 605, 606, 607, 54, 55, 56, 57, 58, 59, 388, 455, 460, 976, 977, 978, 979, 980, 981, 982, 983, 1038, 1039, 1040, 1041, 1042, 1043, 1044, 1045, 1046, 1047, 1048, 1049] (by decide +kernel) (by decide +kernel)
set_option maxRecDepth 20000 in
theorem gL_law_X5_image : GoodIn wsL_law (wsV RL 137 RX5 yX5_image wsX5_image) := goodIn_app (goodIn_of _ (by decide +kernel)) ggL_law_X5_image
set_option maxRecDepth 20000 in
theorem ggL_law_X6_image : GoodIn wsL_law wsX6_image := goodIn_r _ [905, 906, 288, 284, 283, 289, 374, 375, 376, 984, 985, 986, 987, 988, 989, 990, 991, 992, 993, 994, 995, 996, 997, 998, 999, 1000, 1001, 1002, 1003, 1004, 1005, 1006, 1007, 1008, 1009, 1010, 1011, 1012, 1013, 1014, 1015, 1016, 1017, 1018, 1019, 1020, 1021, 1022, 1023, 1024, 1025] (by decide +kernel) (by decide +kernel)
set_option maxRecDepth 20000 in
theorem gL_law_X6_image : GoodIn wsL_law (wsV RL 140 RX6 yX6_image wsX6_image) := goodIn_app (goodIn_of _ (by decide +kernel)) ggL_law_X6_image
set_option maxRecDepth 20000 in
theorem ggL_law_X5_back : GoodIn wsL_law wsX5_back := goodIn_r _ [910, 901, 23, 25, 365, 600, 601, 602, 22, 603, 53, 604, 605, 606, 607, 54, 55, 56, 57, 58, 59, 388, 455, 460, 976, 977, 978, 979, 980, 981, 982, 983, 1038, 1039, 1040, 1041, 1042, 1043, 1044, 1045, 1046, 1047, 1048, 1049] (by decide +kernel) (by decide +kernel)
set_option maxRecDepth 20000 in
theorem gL_law_X5_back : GoodIn wsL_law (wsV RL 141 RX5 yX5_back wsX5_back) := goodIn_app (goodIn_of _ (by decide +kernel)) ggL_law_X5_back
set_option maxRecDepth 20000 in
theorem ggL_law_X6_back : GoodIn wsL_law wsX6_back := goodIn_r _ [914, 906, 284, 288, 283, 289, 374, 375, 376, 984, 985, 986, 987, 988, 989, 990, 991, 992, 993, 994, 995, 996, 997, 998, 999, 1000, 1001, 1002, 1003, 1004, 1005, 1006, 1007, 1008, 1009, 1010, 1011, 1012, 1013, 1014, 1015, 1016, 1017, 1018, 1019, 1020, 1021, 1022, 1023, 1024, 1025] (by decide +kernel) (by decide +kernel)
set_option maxRecDepth 20000 in
theorem gL_law_X6_back : GoodIn wsL_law (wsV RL 144 RX6 yX6_back wsX6_back) := goodIn_app (goodIn_of _ (by decide +kernel)) ggL_law_X6_back
set_option maxRecDepth 20000 in
theorem ggL_law_X5_sheet : GoodIn wsL_law wsX5_sheet := goodIn_r _ [918, 29, 773, 774, 775, 28, 776, 382, 2, 383, 841, 842, 843, 844, 67, 68, 66, 69, 70, 71, 72, 976, 977, 978, 979, 980, 981, 982, 983, 1050, 1051, 1052] (by decide +kernel) (by decide +kernel)
set_option maxRecDepth 20000 in
theorem gL_law_X5_sheet : GoodIn wsL_law (wsV RL 145 RX5 yX5_sheet wsX5_sheet) := goodIn_app (goodIn_of _ (by decide +kernel)) ggL_law_X5_sheet
set_option maxRecDepth 20000 in
theorem ggL_law_X6_sheet : GoodIn wsL_law wsX6_sheet := goodIn_r _ [922, 290, 291, 292, 320, 321, 5, 322, 984, 985, 986, 987, 988, 989, 990, 991, 992, 993, 994, 995, 996, 997, 998, 999, 1000, 1001, 1002, 1003, 1004, 1005, 1006, 1007, 1008, 1009, 1010, 1011, 1012, 1013, 1014, 1015, 1016, 1017, 1018, 1019, 1020, 1021, 1022, 1023, 1024, 1025] (by decide +kernel) (by decide +kernel)
set_option maxRecDepth 20000 in
theorem gL_law_X6_sheet : GoodIn wsL_law (wsV RL 148 RX6 yX6_sheet wsX6_sheet) := goodIn_app (goodIn_of _ (by decide +kernel)) ggL_law_X6_sheet
