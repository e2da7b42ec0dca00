set_option maxRecDepth 20000 in
theorem ggi_0 : GoodIn wsL_law [Cond.code yX6_init cX6_init 2 none] := goodIn_p [Cond.code yX6_init cX6_init 2 none] [279] rfl (by decide +kernel)
set_option maxRecDepth 20000 in
theorem ggi_1 : GoodIn wsL_law wsX6_init_r1 := goodIn_r _ [280, 10, 11, 38, 281, 282, 283, 284, 285, 286, 287, 288, 289, 290, 291, 292, 293, 294, 295, 296, 297, 298, 299, 300] (by decide +kernel) (by decide +kernel)
set_option maxRecDepth 20000 in
theorem ggi_2 : GoodIn wsL_law wsX6_init_r2 := goodIn_r _ [301, 302, 303, 304, 305, 306, 307, 308, 5, 309, 310, 311, 312, 313, 314, 315, 316, 317, 318, 319, 320, 321, 322, 323] (by decide +kernel) (by decide +kernel)
set_option maxRecDepth 20000 in
theorem ggi_3 : GoodIn wsL_law wsX6_init_r3 := goodIn_r _ [324, 325, 326, 327, 328, 329, 330, 331, 332, 333, 334, 335, 336, 337, 338, 339, 340, 341, 342, 343, 344, 345, 346, 347] (by decide +kernel) (by decide +kernel)
set_option maxRecDepth 20000 in
theorem ggi_4 : GoodIn wsL_law wsX6_init_r4 := goodIn_r _ [348, 349, 350, 351, 352, 353, 354, 355, 356, 357, 358, 359, 360] (by decide +kernel) (by decide +kernel)
set_option maxRecDepth 20000 in
theorem ggi_5 : GoodIn wsL_law wsX60 := goodIn_r _ [984, 985, 986, 987, 988, 989, 990, 991, 992, 993, 994, 995, 996, 997, 998, 999, 1000, 1001, 1002, 1003, 1004, 1005, 1006, 1007, 1008, 1009, 1010, 1011, 1012, 1013, 1014, 1015, 1016, 1017, 1018, 1019, 1020, 1021, 1022, 1023, 1024, 1025] (by decide +kernel) (by decide +kernel)
theorem ggL_law_X6_init : GoodIn wsL_law wsX6_init := goodIn_ca (goodIn_ca (goodIn_app ggi_0 ggi_1) (goodIn_app ggi_2 (goodIn_app ggi_3 ggi_4))) ggi_5
