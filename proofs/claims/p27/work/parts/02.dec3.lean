theorem zs_dX6_count_0 : zsuf cX6_count 0 cX6_count.data.toList := rfl
noncomputable def zr_dX6_count_0 := zo_27 (q := 1) zs_dX6_count_0 rfl
noncomputable def dX6_count_0 := zr_dX6_count_0.1
theorem dX6_count_1 : zD cX6_count 1 (.tableswitch 60 0 4 #[35, 40, 45, 50, 55]) 35 := by decide +kernel
noncomputable def zr_dX6_count_1 := zskip zr_dX6_count_0.2 35 (q := 36) rfl
noncomputable def zr_dX6_count_36 := zo_42 (q := 37) zr_dX6_count_1 rfl
noncomputable def dX6_count_36 := zr_dX6_count_36.1
noncomputable def zr_dX6_count_37 := zo_180 (k := 88)  (q := 40) zr_dX6_count_36.2 rfl rfl
noncomputable def dX6_count_37 := zr_dX6_count_37.1
noncomputable def zr_dX6_count_40 := zo_172 (q := 41) zr_dX6_count_37.2 rfl
noncomputable def dX6_count_40 := zr_dX6_count_40.1
noncomputable def zr_dX6_count_41 := zo_42 (q := 42) zr_dX6_count_40.2 rfl
noncomputable def dX6_count_41 := zr_dX6_count_41.1
noncomputable def zr_dX6_count_42 := zo_180 (k := 95)  (q := 45) zr_dX6_count_41.2 rfl rfl
noncomputable def dX6_count_42 := zr_dX6_count_42.1
noncomputable def zr_dX6_count_45 := zo_172 (q := 46) zr_dX6_count_42.2 rfl
noncomputable def dX6_count_45 := zr_dX6_count_45.1
noncomputable def zr_dX6_count_46 := zo_42 (q := 47) zr_dX6_count_45.2 rfl
noncomputable def dX6_count_46 := zr_dX6_count_46.1
noncomputable def zr_dX6_count_47 := zo_180 (k := 98)  (q := 50) zr_dX6_count_46.2 rfl rfl
noncomputable def dX6_count_47 := zr_dX6_count_47.1
noncomputable def zr_dX6_count_50 := zo_172 (q := 51) zr_dX6_count_47.2 rfl
noncomputable def dX6_count_50 := zr_dX6_count_50.1
noncomputable def zr_dX6_count_51 := zo_42 (q := 52) zr_dX6_count_50.2 rfl
noncomputable def dX6_count_51 := zr_dX6_count_51.1
noncomputable def zr_dX6_count_52 := zo_180 (k := 101)  (q := 55) zr_dX6_count_51.2 rfl rfl
noncomputable def dX6_count_52 := zr_dX6_count_52.1
noncomputable def zr_dX6_count_55 := zo_172 (q := 56) zr_dX6_count_52.2 rfl
noncomputable def dX6_count_55 := zr_dX6_count_55.1
noncomputable def zr_dX6_count_56 := zo_42 (q := 57) zr_dX6_count_55.2 rfl
noncomputable def dX6_count_56 := zr_dX6_count_56.1
noncomputable def zr_dX6_count_57 := zo_180 (k := 80)  (q := 60) zr_dX6_count_56.2 rfl rfl
noncomputable def dX6_count_57 := zr_dX6_count_57.1
noncomputable def zr_dX6_count_60 := zo_172 (q := 61) zr_dX6_count_57.2 rfl
noncomputable def dX6_count_60 := zr_dX6_count_60.1
noncomputable def zr_dX6_count_61 := zo_16 (k := -2)  (q := 63) zr_dX6_count_60.2 (by decide +kernel) rfl
noncomputable def dX6_count_61 := zr_dX6_count_61.1
noncomputable def zr_dX6_count_63 := zo_172 (q := 64) zr_dX6_count_61.2 rfl
noncomputable def dX6_count_63 := zr_dX6_count_63.1
theorem zs_dX6_judge_0 : zsuf cX6_judge 0 cX6_judge.data.toList := rfl
noncomputable def zr_dX6_judge_0 := zo_27 (q := 1) zs_dX6_judge_0 rfl
noncomputable def dX6_judge_0 := zr_dX6_judge_0.1
noncomputable def zr_dX6_judge_1 := zo_3 (q := 2) zr_dX6_judge_0.2 rfl
noncomputable def dX6_judge_1 := zr_dX6_judge_1.1
noncomputable def zr_dX6_judge_2 := zo_16 (k := 20)  (q := 4) zr_dX6_judge_1.2 (by decide +kernel) rfl
noncomputable def dX6_judge_2 := zr_dX6_judge_2.1
noncomputable def zr_dX6_judge_4 := zo_184 (k := 91)  (q := 7) zr_dX6_judge_2.2 rfl rfl
noncomputable def dX6_judge_4 := zr_dX6_judge_4.1
noncomputable def zr_dX6_judge_7 := zo_154 (k := 6)  (q := 10) zr_dX6_judge_4.2 (by decide +kernel) rfl
noncomputable def dX6_judge_7 := zr_dX6_judge_7.1
noncomputable def zr_dX6_judge_10 := zo_16 (k := -2)  (q := 12) zr_dX6_judge_7.2 (by decide +kernel) rfl
noncomputable def dX6_judge_10 := zr_dX6_judge_10.1
noncomputable def zr_dX6_judge_12 := zo_172 (q := 13) zr_dX6_judge_10.2 rfl
noncomputable def dX6_judge_12 := zr_dX6_judge_12.1
noncomputable def zr_dX6_judge_13 := zo_42 (q := 14) zr_dX6_judge_12.2 rfl
noncomputable def dX6_judge_13 := zr_dX6_judge_13.1
noncomputable def zr_dX6_judge_14 := zo_180 (k := 95)  (q := 17) zr_dX6_judge_13.2 rfl rfl
noncomputable def dX6_judge_14 := zr_dX6_judge_14.1
noncomputable def zr_dX6_judge_17 := zo_7 (q := 18) zr_dX6_judge_14.2 rfl
noncomputable def dX6_judge_17 := zr_dX6_judge_17.1
noncomputable def zr_dX6_judge_18 := zo_160 (k := 6)  (q := 21) zr_dX6_judge_17.2 (by decide +kernel) rfl
noncomputable def dX6_judge_18 := zr_dX6_judge_18.1
noncomputable def zr_dX6_judge_21 := zo_16 (k := -4)  (q := 23) zr_dX6_judge_18.2 (by decide +kernel) rfl
noncomputable def dX6_judge_21 := zr_dX6_judge_21.1
noncomputable def zr_dX6_judge_23 := zo_172 (q := 24) zr_dX6_judge_21.2 rfl
noncomputable def dX6_judge_23 := zr_dX6_judge_23.1
noncomputable def zr_dX6_judge_24 := zo_42 (q := 25) zr_dX6_judge_23.2 rfl
noncomputable def dX6_judge_24 := zr_dX6_judge_24.1
noncomputable def zr_dX6_judge_25 := zo_180 (k := 19)  (q := 28) zr_dX6_judge_24.2 rfl rfl
noncomputable def dX6_judge_25 := zr_dX6_judge_25.1
noncomputable def zr_dX6_judge_28 := zo_6 (q := 29) zr_dX6_judge_25.2 rfl
noncomputable def dX6_judge_28 := zr_dX6_judge_28.1
noncomputable def zr_dX6_judge_29 := zo_42 (q := 30) zr_dX6_judge_28.2 rfl
noncomputable def dX6_judge_29 := zr_dX6_judge_29.1
noncomputable def zr_dX6_judge_30 := zo_180 (k := 95)  (q := 33) zr_dX6_judge_29.2 rfl rfl
noncomputable def dX6_judge_30 := zr_dX6_judge_30.1
noncomputable def zr_dX6_judge_33 := zo_104 (q := 34) zr_dX6_judge_30.2 rfl
noncomputable def dX6_judge_33 := zr_dX6_judge_33.1
noncomputable def zr_dX6_judge_34 := zo_27 (q := 35) zr_dX6_judge_33.2 rfl
noncomputable def dX6_judge_34 := zr_dX6_judge_34.1
noncomputable def zr_dX6_judge_35 := zo_79 (q := 36) zr_dX6_judge_34.2 rfl
noncomputable def dX6_judge_35 := zr_dX6_judge_35.1
noncomputable def zr_dX6_judge_36 := zo_42 (q := 37) zr_dX6_judge_35.2 rfl
noncomputable def dX6_judge_36 := zr_dX6_judge_36.1
noncomputable def zr_dX6_judge_37 := zo_180 (k := 19)  (q := 40) zr_dX6_judge_36.2 rfl rfl
noncomputable def dX6_judge_37 := zr_dX6_judge_37.1
noncomputable def zr_dX6_judge_40 := zo_6 (q := 41) zr_dX6_judge_37.2 rfl
noncomputable def dX6_judge_40 := zr_dX6_judge_40.1
noncomputable def zr_dX6_judge_41 := zo_42 (q := 42) zr_dX6_judge_40.2 rfl
noncomputable def dX6_judge_41 := zr_dX6_judge_41.1
noncomputable def zr_dX6_judge_42 := zo_180 (k := 95)  (q := 45) zr_dX6_judge_41.2 rfl rfl
noncomputable def dX6_judge_42 := zr_dX6_judge_42.1
noncomputable def zr_dX6_judge_45 := zo_104 (q := 46) zr_dX6_judge_42.2 rfl
noncomputable def dX6_judge_45 := zr_dX6_judge_45.1
noncomputable def zr_dX6_judge_46 := zo_4 (q := 47) zr_dX6_judge_45.2 rfl
noncomputable def dX6_judge_46 := zr_dX6_judge_46.1
noncomputable def zr_dX6_judge_47 := zo_96 (q := 48) zr_dX6_judge_46.2 rfl
noncomputable def dX6_judge_47 := zr_dX6_judge_47.1
noncomputable def zr_dX6_judge_48 := zo_3 (q := 49) zr_dX6_judge_47.2 rfl
noncomputable def dX6_judge_48 := zr_dX6_judge_48.1
noncomputable def zr_dX6_judge_49 := zo_79 (q := 50) zr_dX6_judge_48.2 rfl
noncomputable def dX6_judge_49 := zr_dX6_judge_49.1
noncomputable def zr_dX6_judge_50 := zo_42 (q := 51) zr_dX6_judge_49.2 rfl
noncomputable def dX6_judge_50 := zr_dX6_judge_50.1
noncomputable def zr_dX6_judge_51 := zo_180 (k := 19)  (q := 54) zr_dX6_judge_50.2 rfl rfl
noncomputable def dX6_judge_51 := zr_dX6_judge_51.1
noncomputable def zr_dX6_judge_54 := zo_6 (q := 55) zr_dX6_judge_51.2 rfl
noncomputable def dX6_judge_54 := zr_dX6_judge_54.1
noncomputable def zr_dX6_judge_55 := zo_42 (q := 56) zr_dX6_judge_54.2 rfl
noncomputable def dX6_judge_55 := zr_dX6_judge_55.1
noncomputable def zr_dX6_judge_56 := zo_180 (k := 95)  (q := 59) zr_dX6_judge_55.2 rfl rfl
noncomputable def dX6_judge_56 := zr_dX6_judge_56.1
noncomputable def zr_dX6_judge_59 := zo_104 (q := 60) zr_dX6_judge_56.2 rfl
noncomputable def dX6_judge_59 := zr_dX6_judge_59.1
noncomputable def zr_dX6_judge_60 := zo_5 (q := 61) zr_dX6_judge_59.2 rfl
noncomputable def dX6_judge_60 := zr_dX6_judge_60.1
noncomputable def zr_dX6_judge_61 := zo_96 (q := 62) zr_dX6_judge_60.2 rfl
noncomputable def dX6_judge_61 := zr_dX6_judge_61.1
noncomputable def zr_dX6_judge_62 := zo_3 (q := 63) zr_dX6_judge_61.2 rfl
noncomputable def dX6_judge_62 := zr_dX6_judge_62.1
noncomputable def zr_dX6_judge_63 := zo_79 (q := 64) zr_dX6_judge_62.2 rfl
noncomputable def dX6_judge_63 := zr_dX6_judge_63.1
noncomputable def zr_dX6_judge_64 := zo_42 (q := 65) zr_dX6_judge_63.2 rfl
noncomputable def dX6_judge_64 := zr_dX6_judge_64.1
noncomputable def zr_dX6_judge_65 := zo_89 (q := 66) zr_dX6_judge_64.2 rfl
noncomputable def dX6_judge_65 := zr_dX6_judge_65.1
noncomputable def zr_dX6_judge_66 := zo_180 (k := 95)  (q := 69) zr_dX6_judge_65.2 rfl rfl
noncomputable def dX6_judge_66 := zr_dX6_judge_66.1
noncomputable def zr_dX6_judge_69 := zo_4 (q := 70) zr_dX6_judge_66.2 rfl
noncomputable def dX6_judge_69 := zr_dX6_judge_69.1
noncomputable def zr_dX6_judge_70 := zo_96 (q := 71) zr_dX6_judge_69.2 rfl
noncomputable def dX6_judge_70 := zr_dX6_judge_70.1
noncomputable def zr_dX6_judge_71 := zo_181 (k := 95)  (q := 74) zr_dX6_judge_70.2 rfl rfl
noncomputable def dX6_judge_71 := zr_dX6_judge_71.1
noncomputable def zr_dX6_judge_74 := zo_42 (q := 75) zr_dX6_judge_71.2 rfl
noncomputable def dX6_judge_74 := zr_dX6_judge_74.1
noncomputable def zr_dX6_judge_75 := zo_180 (k := 95)  (q := 78) zr_dX6_judge_74.2 rfl rfl
noncomputable def dX6_judge_75 := zr_dX6_judge_75.1
noncomputable def zr_dX6_judge_78 := zo_4 (q := 79) zr_dX6_judge_75.2 rfl
noncomputable def dX6_judge_78 := zr_dX6_judge_78.1
noncomputable def zr_dX6_judge_79 := zo_100 (q := 80) zr_dX6_judge_78.2 rfl
noncomputable def dX6_judge_79 := zr_dX6_judge_79.1
noncomputable def zr_dX6_judge_80 := zo_172 (q := 81) zr_dX6_judge_79.2 rfl
noncomputable def dX6_judge_80 := zr_dX6_judge_80.1
theorem zs_dX6_shoe_0 : zsuf cX6_shoe 0 cX6_shoe.data.toList := rfl
noncomputable def zr_dX6_shoe_0 := zo_42 (q := 1) zs_dX6_shoe_0 rfl
noncomputable def dX6_shoe_0 := zr_dX6_shoe_0.1
noncomputable def zr_dX6_shoe_1 := zo_27 (q := 2) zr_dX6_shoe_0.2 rfl
noncomputable def dX6_shoe_1 := zr_dX6_shoe_1.1
noncomputable def zr_dX6_shoe_2 := zo_182 (k := 104)  (q := 5) zr_dX6_shoe_1.2 rfl rfl
noncomputable def dX6_shoe_2 := zr_dX6_shoe_2.1
noncomputable def zr_dX6_shoe_5 := zo_154 (k := 6)  (q := 8) zr_dX6_shoe_2.2 (by decide +kernel) rfl
noncomputable def dX6_shoe_5 := zr_dX6_shoe_5.1
noncomputable def zr_dX6_shoe_8 := zo_16 (k := -5)  (q := 10) zr_dX6_shoe_5.2 (by decide +kernel) rfl
noncomputable def dX6_shoe_8 := zr_dX6_shoe_8.1
noncomputable def zr_dX6_shoe_10 := zo_172 (q := 11) zr_dX6_shoe_8.2 rfl
noncomputable def dX6_shoe_10 := zr_dX6_shoe_10.1
noncomputable def zr_dX6_shoe_11 := zo_28 (q := 12) zr_dX6_shoe_10.2 rfl
noncomputable def dX6_shoe_11 := zr_dX6_shoe_11.1
noncomputable def zr_dX6_shoe_12 := zo_3 (q := 13) zr_dX6_shoe_11.2 rfl
noncomputable def dX6_shoe_12 := zr_dX6_shoe_12.1
noncomputable def zr_dX6_shoe_13 := zo_4 (q := 14) zr_dX6_shoe_12.2 rfl
noncomputable def dX6_shoe_13 := zr_dX6_shoe_13.1
noncomputable def zr_dX6_shoe_14 := zo_184 (k := 91)  (q := 17) zr_dX6_shoe_13.2 rfl rfl
noncomputable def dX6_shoe_14 := zr_dX6_shoe_14.1
noncomputable def zr_dX6_shoe_17 := zo_153 (k := 23)  (q := 20) zr_dX6_shoe_14.2 (by decide +kernel) rfl
noncomputable def dX6_shoe_17 := zr_dX6_shoe_17.1
noncomputable def zr_dX6_shoe_20 := zo_29 (q := 21) zr_dX6_shoe_17.2 rfl
noncomputable def dX6_shoe_20 := zr_dX6_shoe_20.1
noncomputable def zr_dX6_shoe_21 := zo_3 (q := 22) zr_dX6_shoe_20.2 rfl
noncomputable def dX6_shoe_21 := zr_dX6_shoe_21.1
noncomputable def zr_dX6_shoe_22 := zo_28 (q := 23) zr_dX6_shoe_21.2 rfl
noncomputable def dX6_shoe_22 := zr_dX6_shoe_22.1
noncomputable def zr_dX6_shoe_23 := zo_154 (k := 8)  (q := 26) zr_dX6_shoe_22.2 (by decide +kernel) rfl
noncomputable def dX6_shoe_23 := zr_dX6_shoe_23.1
noncomputable def zr_dX6_shoe_26 := zo_16 (k := 20)  (q := 28) zr_dX6_shoe_23.2 (by decide +kernel) rfl
noncomputable def dX6_shoe_26 := zr_dX6_shoe_26.1
noncomputable def zr_dX6_shoe_28 := zo_167 (k := 6)  (q := 31) zr_dX6_shoe_26.2 (by decide +kernel) rfl
noncomputable def dX6_shoe_28 := zr_dX6_shoe_28.1
noncomputable def zr_dX6_shoe_31 := zo_17 (k := 999)  (q := 34) zr_dX6_shoe_28.2 (by decide +kernel) rfl
noncomputable def dX6_shoe_31 := zr_dX6_shoe_31.1
noncomputable def zr_dX6_shoe_34 := zo_184 (k := 91)  (q := 37) zr_dX6_shoe_31.2 rfl rfl
noncomputable def dX6_shoe_34 := zr_dX6_shoe_34.1
noncomputable def zr_dX6_shoe_37 := zo_154 (k := 6)  (q := 40) zr_dX6_shoe_34.2 (by decide +kernel) rfl
noncomputable def dX6_shoe_37 := zr_dX6_shoe_37.1
noncomputable def zr_dX6_shoe_40 := zo_16 (k := -7)  (q := 42) zr_dX6_shoe_37.2 (by decide +kernel) rfl
noncomputable def dX6_shoe_40 := zr_dX6_shoe_40.1
noncomputable def zr_dX6_shoe_42 := zo_172 (q := 43) zr_dX6_shoe_40.2 rfl
noncomputable def dX6_shoe_42 := zr_dX6_shoe_42.1
noncomputable def zr_dX6_shoe_43 := zo_42 (q := 44) zr_dX6_shoe_42.2 rfl
noncomputable def dX6_shoe_43 := zr_dX6_shoe_43.1
noncomputable def zr_dX6_shoe_44 := zo_180 (k := 19)  (q := 47) zr_dX6_shoe_43.2 rfl rfl
noncomputable def dX6_shoe_44 := zr_dX6_shoe_44.1
noncomputable def zr_dX6_shoe_47 := zo_6 (q := 48) zr_dX6_shoe_44.2 rfl
noncomputable def dX6_shoe_47 := zr_dX6_shoe_47.1
noncomputable def zr_dX6_shoe_48 := zo_27 (q := 49) zr_dX6_shoe_47.2 rfl
noncomputable def dX6_shoe_48 := zr_dX6_shoe_48.1
noncomputable def zr_dX6_shoe_49 := zo_104 (q := 50) zr_dX6_shoe_48.2 rfl
noncomputable def dX6_shoe_49 := zr_dX6_shoe_49.1
noncomputable def zr_dX6_shoe_50 := zo_28 (q := 51) zr_dX6_shoe_49.2 rfl
noncomputable def dX6_shoe_50 := zr_dX6_shoe_50.1
noncomputable def zr_dX6_shoe_51 := zo_96 (q := 52) zr_dX6_shoe_50.2 rfl
noncomputable def dX6_shoe_51 := zr_dX6_shoe_51.1
noncomputable def zr_dX6_shoe_52 := zo_46 (q := 53) zr_dX6_shoe_51.2 rfl
noncomputable def dX6_shoe_52 := zr_dX6_shoe_52.1
noncomputable def zr_dX6_shoe_53 := zo_54 (k := 4)  (q := 55) zr_dX6_shoe_52.2 rfl rfl
noncomputable def dX6_shoe_53 := zr_dX6_shoe_53.1
noncomputable def zr_dX6_shoe_55 := zo_42 (q := 56) zr_dX6_shoe_53.2 rfl
noncomputable def dX6_shoe_55 := zr_dX6_shoe_55.1
noncomputable def zr_dX6_shoe_56 := zo_180 (k := 19)  (q := 59) zr_dX6_shoe_55.2 rfl rfl
noncomputable def dX6_shoe_56 := zr_dX6_shoe_56.1
noncomputable def zr_dX6_shoe_59 := zo_6 (q := 60) zr_dX6_shoe_56.2 rfl
noncomputable def dX6_shoe_59 := zr_dX6_shoe_59.1
noncomputable def zr_dX6_shoe_60 := zo_27 (q := 61) zr_dX6_shoe_59.2 rfl
noncomputable def dX6_shoe_60 := zr_dX6_shoe_60.1
noncomputable def zr_dX6_shoe_61 := zo_104 (q := 62) zr_dX6_shoe_60.2 rfl
noncomputable def dX6_shoe_61 := zr_dX6_shoe_61.1
noncomputable def zr_dX6_shoe_62 := zo_28 (q := 63) zr_dX6_shoe_61.2 rfl
noncomputable def dX6_shoe_62 := zr_dX6_shoe_62.1
noncomputable def zr_dX6_shoe_63 := zo_96 (q := 64) zr_dX6_shoe_62.2 rfl
noncomputable def dX6_shoe_63 := zr_dX6_shoe_63.1
noncomputable def zr_dX6_shoe_64 := zo_29 (q := 65) zr_dX6_shoe_63.2 rfl
noncomputable def dX6_shoe_64 := zr_dX6_shoe_64.1
noncomputable def zr_dX6_shoe_65 := zo_79 (q := 66) zr_dX6_shoe_64.2 rfl
noncomputable def dX6_shoe_65 := zr_dX6_shoe_65.1
noncomputable def zr_dX6_shoe_66 := zo_21 (k := 4)  (q := 68) zr_dX6_shoe_65.2 rfl rfl
noncomputable def dX6_shoe_66 := zr_dX6_shoe_66.1
noncomputable def zr_dX6_shoe_68 := zo_172 (q := 69) zr_dX6_shoe_66.2 rfl
noncomputable def dX6_shoe_68 := zr_dX6_shoe_68.1
theorem zs_dX6_bench_0 : zsuf cX6_bench 0 cX6_bench.data.toList := rfl
noncomputable def zr_dX6_bench_0 := zo_42 (q := 1) zs_dX6_bench_0 rfl
noncomputable def dX6_bench_0 := zr_dX6_bench_0.1
noncomputable def zr_dX6_bench_1 := zo_27 (q := 2) zr_dX6_bench_0.2 rfl
noncomputable def dX6_bench_1 := zr_dX6_bench_1.1
noncomputable def zr_dX6_bench_2 := zo_182 (k := 104)  (q := 5) zr_dX6_bench_1.2 rfl rfl
noncomputable def dX6_bench_2 := zr_dX6_bench_2.1
noncomputable def zr_dX6_bench_5 := zo_154 (k := 6)  (q := 8) zr_dX6_bench_2.2 (by decide +kernel) rfl
noncomputable def dX6_bench_5 := zr_dX6_bench_5.1
noncomputable def zr_dX6_bench_8 := zo_16 (k := -5)  (q := 10) zr_dX6_bench_5.2 (by decide +kernel) rfl
noncomputable def dX6_bench_8 := zr_dX6_bench_8.1
noncomputable def zr_dX6_bench_10 := zo_172 (q := 11) zr_dX6_bench_8.2 rfl
noncomputable def dX6_bench_10 := zr_dX6_bench_10.1
noncomputable def zr_dX6_bench_11 := zo_28 (q := 12) zr_dX6_bench_10.2 rfl
noncomputable def dX6_bench_11 := zr_dX6_bench_11.1
noncomputable def zr_dX6_bench_12 := zo_3 (q := 13) zr_dX6_bench_11.2 rfl
noncomputable def dX6_bench_12 := zr_dX6_bench_12.1
noncomputable def zr_dX6_bench_13 := zo_5 (q := 14) zr_dX6_bench_12.2 rfl
noncomputable def dX6_bench_13 := zr_dX6_bench_13.1
noncomputable def zr_dX6_bench_14 := zo_184 (k := 91)  (q := 17) zr_dX6_bench_13.2 rfl rfl
noncomputable def dX6_bench_14 := zr_dX6_bench_14.1
noncomputable def zr_dX6_bench_17 := zo_153 (k := 16)  (q := 20) zr_dX6_bench_14.2 (by decide +kernel) rfl
noncomputable def dX6_bench_17 := zr_dX6_bench_17.1
noncomputable def zr_dX6_bench_20 := zo_42 (q := 21) zr_dX6_bench_17.2 rfl
noncomputable def dX6_bench_20 := zr_dX6_bench_20.1
noncomputable def zr_dX6_bench_21 := zo_180 (k := 19)  (q := 24) zr_dX6_bench_20.2 rfl rfl
noncomputable def dX6_bench_21 := zr_dX6_bench_21.1
noncomputable def zr_dX6_bench_24 := zo_6 (q := 25) zr_dX6_bench_21.2 rfl
noncomputable def dX6_bench_24 := zr_dX6_bench_24.1
noncomputable def zr_dX6_bench_25 := zo_27 (q := 26) zr_dX6_bench_24.2 rfl
noncomputable def dX6_bench_25 := zr_dX6_bench_25.1
noncomputable def zr_dX6_bench_26 := zo_104 (q := 27) zr_dX6_bench_25.2 rfl
noncomputable def dX6_bench_26 := zr_dX6_bench_26.1
noncomputable def zr_dX6_bench_27 := zo_28 (q := 28) zr_dX6_bench_26.2 rfl
noncomputable def dX6_bench_27 := zr_dX6_bench_27.1
noncomputable def zr_dX6_bench_28 := zo_96 (q := 29) zr_dX6_bench_27.2 rfl
noncomputable def dX6_bench_28 := zr_dX6_bench_28.1
noncomputable def zr_dX6_bench_29 := zo_46 (q := 30) zr_dX6_bench_28.2 rfl
noncomputable def dX6_bench_29 := zr_dX6_bench_29.1
noncomputable def zr_dX6_bench_30 := zo_167 (k := 5)  (q := 33) zr_dX6_bench_29.2 (by decide +kernel) rfl
noncomputable def dX6_bench_30 := zr_dX6_bench_30.1
noncomputable def zr_dX6_bench_33 := zo_16 (k := -7)  (q := 35) zr_dX6_bench_30.2 (by decide +kernel) rfl
noncomputable def dX6_bench_33 := zr_dX6_bench_33.1
noncomputable def zr_dX6_bench_35 := zo_172 (q := 36) zr_dX6_bench_33.2 rfl
noncomputable def dX6_bench_35 := zr_dX6_bench_35.1
theorem zs_dX6_isByte_0 : zsuf cX6_isByte 0 cX6_isByte.data.toList := rfl
noncomputable def zr_dX6_isByte_0 := zo_26 (q := 1) zs_dX6_isByte_0 rfl
noncomputable def dX6_isByte_0 := zr_dX6_isByte_0.1
noncomputable def zr_dX6_isByte_1 := zo_3 (q := 2) zr_dX6_isByte_0.2 rfl
noncomputable def dX6_isByte_1 := zr_dX6_isByte_1.1
noncomputable def zr_dX6_isByte_2 := zo_17 (k := 255)  (q := 5) zr_dX6_isByte_1.2 (by decide +kernel) rfl
noncomputable def dX6_isByte_2 := zr_dX6_isByte_2.1
noncomputable def zr_dX6_isByte_5 := zo_184 (k := 91)  (q := 8) zr_dX6_isByte_2.2 rfl rfl
noncomputable def dX6_isByte_5 := zr_dX6_isByte_5.1
noncomputable def zr_dX6_isByte_8 := zo_172 (q := 9) zr_dX6_isByte_5.2 rfl
noncomputable def dX6_isByte_8 := zr_dX6_isByte_8.1
theorem zs_dX6_feed_0 : zsuf cX6_feed 0 cX6_feed.data.toList := rfl
noncomputable def zr_dX6_feed_0 := zo_27 (q := 1) zs_dX6_feed_0 rfl
noncomputable def dX6_feed_0 := zr_dX6_feed_0.1
noncomputable def zr_dX6_feed_1 := zo_4 (q := 2) zr_dX6_feed_0.2 rfl
noncomputable def dX6_feed_1 := zr_dX6_feed_1.1
noncomputable def zr_dX6_feed_2 := zo_8 (q := 3) zr_dX6_feed_1.2 rfl
noncomputable def dX6_feed_2 := zr_dX6_feed_2.1
noncomputable def zr_dX6_feed_3 := zo_184 (k := 91)  (q := 6) zr_dX6_feed_2.2 rfl rfl
noncomputable def dX6_feed_3 := zr_dX6_feed_3.1
noncomputable def zr_dX6_feed_6 := zo_153 (k := 41)  (q := 9) zr_dX6_feed_3.2 (by decide +kernel) rfl
noncomputable def dX6_feed_6 := zr_dX6_feed_6.1
noncomputable def zr_dX6_feed_9 := zo_28 (q := 10) zr_dX6_feed_6.2 rfl
noncomputable def dX6_feed_9 := zr_dX6_feed_9.1
noncomputable def zr_dX6_feed_10 := zo_184 (k := 108)  (q := 13) zr_dX6_feed_9.2 rfl rfl
noncomputable def dX6_feed_10 := zr_dX6_feed_10.1
noncomputable def zr_dX6_feed_13 := zo_153 (k := 34)  (q := 16) zr_dX6_feed_10.2 (by decide +kernel) rfl
noncomputable def dX6_feed_13 := zr_dX6_feed_13.1
noncomputable def zr_dX6_feed_16 := zo_29 (q := 17) zr_dX6_feed_13.2 rfl
noncomputable def dX6_feed_16 := zr_dX6_feed_16.1
noncomputable def zr_dX6_feed_17 := zo_184 (k := 108)  (q := 20) zr_dX6_feed_16.2 rfl rfl
noncomputable def dX6_feed_17 := zr_dX6_feed_17.1
noncomputable def zr_dX6_feed_20 := zo_153 (k := 27)  (q := 23) zr_dX6_feed_17.2 (by decide +kernel) rfl
noncomputable def dX6_feed_20 := zr_dX6_feed_20.1
noncomputable def zr_dX6_feed_23 := zo_21 (k := 4)  (q := 25) zr_dX6_feed_20.2 rfl rfl
noncomputable def dX6_feed_23 := zr_dX6_feed_23.1
noncomputable def zr_dX6_feed_25 := zo_184 (k := 108)  (q := 28) zr_dX6_feed_23.2 rfl rfl
noncomputable def dX6_feed_25 := zr_dX6_feed_25.1
noncomputable def zr_dX6_feed_28 := zo_153 (k := 19)  (q := 31) zr_dX6_feed_25.2 (by decide +kernel) rfl
noncomputable def dX6_feed_28 := zr_dX6_feed_28.1
noncomputable def zr_dX6_feed_31 := zo_21 (k := 5)  (q := 33) zr_dX6_feed_28.2 rfl rfl
noncomputable def dX6_feed_31 := zr_dX6_feed_31.1
noncomputable def zr_dX6_feed_33 := zo_184 (k := 108)  (q := 36) zr_dX6_feed_31.2 rfl rfl
noncomputable def dX6_feed_33 := zr_dX6_feed_33.1
noncomputable def zr_dX6_feed_36 := zo_153 (k := 11)  (q := 39) zr_dX6_feed_33.2 (by decide +kernel) rfl
noncomputable def dX6_feed_36 := zr_dX6_feed_36.1
noncomputable def zr_dX6_feed_39 := zo_21 (k := 6)  (q := 41) zr_dX6_feed_36.2 rfl rfl
noncomputable def dX6_feed_39 := zr_dX6_feed_39.1
noncomputable def zr_dX6_feed_41 := zo_184 (k := 108)  (q := 44) zr_dX6_feed_39.2 rfl rfl
noncomputable def dX6_feed_41 := zr_dX6_feed_41.1
noncomputable def zr_dX6_feed_44 := zo_154 (k := 6)  (q := 47) zr_dX6_feed_41.2 (by decide +kernel) rfl
noncomputable def dX6_feed_44 := zr_dX6_feed_44.1
noncomputable def zr_dX6_feed_47 := zo_16 (k := -2)  (q := 49) zr_dX6_feed_44.2 (by decide +kernel) rfl
noncomputable def dX6_feed_47 := zr_dX6_feed_47.1
noncomputable def zr_dX6_feed_49 := zo_172 (q := 50) zr_dX6_feed_47.2 rfl
noncomputable def dX6_feed_49 := zr_dX6_feed_49.1
noncomputable def zr_dX6_feed_50 := zo_42 (q := 51) zr_dX6_feed_49.2 rfl
noncomputable def dX6_feed_50 := zr_dX6_feed_50.1
noncomputable def zr_dX6_feed_51 := zo_180 (k := 80)  (q := 54) zr_dX6_feed_50.2 rfl rfl
noncomputable def dX6_feed_51 := zr_dX6_feed_51.1
noncomputable def zr_dX6_feed_54 := zo_27 (q := 55) zr_dX6_feed_51.2 rfl
noncomputable def dX6_feed_54 := zr_dX6_feed_54.1
noncomputable def zr_dX6_feed_55 := zo_96 (q := 56) zr_dX6_feed_54.2 rfl
noncomputable def dX6_feed_55 := zr_dX6_feed_55.1
noncomputable def zr_dX6_feed_56 := zo_17 (k := 160)  (q := 59) zr_dX6_feed_55.2 (by decide +kernel) rfl
noncomputable def dX6_feed_56 := zr_dX6_feed_56.1
noncomputable def zr_dX6_feed_59 := zo_164 (k := 6)  (q := 62) zr_dX6_feed_56.2 (by decide +kernel) rfl
noncomputable def dX6_feed_59 := zr_dX6_feed_59.1
noncomputable def zr_dX6_feed_62 := zo_16 (k := -4)  (q := 64) zr_dX6_feed_59.2 (by decide +kernel) rfl
noncomputable def dX6_feed_62 := zr_dX6_feed_62.1
noncomputable def zr_dX6_feed_64 := zo_172 (q := 65) zr_dX6_feed_62.2 rfl
noncomputable def dX6_feed_64 := zr_dX6_feed_64.1
noncomputable def zr_dX6_feed_65 := zo_3 (q := 66) zr_dX6_feed_64.2 rfl
noncomputable def dX6_feed_65 := zr_dX6_feed_65.1
noncomputable def zr_dX6_feed_66 := zo_54 (k := 7)  (q := 68) zr_dX6_feed_65.2 rfl rfl
noncomputable def dX6_feed_66 := zr_dX6_feed_66.1
noncomputable def zr_dX6_feed_68 := zo_21 (k := 7)  (q := 70) zr_dX6_feed_66.2 rfl rfl
noncomputable def dX6_feed_68 := zr_dX6_feed_68.1
noncomputable def zr_dX6_feed_70 := zo_27 (q := 71) zr_dX6_feed_68.2 rfl
noncomputable def dX6_feed_70 := zr_dX6_feed_70.1
noncomputable def zr_dX6_feed_71 := zo_162 (k := 71)  (q := 74) zr_dX6_feed_70.2 (by decide +kernel) rfl
noncomputable def dX6_feed_71 := zr_dX6_feed_71.1
noncomputable def zr_dX6_feed_74 := zo_42 (q := 75) zr_dX6_feed_71.2 rfl
noncomputable def dX6_feed_74 := zr_dX6_feed_74.1
noncomputable def zr_dX6_feed_75 := zo_180 (k := 22)  (q := 78) zr_dX6_feed_74.2 rfl rfl
noncomputable def dX6_feed_75 := zr_dX6_feed_75.1
noncomputable def zr_dX6_feed_78 := zo_42 (q := 79) zr_dX6_feed_75.2 rfl
noncomputable def dX6_feed_78 := zr_dX6_feed_78.1
noncomputable def zr_dX6_feed_79 := zo_180 (k := 80)  (q := 82) zr_dX6_feed_78.2 rfl rfl
noncomputable def dX6_feed_79 := zr_dX6_feed_79.1
noncomputable def zr_dX6_feed_82 := zo_21 (k := 7)  (q := 84) zr_dX6_feed_79.2 rfl rfl
noncomputable def dX6_feed_82 := zr_dX6_feed_82.1
noncomputable def zr_dX6_feed_84 := zo_154 (k := 7)  (q := 87) zr_dX6_feed_82.2 (by decide +kernel) rfl
noncomputable def dX6_feed_84 := zr_dX6_feed_84.1
noncomputable def zr_dX6_feed_87 := zo_28 (q := 88) zr_dX6_feed_84.2 rfl
noncomputable def dX6_feed_87 := zr_dX6_feed_87.1
noncomputable def zr_dX6_feed_88 := zo_167 (k := 37)  (q := 91) zr_dX6_feed_87.2 (by decide +kernel) rfl
noncomputable def dX6_feed_88 := zr_dX6_feed_88.1
noncomputable def zr_dX6_feed_91 := zo_21 (k := 7)  (q := 93) zr_dX6_feed_88.2 rfl rfl
noncomputable def dX6_feed_91 := zr_dX6_feed_91.1
noncomputable def zr_dX6_feed_93 := zo_4 (q := 94) zr_dX6_feed_91.2 rfl
noncomputable def dX6_feed_93 := zr_dX6_feed_93.1
noncomputable def zr_dX6_feed_94 := zo_160 (k := 7)  (q := 97) zr_dX6_feed_93.2 (by decide +kernel) rfl
noncomputable def dX6_feed_94 := zr_dX6_feed_94.1
noncomputable def zr_dX6_feed_97 := zo_29 (q := 98) zr_dX6_feed_94.2 rfl
noncomputable def dX6_feed_97 := zr_dX6_feed_97.1
noncomputable def zr_dX6_feed_98 := zo_167 (k := 27)  (q := 101) zr_dX6_feed_97.2 (by decide +kernel) rfl
noncomputable def dX6_feed_98 := zr_dX6_feed_98.1
noncomputable def zr_dX6_feed_101 := zo_21 (k := 7)  (q := 103) zr_dX6_feed_98.2 rfl rfl
noncomputable def dX6_feed_101 := zr_dX6_feed_101.1
noncomputable def zr_dX6_feed_103 := zo_5 (q := 104) zr_dX6_feed_101.2 rfl
noncomputable def dX6_feed_103 := zr_dX6_feed_103.1
noncomputable def zr_dX6_feed_104 := zo_160 (k := 8)  (q := 107) zr_dX6_feed_103.2 (by decide +kernel) rfl
noncomputable def dX6_feed_104 := zr_dX6_feed_104.1
noncomputable def zr_dX6_feed_107 := zo_21 (k := 4)  (q := 109) zr_dX6_feed_104.2 rfl rfl
noncomputable def dX6_feed_107 := zr_dX6_feed_107.1
noncomputable def zr_dX6_feed_109 := zo_167 (k := 16)  (q := 112) zr_dX6_feed_107.2 (by decide +kernel) rfl
noncomputable def dX6_feed_109 := zr_dX6_feed_109.1
noncomputable def zr_dX6_feed_112 := zo_21 (k := 7)  (q := 114) zr_dX6_feed_109.2 rfl rfl
noncomputable def dX6_feed_112 := zr_dX6_feed_112.1
noncomputable def zr_dX6_feed_114 := zo_6 (q := 115) zr_dX6_feed_112.2 rfl
noncomputable def dX6_feed_114 := zr_dX6_feed_114.1
noncomputable def zr_dX6_feed_115 := zo_160 (k := 8)  (q := 118) zr_dX6_feed_114.2 (by decide +kernel) rfl
noncomputable def dX6_feed_115 := zr_dX6_feed_115.1
noncomputable def zr_dX6_feed_118 := zo_21 (k := 5)  (q := 120) zr_dX6_feed_115.2 rfl rfl
noncomputable def dX6_feed_118 := zr_dX6_feed_118.1
noncomputable def zr_dX6_feed_120 := zo_167 (k := 5)  (q := 123) zr_dX6_feed_118.2 (by decide +kernel) rfl
noncomputable def dX6_feed_120 := zr_dX6_feed_120.1
noncomputable def zr_dX6_feed_123 := zo_21 (k := 6)  (q := 125) zr_dX6_feed_120.2 rfl rfl
noncomputable def dX6_feed_123 := zr_dX6_feed_123.1
noncomputable def zr_dX6_feed_125 := zo_79 (q := 126) zr_dX6_feed_123.2 rfl
noncomputable def dX6_feed_125 := zr_dX6_feed_125.1
noncomputable def zr_dX6_feed_126 := zo_42 (q := 127) zr_dX6_feed_125.2 rfl
noncomputable def dX6_feed_126 := zr_dX6_feed_126.1
noncomputable def zr_dX6_feed_127 := zo_89 (q := 128) zr_dX6_feed_126.2 rfl
noncomputable def dX6_feed_127 := zr_dX6_feed_127.1
noncomputable def zr_dX6_feed_128 := zo_180 (k := 80)  (q := 131) zr_dX6_feed_127.2 rfl rfl
noncomputable def dX6_feed_128 := zr_dX6_feed_128.1
noncomputable def zr_dX6_feed_131 := zo_4 (q := 132) zr_dX6_feed_128.2 rfl
noncomputable def dX6_feed_131 := zr_dX6_feed_131.1
noncomputable def zr_dX6_feed_132 := zo_96 (q := 133) zr_dX6_feed_131.2 rfl
noncomputable def dX6_feed_132 := zr_dX6_feed_132.1
noncomputable def zr_dX6_feed_133 := zo_181 (k := 80)  (q := 136) zr_dX6_feed_132.2 rfl rfl
noncomputable def dX6_feed_133 := zr_dX6_feed_133.1
noncomputable def zr_dX6_feed_136 := zo_132 (k := 7) (o := 1)  (q := 139) zr_dX6_feed_133.2 rfl (by decide +kernel) rfl
noncomputable def dX6_feed_136 := zr_dX6_feed_136.1
noncomputable def zr_dX6_feed_139 := zo_167 (k := -71)  (q := 142) zr_dX6_feed_136.2 (by decide +kernel) rfl
noncomputable def dX6_feed_139 := zr_dX6_feed_139.1
noncomputable def zr_dX6_feed_142 := zo_42 (q := 143) zr_dX6_feed_139.2 rfl
noncomputable def dX6_feed_142 := zr_dX6_feed_142.1
noncomputable def zr_dX6_feed_143 := zo_180 (k := 80)  (q := 146) zr_dX6_feed_142.2 rfl rfl
noncomputable def dX6_feed_143 := zr_dX6_feed_143.1
noncomputable def zr_dX6_feed_146 := zo_172 (q := 147) zr_dX6_feed_143.2 rfl
noncomputable def dX6_feed_146 := zr_dX6_feed_146.1
theorem zs_dX6_wordFrom_0 : zsuf cX6_wordFrom 0 cX6_wordFrom.data.toList := rfl
noncomputable def zr_dX6_wordFrom_0 := zo_3 (q := 1) zs_dX6_wordFrom_0 rfl
noncomputable def dX6_wordFrom_0 := zr_dX6_wordFrom_0.1
noncomputable def zr_dX6_wordFrom_1 := zo_62 (q := 2) zr_dX6_wordFrom_0.2 rfl
noncomputable def dX6_wordFrom_1 := zr_dX6_wordFrom_1.1
noncomputable def zr_dX6_wordFrom_2 := zo_29 (q := 3) zr_dX6_wordFrom_1.2 rfl
noncomputable def dX6_wordFrom_2 := zr_dX6_wordFrom_2.1
noncomputable def zr_dX6_wordFrom_3 := zo_16 (k := 12)  (q := 5) zr_dX6_wordFrom_2.2 (by decide +kernel) rfl
noncomputable def dX6_wordFrom_3 := zr_dX6_wordFrom_3.1
noncomputable def zr_dX6_wordFrom_5 := zo_162 (k := 96)  (q := 8) zr_dX6_wordFrom_3.2 (by decide +kernel) rfl
noncomputable def dX6_wordFrom_5 := zr_dX6_wordFrom_5.1
noncomputable def zr_dX6_wordFrom_8 := zo_28 (q := 9) zr_dX6_wordFrom_5.2 rfl
noncomputable def dX6_wordFrom_8 := zr_dX6_wordFrom_8.1
noncomputable def zr_dX6_wordFrom_9 := zo_27 (q := 10) zr_dX6_wordFrom_8.2 rfl
noncomputable def dX6_wordFrom_9 := zr_dX6_wordFrom_9.1
noncomputable def zr_dX6_wordFrom_10 := zo_100 (q := 11) zr_dX6_wordFrom_9.2 rfl
noncomputable def dX6_wordFrom_10 := zr_dX6_wordFrom_10.1
noncomputable def zr_dX6_wordFrom_11 := zo_16 (k := 8)  (q := 13) zr_dX6_wordFrom_10.2 (by decide +kernel) rfl
noncomputable def dX6_wordFrom_11 := zr_dX6_wordFrom_11.1
noncomputable def zr_dX6_wordFrom_13 := zo_163 (k := 7)  (q := 16) zr_dX6_wordFrom_11.2 (by decide +kernel) rfl
noncomputable def dX6_wordFrom_13 := zr_dX6_wordFrom_13.1
noncomputable def zr_dX6_wordFrom_16 := zo_4 (q := 17) zr_dX6_wordFrom_13.2 rfl
noncomputable def dX6_wordFrom_16 := zr_dX6_wordFrom_16.1
noncomputable def zr_dX6_wordFrom_17 := zo_167 (k := 4)  (q := 20) zr_dX6_wordFrom_16.2 (by decide +kernel) rfl
noncomputable def dX6_wordFrom_17 := zr_dX6_wordFrom_17.1
noncomputable def zr_dX6_wordFrom_20 := zo_3 (q := 21) zr_dX6_wordFrom_17.2 rfl
noncomputable def dX6_wordFrom_20 := zr_dX6_wordFrom_20.1
noncomputable def zr_dX6_wordFrom_21 := zo_54 (k := 4)  (q := 23) zr_dX6_wordFrom_20.2 rfl rfl
noncomputable def dX6_wordFrom_21 := zr_dX6_wordFrom_21.1
noncomputable def zr_dX6_wordFrom_23 := zo_3 (q := 24) zr_dX6_wordFrom_21.2 rfl
noncomputable def dX6_wordFrom_23 := zr_dX6_wordFrom_23.1
noncomputable def zr_dX6_wordFrom_24 := zo_54 (k := 5)  (q := 26) zr_dX6_wordFrom_23.2 rfl rfl
noncomputable def dX6_wordFrom_24 := zr_dX6_wordFrom_24.1
noncomputable def zr_dX6_wordFrom_26 := zo_21 (k := 5)  (q := 28) zr_dX6_wordFrom_24.2 rfl rfl
noncomputable def dX6_wordFrom_26 := zr_dX6_wordFrom_26.1
noncomputable def zr_dX6_wordFrom_28 := zo_16 (k := 8)  (q := 30) zr_dX6_wordFrom_26.2 (by decide +kernel) rfl
noncomputable def dX6_wordFrom_28 := zr_dX6_wordFrom_28.1
noncomputable def zr_dX6_wordFrom_30 := zo_162 (k := 58)  (q := 33) zr_dX6_wordFrom_28.2 (by decide +kernel) rfl
noncomputable def dX6_wordFrom_30 := zr_dX6_wordFrom_30.1
noncomputable def zr_dX6_wordFrom_33 := zo_21 (k := 4)  (q := 35) zr_dX6_wordFrom_30.2 rfl rfl
noncomputable def dX6_wordFrom_33 := zr_dX6_wordFrom_33.1
noncomputable def zr_dX6_wordFrom_35 := zo_153 (k := 53)  (q := 38) zr_dX6_wordFrom_33.2 (by decide +kernel) rfl
noncomputable def dX6_wordFrom_35 := zr_dX6_wordFrom_35.1
noncomputable def zr_dX6_wordFrom_38 := zo_42 (q := 39) zr_dX6_wordFrom_35.2 rfl
noncomputable def dX6_wordFrom_38 := zr_dX6_wordFrom_38.1
noncomputable def zr_dX6_wordFrom_39 := zo_180 (k := 49)  (q := 42) zr_dX6_wordFrom_38.2 rfl rfl
noncomputable def dX6_wordFrom_39 := zr_dX6_wordFrom_39.1
noncomputable def zr_dX6_wordFrom_42 := zo_16 (k := 8)  (q := 44) zr_dX6_wordFrom_39.2 (by decide +kernel) rfl
noncomputable def dX6_wordFrom_42 := zr_dX6_wordFrom_42.1
noncomputable def zr_dX6_wordFrom_44 := zo_29 (q := 45) zr_dX6_wordFrom_42.2 rfl
noncomputable def dX6_wordFrom_44 := zr_dX6_wordFrom_44.1
noncomputable def zr_dX6_wordFrom_45 := zo_104 (q := 46) zr_dX6_wordFrom_44.2 rfl
noncomputable def dX6_wordFrom_45 := zr_dX6_wordFrom_45.1
noncomputable def zr_dX6_wordFrom_46 := zo_21 (k := 5)  (q := 48) zr_dX6_wordFrom_45.2 rfl rfl
noncomputable def dX6_wordFrom_46 := zr_dX6_wordFrom_46.1
noncomputable def zr_dX6_wordFrom_48 := zo_96 (q := 49) zr_dX6_wordFrom_46.2 rfl
noncomputable def dX6_wordFrom_48 := zr_dX6_wordFrom_48.1
noncomputable def zr_dX6_wordFrom_49 := zo_46 (q := 50) zr_dX6_wordFrom_48.2 rfl
noncomputable def dX6_wordFrom_49 := zr_dX6_wordFrom_49.1
noncomputable def zr_dX6_wordFrom_50 := zo_27 (q := 51) zr_dX6_wordFrom_49.2 rfl
noncomputable def dX6_wordFrom_50 := zr_dX6_wordFrom_50.1
noncomputable def zr_dX6_wordFrom_51 := zo_21 (k := 5)  (q := 53) zr_dX6_wordFrom_50.2 rfl rfl
noncomputable def dX6_wordFrom_51 := zr_dX6_wordFrom_51.1
noncomputable def zr_dX6_wordFrom_53 := zo_96 (q := 54) zr_dX6_wordFrom_51.2 rfl
noncomputable def dX6_wordFrom_53 := zr_dX6_wordFrom_53.1
noncomputable def zr_dX6_wordFrom_54 := zo_28 (q := 55) zr_dX6_wordFrom_53.2 rfl
noncomputable def dX6_wordFrom_54 := zr_dX6_wordFrom_54.1
noncomputable def zr_dX6_wordFrom_55 := zo_162 (k := 15)  (q := 58) zr_dX6_wordFrom_54.2 (by decide +kernel) rfl
noncomputable def dX6_wordFrom_55 := zr_dX6_wordFrom_55.1
noncomputable def zr_dX6_wordFrom_58 := zo_42 (q := 59) zr_dX6_wordFrom_55.2 rfl
noncomputable def dX6_wordFrom_58 := zr_dX6_wordFrom_58.1
noncomputable def zr_dX6_wordFrom_59 := zo_180 (k := 22)  (q := 62) zr_dX6_wordFrom_58.2 rfl rfl
noncomputable def dX6_wordFrom_59 := zr_dX6_wordFrom_59.1
noncomputable def zr_dX6_wordFrom_62 := zo_27 (q := 63) zr_dX6_wordFrom_59.2 rfl
noncomputable def dX6_wordFrom_62 := zr_dX6_wordFrom_62.1
noncomputable def zr_dX6_wordFrom_63 := zo_21 (k := 5)  (q := 65) zr_dX6_wordFrom_62.2 rfl rfl
noncomputable def dX6_wordFrom_63 := zr_dX6_wordFrom_63.1
noncomputable def zr_dX6_wordFrom_65 := zo_96 (q := 66) zr_dX6_wordFrom_63.2 rfl
noncomputable def dX6_wordFrom_65 := zr_dX6_wordFrom_65.1
noncomputable def zr_dX6_wordFrom_66 := zo_46 (q := 67) zr_dX6_wordFrom_65.2 rfl
noncomputable def dX6_wordFrom_66 := zr_dX6_wordFrom_66.1
noncomputable def zr_dX6_wordFrom_67 := zo_167 (k := 5)  (q := 70) zr_dX6_wordFrom_66.2 (by decide +kernel) rfl
noncomputable def dX6_wordFrom_67 := zr_dX6_wordFrom_67.1
noncomputable def zr_dX6_wordFrom_70 := zo_16 (k := 32)  (q := 72) zr_dX6_wordFrom_67.2 (by decide +kernel) rfl
noncomputable def dX6_wordFrom_70 := zr_dX6_wordFrom_70.1
noncomputable def zr_dX6_wordFrom_72 := zo_160 (k := 7)  (q := 75) zr_dX6_wordFrom_70.2 (by decide +kernel) rfl
noncomputable def dX6_wordFrom_72 := zr_dX6_wordFrom_72.1
noncomputable def zr_dX6_wordFrom_75 := zo_4 (q := 76) zr_dX6_wordFrom_72.2 rfl
noncomputable def dX6_wordFrom_75 := zr_dX6_wordFrom_75.1
noncomputable def zr_dX6_wordFrom_76 := zo_167 (k := 4)  (q := 79) zr_dX6_wordFrom_75.2 (by decide +kernel) rfl
noncomputable def dX6_wordFrom_76 := zr_dX6_wordFrom_76.1
noncomputable def zr_dX6_wordFrom_79 := zo_3 (q := 80) zr_dX6_wordFrom_76.2 rfl
noncomputable def dX6_wordFrom_79 := zr_dX6_wordFrom_79.1
noncomputable def zr_dX6_wordFrom_80 := zo_54 (k := 4)  (q := 82) zr_dX6_wordFrom_79.2 rfl rfl
noncomputable def dX6_wordFrom_80 := zr_dX6_wordFrom_80.1
noncomputable def zr_dX6_wordFrom_82 := zo_132 (k := 5) (o := 1)  (q := 85) zr_dX6_wordFrom_80.2 rfl (by decide +kernel) rfl
noncomputable def dX6_wordFrom_82 := zr_dX6_wordFrom_82.1
noncomputable def zr_dX6_wordFrom_85 := zo_167 (k := -59)  (q := 88) zr_dX6_wordFrom_82.2 (by decide +kernel) rfl
noncomputable def dX6_wordFrom_85 := zr_dX6_wordFrom_85.1
noncomputable def zr_dX6_wordFrom_88 := zo_21 (k := 4)  (q := 90) zr_dX6_wordFrom_85.2 rfl rfl
noncomputable def dX6_wordFrom_88 := zr_dX6_wordFrom_88.1
noncomputable def zr_dX6_wordFrom_90 := zo_153 (k := 5)  (q := 93) zr_dX6_wordFrom_88.2 (by decide +kernel) rfl
noncomputable def dX6_wordFrom_90 := zr_dX6_wordFrom_90.1
noncomputable def zr_dX6_wordFrom_93 := zo_29 (q := 94) zr_dX6_wordFrom_90.2 rfl
noncomputable def dX6_wordFrom_93 := zr_dX6_wordFrom_93.1
noncomputable def zr_dX6_wordFrom_94 := zo_172 (q := 95) zr_dX6_wordFrom_93.2 rfl
noncomputable def dX6_wordFrom_94 := zr_dX6_wordFrom_94.1
noncomputable def zr_dX6_wordFrom_95 := zo_132 (k := 3) (o := 1)  (q := 98) zr_dX6_wordFrom_94.2 rfl (by decide +kernel) rfl
noncomputable def dX6_wordFrom_95 := zr_dX6_wordFrom_95.1
noncomputable def zr_dX6_wordFrom_98 := zo_167 (k := -96)  (q := 101) zr_dX6_wordFrom_95.2 (by decide +kernel) rfl
noncomputable def dX6_wordFrom_98 := zr_dX6_wordFrom_98.1
noncomputable def zr_dX6_wordFrom_101 := zo_16 (k := 12)  (q := 103) zr_dX6_wordFrom_98.2 (by decide +kernel) rfl
noncomputable def dX6_wordFrom_101 := zr_dX6_wordFrom_101.1
noncomputable def zr_dX6_wordFrom_103 := zo_172 (q := 104) zr_dX6_wordFrom_101.2 rfl
noncomputable def dX6_wordFrom_103 := zr_dX6_wordFrom_103.1
theorem zs_dX6_next_0 : zsuf cX6_next 0 cX6_next.data.toList := rfl
noncomputable def zr_dX6_next_0 := zo_42 (q := 1) zs_dX6_next_0 rfl
noncomputable def dX6_next_0 := zr_dX6_next_0.1
noncomputable def zr_dX6_next_1 := zo_180 (k := 111)  (q := 4) zr_dX6_next_0.2 rfl rfl
noncomputable def dX6_next_1 := zr_dX6_next_1.1
noncomputable def zr_dX6_next_4 := zo_42 (q := 5) zr_dX6_next_1.2 rfl
noncomputable def dX6_next_4 := zr_dX6_next_4.1
noncomputable def zr_dX6_next_5 := zo_180 (k := 80)  (q := 8) zr_dX6_next_4.2 rfl rfl
noncomputable def dX6_next_5 := zr_dX6_next_5.1
noncomputable def zr_dX6_next_8 := zo_162 (k := 44)  (q := 11) zr_dX6_next_5.2 (by decide +kernel) rfl
noncomputable def dX6_next_8 := zr_dX6_next_8.1
noncomputable def zr_dX6_next_11 := zo_42 (q := 12) zr_dX6_next_8.2 rfl
noncomputable def dX6_next_11 := zr_dX6_next_11.1
noncomputable def zr_dX6_next_12 := zo_180 (k := 22)  (q := 15) zr_dX6_next_11.2 rfl rfl
noncomputable def dX6_next_12 := zr_dX6_next_12.1
noncomputable def zr_dX6_next_15 := zo_42 (q := 16) zr_dX6_next_12.2 rfl
noncomputable def dX6_next_15 := zr_dX6_next_15.1
noncomputable def zr_dX6_next_16 := zo_180 (k := 111)  (q := 19) zr_dX6_next_15.2 rfl rfl
noncomputable def dX6_next_16 := zr_dX6_next_16.1
noncomputable def zr_dX6_next_19 := zo_46 (q := 20) zr_dX6_next_16.2 rfl
noncomputable def dX6_next_19 := zr_dX6_next_19.1
noncomputable def zr_dX6_next_20 := zo_16 (k := 32)  (q := 22) zr_dX6_next_19.2 (by decide +kernel) rfl
noncomputable def dX6_next_20 := zr_dX6_next_20.1
noncomputable def zr_dX6_next_22 := zo_159 (k := 17)  (q := 25) zr_dX6_next_20.2 (by decide +kernel) rfl
noncomputable def dX6_next_22 := zr_dX6_next_22.1
noncomputable def zr_dX6_next_25 := zo_42 (q := 26) zr_dX6_next_22.2 rfl
noncomputable def dX6_next_25 := zr_dX6_next_25.1
noncomputable def zr_dX6_next_26 := zo_180 (k := 22)  (q := 29) zr_dX6_next_25.2 rfl rfl
noncomputable def dX6_next_26 := zr_dX6_next_26.1
noncomputable def zr_dX6_next_29 := zo_42 (q := 30) zr_dX6_next_26.2 rfl
noncomputable def dX6_next_29 := zr_dX6_next_29.1
noncomputable def zr_dX6_next_30 := zo_180 (k := 111)  (q := 33) zr_dX6_next_29.2 rfl rfl
noncomputable def dX6_next_30 := zr_dX6_next_30.1
noncomputable def zr_dX6_next_33 := zo_46 (q := 34) zr_dX6_next_30.2 rfl
noncomputable def dX6_next_33 := zr_dX6_next_33.1
noncomputable def zr_dX6_next_34 := zo_16 (k := 10)  (q := 36) zr_dX6_next_33.2 (by decide +kernel) rfl
noncomputable def dX6_next_34 := zr_dX6_next_34.1
noncomputable def zr_dX6_next_36 := zo_160 (k := 16)  (q := 39) zr_dX6_next_34.2 (by decide +kernel) rfl
noncomputable def dX6_next_36 := zr_dX6_next_36.1
noncomputable def zr_dX6_next_39 := zo_42 (q := 40) zr_dX6_next_36.2 rfl
noncomputable def dX6_next_39 := zr_dX6_next_39.1
noncomputable def zr_dX6_next_40 := zo_89 (q := 41) zr_dX6_next_39.2 rfl
noncomputable def dX6_next_40 := zr_dX6_next_40.1
noncomputable def zr_dX6_next_41 := zo_180 (k := 111)  (q := 44) zr_dX6_next_40.2 rfl rfl
noncomputable def dX6_next_41 := zr_dX6_next_41.1
noncomputable def zr_dX6_next_44 := zo_4 (q := 45) zr_dX6_next_41.2 rfl
noncomputable def dX6_next_44 := zr_dX6_next_44.1
noncomputable def zr_dX6_next_45 := zo_96 (q := 46) zr_dX6_next_44.2 rfl
noncomputable def dX6_next_45 := zr_dX6_next_45.1
noncomputable def zr_dX6_next_46 := zo_181 (k := 111)  (q := 49) zr_dX6_next_45.2 rfl rfl
noncomputable def dX6_next_46 := zr_dX6_next_46.1
noncomputable def zr_dX6_next_49 := zo_167 (k := -49)  (q := 52) zr_dX6_next_46.2 (by decide +kernel) rfl
noncomputable def dX6_next_49 := zr_dX6_next_49.1
noncomputable def zr_dX6_next_52 := zo_42 (q := 53) zr_dX6_next_49.2 rfl
noncomputable def dX6_next_52 := zr_dX6_next_52.1
noncomputable def zr_dX6_next_53 := zo_42 (q := 54) zr_dX6_next_52.2 rfl
noncomputable def dX6_next_53 := zr_dX6_next_53.1
noncomputable def zr_dX6_next_54 := zo_180 (k := 111)  (q := 57) zr_dX6_next_53.2 rfl rfl
noncomputable def dX6_next_54 := zr_dX6_next_54.1
noncomputable def zr_dX6_next_57 := zo_181 (k := 114)  (q := 60) zr_dX6_next_54.2 rfl rfl
noncomputable def dX6_next_57 := zr_dX6_next_57.1
noncomputable def zr_dX6_next_60 := zo_42 (q := 61) zr_dX6_next_57.2 rfl
noncomputable def dX6_next_60 := zr_dX6_next_60.1
noncomputable def zr_dX6_next_61 := zo_3 (q := 62) zr_dX6_next_60.2 rfl
noncomputable def dX6_next_61 := zr_dX6_next_61.1
noncomputable def zr_dX6_next_62 := zo_181 (k := 117)  (q := 65) zr_dX6_next_61.2 rfl rfl
noncomputable def dX6_next_62 := zr_dX6_next_62.1
noncomputable def zr_dX6_next_65 := zo_42 (q := 66) zr_dX6_next_62.2 rfl
noncomputable def dX6_next_65 := zr_dX6_next_65.1
noncomputable def zr_dX6_next_66 := zo_3 (q := 67) zr_dX6_next_65.2 rfl
noncomputable def dX6_next_66 := zr_dX6_next_66.1
noncomputable def zr_dX6_next_67 := zo_181 (k := 120)  (q := 70) zr_dX6_next_66.2 rfl rfl
noncomputable def dX6_next_67 := zr_dX6_next_67.1
noncomputable def zr_dX6_next_70 := zo_42 (q := 71) zr_dX6_next_67.2 rfl
noncomputable def dX6_next_70 := zr_dX6_next_70.1
noncomputable def zr_dX6_next_71 := zo_180 (k := 111)  (q := 74) zr_dX6_next_70.2 rfl rfl
noncomputable def dX6_next_71 := zr_dX6_next_71.1
noncomputable def zr_dX6_next_74 := zo_42 (q := 75) zr_dX6_next_71.2 rfl
noncomputable def dX6_next_74 := zr_dX6_next_74.1
noncomputable def zr_dX6_next_75 := zo_180 (k := 80)  (q := 78) zr_dX6_next_74.2 rfl rfl
noncomputable def dX6_next_75 := zr_dX6_next_75.1
noncomputable def zr_dX6_next_78 := zo_160 (k := 4)  (q := 81) zr_dX6_next_75.2 (by decide +kernel) rfl
noncomputable def dX6_next_78 := zr_dX6_next_78.1
noncomputable def zr_dX6_next_81 := zo_177 (q := 82) zr_dX6_next_78.2 rfl
noncomputable def dX6_next_81 := zr_dX6_next_81.1
noncomputable def zr_dX6_next_82 := zo_42 (q := 83) zr_dX6_next_81.2 rfl
noncomputable def dX6_next_82 := zr_dX6_next_82.1
noncomputable def zr_dX6_next_83 := zo_180 (k := 22)  (q := 86) zr_dX6_next_82.2 rfl rfl
noncomputable def dX6_next_83 := zr_dX6_next_83.1
noncomputable def zr_dX6_next_86 := zo_42 (q := 87) zr_dX6_next_83.2 rfl
noncomputable def dX6_next_86 := zr_dX6_next_86.1
noncomputable def zr_dX6_next_87 := zo_180 (k := 111)  (q := 90) zr_dX6_next_86.2 rfl rfl
noncomputable def dX6_next_87 := zr_dX6_next_87.1
noncomputable def zr_dX6_next_90 := zo_46 (q := 91) zr_dX6_next_87.2 rfl
noncomputable def dX6_next_90 := zr_dX6_next_90.1
noncomputable def zr_dX6_next_91 := zo_60 (q := 92) zr_dX6_next_90.2 rfl
noncomputable def dX6_next_91 := zr_dX6_next_91.1
noncomputable def zr_dX6_next_92 := zo_27 (q := 93) zr_dX6_next_91.2 rfl
noncomputable def dX6_next_92 := zr_dX6_next_92.1
noncomputable def zr_dX6_next_93 := zo_16 (k := 97)  (q := 95) zr_dX6_next_92.2 (by decide +kernel) rfl
noncomputable def dX6_next_93 := zr_dX6_next_93.1
noncomputable def zr_dX6_next_95 := zo_16 (k := 122)  (q := 97) zr_dX6_next_93.2 (by decide +kernel) rfl
noncomputable def dX6_next_95 := zr_dX6_next_95.1
noncomputable def zr_dX6_next_97 := zo_184 (k := 91)  (q := 100) zr_dX6_next_95.2 rfl rfl
noncomputable def dX6_next_97 := zr_dX6_next_97.1
noncomputable def zr_dX6_next_100 := zo_153 (k := 117)  (q := 103) zr_dX6_next_97.2 (by decide +kernel) rfl
noncomputable def dX6_next_100 := zr_dX6_next_100.1
noncomputable def zr_dX6_next_103 := zo_42 (q := 104) zr_dX6_next_100.2 rfl
noncomputable def dX6_next_103 := zr_dX6_next_103.1
noncomputable def zr_dX6_next_104 := zo_180 (k := 111)  (q := 107) zr_dX6_next_103.2 rfl rfl
noncomputable def dX6_next_104 := zr_dX6_next_104.1
noncomputable def zr_dX6_next_107 := zo_42 (q := 108) zr_dX6_next_104.2 rfl
noncomputable def dX6_next_107 := zr_dX6_next_107.1
noncomputable def zr_dX6_next_108 := zo_180 (k := 80)  (q := 111) zr_dX6_next_107.2 rfl rfl
noncomputable def dX6_next_108 := zr_dX6_next_108.1
noncomputable def zr_dX6_next_111 := zo_162 (k := 35)  (q := 114) zr_dX6_next_108.2 (by decide +kernel) rfl
noncomputable def dX6_next_111 := zr_dX6_next_111.1
noncomputable def zr_dX6_next_114 := zo_42 (q := 115) zr_dX6_next_111.2 rfl
noncomputable def dX6_next_114 := zr_dX6_next_114.1
noncomputable def zr_dX6_next_115 := zo_180 (k := 22)  (q := 118) zr_dX6_next_114.2 rfl rfl
noncomputable def dX6_next_115 := zr_dX6_next_115.1
noncomputable def zr_dX6_next_118 := zo_42 (q := 119) zr_dX6_next_115.2 rfl
noncomputable def dX6_next_118 := zr_dX6_next_118.1
noncomputable def zr_dX6_next_119 := zo_180 (k := 111)  (q := 122) zr_dX6_next_118.2 rfl rfl
noncomputable def dX6_next_119 := zr_dX6_next_119.1
noncomputable def zr_dX6_next_122 := zo_46 (q := 123) zr_dX6_next_119.2 rfl
noncomputable def dX6_next_122 := zr_dX6_next_122.1
noncomputable def zr_dX6_next_123 := zo_16 (k := 97)  (q := 125) zr_dX6_next_122.2 (by decide +kernel) rfl
noncomputable def dX6_next_123 := zr_dX6_next_123.1
noncomputable def zr_dX6_next_125 := zo_16 (k := 122)  (q := 127) zr_dX6_next_123.2 (by decide +kernel) rfl
noncomputable def dX6_next_125 := zr_dX6_next_125.1
noncomputable def zr_dX6_next_127 := zo_184 (k := 91)  (q := 130) zr_dX6_next_125.2 rfl rfl
noncomputable def dX6_next_127 := zr_dX6_next_127.1
noncomputable def zr_dX6_next_130 := zo_153 (k := 16)  (q := 133) zr_dX6_next_127.2 (by decide +kernel) rfl
noncomputable def dX6_next_130 := zr_dX6_next_130.1
noncomputable def zr_dX6_next_133 := zo_42 (q := 134) zr_dX6_next_130.2 rfl
noncomputable def dX6_next_133 := zr_dX6_next_133.1
noncomputable def zr_dX6_next_134 := zo_89 (q := 135) zr_dX6_next_133.2 rfl
noncomputable def dX6_next_134 := zr_dX6_next_134.1
noncomputable def zr_dX6_next_135 := zo_180 (k := 111)  (q := 138) zr_dX6_next_134.2 rfl rfl
noncomputable def dX6_next_135 := zr_dX6_next_135.1
noncomputable def zr_dX6_next_138 := zo_4 (q := 139) zr_dX6_next_135.2 rfl
noncomputable def dX6_next_138 := zr_dX6_next_138.1
noncomputable def zr_dX6_next_139 := zo_96 (q := 140) zr_dX6_next_138.2 rfl
noncomputable def dX6_next_139 := zr_dX6_next_139.1
noncomputable def zr_dX6_next_140 := zo_181 (k := 111)  (q := 143) zr_dX6_next_139.2 rfl rfl
noncomputable def dX6_next_140 := zr_dX6_next_140.1
noncomputable def zr_dX6_next_143 := zo_167 (k := -40)  (q := 146) zr_dX6_next_140.2 (by decide +kernel) rfl
noncomputable def dX6_next_143 := zr_dX6_next_143.1
noncomputable def zr_dX6_next_146 := zo_42 (q := 147) zr_dX6_next_143.2 rfl
noncomputable def dX6_next_146 := zr_dX6_next_146.1
noncomputable def zr_dX6_next_147 := zo_42 (q := 148) zr_dX6_next_146.2 rfl
noncomputable def dX6_next_147 := zr_dX6_next_147.1
noncomputable def zr_dX6_next_148 := zo_180 (k := 114)  (q := 151) zr_dX6_next_147.2 rfl rfl
noncomputable def dX6_next_148 := zr_dX6_next_148.1
noncomputable def zr_dX6_next_151 := zo_42 (q := 152) zr_dX6_next_148.2 rfl
noncomputable def dX6_next_151 := zr_dX6_next_151.1
noncomputable def zr_dX6_next_152 := zo_180 (k := 111)  (q := 155) zr_dX6_next_151.2 rfl rfl
noncomputable def dX6_next_152 := zr_dX6_next_152.1
noncomputable def zr_dX6_next_155 := zo_182 (k := 123)  (q := 158) zr_dX6_next_152.2 rfl rfl
noncomputable def dX6_next_155 := zr_dX6_next_155.1
noncomputable def zr_dX6_next_158 := zo_61 (q := 159) zr_dX6_next_155.2 rfl
noncomputable def dX6_next_158 := zr_dX6_next_158.1
noncomputable def zr_dX6_next_159 := zo_42 (q := 160) zr_dX6_next_158.2 rfl
noncomputable def dX6_next_159 := zr_dX6_next_159.1
noncomputable def zr_dX6_next_160 := zo_28 (q := 161) zr_dX6_next_159.2 rfl
noncomputable def dX6_next_160 := zr_dX6_next_160.1
noncomputable def zr_dX6_next_161 := zo_6 (q := 162) zr_dX6_next_160.2 rfl
noncomputable def dX6_next_161 := zr_dX6_next_161.1
noncomputable def zr_dX6_next_162 := zo_162 (k := 7)  (q := 165) zr_dX6_next_161.2 (by decide +kernel) rfl
noncomputable def dX6_next_162 := zr_dX6_next_162.1
noncomputable def zr_dX6_next_165 := zo_6 (q := 166) zr_dX6_next_162.2 rfl
noncomputable def dX6_next_165 := zr_dX6_next_165.1
noncomputable def zr_dX6_next_166 := zo_167 (k := 29)  (q := 169) zr_dX6_next_165.2 (by decide +kernel) rfl
noncomputable def dX6_next_166 := zr_dX6_next_166.1
noncomputable def zr_dX6_next_169 := zo_28 (q := 170) zr_dX6_next_166.2 rfl
noncomputable def dX6_next_169 := zr_dX6_next_169.1
noncomputable def zr_dX6_next_170 := zo_16 (k := 9)  (q := 172) zr_dX6_next_169.2 (by decide +kernel) rfl
noncomputable def dX6_next_170 := zr_dX6_next_170.1
noncomputable def zr_dX6_next_172 := zo_162 (k := 7)  (q := 175) zr_dX6_next_170.2 (by decide +kernel) rfl
noncomputable def dX6_next_172 := zr_dX6_next_172.1
noncomputable def zr_dX6_next_175 := zo_5 (q := 176) zr_dX6_next_172.2 rfl
noncomputable def dX6_next_175 := zr_dX6_next_175.1
noncomputable def zr_dX6_next_176 := zo_167 (k := 19)  (q := 179) zr_dX6_next_175.2 (by decide +kernel) rfl
noncomputable def dX6_next_176 := zr_dX6_next_176.1
noncomputable def zr_dX6_next_179 := zo_28 (q := 180) zr_dX6_next_176.2 rfl
noncomputable def dX6_next_179 := zr_dX6_next_179.1
noncomputable def zr_dX6_next_180 := zo_16 (k := 12)  (q := 182) zr_dX6_next_179.2 (by decide +kernel) rfl
noncomputable def dX6_next_180 := zr_dX6_next_180.1
noncomputable def zr_dX6_next_182 := zo_160 (k := 7)  (q := 185) zr_dX6_next_180.2 (by decide +kernel) rfl
noncomputable def dX6_next_182 := zr_dX6_next_182.1
noncomputable def zr_dX6_next_185 := zo_2 (q := 186) zr_dX6_next_182.2 rfl
noncomputable def dX6_next_185 := zr_dX6_next_185.1
noncomputable def zr_dX6_next_186 := zo_167 (k := 9)  (q := 189) zr_dX6_next_185.2 (by decide +kernel) rfl
noncomputable def dX6_next_186 := zr_dX6_next_186.1
noncomputable def zr_dX6_next_189 := zo_7 (q := 190) zr_dX6_next_186.2 rfl
noncomputable def dX6_next_189 := zr_dX6_next_189.1
noncomputable def zr_dX6_next_190 := zo_28 (q := 191) zr_dX6_next_189.2 rfl
noncomputable def dX6_next_190 := zr_dX6_next_190.1
noncomputable def zr_dX6_next_191 := zo_96 (q := 192) zr_dX6_next_190.2 rfl
noncomputable def dX6_next_191 := zr_dX6_next_191.1
noncomputable def zr_dX6_next_192 := zo_16 (k := 9)  (q := 194) zr_dX6_next_191.2 (by decide +kernel) rfl
noncomputable def dX6_next_192 := zr_dX6_next_192.1
noncomputable def zr_dX6_next_194 := zo_100 (q := 195) zr_dX6_next_192.2 rfl
noncomputable def dX6_next_194 := zr_dX6_next_194.1
noncomputable def zr_dX6_next_195 := zo_181 (k := 117)  (q := 198) zr_dX6_next_194.2 rfl rfl
noncomputable def dX6_next_195 := zr_dX6_next_195.1
noncomputable def zr_dX6_next_198 := zo_42 (q := 199) zr_dX6_next_195.2 rfl
noncomputable def dX6_next_198 := zr_dX6_next_198.1
noncomputable def zr_dX6_next_199 := zo_28 (q := 200) zr_dX6_next_198.2 rfl
noncomputable def dX6_next_199 := zr_dX6_next_199.1
noncomputable def zr_dX6_next_200 := zo_6 (q := 201) zr_dX6_next_199.2 rfl
noncomputable def dX6_next_200 := zr_dX6_next_200.1
noncomputable def zr_dX6_next_201 := zo_162 (k := 7)  (q := 204) zr_dX6_next_200.2 (by decide +kernel) rfl
noncomputable def dX6_next_201 := zr_dX6_next_201.1
noncomputable def zr_dX6_next_204 := zo_28 (q := 205) zr_dX6_next_201.2 rfl
noncomputable def dX6_next_204 := zr_dX6_next_204.1
noncomputable def zr_dX6_next_205 := zo_167 (k := 6)  (q := 208) zr_dX6_next_204.2 (by decide +kernel) rfl
noncomputable def dX6_next_205 := zr_dX6_next_205.1
noncomputable def zr_dX6_next_208 := zo_28 (q := 209) zr_dX6_next_205.2 rfl
noncomputable def dX6_next_208 := zr_dX6_next_208.1
noncomputable def zr_dX6_next_209 := zo_6 (q := 210) zr_dX6_next_208.2 rfl
noncomputable def dX6_next_209 := zr_dX6_next_209.1
noncomputable def zr_dX6_next_210 := zo_100 (q := 211) zr_dX6_next_209.2 rfl
noncomputable def dX6_next_210 := zr_dX6_next_210.1
noncomputable def zr_dX6_next_211 := zo_181 (k := 120)  (q := 214) zr_dX6_next_210.2 rfl rfl
noncomputable def dX6_next_211 := zr_dX6_next_211.1
noncomputable def zr_dX6_next_214 := zo_167 (k := 189)  (q := 217) zr_dX6_next_211.2 (by decide +kernel) rfl
noncomputable def dX6_next_214 := zr_dX6_next_214.1
noncomputable def zr_dX6_next_217 := zo_27 (q := 218) zr_dX6_next_214.2 rfl
noncomputable def dX6_next_217 := zr_dX6_next_217.1
noncomputable def zr_dX6_next_218 := zo_16 (k := 48)  (q := 220) zr_dX6_next_217.2 (by decide +kernel) rfl
noncomputable def dX6_next_218 := zr_dX6_next_218.1
noncomputable def zr_dX6_next_220 := zo_16 (k := 57)  (q := 222) zr_dX6_next_218.2 (by decide +kernel) rfl
noncomputable def dX6_next_220 := zr_dX6_next_220.1
noncomputable def zr_dX6_next_222 := zo_184 (k := 91)  (q := 225) zr_dX6_next_220.2 rfl rfl
noncomputable def dX6_next_222 := zr_dX6_next_222.1
noncomputable def zr_dX6_next_225 := zo_153 (k := 101)  (q := 228) zr_dX6_next_222.2 (by decide +kernel) rfl
noncomputable def dX6_next_225 := zr_dX6_next_225.1
noncomputable def zr_dX6_next_228 := zo_3 (q := 229) zr_dX6_next_225.2 rfl
noncomputable def dX6_next_228 := zr_dX6_next_228.1
noncomputable def zr_dX6_next_229 := zo_61 (q := 230) zr_dX6_next_228.2 rfl
noncomputable def dX6_next_229 := zr_dX6_next_229.1
noncomputable def zr_dX6_next_230 := zo_42 (q := 231) zr_dX6_next_229.2 rfl
noncomputable def dX6_next_230 := zr_dX6_next_230.1
noncomputable def zr_dX6_next_231 := zo_180 (k := 111)  (q := 234) zr_dX6_next_230.2 rfl rfl
noncomputable def dX6_next_231 := zr_dX6_next_231.1
noncomputable def zr_dX6_next_234 := zo_42 (q := 235) zr_dX6_next_231.2 rfl
noncomputable def dX6_next_234 := zr_dX6_next_234.1
noncomputable def zr_dX6_next_235 := zo_180 (k := 80)  (q := 238) zr_dX6_next_234.2 rfl rfl
noncomputable def dX6_next_235 := zr_dX6_next_235.1
noncomputable def zr_dX6_next_238 := zo_162 (k := 71)  (q := 241) zr_dX6_next_235.2 (by decide +kernel) rfl
noncomputable def dX6_next_238 := zr_dX6_next_238.1
noncomputable def zr_dX6_next_241 := zo_42 (q := 242) zr_dX6_next_238.2 rfl
noncomputable def dX6_next_241 := zr_dX6_next_241.1
noncomputable def zr_dX6_next_242 := zo_180 (k := 22)  (q := 245) zr_dX6_next_241.2 rfl rfl
noncomputable def dX6_next_242 := zr_dX6_next_242.1
noncomputable def zr_dX6_next_245 := zo_42 (q := 246) zr_dX6_next_242.2 rfl
noncomputable def dX6_next_245 := zr_dX6_next_245.1
noncomputable def zr_dX6_next_246 := zo_180 (k := 111)  (q := 249) zr_dX6_next_245.2 rfl rfl
noncomputable def dX6_next_246 := zr_dX6_next_246.1
noncomputable def zr_dX6_next_249 := zo_46 (q := 250) zr_dX6_next_246.2 rfl
noncomputable def dX6_next_249 := zr_dX6_next_249.1
noncomputable def zr_dX6_next_250 := zo_16 (k := 48)  (q := 252) zr_dX6_next_249.2 (by decide +kernel) rfl
noncomputable def dX6_next_250 := zr_dX6_next_250.1
noncomputable def zr_dX6_next_252 := zo_16 (k := 57)  (q := 254) zr_dX6_next_250.2 (by decide +kernel) rfl
noncomputable def dX6_next_252 := zr_dX6_next_252.1
noncomputable def zr_dX6_next_254 := zo_184 (k := 91)  (q := 257) zr_dX6_next_252.2 rfl rfl
noncomputable def dX6_next_254 := zr_dX6_next_254.1
noncomputable def zr_dX6_next_257 := zo_153 (k := 52)  (q := 260) zr_dX6_next_254.2 (by decide +kernel) rfl
noncomputable def dX6_next_257 := zr_dX6_next_257.1
noncomputable def zr_dX6_next_260 := zo_42 (q := 261) zr_dX6_next_257.2 rfl
noncomputable def dX6_next_260 := zr_dX6_next_260.1
noncomputable def zr_dX6_next_261 := zo_28 (q := 262) zr_dX6_next_260.2 rfl
noncomputable def dX6_next_261 := zr_dX6_next_261.1
noncomputable def zr_dX6_next_262 := zo_7 (q := 263) zr_dX6_next_261.2 rfl
noncomputable def dX6_next_262 := zr_dX6_next_262.1
noncomputable def zr_dX6_next_263 := zo_162 (k := 26)  (q := 266) zr_dX6_next_262.2 (by decide +kernel) rfl
noncomputable def dX6_next_263 := zr_dX6_next_263.1
noncomputable def zr_dX6_next_266 := zo_16 (k := 10)  (q := 268) zr_dX6_next_263.2 (by decide +kernel) rfl
noncomputable def dX6_next_266 := zr_dX6_next_266.1
noncomputable def zr_dX6_next_268 := zo_42 (q := 269) zr_dX6_next_266.2 rfl
noncomputable def dX6_next_268 := zr_dX6_next_268.1
noncomputable def zr_dX6_next_269 := zo_180 (k := 120)  (q := 272) zr_dX6_next_268.2 rfl rfl
noncomputable def dX6_next_269 := zr_dX6_next_269.1
noncomputable def zr_dX6_next_272 := zo_104 (q := 273) zr_dX6_next_269.2 rfl
noncomputable def dX6_next_272 := zr_dX6_next_272.1
noncomputable def zr_dX6_next_273 := zo_42 (q := 274) zr_dX6_next_272.2 rfl
noncomputable def dX6_next_273 := zr_dX6_next_273.1
noncomputable def zr_dX6_next_274 := zo_180 (k := 22)  (q := 277) zr_dX6_next_273.2 rfl rfl
noncomputable def dX6_next_274 := zr_dX6_next_274.1
noncomputable def zr_dX6_next_277 := zo_42 (q := 278) zr_dX6_next_274.2 rfl
noncomputable def dX6_next_277 := zr_dX6_next_277.1
noncomputable def zr_dX6_next_278 := zo_180 (k := 111)  (q := 281) zr_dX6_next_277.2 rfl rfl
noncomputable def dX6_next_278 := zr_dX6_next_278.1
noncomputable def zr_dX6_next_281 := zo_46 (q := 282) zr_dX6_next_278.2 rfl
noncomputable def dX6_next_281 := zr_dX6_next_281.1
noncomputable def zr_dX6_next_282 := zo_96 (q := 283) zr_dX6_next_281.2 rfl
noncomputable def dX6_next_282 := zr_dX6_next_282.1
noncomputable def zr_dX6_next_283 := zo_16 (k := 48)  (q := 285) zr_dX6_next_282.2 (by decide +kernel) rfl
noncomputable def dX6_next_283 := zr_dX6_next_283.1
noncomputable def zr_dX6_next_285 := zo_100 (q := 286) zr_dX6_next_283.2 rfl
noncomputable def dX6_next_285 := zr_dX6_next_285.1
noncomputable def zr_dX6_next_286 := zo_167 (k := 4)  (q := 289) zr_dX6_next_285.2 (by decide +kernel) rfl
noncomputable def dX6_next_286 := zr_dX6_next_286.1
noncomputable def zr_dX6_next_289 := zo_3 (q := 290) zr_dX6_next_286.2 rfl
noncomputable def dX6_next_289 := zr_dX6_next_289.1
noncomputable def zr_dX6_next_290 := zo_181 (k := 120)  (q := 293) zr_dX6_next_289.2 rfl rfl
noncomputable def dX6_next_290 := zr_dX6_next_290.1
noncomputable def zr_dX6_next_293 := zo_132 (k := 2) (o := 1)  (q := 296) zr_dX6_next_290.2 rfl (by decide +kernel) rfl
noncomputable def dX6_next_293 := zr_dX6_next_293.1
noncomputable def zr_dX6_next_296 := zo_42 (q := 297) zr_dX6_next_293.2 rfl
noncomputable def dX6_next_296 := zr_dX6_next_296.1
noncomputable def zr_dX6_next_297 := zo_89 (q := 298) zr_dX6_next_296.2 rfl
noncomputable def dX6_next_297 := zr_dX6_next_297.1
noncomputable def zr_dX6_next_298 := zo_180 (k := 111)  (q := 301) zr_dX6_next_297.2 rfl rfl
noncomputable def dX6_next_298 := zr_dX6_next_298.1
noncomputable def zr_dX6_next_301 := zo_4 (q := 302) zr_dX6_next_298.2 rfl
noncomputable def dX6_next_301 := zr_dX6_next_301.1
noncomputable def zr_dX6_next_302 := zo_96 (q := 303) zr_dX6_next_301.2 rfl
noncomputable def dX6_next_302 := zr_dX6_next_302.1
noncomputable def zr_dX6_next_303 := zo_181 (k := 111)  (q := 306) zr_dX6_next_302.2 rfl rfl
noncomputable def dX6_next_303 := zr_dX6_next_303.1
noncomputable def zr_dX6_next_306 := zo_167 (k := -76)  (q := 309) zr_dX6_next_303.2 (by decide +kernel) rfl
noncomputable def dX6_next_306 := zr_dX6_next_306.1
noncomputable def zr_dX6_next_309 := zo_42 (q := 310) zr_dX6_next_306.2 rfl
noncomputable def dX6_next_309 := zr_dX6_next_309.1
noncomputable def zr_dX6_next_310 := zo_28 (q := 311) zr_dX6_next_309.2 rfl
noncomputable def dX6_next_310 := zr_dX6_next_310.1
noncomputable def zr_dX6_next_311 := zo_7 (q := 312) zr_dX6_next_310.2 rfl
noncomputable def dX6_next_311 := zr_dX6_next_311.1
noncomputable def zr_dX6_next_312 := zo_164 (k := 7)  (q := 315) zr_dX6_next_311.2 (by decide +kernel) rfl
noncomputable def dX6_next_312 := zr_dX6_next_312.1
noncomputable def zr_dX6_next_315 := zo_2 (q := 316) zr_dX6_next_312.2 rfl
noncomputable def dX6_next_315 := zr_dX6_next_315.1
noncomputable def zr_dX6_next_316 := zo_167 (k := 4)  (q := 319) zr_dX6_next_315.2 (by decide +kernel) rfl
noncomputable def dX6_next_316 := zr_dX6_next_316.1
noncomputable def zr_dX6_next_319 := zo_4 (q := 320) zr_dX6_next_316.2 rfl
noncomputable def dX6_next_319 := zr_dX6_next_319.1
noncomputable def zr_dX6_next_320 := zo_181 (k := 117)  (q := 323) zr_dX6_next_319.2 rfl rfl
noncomputable def dX6_next_320 := zr_dX6_next_320.1
noncomputable def zr_dX6_next_323 := zo_167 (k := 80)  (q := 326) zr_dX6_next_320.2 (by decide +kernel) rfl
noncomputable def dX6_next_323 := zr_dX6_next_323.1
noncomputable def zr_dX6_next_326 := zo_27 (q := 327) zr_dX6_next_323.2 rfl
noncomputable def dX6_next_326 := zr_dX6_next_326.1
noncomputable def zr_dX6_next_327 := zo_16 (k := 40)  (q := 329) zr_dX6_next_326.2 (by decide +kernel) rfl
noncomputable def dX6_next_327 := zr_dX6_next_327.1
noncomputable def zr_dX6_next_329 := zo_159 (k := 45)  (q := 332) zr_dX6_next_327.2 (by decide +kernel) rfl
noncomputable def dX6_next_329 := zr_dX6_next_329.1
noncomputable def zr_dX6_next_332 := zo_27 (q := 333) zr_dX6_next_329.2 rfl
noncomputable def dX6_next_332 := zr_dX6_next_332.1
noncomputable def zr_dX6_next_333 := zo_16 (k := 41)  (q := 335) zr_dX6_next_332.2 (by decide +kernel) rfl
noncomputable def dX6_next_333 := zr_dX6_next_333.1
noncomputable def zr_dX6_next_335 := zo_159 (k := 39)  (q := 338) zr_dX6_next_333.2 (by decide +kernel) rfl
noncomputable def dX6_next_335 := zr_dX6_next_335.1
noncomputable def zr_dX6_next_338 := zo_27 (q := 339) zr_dX6_next_335.2 rfl
noncomputable def dX6_next_338 := zr_dX6_next_338.1
noncomputable def zr_dX6_next_339 := zo_16 (k := 59)  (q := 341) zr_dX6_next_338.2 (by decide +kernel) rfl
noncomputable def dX6_next_339 := zr_dX6_next_339.1
noncomputable def zr_dX6_next_341 := zo_159 (k := 33)  (q := 344) zr_dX6_next_339.2 (by decide +kernel) rfl
noncomputable def dX6_next_341 := zr_dX6_next_341.1
noncomputable def zr_dX6_next_344 := zo_27 (q := 345) zr_dX6_next_341.2 rfl
noncomputable def dX6_next_344 := zr_dX6_next_344.1
noncomputable def zr_dX6_next_345 := zo_16 (k := 43)  (q := 347) zr_dX6_next_344.2 (by decide +kernel) rfl
noncomputable def dX6_next_345 := zr_dX6_next_345.1
noncomputable def zr_dX6_next_347 := zo_159 (k := 27)  (q := 350) zr_dX6_next_345.2 (by decide +kernel) rfl
noncomputable def dX6_next_347 := zr_dX6_next_347.1
noncomputable def zr_dX6_next_350 := zo_27 (q := 351) zr_dX6_next_347.2 rfl
noncomputable def dX6_next_350 := zr_dX6_next_350.1
noncomputable def zr_dX6_next_351 := zo_16 (k := 45)  (q := 353) zr_dX6_next_350.2 (by decide +kernel) rfl
noncomputable def dX6_next_351 := zr_dX6_next_351.1
noncomputable def zr_dX6_next_353 := zo_159 (k := 21)  (q := 356) zr_dX6_next_351.2 (by decide +kernel) rfl
noncomputable def dX6_next_353 := zr_dX6_next_353.1
noncomputable def zr_dX6_next_356 := zo_27 (q := 357) zr_dX6_next_353.2 rfl
noncomputable def dX6_next_356 := zr_dX6_next_356.1
noncomputable def zr_dX6_next_357 := zo_16 (k := 42)  (q := 359) zr_dX6_next_356.2 (by decide +kernel) rfl
noncomputable def dX6_next_357 := zr_dX6_next_357.1
noncomputable def zr_dX6_next_359 := zo_159 (k := 15)  (q := 362) zr_dX6_next_357.2 (by decide +kernel) rfl
noncomputable def dX6_next_359 := zr_dX6_next_359.1
noncomputable def zr_dX6_next_362 := zo_27 (q := 363) zr_dX6_next_359.2 rfl
noncomputable def dX6_next_362 := zr_dX6_next_362.1
noncomputable def zr_dX6_next_363 := zo_16 (k := 60)  (q := 365) zr_dX6_next_362.2 (by decide +kernel) rfl
noncomputable def dX6_next_363 := zr_dX6_next_363.1
noncomputable def zr_dX6_next_365 := zo_159 (k := 9)  (q := 368) zr_dX6_next_363.2 (by decide +kernel) rfl
noncomputable def dX6_next_365 := zr_dX6_next_365.1
noncomputable def zr_dX6_next_368 := zo_27 (q := 369) zr_dX6_next_365.2 rfl
noncomputable def dX6_next_368 := zr_dX6_next_368.1
noncomputable def zr_dX6_next_369 := zo_16 (k := 61)  (q := 371) zr_dX6_next_368.2 (by decide +kernel) rfl
noncomputable def dX6_next_369 := zr_dX6_next_369.1
noncomputable def zr_dX6_next_371 := zo_160 (k := 7)  (q := 374) zr_dX6_next_369.2 (by decide +kernel) rfl
noncomputable def dX6_next_371 := zr_dX6_next_371.1
noncomputable def zr_dX6_next_374 := zo_4 (q := 375) zr_dX6_next_371.2 rfl
noncomputable def dX6_next_374 := zr_dX6_next_374.1
noncomputable def zr_dX6_next_375 := zo_167 (k := 4)  (q := 378) zr_dX6_next_374.2 (by decide +kernel) rfl
noncomputable def dX6_next_375 := zr_dX6_next_375.1
noncomputable def zr_dX6_next_378 := zo_3 (q := 379) zr_dX6_next_375.2 rfl
noncomputable def dX6_next_378 := zr_dX6_next_378.1
noncomputable def zr_dX6_next_379 := zo_61 (q := 380) zr_dX6_next_378.2 rfl
noncomputable def dX6_next_379 := zr_dX6_next_379.1
noncomputable def zr_dX6_next_380 := zo_42 (q := 381) zr_dX6_next_379.2 rfl
noncomputable def dX6_next_380 := zr_dX6_next_380.1
noncomputable def zr_dX6_next_381 := zo_28 (q := 382) zr_dX6_next_380.2 rfl
noncomputable def dX6_next_381 := zr_dX6_next_381.1
noncomputable def zr_dX6_next_382 := zo_153 (k := 7)  (q := 385) zr_dX6_next_381.2 (by decide +kernel) rfl
noncomputable def dX6_next_382 := zr_dX6_next_382.1
noncomputable def zr_dX6_next_385 := zo_27 (q := 386) zr_dX6_next_382.2 rfl
noncomputable def dX6_next_385 := zr_dX6_next_385.1
noncomputable def zr_dX6_next_386 := zo_167 (k := 4)  (q := 389) zr_dX6_next_385.2 (by decide +kernel) rfl
noncomputable def dX6_next_386 := zr_dX6_next_386.1
noncomputable def zr_dX6_next_389 := zo_2 (q := 390) zr_dX6_next_386.2 rfl
noncomputable def dX6_next_389 := zr_dX6_next_389.1
noncomputable def zr_dX6_next_390 := zo_181 (k := 117)  (q := 393) zr_dX6_next_389.2 rfl rfl
noncomputable def dX6_next_390 := zr_dX6_next_390.1
noncomputable def zr_dX6_next_393 := zo_42 (q := 394) zr_dX6_next_390.2 rfl
noncomputable def dX6_next_393 := zr_dX6_next_393.1
noncomputable def zr_dX6_next_394 := zo_89 (q := 395) zr_dX6_next_393.2 rfl
noncomputable def dX6_next_394 := zr_dX6_next_394.1
noncomputable def zr_dX6_next_395 := zo_180 (k := 111)  (q := 398) zr_dX6_next_394.2 rfl rfl
noncomputable def dX6_next_395 := zr_dX6_next_395.1
noncomputable def zr_dX6_next_398 := zo_4 (q := 399) zr_dX6_next_395.2 rfl
noncomputable def dX6_next_398 := zr_dX6_next_398.1
noncomputable def zr_dX6_next_399 := zo_96 (q := 400) zr_dX6_next_398.2 rfl
noncomputable def dX6_next_399 := zr_dX6_next_399.1
noncomputable def zr_dX6_next_400 := zo_181 (k := 111)  (q := 403) zr_dX6_next_399.2 rfl rfl
noncomputable def dX6_next_400 := zr_dX6_next_400.1
noncomputable def zr_dX6_next_403 := zo_177 (q := 404) zr_dX6_next_400.2 rfl
noncomputable def dX6_next_403 := zr_dX6_next_403.1
theorem zs_dX6_rank_0 : zsuf cX6_rank 0 cX6_rank.data.toList := rfl
noncomputable def zr_dX6_rank_0 := zo_26 (q := 1) zs_dX6_rank_0 rfl
noncomputable def dX6_rank_0 := zr_dX6_rank_0.1
noncomputable def zr_dX6_rank_1 := zo_154 (k := 7)  (q := 4) zr_dX6_rank_0.2 (by decide +kernel) rfl
noncomputable def dX6_rank_1 := zr_dX6_rank_1.1
noncomputable def zr_dX6_rank_4 := zo_3 (q := 5) zr_dX6_rank_1.2 rfl
noncomputable def dX6_rank_4 := zr_dX6_rank_4.1
noncomputable def zr_dX6_rank_5 := zo_167 (k := 66)  (q := 8) zr_dX6_rank_4.2 (by decide +kernel) rfl
noncomputable def dX6_rank_5 := zr_dX6_rank_5.1
noncomputable def zr_dX6_rank_8 := zo_26 (q := 9) zr_dX6_rank_5.2 rfl
noncomputable def dX6_rank_8 := zr_dX6_rank_8.1
noncomputable def zr_dX6_rank_9 := zo_16 (k := 11)  (q := 11) zr_dX6_rank_8.2 (by decide +kernel) rfl
noncomputable def dX6_rank_9 := zr_dX6_rank_9.1
noncomputable def zr_dX6_rank_11 := zo_160 (k := 7)  (q := 14) zr_dX6_rank_9.2 (by decide +kernel) rfl
noncomputable def dX6_rank_11 := zr_dX6_rank_11.1
noncomputable def zr_dX6_rank_14 := zo_4 (q := 15) zr_dX6_rank_11.2 rfl
noncomputable def dX6_rank_14 := zr_dX6_rank_14.1
noncomputable def zr_dX6_rank_15 := zo_167 (k := 56)  (q := 18) zr_dX6_rank_14.2 (by decide +kernel) rfl
noncomputable def dX6_rank_15 := zr_dX6_rank_15.1
noncomputable def zr_dX6_rank_18 := zo_26 (q := 19) zr_dX6_rank_15.2 rfl
noncomputable def dX6_rank_18 := zr_dX6_rank_18.1
noncomputable def zr_dX6_rank_19 := zo_16 (k := 12)  (q := 21) zr_dX6_rank_18.2 (by decide +kernel) rfl
noncomputable def dX6_rank_19 := zr_dX6_rank_19.1
noncomputable def zr_dX6_rank_21 := zo_160 (k := 7)  (q := 24) zr_dX6_rank_19.2 (by decide +kernel) rfl
noncomputable def dX6_rank_21 := zr_dX6_rank_21.1
noncomputable def zr_dX6_rank_24 := zo_5 (q := 25) zr_dX6_rank_21.2 rfl
noncomputable def dX6_rank_24 := zr_dX6_rank_24.1
noncomputable def zr_dX6_rank_25 := zo_167 (k := 46)  (q := 28) zr_dX6_rank_24.2 (by decide +kernel) rfl
noncomputable def dX6_rank_25 := zr_dX6_rank_25.1
noncomputable def zr_dX6_rank_28 := zo_26 (q := 29) zr_dX6_rank_25.2 rfl
noncomputable def dX6_rank_28 := zr_dX6_rank_28.1
noncomputable def zr_dX6_rank_29 := zo_16 (k := 13)  (q := 31) zr_dX6_rank_28.2 (by decide +kernel) rfl
noncomputable def dX6_rank_29 := zr_dX6_rank_29.1
noncomputable def zr_dX6_rank_31 := zo_160 (k := 7)  (q := 34) zr_dX6_rank_29.2 (by decide +kernel) rfl
noncomputable def dX6_rank_31 := zr_dX6_rank_31.1
noncomputable def zr_dX6_rank_34 := zo_6 (q := 35) zr_dX6_rank_31.2 rfl
noncomputable def dX6_rank_34 := zr_dX6_rank_34.1
noncomputable def zr_dX6_rank_35 := zo_167 (k := 36)  (q := 38) zr_dX6_rank_34.2 (by decide +kernel) rfl
noncomputable def dX6_rank_35 := zr_dX6_rank_35.1
noncomputable def zr_dX6_rank_38 := zo_26 (q := 39) zr_dX6_rank_35.2 rfl
noncomputable def dX6_rank_38 := zr_dX6_rank_38.1
noncomputable def zr_dX6_rank_39 := zo_16 (k := 15)  (q := 41) zr_dX6_rank_38.2 (by decide +kernel) rfl
noncomputable def dX6_rank_39 := zr_dX6_rank_39.1
noncomputable def zr_dX6_rank_41 := zo_163 (k := 7)  (q := 44) zr_dX6_rank_39.2 (by decide +kernel) rfl
noncomputable def dX6_rank_41 := zr_dX6_rank_41.1
noncomputable def zr_dX6_rank_44 := zo_7 (q := 45) zr_dX6_rank_41.2 rfl
noncomputable def dX6_rank_44 := zr_dX6_rank_44.1
noncomputable def zr_dX6_rank_45 := zo_167 (k := 26)  (q := 48) zr_dX6_rank_44.2 (by decide +kernel) rfl
noncomputable def dX6_rank_45 := zr_dX6_rank_45.1
noncomputable def zr_dX6_rank_48 := zo_26 (q := 49) zr_dX6_rank_45.2 rfl
noncomputable def dX6_rank_48 := zr_dX6_rank_48.1
noncomputable def zr_dX6_rank_49 := zo_16 (k := 17)  (q := 51) zr_dX6_rank_48.2 (by decide +kernel) rfl
noncomputable def dX6_rank_49 := zr_dX6_rank_49.1
noncomputable def zr_dX6_rank_51 := zo_163 (k := 7)  (q := 54) zr_dX6_rank_49.2 (by decide +kernel) rfl
noncomputable def dX6_rank_51 := zr_dX6_rank_51.1
noncomputable def zr_dX6_rank_54 := zo_8 (q := 55) zr_dX6_rank_51.2 rfl
noncomputable def dX6_rank_54 := zr_dX6_rank_54.1
noncomputable def zr_dX6_rank_55 := zo_167 (k := 16)  (q := 58) zr_dX6_rank_54.2 (by decide +kernel) rfl
noncomputable def dX6_rank_55 := zr_dX6_rank_55.1
noncomputable def zr_dX6_rank_58 := zo_26 (q := 59) zr_dX6_rank_55.2 rfl
noncomputable def dX6_rank_58 := zr_dX6_rank_58.1
noncomputable def zr_dX6_rank_59 := zo_16 (k := 18)  (q := 61) zr_dX6_rank_58.2 (by decide +kernel) rfl
noncomputable def dX6_rank_59 := zr_dX6_rank_59.1
noncomputable def zr_dX6_rank_61 := zo_160 (k := 8)  (q := 64) zr_dX6_rank_59.2 (by decide +kernel) rfl
noncomputable def dX6_rank_61 := zr_dX6_rank_61.1
noncomputable def zr_dX6_rank_64 := zo_16 (k := 6)  (q := 66) zr_dX6_rank_61.2 (by decide +kernel) rfl
noncomputable def dX6_rank_64 := zr_dX6_rank_64.1
noncomputable def zr_dX6_rank_66 := zo_167 (k := 5)  (q := 69) zr_dX6_rank_64.2 (by decide +kernel) rfl
noncomputable def dX6_rank_66 := zr_dX6_rank_66.1
noncomputable def zr_dX6_rank_69 := zo_16 (k := 7)  (q := 71) zr_dX6_rank_66.2 (by decide +kernel) rfl
noncomputable def dX6_rank_69 := zr_dX6_rank_69.1
noncomputable def zr_dX6_rank_71 := zo_172 (q := 72) zr_dX6_rank_69.2 rfl
noncomputable def dX6_rank_71 := zr_dX6_rank_71.1
theorem zs_dX6_puts_0 : zsuf cX6_puts 0 cX6_puts.data.toList := rfl
noncomputable def zr_dX6_puts_0 := zo_42 (q := 1) zs_dX6_puts_0 rfl
noncomputable def dX6_puts_0 := zr_dX6_puts_0.1
noncomputable def zr_dX6_puts_1 := zo_180 (k := 25)  (q := 4) zr_dX6_puts_0.2 rfl rfl
noncomputable def dX6_puts_1 := zr_dX6_puts_1.1
noncomputable def zr_dX6_puts_4 := zo_17 (k := 200)  (q := 7) zr_dX6_puts_1.2 (by decide +kernel) rfl
noncomputable def dX6_puts_4 := zr_dX6_puts_4.1
noncomputable def zr_dX6_puts_7 := zo_42 (q := 8) zr_dX6_puts_4.2 rfl
noncomputable def dX6_puts_7 := zr_dX6_puts_7.1
noncomputable def zr_dX6_puts_8 := zo_180 (k := 98)  (q := 11) zr_dX6_puts_7.2 rfl rfl
noncomputable def dX6_puts_8 := zr_dX6_puts_8.1
noncomputable def zr_dX6_puts_11 := zo_104 (q := 12) zr_dX6_puts_8.2 rfl
noncomputable def dX6_puts_11 := zr_dX6_puts_11.1
noncomputable def zr_dX6_puts_12 := zo_42 (q := 13) zr_dX6_puts_11.2 rfl
noncomputable def dX6_puts_12 := zr_dX6_puts_12.1
noncomputable def zr_dX6_puts_13 := zo_180 (k := 127)  (q := 16) zr_dX6_puts_12.2 rfl rfl
noncomputable def dX6_puts_13 := zr_dX6_puts_13.1
noncomputable def zr_dX6_puts_16 := zo_96 (q := 17) zr_dX6_puts_13.2 rfl
noncomputable def dX6_puts_16 := zr_dX6_puts_16.1
noncomputable def zr_dX6_puts_17 := zo_27 (q := 18) zr_dX6_puts_16.2 rfl
noncomputable def dX6_puts_17 := zr_dX6_puts_17.1
noncomputable def zr_dX6_puts_18 := zo_79 (q := 19) zr_dX6_puts_17.2 rfl
noncomputable def dX6_puts_18 := zr_dX6_puts_18.1
noncomputable def zr_dX6_puts_19 := zo_42 (q := 20) zr_dX6_puts_18.2 rfl
noncomputable def dX6_puts_19 := zr_dX6_puts_19.1
noncomputable def zr_dX6_puts_20 := zo_89 (q := 21) zr_dX6_puts_19.2 rfl
noncomputable def dX6_puts_20 := zr_dX6_puts_20.1
noncomputable def zr_dX6_puts_21 := zo_180 (k := 127)  (q := 24) zr_dX6_puts_20.2 rfl rfl
noncomputable def dX6_puts_21 := zr_dX6_puts_21.1
noncomputable def zr_dX6_puts_24 := zo_4 (q := 25) zr_dX6_puts_21.2 rfl
noncomputable def dX6_puts_24 := zr_dX6_puts_24.1
noncomputable def zr_dX6_puts_25 := zo_96 (q := 26) zr_dX6_puts_24.2 rfl
noncomputable def dX6_puts_25 := zr_dX6_puts_25.1
noncomputable def zr_dX6_puts_26 := zo_181 (k := 127)  (q := 29) zr_dX6_puts_25.2 rfl rfl
noncomputable def dX6_puts_26 := zr_dX6_puts_26.1
noncomputable def zr_dX6_puts_29 := zo_177 (q := 30) zr_dX6_puts_26.2 rfl
noncomputable def dX6_puts_29 := zr_dX6_puts_29.1
theorem zs_dX6_unwinds_0 : zsuf cX6_unwinds 0 cX6_unwinds.data.toList := rfl
noncomputable def zr_dX6_unwinds_0 := zo_42 (q := 1) zs_dX6_unwinds_0 rfl
noncomputable def dX6_unwinds_0 := zr_dX6_unwinds_0.1
noncomputable def zr_dX6_unwinds_1 := zo_180 (k := 130)  (q := 4) zr_dX6_unwinds_0.2 rfl rfl
noncomputable def dX6_unwinds_1 := zr_dX6_unwinds_1.1
theorem zo_158 {c : ByteArray} {p q : Nat} {x y : UInt8} {L : List UInt8} {k : Int} (h : zsuf c p (158 :: x :: y :: L)) (hk : Reader.signed 16 (x.toNat * 256 + y.toNat) = k) (hq : p + 3 = q) : zD c p (.ifCond .le k) 3 ∧ zsuf c q L := zfin hq (Eq.trans (zbd (zu1 (v := 158) h rfl)) (Eq.trans (zbd (zs2 (zsuf_tl h) hk)) rfl)) (zsuf_tl (zsuf_tl (zsuf_tl h)))
noncomputable def zr_dX6_unwinds_4 := zo_158 (k := 75)  (q := 7) zr_dX6_unwinds_1.2 (by decide +kernel) rfl
noncomputable def dX6_unwinds_4 := zr_dX6_unwinds_4.1
noncomputable def zr_dX6_unwinds_7 := zo_42 (q := 8) zr_dX6_unwinds_4.2 rfl
noncomputable def dX6_unwinds_7 := zr_dX6_unwinds_7.1
noncomputable def zr_dX6_unwinds_8 := zo_180 (k := 52)  (q := 11) zr_dX6_unwinds_7.2 rfl rfl
noncomputable def dX6_unwinds_8 := zr_dX6_unwinds_8.1
noncomputable def zr_dX6_unwinds_11 := zo_42 (q := 12) zr_dX6_unwinds_8.2 rfl
noncomputable def dX6_unwinds_11 := zr_dX6_unwinds_11.1
noncomputable def zr_dX6_unwinds_12 := zo_180 (k := 130)  (q := 15) zr_dX6_unwinds_11.2 rfl rfl
noncomputable def dX6_unwinds_12 := zr_dX6_unwinds_12.1
noncomputable def zr_dX6_unwinds_15 := zo_4 (q := 16) zr_dX6_unwinds_12.2 rfl
noncomputable def dX6_unwinds_15 := zr_dX6_unwinds_15.1
noncomputable def zr_dX6_unwinds_16 := zo_100 (q := 17) zr_dX6_unwinds_15.2 rfl
noncomputable def dX6_unwinds_16 := zr_dX6_unwinds_16.1
noncomputable def zr_dX6_unwinds_17 := zo_46 (q := 18) zr_dX6_unwinds_16.2 rfl
noncomputable def dX6_unwinds_17 := zr_dX6_unwinds_17.1
noncomputable def zr_dX6_unwinds_18 := zo_184 (k := 133)  (q := 21) zr_dX6_unwinds_17.2 rfl rfl
noncomputable def dX6_unwinds_18 := zr_dX6_unwinds_18.1
noncomputable def zr_dX6_unwinds_21 := zo_27 (q := 22) zr_dX6_unwinds_18.2 rfl
noncomputable def dX6_unwinds_21 := zr_dX6_unwinds_21.1
noncomputable def zr_dX6_unwinds_22 := zo_161 (k := 57)  (q := 25) zr_dX6_unwinds_21.2 (by decide +kernel) rfl
noncomputable def dX6_unwinds_22 := zr_dX6_unwinds_22.1
noncomputable def zr_dX6_unwinds_25 := zo_42 (q := 26) zr_dX6_unwinds_22.2 rfl
noncomputable def dX6_unwinds_25 := zr_dX6_unwinds_25.1
noncomputable def zr_dX6_unwinds_26 := zo_89 (q := 27) zr_dX6_unwinds_25.2 rfl
noncomputable def dX6_unwinds_26 := zr_dX6_unwinds_26.1
noncomputable def zr_dX6_unwinds_27 := zo_180 (k := 130)  (q := 30) zr_dX6_unwinds_26.2 rfl rfl
noncomputable def dX6_unwinds_27 := zr_dX6_unwinds_27.1
noncomputable def zr_dX6_unwinds_30 := zo_4 (q := 31) zr_dX6_unwinds_27.2 rfl
noncomputable def dX6_unwinds_30 := zr_dX6_unwinds_30.1
noncomputable def zr_dX6_unwinds_31 := zo_100 (q := 32) zr_dX6_unwinds_30.2 rfl
noncomputable def dX6_unwinds_31 := zr_dX6_unwinds_31.1
noncomputable def zr_dX6_unwinds_32 := zo_181 (k := 130)  (q := 35) zr_dX6_unwinds_31.2 rfl rfl
noncomputable def dX6_unwinds_32 := zr_dX6_unwinds_32.1
noncomputable def zr_dX6_unwinds_35 := zo_42 (q := 36) zr_dX6_unwinds_32.2 rfl
noncomputable def dX6_unwinds_35 := zr_dX6_unwinds_35.1
noncomputable def zr_dX6_unwinds_36 := zo_180 (k := 52)  (q := 39) zr_dX6_unwinds_35.2 rfl rfl
noncomputable def dX6_unwinds_36 := zr_dX6_unwinds_36.1
noncomputable def zr_dX6_unwinds_39 := zo_42 (q := 40) zr_dX6_unwinds_36.2 rfl
noncomputable def dX6_unwinds_39 := zr_dX6_unwinds_39.1
noncomputable def zr_dX6_unwinds_40 := zo_180 (k := 130)  (q := 43) zr_dX6_unwinds_39.2 rfl rfl
noncomputable def dX6_unwinds_40 := zr_dX6_unwinds_40.1
noncomputable def zr_dX6_unwinds_43 := zo_46 (q := 44) zr_dX6_unwinds_40.2 rfl
noncomputable def dX6_unwinds_43 := zr_dX6_unwinds_43.1
noncomputable def zr_dX6_unwinds_44 := zo_61 (q := 45) zr_dX6_unwinds_43.2 rfl
noncomputable def dX6_unwinds_44 := zr_dX6_unwinds_44.1
noncomputable def zr_dX6_unwinds_45 := zo_42 (q := 46) zr_dX6_unwinds_44.2 rfl
noncomputable def dX6_unwinds_45 := zr_dX6_unwinds_45.1
noncomputable def zr_dX6_unwinds_46 := zo_89 (q := 47) zr_dX6_unwinds_45.2 rfl
noncomputable def dX6_unwinds_46 := zr_dX6_unwinds_46.1
noncomputable def zr_dX6_unwinds_47 := zo_180 (k := 137)  (q := 50) zr_dX6_unwinds_46.2 rfl rfl
noncomputable def dX6_unwinds_47 := zr_dX6_unwinds_47.1
noncomputable def zr_dX6_unwinds_50 := zo_28 (q := 51) zr_dX6_unwinds_47.2 rfl
noncomputable def dX6_unwinds_50 := zr_dX6_unwinds_50.1
noncomputable def zr_dX6_unwinds_51 := zo_16 (k := 13)  (q := 53) zr_dX6_unwinds_50.2 (by decide +kernel) rfl
noncomputable def dX6_unwinds_51 := zr_dX6_unwinds_51.1
noncomputable def zr_dX6_unwinds_53 := zo_159 (k := 9)  (q := 56) zr_dX6_unwinds_51.2 (by decide +kernel) rfl
noncomputable def dX6_unwinds_53 := zr_dX6_unwinds_53.1
noncomputable def zr_dX6_unwinds_56 := zo_28 (q := 57) zr_dX6_unwinds_53.2 rfl
noncomputable def dX6_unwinds_56 := zr_dX6_unwinds_56.1
noncomputable def zr_dX6_unwinds_57 := zo_16 (k := 19)  (q := 59) zr_dX6_unwinds_56.2 (by decide +kernel) rfl
noncomputable def dX6_unwinds_57 := zr_dX6_unwinds_57.1
noncomputable def zr_dX6_unwinds_59 := zo_160 (k := 7)  (q := 62) zr_dX6_unwinds_57.2 (by decide +kernel) rfl
noncomputable def dX6_unwinds_59 := zr_dX6_unwinds_59.1
noncomputable def zr_dX6_unwinds_62 := zo_4 (q := 63) zr_dX6_unwinds_59.2 rfl
noncomputable def dX6_unwinds_62 := zr_dX6_unwinds_62.1
noncomputable def zr_dX6_unwinds_63 := zo_167 (k := 4)  (q := 66) zr_dX6_unwinds_62.2 (by decide +kernel) rfl
noncomputable def dX6_unwinds_63 := zr_dX6_unwinds_63.1
noncomputable def zr_dX6_unwinds_66 := zo_3 (q := 67) zr_dX6_unwinds_63.2 rfl
noncomputable def dX6_unwinds_66 := zr_dX6_unwinds_66.1
noncomputable def zr_dX6_unwinds_67 := zo_100 (q := 68) zr_dX6_unwinds_66.2 rfl
noncomputable def dX6_unwinds_67 := zr_dX6_unwinds_67.1
noncomputable def zr_dX6_unwinds_68 := zo_181 (k := 137)  (q := 71) zr_dX6_unwinds_67.2 rfl rfl
noncomputable def dX6_unwinds_68 := zr_dX6_unwinds_68.1
noncomputable def zr_dX6_unwinds_71 := zo_42 (q := 72) zr_dX6_unwinds_68.2 rfl
noncomputable def dX6_unwinds_71 := zr_dX6_unwinds_71.1
noncomputable def zr_dX6_unwinds_72 := zo_28 (q := 73) zr_dX6_unwinds_71.2 rfl
noncomputable def dX6_unwinds_72 := zr_dX6_unwinds_72.1
noncomputable def zr_dX6_unwinds_73 := zo_182 (k := 140)  (q := 76) zr_dX6_unwinds_72.2 rfl rfl
noncomputable def dX6_unwinds_73 := zr_dX6_unwinds_73.1
noncomputable def zr_dX6_unwinds_76 := zo_167 (k := -76)  (q := 79) zr_dX6_unwinds_73.2 (by decide +kernel) rfl
noncomputable def dX6_unwinds_76 := zr_dX6_unwinds_76.1
noncomputable def zr_dX6_unwinds_79 := zo_177 (q := 80) zr_dX6_unwinds_76.2 rfl
noncomputable def dX6_unwinds_79 := zr_dX6_unwinds_79.1
theorem zs_dX6_holds_0 : zsuf cX6_holds 0 cX6_holds.data.toList := rfl
noncomputable def zr_dX6_holds_0 := zo_42 (q := 1) zs_dX6_holds_0 rfl
noncomputable def dX6_holds_0 := zr_dX6_holds_0.1
noncomputable def zr_dX6_holds_1 := zo_180 (k := 52)  (q := 4) zr_dX6_holds_0.2 rfl rfl
noncomputable def dX6_holds_1 := zr_dX6_holds_1.1
noncomputable def zr_dX6_holds_4 := zo_42 (q := 5) zr_dX6_holds_1.2 rfl
noncomputable def dX6_holds_4 := zr_dX6_holds_4.1
noncomputable def zr_dX6_holds_5 := zo_180 (k := 130)  (q := 8) zr_dX6_holds_4.2 rfl rfl
noncomputable def dX6_holds_5 := zr_dX6_holds_5.1
noncomputable def zr_dX6_holds_8 := zo_27 (q := 9) zr_dX6_holds_5.2 rfl
noncomputable def dX6_holds_8 := zr_dX6_holds_8.1
noncomputable def zr_dX6_holds_9 := zo_79 (q := 10) zr_dX6_holds_8.2 rfl
noncomputable def dX6_holds_9 := zr_dX6_holds_9.1
noncomputable def zr_dX6_holds_10 := zo_42 (q := 11) zr_dX6_holds_9.2 rfl
noncomputable def dX6_holds_10 := zr_dX6_holds_10.1
noncomputable def zr_dX6_holds_11 := zo_89 (q := 12) zr_dX6_holds_10.2 rfl
noncomputable def dX6_holds_11 := zr_dX6_holds_11.1
noncomputable def zr_dX6_holds_12 := zo_180 (k := 130)  (q := 15) zr_dX6_holds_11.2 rfl rfl
noncomputable def dX6_holds_12 := zr_dX6_holds_12.1
noncomputable def zr_dX6_holds_15 := zo_4 (q := 16) zr_dX6_holds_12.2 rfl
noncomputable def dX6_holds_15 := zr_dX6_holds_15.1
noncomputable def zr_dX6_holds_16 := zo_96 (q := 17) zr_dX6_holds_15.2 rfl
noncomputable def dX6_holds_16 := zr_dX6_holds_16.1
noncomputable def zr_dX6_holds_17 := zo_181 (k := 130)  (q := 20) zr_dX6_holds_16.2 rfl rfl
noncomputable def dX6_holds_17 := zr_dX6_holds_17.1
noncomputable def zr_dX6_holds_20 := zo_177 (q := 21) zr_dX6_holds_17.2 rfl
noncomputable def dX6_holds_20 := zr_dX6_holds_20.1
theorem zs_dX6_opensOne_0 : zsuf cX6_opensOne 0 cX6_opensOne.data.toList := rfl
noncomputable def zr_dX6_opensOne_0 := zo_42 (q := 1) zs_dX6_opensOne_0 rfl
noncomputable def dX6_opensOne_0 := zr_dX6_opensOne_0.1
noncomputable def zr_dX6_opensOne_1 := zo_180 (k := 137)  (q := 4) zr_dX6_opensOne_0.2 rfl rfl
noncomputable def dX6_opensOne_1 := zr_dX6_opensOne_1.1
noncomputable def zr_dX6_opensOne_4 := zo_8 (q := 5) zr_dX6_opensOne_1.2 rfl
noncomputable def dX6_opensOne_4 := zr_dX6_opensOne_4.1
noncomputable def zr_dX6_opensOne_5 := zo_160 (k := 5)  (q := 8) zr_dX6_opensOne_4.2 (by decide +kernel) rfl
noncomputable def dX6_opensOne_5 := zr_dX6_opensOne_5.1
noncomputable def zr_dX6_opensOne_8 := zo_3 (q := 9) zr_dX6_opensOne_5.2 rfl
noncomputable def dX6_opensOne_8 := zr_dX6_opensOne_8.1
noncomputable def zr_dX6_opensOne_9 := zo_172 (q := 10) zr_dX6_opensOne_8.2 rfl
noncomputable def dX6_opensOne_9 := zr_dX6_opensOne_9.1
noncomputable def zr_dX6_opensOne_10 := zo_42 (q := 11) zr_dX6_opensOne_9.2 rfl
noncomputable def dX6_opensOne_10 := zr_dX6_opensOne_10.1
noncomputable def zr_dX6_opensOne_11 := zo_89 (q := 12) zr_dX6_opensOne_10.2 rfl
noncomputable def dX6_opensOne_11 := zr_dX6_opensOne_11.1
noncomputable def zr_dX6_opensOne_12 := zo_180 (k := 137)  (q := 15) zr_dX6_opensOne_11.2 rfl rfl
noncomputable def dX6_opensOne_12 := zr_dX6_opensOne_12.1
noncomputable def zr_dX6_opensOne_15 := zo_4 (q := 16) zr_dX6_opensOne_12.2 rfl
noncomputable def dX6_opensOne_15 := zr_dX6_opensOne_15.1
noncomputable def zr_dX6_opensOne_16 := zo_96 (q := 17) zr_dX6_opensOne_15.2 rfl
noncomputable def dX6_opensOne_16 := zr_dX6_opensOne_16.1
noncomputable def zr_dX6_opensOne_17 := zo_181 (k := 137)  (q := 20) zr_dX6_opensOne_16.2 rfl rfl
noncomputable def dX6_opensOne_17 := zr_dX6_opensOne_17.1
noncomputable def zr_dX6_opensOne_20 := zo_42 (q := 21) zr_dX6_opensOne_17.2 rfl
noncomputable def dX6_opensOne_20 := zr_dX6_opensOne_20.1
noncomputable def zr_dX6_opensOne_21 := zo_27 (q := 22) zr_dX6_opensOne_20.2 rfl
noncomputable def dX6_opensOne_21 := zr_dX6_opensOne_21.1
noncomputable def zr_dX6_opensOne_22 := zo_182 (k := 144)  (q := 25) zr_dX6_opensOne_21.2 rfl rfl
noncomputable def dX6_opensOne_22 := zr_dX6_opensOne_22.1
noncomputable def zr_dX6_opensOne_25 := zo_4 (q := 26) zr_dX6_opensOne_22.2 rfl
noncomputable def dX6_opensOne_25 := zr_dX6_opensOne_25.1
noncomputable def zr_dX6_opensOne_26 := zo_172 (q := 27) zr_dX6_opensOne_25.2 rfl
noncomputable def dX6_opensOne_26 := zr_dX6_opensOne_26.1
theorem zs_dX6_between_0 : zsuf cX6_between 0 cX6_between.data.toList := rfl
noncomputable def zr_dX6_between_0 := zo_42 (q := 1) zs_dX6_between_0 rfl
noncomputable def dX6_between_0 := zr_dX6_between_0.1
noncomputable def zr_dX6_between_1 := zo_27 (q := 2) zr_dX6_between_0.2 rfl
noncomputable def dX6_between_1 := zr_dX6_between_1.1
noncomputable def zr_dX6_between_2 := zo_184 (k := 133)  (q := 5) zr_dX6_between_1.2 rfl rfl
noncomputable def dX6_between_2 := zr_dX6_between_2.1
noncomputable def zr_dX6_between_5 := zo_7 (q := 6) zr_dX6_between_2.2 rfl
noncomputable def dX6_between_5 := zr_dX6_between_5.1
noncomputable def zr_dX6_between_6 := zo_160 (k := 7)  (q := 9) zr_dX6_between_5.2 (by decide +kernel) rfl
noncomputable def dX6_between_6 := zr_dX6_between_6.1
noncomputable def zr_dX6_between_9 := zo_8 (q := 10) zr_dX6_between_6.2 rfl
noncomputable def dX6_between_9 := zr_dX6_between_9.1
noncomputable def zr_dX6_between_10 := zo_167 (k := 7)  (q := 13) zr_dX6_between_9.2 (by decide +kernel) rfl
noncomputable def dX6_between_10 := zr_dX6_between_10.1
noncomputable def zr_dX6_between_13 := zo_27 (q := 14) zr_dX6_between_10.2 rfl
noncomputable def dX6_between_13 := zr_dX6_between_13.1
noncomputable def zr_dX6_between_14 := zo_184 (k := 133)  (q := 17) zr_dX6_between_13.2 rfl rfl
noncomputable def dX6_between_14 := zr_dX6_between_14.1
noncomputable def zr_dX6_between_17 := zo_182 (k := 147)  (q := 20) zr_dX6_between_14.2 rfl rfl
noncomputable def dX6_between_17 := zr_dX6_between_17.1
noncomputable def zr_dX6_between_20 := zo_27 (q := 21) zr_dX6_between_17.2 rfl
noncomputable def dX6_between_20 := zr_dX6_between_20.1
noncomputable def zr_dX6_between_21 := zo_184 (k := 133)  (q := 24) zr_dX6_between_20.2 rfl rfl
noncomputable def dX6_between_21 := zr_dX6_between_21.1
noncomputable def zr_dX6_between_24 := zo_7 (q := 25) zr_dX6_between_21.2 rfl
noncomputable def dX6_between_24 := zr_dX6_between_24.1
noncomputable def zr_dX6_between_25 := zo_160 (k := 30)  (q := 28) zr_dX6_between_24.2 (by decide +kernel) rfl
noncomputable def dX6_between_25 := zr_dX6_between_25.1
noncomputable def zr_dX6_between_28 := zo_42 (q := 29) zr_dX6_between_25.2 rfl
noncomputable def dX6_between_28 := zr_dX6_between_28.1
noncomputable def zr_dX6_between_29 := zo_180 (k := 130)  (q := 32) zr_dX6_between_28.2 rfl rfl
noncomputable def dX6_between_29 := zr_dX6_between_29.1
noncomputable def zr_dX6_between_32 := zo_158 (k := 23)  (q := 35) zr_dX6_between_29.2 (by decide +kernel) rfl
noncomputable def dX6_between_32 := zr_dX6_between_32.1
noncomputable def zr_dX6_between_35 := zo_42 (q := 36) zr_dX6_between_32.2 rfl
noncomputable def dX6_between_35 := zr_dX6_between_35.1
noncomputable def zr_dX6_between_36 := zo_180 (k := 52)  (q := 39) zr_dX6_between_35.2 rfl rfl
noncomputable def dX6_between_36 := zr_dX6_between_36.1
noncomputable def zr_dX6_between_39 := zo_42 (q := 40) zr_dX6_between_36.2 rfl
noncomputable def dX6_between_39 := zr_dX6_between_39.1
noncomputable def zr_dX6_between_40 := zo_180 (k := 130)  (q := 43) zr_dX6_between_39.2 rfl rfl
noncomputable def dX6_between_40 := zr_dX6_between_40.1
noncomputable def zr_dX6_between_43 := zo_4 (q := 44) zr_dX6_between_40.2 rfl
noncomputable def dX6_between_43 := zr_dX6_between_43.1
noncomputable def zr_dX6_between_44 := zo_100 (q := 45) zr_dX6_between_43.2 rfl
noncomputable def dX6_between_44 := zr_dX6_between_44.1
noncomputable def zr_dX6_between_45 := zo_46 (q := 46) zr_dX6_between_44.2 rfl
noncomputable def dX6_between_45 := zr_dX6_between_45.1
noncomputable def zr_dX6_between_46 := zo_184 (k := 133)  (q := 49) zr_dX6_between_45.2 rfl rfl
noncomputable def dX6_between_46 := zr_dX6_between_46.1
noncomputable def zr_dX6_between_49 := zo_7 (q := 50) zr_dX6_between_46.2 rfl
noncomputable def dX6_between_49 := zr_dX6_between_49.1
noncomputable def zr_dX6_between_50 := zo_160 (k := 5)  (q := 53) zr_dX6_between_49.2 (by decide +kernel) rfl
noncomputable def dX6_between_50 := zr_dX6_between_50.1
noncomputable def zr_dX6_between_53 := zo_3 (q := 54) zr_dX6_between_50.2 rfl
noncomputable def dX6_between_53 := zr_dX6_between_53.1
noncomputable def zr_dX6_between_54 := zo_172 (q := 55) zr_dX6_between_53.2 rfl
noncomputable def dX6_between_54 := zr_dX6_between_54.1
noncomputable def zr_dX6_between_55 := zo_42 (q := 56) zr_dX6_between_54.2 rfl
noncomputable def dX6_between_55 := zr_dX6_between_55.1
noncomputable def zr_dX6_between_56 := zo_27 (q := 57) zr_dX6_between_55.2 rfl
noncomputable def dX6_between_56 := zr_dX6_between_56.1
noncomputable def zr_dX6_between_57 := zo_182 (k := 144)  (q := 60) zr_dX6_between_56.2 rfl rfl
noncomputable def dX6_between_57 := zr_dX6_between_57.1
noncomputable def zr_dX6_between_60 := zo_4 (q := 61) zr_dX6_between_57.2 rfl
noncomputable def dX6_between_60 := zr_dX6_between_60.1
noncomputable def zr_dX6_between_61 := zo_172 (q := 62) zr_dX6_between_60.2 rfl
noncomputable def dX6_between_61 := zr_dX6_between_61.1
theorem zs_dX6_signOf_0 : zsuf cX6_signOf 0 cX6_signOf.data.toList := rfl
noncomputable def zr_dX6_signOf_0 := zo_42 (q := 1) zs_dX6_signOf_0 rfl
noncomputable def dX6_signOf_0 := zr_dX6_signOf_0.1
noncomputable def zr_dX6_signOf_1 := zo_180 (k := 117)  (q := 4) zr_dX6_signOf_0.2 rfl rfl
noncomputable def dX6_signOf_1 := zr_dX6_signOf_1.1
noncomputable def zr_dX6_signOf_4 := zo_7 (q := 5) zr_dX6_signOf_1.2 rfl
noncomputable def dX6_signOf_4 := zr_dX6_signOf_4.1
noncomputable def zr_dX6_signOf_5 := zo_160 (k := 8)  (q := 8) zr_dX6_signOf_4.2 (by decide +kernel) rfl
noncomputable def dX6_signOf_5 := zr_dX6_signOf_5.1
noncomputable def zr_dX6_signOf_8 := zo_16 (k := 11)  (q := 10) zr_dX6_signOf_5.2 (by decide +kernel) rfl
noncomputable def dX6_signOf_8 := zr_dX6_signOf_8.1
noncomputable def zr_dX6_signOf_10 := zo_167 (k := 87)  (q := 13) zr_dX6_signOf_8.2 (by decide +kernel) rfl
noncomputable def dX6_signOf_10 := zr_dX6_signOf_10.1
noncomputable def zr_dX6_signOf_13 := zo_42 (q := 14) zr_dX6_signOf_10.2 rfl
noncomputable def dX6_signOf_13 := zr_dX6_signOf_13.1
noncomputable def zr_dX6_signOf_14 := zo_180 (k := 117)  (q := 17) zr_dX6_signOf_13.2 rfl rfl
noncomputable def dX6_signOf_14 := zr_dX6_signOf_14.1
noncomputable def zr_dX6_signOf_17 := zo_8 (q := 18) zr_dX6_signOf_14.2 rfl
noncomputable def dX6_signOf_17 := zr_dX6_signOf_17.1
noncomputable def zr_dX6_signOf_18 := zo_160 (k := 8)  (q := 21) zr_dX6_signOf_17.2 (by decide +kernel) rfl
noncomputable def dX6_signOf_18 := zr_dX6_signOf_18.1
noncomputable def zr_dX6_signOf_21 := zo_16 (k := 12)  (q := 23) zr_dX6_signOf_18.2 (by decide +kernel) rfl
noncomputable def dX6_signOf_21 := zr_dX6_signOf_21.1
noncomputable def zr_dX6_signOf_23 := zo_167 (k := 74)  (q := 26) zr_dX6_signOf_21.2 (by decide +kernel) rfl
noncomputable def dX6_signOf_23 := zr_dX6_signOf_23.1
noncomputable def zr_dX6_signOf_26 := zo_42 (q := 27) zr_dX6_signOf_23.2 rfl
noncomputable def dX6_signOf_26 := zr_dX6_signOf_26.1
noncomputable def zr_dX6_signOf_27 := zo_180 (k := 117)  (q := 30) zr_dX6_signOf_26.2 rfl rfl
noncomputable def dX6_signOf_27 := zr_dX6_signOf_27.1
noncomputable def zr_dX6_signOf_30 := zo_16 (k := 60)  (q := 32) zr_dX6_signOf_27.2 (by decide +kernel) rfl
noncomputable def dX6_signOf_30 := zr_dX6_signOf_30.1
noncomputable def zr_dX6_signOf_32 := zo_160 (k := 8)  (q := 35) zr_dX6_signOf_30.2 (by decide +kernel) rfl
noncomputable def dX6_signOf_32 := zr_dX6_signOf_32.1
noncomputable def zr_dX6_signOf_35 := zo_16 (k := 14)  (q := 37) zr_dX6_signOf_32.2 (by decide +kernel) rfl
noncomputable def dX6_signOf_35 := zr_dX6_signOf_35.1
noncomputable def zr_dX6_signOf_37 := zo_167 (k := 60)  (q := 40) zr_dX6_signOf_35.2 (by decide +kernel) rfl
noncomputable def dX6_signOf_37 := zr_dX6_signOf_37.1
noncomputable def zr_dX6_signOf_40 := zo_42 (q := 41) zr_dX6_signOf_37.2 rfl
noncomputable def dX6_signOf_40 := zr_dX6_signOf_40.1
noncomputable def zr_dX6_signOf_41 := zo_180 (k := 117)  (q := 44) zr_dX6_signOf_40.2 rfl rfl
noncomputable def dX6_signOf_41 := zr_dX6_signOf_41.1
noncomputable def zr_dX6_signOf_44 := zo_16 (k := 61)  (q := 46) zr_dX6_signOf_41.2 (by decide +kernel) rfl
noncomputable def dX6_signOf_44 := zr_dX6_signOf_44.1
noncomputable def zr_dX6_signOf_46 := zo_160 (k := 8)  (q := 49) zr_dX6_signOf_44.2 (by decide +kernel) rfl
noncomputable def dX6_signOf_46 := zr_dX6_signOf_46.1
noncomputable def zr_dX6_signOf_49 := zo_16 (k := 15)  (q := 51) zr_dX6_signOf_46.2 (by decide +kernel) rfl
noncomputable def dX6_signOf_49 := zr_dX6_signOf_49.1
noncomputable def zr_dX6_signOf_51 := zo_167 (k := 46)  (q := 54) zr_dX6_signOf_49.2 (by decide +kernel) rfl
noncomputable def dX6_signOf_51 := zr_dX6_signOf_51.1
noncomputable def zr_dX6_signOf_54 := zo_42 (q := 55) zr_dX6_signOf_51.2 rfl
noncomputable def dX6_signOf_54 := zr_dX6_signOf_54.1
noncomputable def zr_dX6_signOf_55 := zo_180 (k := 117)  (q := 58) zr_dX6_signOf_54.2 rfl rfl
noncomputable def dX6_signOf_55 := zr_dX6_signOf_55.1
noncomputable def zr_dX6_signOf_58 := zo_16 (k := 43)  (q := 60) zr_dX6_signOf_55.2 (by decide +kernel) rfl
noncomputable def dX6_signOf_58 := zr_dX6_signOf_58.1
noncomputable def zr_dX6_signOf_60 := zo_160 (k := 8)  (q := 63) zr_dX6_signOf_58.2 (by decide +kernel) rfl
noncomputable def dX6_signOf_60 := zr_dX6_signOf_60.1
noncomputable def zr_dX6_signOf_63 := zo_16 (k := 16)  (q := 65) zr_dX6_signOf_60.2 (by decide +kernel) rfl
noncomputable def dX6_signOf_63 := zr_dX6_signOf_63.1
noncomputable def zr_dX6_signOf_65 := zo_167 (k := 32)  (q := 68) zr_dX6_signOf_63.2 (by decide +kernel) rfl
noncomputable def dX6_signOf_65 := zr_dX6_signOf_65.1
noncomputable def zr_dX6_signOf_68 := zo_42 (q := 69) zr_dX6_signOf_65.2 rfl
noncomputable def dX6_signOf_68 := zr_dX6_signOf_68.1
noncomputable def zr_dX6_signOf_69 := zo_180 (k := 117)  (q := 72) zr_dX6_signOf_68.2 rfl rfl
noncomputable def dX6_signOf_69 := zr_dX6_signOf_69.1
noncomputable def zr_dX6_signOf_72 := zo_16 (k := 45)  (q := 74) zr_dX6_signOf_69.2 (by decide +kernel) rfl
noncomputable def dX6_signOf_72 := zr_dX6_signOf_72.1
noncomputable def zr_dX6_signOf_74 := zo_160 (k := 8)  (q := 77) zr_dX6_signOf_72.2 (by decide +kernel) rfl
noncomputable def dX6_signOf_74 := zr_dX6_signOf_74.1
noncomputable def zr_dX6_signOf_77 := zo_16 (k := 17)  (q := 79) zr_dX6_signOf_74.2 (by decide +kernel) rfl
noncomputable def dX6_signOf_77 := zr_dX6_signOf_77.1
noncomputable def zr_dX6_signOf_79 := zo_167 (k := 18)  (q := 82) zr_dX6_signOf_77.2 (by decide +kernel) rfl
noncomputable def dX6_signOf_79 := zr_dX6_signOf_79.1
noncomputable def zr_dX6_signOf_82 := zo_42 (q := 83) zr_dX6_signOf_79.2 rfl
noncomputable def dX6_signOf_82 := zr_dX6_signOf_82.1
noncomputable def zr_dX6_signOf_83 := zo_180 (k := 117)  (q := 86) zr_dX6_signOf_82.2 rfl rfl
noncomputable def dX6_signOf_83 := zr_dX6_signOf_83.1
noncomputable def zr_dX6_signOf_86 := zo_16 (k := 42)  (q := 88) zr_dX6_signOf_83.2 (by decide +kernel) rfl
noncomputable def dX6_signOf_86 := zr_dX6_signOf_86.1
noncomputable def zr_dX6_signOf_88 := zo_160 (k := 8)  (q := 91) zr_dX6_signOf_86.2 (by decide +kernel) rfl
noncomputable def dX6_signOf_88 := zr_dX6_signOf_88.1
noncomputable def zr_dX6_signOf_91 := zo_16 (k := 18)  (q := 93) zr_dX6_signOf_88.2 (by decide +kernel) rfl
noncomputable def dX6_signOf_91 := zr_dX6_signOf_91.1
noncomputable def zr_dX6_signOf_93 := zo_167 (k := 4)  (q := 96) zr_dX6_signOf_91.2 (by decide +kernel) rfl
noncomputable def dX6_signOf_93 := zr_dX6_signOf_93.1
noncomputable def zr_dX6_signOf_96 := zo_2 (q := 97) zr_dX6_signOf_93.2 rfl
noncomputable def dX6_signOf_96 := zr_dX6_signOf_96.1
noncomputable def zr_dX6_signOf_97 := zo_172 (q := 98) zr_dX6_signOf_96.2 rfl
noncomputable def dX6_signOf_97 := zr_dX6_signOf_97.1
theorem zs_dX6_eRead_0 : zsuf cX6_eRead 0 cX6_eRead.data.toList := rfl
noncomputable def zr_dX6_eRead_0 := zo_42 (q := 1) zs_dX6_eRead_0 rfl
noncomputable def dX6_eRead_0 := zr_dX6_eRead_0.1
noncomputable def zr_dX6_eRead_1 := zo_3 (q := 2) zr_dX6_eRead_0.2 rfl
noncomputable def dX6_eRead_1 := zr_dX6_eRead_1.1
noncomputable def zr_dX6_eRead_2 := zo_181 (k := 130)  (q := 5) zr_dX6_eRead_1.2 rfl rfl
noncomputable def dX6_eRead_2 := zr_dX6_eRead_2.1
noncomputable def zr_dX6_eRead_5 := zo_42 (q := 6) zr_dX6_eRead_2.2 rfl
noncomputable def dX6_eRead_5 := zr_dX6_eRead_5.1
noncomputable def zr_dX6_eRead_6 := zo_3 (q := 7) zr_dX6_eRead_5.2 rfl
noncomputable def dX6_eRead_6 := zr_dX6_eRead_6.1
noncomputable def zr_dX6_eRead_7 := zo_181 (k := 137)  (q := 10) zr_dX6_eRead_6.2 rfl rfl
noncomputable def dX6_eRead_7 := zr_dX6_eRead_7.1
noncomputable def zr_dX6_eRead_10 := zo_4 (q := 11) zr_dX6_eRead_7.2 rfl
noncomputable def dX6_eRead_10 := zr_dX6_eRead_10.1
noncomputable def zr_dX6_eRead_11 := zo_60 (q := 12) zr_dX6_eRead_10.2 rfl
noncomputable def dX6_eRead_11 := zr_dX6_eRead_11.1
noncomputable def zr_dX6_eRead_12 := zo_4 (q := 13) zr_dX6_eRead_11.2 rfl
noncomputable def dX6_eRead_12 := zr_dX6_eRead_12.1
noncomputable def zr_dX6_eRead_13 := zo_61 (q := 14) zr_dX6_eRead_12.2 rfl
noncomputable def dX6_eRead_13 := zr_dX6_eRead_13.1
noncomputable def zr_dX6_eRead_14 := zo_42 (q := 15) zr_dX6_eRead_13.2 rfl
noncomputable def dX6_eRead_14 := zr_dX6_eRead_14.1
noncomputable def zr_dX6_eRead_15 := zo_182 (k := 150)  (q := 18) zr_dX6_eRead_14.2 rfl rfl
noncomputable def dX6_eRead_15 := zr_dX6_eRead_15.1
noncomputable def zr_dX6_eRead_18 := zo_27 (q := 19) zr_dX6_eRead_15.2 rfl
noncomputable def dX6_eRead_18 := zr_dX6_eRead_18.1
noncomputable def zr_dX6_eRead_19 := zo_153 (k := 131)  (q := 22) zr_dX6_eRead_18.2 (by decide +kernel) rfl
noncomputable def dX6_eRead_19 := zr_dX6_eRead_19.1
noncomputable def zr_dX6_eRead_22 := zo_42 (q := 23) zr_dX6_eRead_19.2 rfl
noncomputable def dX6_eRead_22 := zr_dX6_eRead_22.1
noncomputable def zr_dX6_eRead_23 := zo_180 (k := 117)  (q := 26) zr_dX6_eRead_22.2 rfl rfl
noncomputable def dX6_eRead_23 := zr_dX6_eRead_23.1
noncomputable def zr_dX6_eRead_26 := zo_4 (q := 27) zr_dX6_eRead_23.2 rfl
noncomputable def dX6_eRead_26 := zr_dX6_eRead_26.1
noncomputable def zr_dX6_eRead_27 := zo_159 (k := 11)  (q := 30) zr_dX6_eRead_26.2 (by decide +kernel) rfl
noncomputable def dX6_eRead_27 := zr_dX6_eRead_27.1
noncomputable def zr_dX6_eRead_30 := zo_42 (q := 31) zr_dX6_eRead_27.2 rfl
noncomputable def dX6_eRead_30 := zr_dX6_eRead_30.1
noncomputable def zr_dX6_eRead_31 := zo_180 (k := 117)  (q := 34) zr_dX6_eRead_30.2 rfl rfl
noncomputable def dX6_eRead_31 := zr_dX6_eRead_31.1
noncomputable def zr_dX6_eRead_34 := zo_5 (q := 35) zr_dX6_eRead_31.2 rfl
noncomputable def dX6_eRead_34 := zr_dX6_eRead_34.1
noncomputable def zr_dX6_eRead_35 := zo_160 (k := 40)  (q := 38) zr_dX6_eRead_34.2 (by decide +kernel) rfl
noncomputable def dX6_eRead_35 := zr_dX6_eRead_35.1
noncomputable def zr_dX6_eRead_38 := zo_42 (q := 39) zr_dX6_eRead_35.2 rfl
noncomputable def dX6_eRead_38 := zr_dX6_eRead_38.1
noncomputable def zr_dX6_eRead_39 := zo_42 (q := 40) zr_dX6_eRead_38.2 rfl
noncomputable def dX6_eRead_39 := zr_dX6_eRead_39.1
noncomputable def zr_dX6_eRead_40 := zo_180 (k := 117)  (q := 43) zr_dX6_eRead_39.2 rfl rfl
noncomputable def dX6_eRead_40 := zr_dX6_eRead_40.1
noncomputable def zr_dX6_eRead_43 := zo_4 (q := 44) zr_dX6_eRead_40.2 rfl
noncomputable def dX6_eRead_43 := zr_dX6_eRead_43.1
noncomputable def zr_dX6_eRead_44 := zo_160 (k := 13)  (q := 47) zr_dX6_eRead_43.2 (by decide +kernel) rfl
noncomputable def dX6_eRead_44 := zr_dX6_eRead_44.1
noncomputable def zr_dX6_eRead_47 := zo_18 (k := 153)  (q := 49) zr_dX6_eRead_44.2 rfl rfl
noncomputable def dX6_eRead_47 := zr_dX6_eRead_47.1
noncomputable def zr_dX6_eRead_49 := zo_42 (q := 50) zr_dX6_eRead_47.2 rfl
noncomputable def dX6_eRead_49 := zr_dX6_eRead_49.1
noncomputable def zr_dX6_eRead_50 := zo_180 (k := 120)  (q := 53) zr_dX6_eRead_49.2 rfl rfl
noncomputable def dX6_eRead_50 := zr_dX6_eRead_50.1
noncomputable def zr_dX6_eRead_53 := zo_96 (q := 54) zr_dX6_eRead_50.2 rfl
noncomputable def dX6_eRead_53 := zr_dX6_eRead_53.1
noncomputable def zr_dX6_eRead_54 := zo_167 (k := 7)  (q := 57) zr_dX6_eRead_53.2 (by decide +kernel) rfl
noncomputable def dX6_eRead_54 := zr_dX6_eRead_54.1
noncomputable def zr_dX6_eRead_57 := zo_42 (q := 58) zr_dX6_eRead_54.2 rfl
noncomputable def dX6_eRead_57 := zr_dX6_eRead_57.1
noncomputable def zr_dX6_eRead_58 := zo_180 (k := 120)  (q := 61) zr_dX6_eRead_57.2 rfl rfl
noncomputable def dX6_eRead_58 := zr_dX6_eRead_58.1
noncomputable def zr_dX6_eRead_61 := zo_182 (k := 140)  (q := 64) zr_dX6_eRead_58.2 rfl rfl
noncomputable def dX6_eRead_61 := zr_dX6_eRead_61.1
noncomputable def zr_dX6_eRead_64 := zo_42 (q := 65) zr_dX6_eRead_61.2 rfl
noncomputable def dX6_eRead_64 := zr_dX6_eRead_64.1
noncomputable def zr_dX6_eRead_65 := zo_16 (k := 7)  (q := 67) zr_dX6_eRead_64.2 (by decide +kernel) rfl
noncomputable def dX6_eRead_65 := zr_dX6_eRead_65.1
noncomputable def zr_dX6_eRead_67 := zo_182 (k := 147)  (q := 70) zr_dX6_eRead_65.2 rfl rfl
noncomputable def dX6_eRead_67 := zr_dX6_eRead_67.1
noncomputable def zr_dX6_eRead_70 := zo_3 (q := 71) zr_dX6_eRead_67.2 rfl
noncomputable def dX6_eRead_70 := zr_dX6_eRead_70.1
noncomputable def zr_dX6_eRead_71 := zo_60 (q := 72) zr_dX6_eRead_70.2 rfl
noncomputable def dX6_eRead_71 := zr_dX6_eRead_71.1
noncomputable def zr_dX6_eRead_72 := zo_167 (k := -58)  (q := 75) zr_dX6_eRead_71.2 (by decide +kernel) rfl
noncomputable def dX6_eRead_72 := zr_dX6_eRead_72.1
noncomputable def zr_dX6_eRead_75 := zo_42 (q := 76) zr_dX6_eRead_72.2 rfl
noncomputable def dX6_eRead_75 := zr_dX6_eRead_75.1
noncomputable def zr_dX6_eRead_76 := zo_180 (k := 117)  (q := 79) zr_dX6_eRead_75.2 rfl rfl
noncomputable def dX6_eRead_76 := zr_dX6_eRead_76.1
noncomputable def zr_dX6_eRead_79 := zo_16 (k := 6)  (q := 81) zr_dX6_eRead_76.2 (by decide +kernel) rfl
noncomputable def dX6_eRead_79 := zr_dX6_eRead_79.1
noncomputable def zr_dX6_eRead_81 := zo_160 (k := 18)  (q := 84) zr_dX6_eRead_79.2 (by decide +kernel) rfl
noncomputable def dX6_eRead_81 := zr_dX6_eRead_81.1
noncomputable def zr_dX6_eRead_84 := zo_28 (q := 85) zr_dX6_eRead_81.2 rfl
noncomputable def dX6_eRead_84 := zr_dX6_eRead_84.1
noncomputable def zr_dX6_eRead_85 := zo_153 (k := 14)  (q := 88) zr_dX6_eRead_84.2 (by decide +kernel) rfl
noncomputable def dX6_eRead_85 := zr_dX6_eRead_85.1
noncomputable def zr_dX6_eRead_88 := zo_42 (q := 89) zr_dX6_eRead_85.2 rfl
noncomputable def dX6_eRead_88 := zr_dX6_eRead_88.1
noncomputable def zr_dX6_eRead_89 := zo_16 (k := 13)  (q := 91) zr_dX6_eRead_88.2 (by decide +kernel) rfl
noncomputable def dX6_eRead_89 := zr_dX6_eRead_89.1
noncomputable def zr_dX6_eRead_91 := zo_182 (k := 154)  (q := 94) zr_dX6_eRead_89.2 rfl rfl
noncomputable def dX6_eRead_91 := zr_dX6_eRead_91.1
noncomputable def zr_dX6_eRead_94 := zo_154 (k := -80)  (q := 97) zr_dX6_eRead_91.2 (by decide +kernel) rfl
noncomputable def dX6_eRead_94 := zr_dX6_eRead_94.1
noncomputable def zr_dX6_eRead_97 := zo_3 (q := 98) zr_dX6_eRead_94.2 rfl
noncomputable def dX6_eRead_97 := zr_dX6_eRead_97.1
noncomputable def zr_dX6_eRead_98 := zo_172 (q := 99) zr_dX6_eRead_97.2 rfl
noncomputable def dX6_eRead_98 := zr_dX6_eRead_98.1
noncomputable def zr_dX6_eRead_99 := zo_42 (q := 100) zr_dX6_eRead_98.2 rfl
noncomputable def dX6_eRead_99 := zr_dX6_eRead_99.1
noncomputable def zr_dX6_eRead_100 := zo_180 (k := 117)  (q := 103) zr_dX6_eRead_99.2 rfl rfl
noncomputable def dX6_eRead_100 := zr_dX6_eRead_100.1
noncomputable def zr_dX6_eRead_103 := zo_16 (k := 45)  (q := 105) zr_dX6_eRead_100.2 (by decide +kernel) rfl
noncomputable def dX6_eRead_103 := zr_dX6_eRead_103.1
noncomputable def zr_dX6_eRead_105 := zo_160 (k := 19)  (q := 108) zr_dX6_eRead_103.2 (by decide +kernel) rfl
noncomputable def dX6_eRead_105 := zr_dX6_eRead_105.1
noncomputable def zr_dX6_eRead_108 := zo_42 (q := 109) zr_dX6_eRead_105.2 rfl
noncomputable def dX6_eRead_108 := zr_dX6_eRead_108.1
noncomputable def zr_dX6_eRead_109 := zo_16 (k := 19)  (q := 111) zr_dX6_eRead_108.2 (by decide +kernel) rfl
noncomputable def dX6_eRead_109 := zr_dX6_eRead_109.1
noncomputable def zr_dX6_eRead_111 := zo_182 (k := 154)  (q := 114) zr_dX6_eRead_109.2 rfl rfl
noncomputable def dX6_eRead_111 := zr_dX6_eRead_111.1
noncomputable def zr_dX6_eRead_114 := zo_154 (k := 5)  (q := 117) zr_dX6_eRead_111.2 (by decide +kernel) rfl
noncomputable def dX6_eRead_114 := zr_dX6_eRead_114.1
noncomputable def zr_dX6_eRead_117 := zo_3 (q := 118) zr_dX6_eRead_114.2 rfl
noncomputable def dX6_eRead_117 := zr_dX6_eRead_117.1
noncomputable def zr_dX6_eRead_118 := zo_172 (q := 119) zr_dX6_eRead_117.2 rfl
noncomputable def dX6_eRead_118 := zr_dX6_eRead_118.1
noncomputable def zr_dX6_eRead_119 := zo_3 (q := 120) zr_dX6_eRead_118.2 rfl
noncomputable def dX6_eRead_119 := zr_dX6_eRead_119.1
noncomputable def zr_dX6_eRead_120 := zo_61 (q := 121) zr_dX6_eRead_119.2 rfl
noncomputable def dX6_eRead_120 := zr_dX6_eRead_120.1
noncomputable def zr_dX6_eRead_121 := zo_167 (k := -107)  (q := 124) zr_dX6_eRead_120.2 (by decide +kernel) rfl
noncomputable def dX6_eRead_121 := zr_dX6_eRead_121.1
noncomputable def zr_dX6_eRead_124 := zo_42 (q := 125) zr_dX6_eRead_121.2 rfl
noncomputable def dX6_eRead_124 := zr_dX6_eRead_124.1
noncomputable def zr_dX6_eRead_125 := zo_180 (k := 117)  (q := 128) zr_dX6_eRead_124.2 rfl rfl
noncomputable def dX6_eRead_125 := zr_dX6_eRead_125.1
noncomputable def zr_dX6_eRead_128 := zo_16 (k := 40)  (q := 130) zr_dX6_eRead_125.2 (by decide +kernel) rfl
noncomputable def dX6_eRead_128 := zr_dX6_eRead_128.1
noncomputable def zr_dX6_eRead_130 := zo_160 (k := 18)  (q := 133) zr_dX6_eRead_128.2 (by decide +kernel) rfl
noncomputable def dX6_eRead_130 := zr_dX6_eRead_130.1
noncomputable def zr_dX6_eRead_133 := zo_42 (q := 134) zr_dX6_eRead_130.2 rfl
noncomputable def dX6_eRead_133 := zr_dX6_eRead_133.1
noncomputable def zr_dX6_eRead_134 := zo_3 (q := 135) zr_dX6_eRead_133.2 rfl
noncomputable def dX6_eRead_134 := zr_dX6_eRead_134.1
noncomputable def zr_dX6_eRead_135 := zo_182 (k := 154)  (q := 138) zr_dX6_eRead_134.2 rfl rfl
noncomputable def dX6_eRead_135 := zr_dX6_eRead_135.1
noncomputable def zr_dX6_eRead_138 := zo_154 (k := 5)  (q := 141) zr_dX6_eRead_135.2 (by decide +kernel) rfl
noncomputable def dX6_eRead_138 := zr_dX6_eRead_138.1
noncomputable def zr_dX6_eRead_141 := zo_3 (q := 142) zr_dX6_eRead_138.2 rfl
noncomputable def dX6_eRead_141 := zr_dX6_eRead_141.1
noncomputable def zr_dX6_eRead_142 := zo_172 (q := 143) zr_dX6_eRead_141.2 rfl
noncomputable def dX6_eRead_142 := zr_dX6_eRead_142.1
noncomputable def zr_dX6_eRead_143 := zo_4 (q := 144) zr_dX6_eRead_142.2 rfl
noncomputable def dX6_eRead_143 := zr_dX6_eRead_143.1
noncomputable def zr_dX6_eRead_144 := zo_61 (q := 145) zr_dX6_eRead_143.2 rfl
noncomputable def dX6_eRead_144 := zr_dX6_eRead_144.1
noncomputable def zr_dX6_eRead_145 := zo_167 (k := -131)  (q := 148) zr_dX6_eRead_144.2 (by decide +kernel) rfl
noncomputable def dX6_eRead_145 := zr_dX6_eRead_145.1
noncomputable def zr_dX6_eRead_148 := zo_3 (q := 149) zr_dX6_eRead_145.2 rfl
noncomputable def dX6_eRead_148 := zr_dX6_eRead_148.1
noncomputable def zr_dX6_eRead_149 := zo_172 (q := 150) zr_dX6_eRead_148.2 rfl
noncomputable def dX6_eRead_149 := zr_dX6_eRead_149.1
noncomputable def zr_dX6_eRead_150 := zo_42 (q := 151) zr_dX6_eRead_149.2 rfl
noncomputable def dX6_eRead_150 := zr_dX6_eRead_150.1
noncomputable def zr_dX6_eRead_151 := zo_180 (k := 117)  (q := 154) zr_dX6_eRead_150.2 rfl rfl
noncomputable def dX6_eRead_151 := zr_dX6_eRead_151.1
noncomputable def zr_dX6_eRead_154 := zo_16 (k := 59)  (q := 156) zr_dX6_eRead_151.2 (by decide +kernel) rfl
noncomputable def dX6_eRead_154 := zr_dX6_eRead_154.1
noncomputable def zr_dX6_eRead_156 := zo_160 (k := 21)  (q := 159) zr_dX6_eRead_154.2 (by decide +kernel) rfl
noncomputable def dX6_eRead_156 := zr_dX6_eRead_156.1
noncomputable def zr_dX6_eRead_159 := zo_42 (q := 160) zr_dX6_eRead_156.2 rfl
noncomputable def dX6_eRead_159 := zr_dX6_eRead_159.1
noncomputable def zr_dX6_eRead_160 := zo_4 (q := 161) zr_dX6_eRead_159.2 rfl
noncomputable def dX6_eRead_160 := zr_dX6_eRead_160.1
noncomputable def zr_dX6_eRead_161 := zo_182 (k := 147)  (q := 164) zr_dX6_eRead_160.2 rfl rfl
noncomputable def dX6_eRead_161 := zr_dX6_eRead_161.1
noncomputable def zr_dX6_eRead_164 := zo_42 (q := 165) zr_dX6_eRead_161.2 rfl
noncomputable def dX6_eRead_164 := zr_dX6_eRead_164.1
noncomputable def zr_dX6_eRead_165 := zo_180 (k := 130)  (q := 168) zr_dX6_eRead_164.2 rfl rfl
noncomputable def dX6_eRead_165 := zr_dX6_eRead_165.1
noncomputable def zr_dX6_eRead_168 := zo_154 (k := 7)  (q := 171) zr_dX6_eRead_165.2 (by decide +kernel) rfl
noncomputable def dX6_eRead_168 := zr_dX6_eRead_168.1
noncomputable def zr_dX6_eRead_171 := zo_4 (q := 172) zr_dX6_eRead_168.2 rfl
noncomputable def dX6_eRead_171 := zr_dX6_eRead_171.1
noncomputable def zr_dX6_eRead_172 := zo_167 (k := 4)  (q := 175) zr_dX6_eRead_171.2 (by decide +kernel) rfl
noncomputable def dX6_eRead_172 := zr_dX6_eRead_172.1
noncomputable def zr_dX6_eRead_175 := zo_3 (q := 176) zr_dX6_eRead_172.2 rfl
noncomputable def dX6_eRead_175 := zr_dX6_eRead_175.1
noncomputable def zr_dX6_eRead_176 := zo_172 (q := 177) zr_dX6_eRead_175.2 rfl
noncomputable def dX6_eRead_176 := zr_dX6_eRead_176.1
noncomputable def zr_dX6_eRead_177 := zo_42 (q := 178) zr_dX6_eRead_176.2 rfl
noncomputable def dX6_eRead_177 := zr_dX6_eRead_177.1
noncomputable def zr_dX6_eRead_178 := zo_180 (k := 117)  (q := 181) zr_dX6_eRead_177.2 rfl rfl
noncomputable def dX6_eRead_178 := zr_dX6_eRead_178.1
noncomputable def zr_dX6_eRead_181 := zo_16 (k := 41)  (q := 183) zr_dX6_eRead_178.2 (by decide +kernel) rfl
noncomputable def dX6_eRead_181 := zr_dX6_eRead_181.1
noncomputable def zr_dX6_eRead_183 := zo_160 (k := 46)  (q := 186) zr_dX6_eRead_181.2 (by decide +kernel) rfl
noncomputable def dX6_eRead_183 := zr_dX6_eRead_183.1
noncomputable def zr_dX6_eRead_186 := zo_42 (q := 187) zr_dX6_eRead_183.2 rfl
noncomputable def dX6_eRead_186 := zr_dX6_eRead_186.1
noncomputable def zr_dX6_eRead_187 := zo_4 (q := 188) zr_dX6_eRead_186.2 rfl
noncomputable def dX6_eRead_187 := zr_dX6_eRead_187.1
noncomputable def zr_dX6_eRead_188 := zo_182 (k := 147)  (q := 191) zr_dX6_eRead_187.2 rfl rfl
noncomputable def dX6_eRead_188 := zr_dX6_eRead_188.1
noncomputable def zr_dX6_eRead_191 := zo_42 (q := 192) zr_dX6_eRead_188.2 rfl
noncomputable def dX6_eRead_191 := zr_dX6_eRead_191.1
noncomputable def zr_dX6_eRead_192 := zo_180 (k := 130)  (q := 195) zr_dX6_eRead_191.2 rfl rfl
noncomputable def dX6_eRead_192 := zr_dX6_eRead_192.1
noncomputable def zr_dX6_eRead_195 := zo_154 (k := 5)  (q := 198) zr_dX6_eRead_192.2 (by decide +kernel) rfl
noncomputable def dX6_eRead_195 := zr_dX6_eRead_195.1
noncomputable def zr_dX6_eRead_198 := zo_3 (q := 199) zr_dX6_eRead_195.2 rfl
noncomputable def dX6_eRead_198 := zr_dX6_eRead_198.1
noncomputable def zr_dX6_eRead_199 := zo_172 (q := 200) zr_dX6_eRead_198.2 rfl
noncomputable def dX6_eRead_199 := zr_dX6_eRead_199.1
noncomputable def zr_dX6_eRead_200 := zo_42 (q := 201) zr_dX6_eRead_199.2 rfl
noncomputable def dX6_eRead_200 := zr_dX6_eRead_200.1
noncomputable def zr_dX6_eRead_201 := zo_89 (q := 202) zr_dX6_eRead_200.2 rfl
noncomputable def dX6_eRead_201 := zr_dX6_eRead_201.1
noncomputable def zr_dX6_eRead_202 := zo_180 (k := 130)  (q := 205) zr_dX6_eRead_201.2 rfl rfl
noncomputable def dX6_eRead_202 := zr_dX6_eRead_202.1
noncomputable def zr_dX6_eRead_205 := zo_4 (q := 206) zr_dX6_eRead_202.2 rfl
noncomputable def dX6_eRead_205 := zr_dX6_eRead_205.1
noncomputable def zr_dX6_eRead_206 := zo_100 (q := 207) zr_dX6_eRead_205.2 rfl
noncomputable def dX6_eRead_206 := zr_dX6_eRead_206.1
noncomputable def zr_dX6_eRead_207 := zo_181 (k := 130)  (q := 210) zr_dX6_eRead_206.2 rfl rfl
noncomputable def dX6_eRead_207 := zr_dX6_eRead_207.1
noncomputable def zr_dX6_eRead_210 := zo_42 (q := 211) zr_dX6_eRead_207.2 rfl
noncomputable def dX6_eRead_210 := zr_dX6_eRead_210.1
noncomputable def zr_dX6_eRead_211 := zo_89 (q := 212) zr_dX6_eRead_210.2 rfl
noncomputable def dX6_eRead_211 := zr_dX6_eRead_211.1
noncomputable def zr_dX6_eRead_212 := zo_180 (k := 137)  (q := 215) zr_dX6_eRead_211.2 rfl rfl
noncomputable def dX6_eRead_212 := zr_dX6_eRead_212.1
noncomputable def zr_dX6_eRead_215 := zo_4 (q := 216) zr_dX6_eRead_212.2 rfl
noncomputable def dX6_eRead_215 := zr_dX6_eRead_215.1
noncomputable def zr_dX6_eRead_216 := zo_100 (q := 217) zr_dX6_eRead_215.2 rfl
noncomputable def dX6_eRead_216 := zr_dX6_eRead_216.1
noncomputable def zr_dX6_eRead_217 := zo_181 (k := 137)  (q := 220) zr_dX6_eRead_216.2 rfl rfl
noncomputable def dX6_eRead_217 := zr_dX6_eRead_217.1
noncomputable def zr_dX6_eRead_220 := zo_42 (q := 221) zr_dX6_eRead_217.2 rfl
noncomputable def dX6_eRead_220 := zr_dX6_eRead_220.1
noncomputable def zr_dX6_eRead_221 := zo_16 (k := 7)  (q := 223) zr_dX6_eRead_220.2 (by decide +kernel) rfl
noncomputable def dX6_eRead_221 := zr_dX6_eRead_221.1
noncomputable def zr_dX6_eRead_223 := zo_182 (k := 147)  (q := 226) zr_dX6_eRead_221.2 rfl rfl
noncomputable def dX6_eRead_223 := zr_dX6_eRead_223.1
noncomputable def zr_dX6_eRead_226 := zo_167 (k := -212)  (q := 229) zr_dX6_eRead_223.2 (by decide +kernel) rfl
noncomputable def dX6_eRead_226 := zr_dX6_eRead_226.1
noncomputable def zr_dX6_eRead_229 := zo_42 (q := 230) zr_dX6_eRead_226.2 rfl
noncomputable def dX6_eRead_229 := zr_dX6_eRead_229.1
noncomputable def zr_dX6_eRead_230 := zo_182 (k := 157)  (q := 233) zr_dX6_eRead_229.2 rfl rfl
noncomputable def dX6_eRead_230 := zr_dX6_eRead_230.1
noncomputable def zr_dX6_eRead_233 := zo_62 (q := 234) zr_dX6_eRead_230.2 rfl
noncomputable def dX6_eRead_233 := zr_dX6_eRead_233.1
noncomputable def zr_dX6_eRead_234 := zo_29 (q := 235) zr_dX6_eRead_233.2 rfl
noncomputable def dX6_eRead_234 := zr_dX6_eRead_234.1
noncomputable def zr_dX6_eRead_235 := zo_2 (q := 236) zr_dX6_eRead_234.2 rfl
noncomputable def dX6_eRead_235 := zr_dX6_eRead_235.1
noncomputable def zr_dX6_eRead_236 := zo_159 (k := 11)  (q := 239) zr_dX6_eRead_235.2 (by decide +kernel) rfl
noncomputable def dX6_eRead_236 := zr_dX6_eRead_236.1
noncomputable def zr_dX6_eRead_239 := zo_42 (q := 240) zr_dX6_eRead_236.2 rfl
noncomputable def dX6_eRead_239 := zr_dX6_eRead_239.1
noncomputable def zr_dX6_eRead_240 := zo_29 (q := 241) zr_dX6_eRead_239.2 rfl
noncomputable def dX6_eRead_240 := zr_dX6_eRead_240.1
noncomputable def zr_dX6_eRead_241 := zo_182 (k := 160)  (q := 244) zr_dX6_eRead_240.2 rfl rfl
noncomputable def dX6_eRead_241 := zr_dX6_eRead_241.1
noncomputable def zr_dX6_eRead_244 := zo_154 (k := 5)  (q := 247) zr_dX6_eRead_241.2 (by decide +kernel) rfl
noncomputable def dX6_eRead_244 := zr_dX6_eRead_244.1
noncomputable def zr_dX6_eRead_247 := zo_3 (q := 248) zr_dX6_eRead_244.2 rfl
noncomputable def dX6_eRead_247 := zr_dX6_eRead_247.1
noncomputable def zr_dX6_eRead_248 := zo_172 (q := 249) zr_dX6_eRead_247.2 rfl
noncomputable def dX6_eRead_248 := zr_dX6_eRead_248.1
noncomputable def zr_dX6_eRead_249 := zo_4 (q := 250) zr_dX6_eRead_248.2 rfl
noncomputable def dX6_eRead_249 := zr_dX6_eRead_249.1
noncomputable def zr_dX6_eRead_250 := zo_60 (q := 251) zr_dX6_eRead_249.2 rfl
noncomputable def dX6_eRead_250 := zr_dX6_eRead_250.1
noncomputable def zr_dX6_eRead_251 := zo_29 (q := 252) zr_dX6_eRead_250.2 rfl
noncomputable def dX6_eRead_251 := zr_dX6_eRead_251.1
noncomputable def zr_dX6_eRead_252 := zo_16 (k := 12)  (q := 254) zr_dX6_eRead_251.2 (by decide +kernel) rfl
noncomputable def dX6_eRead_252 := zr_dX6_eRead_252.1
noncomputable def zr_dX6_eRead_254 := zo_163 (k := 7)  (q := 257) zr_dX6_eRead_252.2 (by decide +kernel) rfl
noncomputable def dX6_eRead_254 := zr_dX6_eRead_254.1
noncomputable def zr_dX6_eRead_257 := zo_4 (q := 258) zr_dX6_eRead_254.2 rfl
noncomputable def dX6_eRead_257 := zr_dX6_eRead_257.1
noncomputable def zr_dX6_eRead_258 := zo_167 (k := 4)  (q := 261) zr_dX6_eRead_257.2 (by decide +kernel) rfl
noncomputable def dX6_eRead_258 := zr_dX6_eRead_258.1
noncomputable def zr_dX6_eRead_261 := zo_3 (q := 262) zr_dX6_eRead_258.2 rfl
noncomputable def dX6_eRead_261 := zr_dX6_eRead_261.1
noncomputable def zr_dX6_eRead_262 := zo_61 (q := 263) zr_dX6_eRead_261.2 rfl
noncomputable def dX6_eRead_262 := zr_dX6_eRead_262.1
noncomputable def zr_dX6_eRead_263 := zo_167 (k := -249)  (q := 266) zr_dX6_eRead_262.2 (by decide +kernel) rfl
noncomputable def dX6_eRead_263 := zr_dX6_eRead_263.1
theorem zs_dX6_text_0 : zsuf cX6_text 0 cX6_text.data.toList := rfl
noncomputable def zr_dX6_text_0 := zo_42 (q := 1) zs_dX6_text_0 rfl
noncomputable def dX6_text_0 := zr_dX6_text_0.1
noncomputable def zr_dX6_text_1 := zo_180 (k := 98)  (q := 4) zr_dX6_text_0.2 rfl rfl
noncomputable def dX6_text_1 := zr_dX6_text_1.1
noncomputable def zr_dX6_text_4 := zo_16 (k := 6)  (q := 6) zr_dX6_text_1.2 (by decide +kernel) rfl
noncomputable def dX6_text_4 := zr_dX6_text_4.1
noncomputable def zr_dX6_text_6 := zo_160 (k := 6)  (q := 9) zr_dX6_text_4.2 (by decide +kernel) rfl
noncomputable def dX6_text_6 := zr_dX6_text_6.1
noncomputable def zr_dX6_text_9 := zo_16 (k := -4)  (q := 11) zr_dX6_text_6.2 (by decide +kernel) rfl
noncomputable def dX6_text_9 := zr_dX6_text_9.1
noncomputable def zr_dX6_text_11 := zo_172 (q := 12) zr_dX6_text_9.2 rfl
noncomputable def dX6_text_11 := zr_dX6_text_11.1
noncomputable def zr_dX6_text_12 := zo_42 (q := 13) zr_dX6_text_11.2 rfl
noncomputable def dX6_text_12 := zr_dX6_text_12.1
noncomputable def zr_dX6_text_13 := zo_3 (q := 14) zr_dX6_text_12.2 rfl
noncomputable def dX6_text_13 := zr_dX6_text_13.1
noncomputable def zr_dX6_text_14 := zo_181 (k := 111)  (q := 17) zr_dX6_text_13.2 rfl rfl
noncomputable def dX6_text_14 := zr_dX6_text_14.1
noncomputable def zr_dX6_text_17 := zo_42 (q := 18) zr_dX6_text_14.2 rfl
noncomputable def dX6_text_17 := zr_dX6_text_17.1
noncomputable def zr_dX6_text_18 := zo_3 (q := 19) zr_dX6_text_17.2 rfl
noncomputable def dX6_text_18 := zr_dX6_text_18.1
noncomputable def zr_dX6_text_19 := zo_181 (k := 127)  (q := 22) zr_dX6_text_18.2 rfl rfl
noncomputable def dX6_text_19 := zr_dX6_text_19.1
noncomputable def zr_dX6_text_22 := zo_4 (q := 23) zr_dX6_text_19.2 rfl
noncomputable def dX6_text_22 := zr_dX6_text_22.1
noncomputable def zr_dX6_text_23 := zo_60 (q := 24) zr_dX6_text_22.2 rfl
noncomputable def dX6_text_23 := zr_dX6_text_23.1
noncomputable def zr_dX6_text_24 := zo_3 (q := 25) zr_dX6_text_23.2 rfl
noncomputable def dX6_text_24 := zr_dX6_text_24.1
noncomputable def zr_dX6_text_25 := zo_61 (q := 26) zr_dX6_text_24.2 rfl
noncomputable def dX6_text_25 := zr_dX6_text_25.1
noncomputable def zr_dX6_text_26 := zo_28 (q := 27) zr_dX6_text_25.2 rfl
noncomputable def dX6_text_26 := zr_dX6_text_26.1
noncomputable def zr_dX6_text_27 := zo_6 (q := 28) zr_dX6_text_26.2 rfl
noncomputable def dX6_text_27 := zr_dX6_text_27.1
noncomputable def zr_dX6_text_28 := zo_162 (k := 73)  (q := 31) zr_dX6_text_27.2 (by decide +kernel) rfl
noncomputable def dX6_text_28 := zr_dX6_text_28.1
noncomputable def zr_dX6_text_31 := zo_27 (q := 32) zr_dX6_text_28.2 rfl
noncomputable def dX6_text_31 := zr_dX6_text_31.1
noncomputable def zr_dX6_text_32 := zo_153 (k := 69)  (q := 35) zr_dX6_text_31.2 (by decide +kernel) rfl
noncomputable def dX6_text_32 := zr_dX6_text_32.1
noncomputable def zr_dX6_text_35 := zo_42 (q := 36) zr_dX6_text_32.2 rfl
noncomputable def dX6_text_35 := zr_dX6_text_35.1
noncomputable def zr_dX6_text_36 := zo_182 (k := 150)  (q := 39) zr_dX6_text_35.2 rfl rfl
noncomputable def dX6_text_36 := zr_dX6_text_36.1
noncomputable def zr_dX6_text_39 := zo_42 (q := 40) zr_dX6_text_36.2 rfl
noncomputable def dX6_text_39 := zr_dX6_text_39.1
noncomputable def zr_dX6_text_40 := zo_180 (k := 117)  (q := 43) zr_dX6_text_39.2 rfl rfl
noncomputable def dX6_text_40 := zr_dX6_text_40.1
noncomputable def zr_dX6_text_43 := zo_6 (q := 44) zr_dX6_text_40.2 rfl
noncomputable def dX6_text_43 := zr_dX6_text_43.1
noncomputable def zr_dX6_text_44 := zo_160 (k := 15)  (q := 47) zr_dX6_text_43.2 (by decide +kernel) rfl
noncomputable def dX6_text_44 := zr_dX6_text_44.1
noncomputable def zr_dX6_text_47 := zo_42 (q := 48) zr_dX6_text_44.2 rfl
noncomputable def dX6_text_47 := zr_dX6_text_47.1
noncomputable def zr_dX6_text_48 := zo_180 (k := 120)  (q := 51) zr_dX6_text_47.2 rfl rfl
noncomputable def dX6_text_48 := zr_dX6_text_48.1
noncomputable def zr_dX6_text_51 := zo_28 (q := 52) zr_dX6_text_48.2 rfl
noncomputable def dX6_text_51 := zr_dX6_text_51.1
noncomputable def zr_dX6_text_52 := zo_160 (k := 7)  (q := 55) zr_dX6_text_51.2 (by decide +kernel) rfl
noncomputable def dX6_text_52 := zr_dX6_text_52.1
noncomputable def zr_dX6_text_55 := zo_4 (q := 56) zr_dX6_text_52.2 rfl
noncomputable def dX6_text_55 := zr_dX6_text_55.1
noncomputable def zr_dX6_text_56 := zo_167 (k := 4)  (q := 59) zr_dX6_text_55.2 (by decide +kernel) rfl
noncomputable def dX6_text_56 := zr_dX6_text_56.1
noncomputable def zr_dX6_text_59 := zo_3 (q := 60) zr_dX6_text_56.2 rfl
noncomputable def dX6_text_59 := zr_dX6_text_59.1
noncomputable def zr_dX6_text_60 := zo_60 (q := 61) zr_dX6_text_59.2 rfl
noncomputable def dX6_text_60 := zr_dX6_text_60.1
noncomputable def zr_dX6_text_61 := zo_42 (q := 62) zr_dX6_text_60.2 rfl
noncomputable def dX6_text_61 := zr_dX6_text_61.1
noncomputable def zr_dX6_text_62 := zo_180 (k := 28)  (q := 65) zr_dX6_text_61.2 rfl rfl
noncomputable def dX6_text_62 := zr_dX6_text_62.1
noncomputable def zr_dX6_text_65 := zo_7 (q := 66) zr_dX6_text_62.2 rfl
noncomputable def dX6_text_65 := zr_dX6_text_65.1
noncomputable def zr_dX6_text_66 := zo_42 (q := 67) zr_dX6_text_65.2 rfl
noncomputable def dX6_text_66 := zr_dX6_text_66.1
noncomputable def zr_dX6_text_67 := zo_180 (k := 98)  (q := 70) zr_dX6_text_66.2 rfl rfl
noncomputable def dX6_text_67 := zr_dX6_text_67.1
noncomputable def zr_dX6_text_70 := zo_104 (q := 71) zr_dX6_text_67.2 rfl
noncomputable def dX6_text_70 := zr_dX6_text_70.1
noncomputable def zr_dX6_text_71 := zo_28 (q := 72) zr_dX6_text_70.2 rfl
noncomputable def dX6_text_71 := zr_dX6_text_71.1
noncomputable def zr_dX6_text_72 := zo_96 (q := 73) zr_dX6_text_71.2 rfl
noncomputable def dX6_text_72 := zr_dX6_text_72.1
noncomputable def zr_dX6_text_73 := zo_42 (q := 74) zr_dX6_text_72.2 rfl
noncomputable def dX6_text_73 := zr_dX6_text_73.1
noncomputable def zr_dX6_text_74 := zo_180 (k := 127)  (q := 77) zr_dX6_text_73.2 rfl rfl
noncomputable def dX6_text_74 := zr_dX6_text_74.1
noncomputable def zr_dX6_text_77 := zo_79 (q := 78) zr_dX6_text_74.2 rfl
noncomputable def dX6_text_77 := zr_dX6_text_77.1
noncomputable def zr_dX6_text_78 := zo_27 (q := 79) zr_dX6_text_77.2 rfl
noncomputable def dX6_text_78 := zr_dX6_text_78.1
noncomputable def zr_dX6_text_79 := zo_153 (k := 14)  (q := 82) zr_dX6_text_78.2 (by decide +kernel) rfl
noncomputable def dX6_text_79 := zr_dX6_text_79.1
noncomputable def zr_dX6_text_82 := zo_42 (q := 83) zr_dX6_text_79.2 rfl
noncomputable def dX6_text_82 := zr_dX6_text_82.1
noncomputable def zr_dX6_text_83 := zo_182 (k := 163)  (q := 86) zr_dX6_text_82.2 rfl rfl
noncomputable def dX6_text_83 := zr_dX6_text_83.1
noncomputable def zr_dX6_text_86 := zo_153 (k := 7)  (q := 89) zr_dX6_text_83.2 (by decide +kernel) rfl
noncomputable def dX6_text_86 := zr_dX6_text_86.1
noncomputable def zr_dX6_text_89 := zo_4 (q := 90) zr_dX6_text_86.2 rfl
noncomputable def dX6_text_89 := zr_dX6_text_89.1
noncomputable def zr_dX6_text_90 := zo_167 (k := 4)  (q := 93) zr_dX6_text_89.2 (by decide +kernel) rfl
noncomputable def dX6_text_90 := zr_dX6_text_90.1
noncomputable def zr_dX6_text_93 := zo_3 (q := 94) zr_dX6_text_90.2 rfl
noncomputable def dX6_text_93 := zr_dX6_text_93.1
noncomputable def zr_dX6_text_94 := zo_60 (q := 95) zr_dX6_text_93.2 rfl
noncomputable def dX6_text_94 := zr_dX6_text_94.1
noncomputable def zr_dX6_text_95 := zo_132 (k := 2) (o := 1)  (q := 98) zr_dX6_text_94.2 rfl (by decide +kernel) rfl
noncomputable def dX6_text_95 := zr_dX6_text_95.1
noncomputable def zr_dX6_text_98 := zo_167 (k := -72)  (q := 101) zr_dX6_text_95.2 (by decide +kernel) rfl
noncomputable def dX6_text_98 := zr_dX6_text_98.1
noncomputable def zr_dX6_text_101 := zo_27 (q := 102) zr_dX6_text_98.2 rfl
noncomputable def dX6_text_101 := zr_dX6_text_101.1
noncomputable def zr_dX6_text_102 := zo_153 (k := 20)  (q := 105) zr_dX6_text_101.2 (by decide +kernel) rfl
noncomputable def dX6_text_102 := zr_dX6_text_102.1
noncomputable def zr_dX6_text_105 := zo_42 (q := 106) zr_dX6_text_102.2 rfl
noncomputable def dX6_text_105 := zr_dX6_text_105.1
noncomputable def zr_dX6_text_106 := zo_182 (k := 150)  (q := 109) zr_dX6_text_105.2 rfl rfl
noncomputable def dX6_text_106 := zr_dX6_text_106.1
noncomputable def zr_dX6_text_109 := zo_42 (q := 110) zr_dX6_text_106.2 rfl
noncomputable def dX6_text_109 := zr_dX6_text_109.1
noncomputable def zr_dX6_text_110 := zo_180 (k := 117)  (q := 113) zr_dX6_text_109.2 rfl rfl
noncomputable def dX6_text_110 := zr_dX6_text_110.1
noncomputable def zr_dX6_text_113 := zo_154 (k := 7)  (q := 116) zr_dX6_text_110.2 (by decide +kernel) rfl
noncomputable def dX6_text_113 := zr_dX6_text_113.1
noncomputable def zr_dX6_text_116 := zo_4 (q := 117) zr_dX6_text_113.2 rfl
noncomputable def dX6_text_116 := zr_dX6_text_116.1
noncomputable def zr_dX6_text_117 := zo_167 (k := 4)  (q := 120) zr_dX6_text_116.2 (by decide +kernel) rfl
noncomputable def dX6_text_117 := zr_dX6_text_117.1
noncomputable def zr_dX6_text_120 := zo_3 (q := 121) zr_dX6_text_117.2 rfl
noncomputable def dX6_text_120 := zr_dX6_text_120.1
noncomputable def zr_dX6_text_121 := zo_60 (q := 122) zr_dX6_text_120.2 rfl
noncomputable def dX6_text_121 := zr_dX6_text_121.1
noncomputable def zr_dX6_text_122 := zo_42 (q := 123) zr_dX6_text_121.2 rfl
noncomputable def dX6_text_122 := zr_dX6_text_122.1
noncomputable def zr_dX6_text_123 := zo_180 (k := 28)  (q := 126) zr_dX6_text_122.2 rfl rfl
noncomputable def dX6_text_123 := zr_dX6_text_123.1
noncomputable def zr_dX6_text_126 := zo_7 (q := 127) zr_dX6_text_123.2 rfl
noncomputable def dX6_text_126 := zr_dX6_text_126.1
noncomputable def zr_dX6_text_127 := zo_42 (q := 128) zr_dX6_text_126.2 rfl
noncomputable def dX6_text_127 := zr_dX6_text_127.1
noncomputable def zr_dX6_text_128 := zo_180 (k := 98)  (q := 131) zr_dX6_text_127.2 rfl rfl
noncomputable def dX6_text_128 := zr_dX6_text_128.1
noncomputable def zr_dX6_text_131 := zo_104 (q := 132) zr_dX6_text_128.2 rfl
noncomputable def dX6_text_131 := zr_dX6_text_131.1
noncomputable def zr_dX6_text_132 := zo_6 (q := 133) zr_dX6_text_131.2 rfl
noncomputable def dX6_text_132 := zr_dX6_text_132.1
noncomputable def zr_dX6_text_133 := zo_96 (q := 134) zr_dX6_text_132.2 rfl
noncomputable def dX6_text_133 := zr_dX6_text_133.1
noncomputable def zr_dX6_text_134 := zo_42 (q := 135) zr_dX6_text_133.2 rfl
noncomputable def dX6_text_134 := zr_dX6_text_134.1
noncomputable def zr_dX6_text_135 := zo_180 (k := 127)  (q := 138) zr_dX6_text_134.2 rfl rfl
noncomputable def dX6_text_135 := zr_dX6_text_135.1
noncomputable def zr_dX6_text_138 := zo_79 (q := 139) zr_dX6_text_135.2 rfl
noncomputable def dX6_text_138 := zr_dX6_text_138.1
noncomputable def zr_dX6_text_139 := zo_42 (q := 140) zr_dX6_text_138.2 rfl
noncomputable def dX6_text_139 := zr_dX6_text_139.1
noncomputable def zr_dX6_text_140 := zo_3 (q := 141) zr_dX6_text_139.2 rfl
noncomputable def dX6_text_140 := zr_dX6_text_140.1
noncomputable def zr_dX6_text_141 := zo_181 (k := 80)  (q := 144) zr_dX6_text_140.2 rfl rfl
noncomputable def dX6_text_141 := zr_dX6_text_141.1
noncomputable def zr_dX6_text_144 := zo_27 (q := 145) zr_dX6_text_141.2 rfl
noncomputable def dX6_text_144 := zr_dX6_text_144.1
noncomputable def zr_dX6_text_145 := zo_154 (k := 11)  (q := 148) zr_dX6_text_144.2 (by decide +kernel) rfl
noncomputable def dX6_text_145 := zr_dX6_text_145.1
noncomputable def zr_dX6_text_148 := zo_16 (k := -100)  (q := 150) zr_dX6_text_145.2 (by decide +kernel) rfl
noncomputable def dX6_text_148 := zr_dX6_text_148.1
noncomputable def zr_dX6_text_150 := zo_42 (q := 151) zr_dX6_text_148.2 rfl
noncomputable def dX6_text_150 := zr_dX6_text_150.1
noncomputable def zr_dX6_text_151 := zo_180 (k := 114)  (q := 154) zr_dX6_text_150.2 rfl rfl
noncomputable def dX6_text_151 := zr_dX6_text_151.1
noncomputable def zr_dX6_text_154 := zo_100 (q := 155) zr_dX6_text_151.2 rfl
noncomputable def dX6_text_154 := zr_dX6_text_154.1
noncomputable def zr_dX6_text_155 := zo_172 (q := 156) zr_dX6_text_154.2 rfl
noncomputable def dX6_text_155 := zr_dX6_text_155.1
noncomputable def zr_dX6_text_156 := zo_42 (q := 157) zr_dX6_text_155.2 rfl
noncomputable def dX6_text_156 := zr_dX6_text_156.1
noncomputable def zr_dX6_text_157 := zo_89 (q := 158) zr_dX6_text_156.2 rfl
noncomputable def dX6_text_157 := zr_dX6_text_157.1
noncomputable def zr_dX6_text_158 := zo_180 (k := 98)  (q := 161) zr_dX6_text_157.2 rfl rfl
noncomputable def dX6_text_158 := zr_dX6_text_158.1
noncomputable def zr_dX6_text_161 := zo_4 (q := 162) zr_dX6_text_158.2 rfl
noncomputable def dX6_text_161 := zr_dX6_text_161.1
noncomputable def zr_dX6_text_162 := zo_96 (q := 163) zr_dX6_text_161.2 rfl
noncomputable def dX6_text_162 := zr_dX6_text_162.1
noncomputable def zr_dX6_text_163 := zo_181 (k := 98)  (q := 166) zr_dX6_text_162.2 rfl rfl
noncomputable def dX6_text_163 := zr_dX6_text_163.1
noncomputable def zr_dX6_text_166 := zo_42 (q := 167) zr_dX6_text_163.2 rfl
noncomputable def dX6_text_166 := zr_dX6_text_166.1
noncomputable def zr_dX6_text_167 := zo_180 (k := 98)  (q := 170) zr_dX6_text_166.2 rfl rfl
noncomputable def dX6_text_167 := zr_dX6_text_167.1
noncomputable def zr_dX6_text_170 := zo_4 (q := 171) zr_dX6_text_167.2 rfl
noncomputable def dX6_text_170 := zr_dX6_text_170.1
noncomputable def zr_dX6_text_171 := zo_100 (q := 172) zr_dX6_text_170.2 rfl
noncomputable def dX6_text_171 := zr_dX6_text_171.1
noncomputable def zr_dX6_text_172 := zo_172 (q := 173) zr_dX6_text_171.2 rfl
noncomputable def dX6_text_172 := zr_dX6_text_172.1
theorem zs_dX6_two_0 : zsuf cX6_two 0 cX6_two.data.toList := rfl
noncomputable def zr_dX6_two_0 := zo_26 (q := 1) zs_dX6_two_0 rfl
noncomputable def dX6_two_0 := zr_dX6_two_0.1
theorem dX6_two_1 : zD cX6_two 1 (.tableswitch 101 11 17 #[43, 57, 101, 71, 82, 93, 97]) 43 := by decide +kernel
noncomputable def zr_dX6_two_1 := zskip zr_dX6_two_0.2 43 (q := 44) rfl
noncomputable def zr_dX6_two_44 := zo_27 (q := 45) zr_dX6_two_1 rfl
noncomputable def dX6_two_44 := zr_dX6_two_44.1
noncomputable def zr_dX6_two_45 := zo_154 (k := 7)  (q := 48) zr_dX6_two_44.2 (by decide +kernel) rfl
noncomputable def dX6_two_45 := zr_dX6_two_45.1
noncomputable def zr_dX6_two_48 := zo_28 (q := 49) zr_dX6_two_45.2 rfl
noncomputable def dX6_two_48 := zr_dX6_two_48.1
noncomputable def zr_dX6_two_49 := zo_153 (k := 7)  (q := 52) zr_dX6_two_48.2 (by decide +kernel) rfl
noncomputable def dX6_two_49 := zr_dX6_two_49.1
noncomputable def zr_dX6_two_52 := zo_4 (q := 53) zr_dX6_two_49.2 rfl
noncomputable def dX6_two_52 := zr_dX6_two_52.1
noncomputable def zr_dX6_two_53 := zo_167 (k := 4)  (q := 56) zr_dX6_two_52.2 (by decide +kernel) rfl
noncomputable def dX6_two_53 := zr_dX6_two_53.1
noncomputable def zr_dX6_two_56 := zo_3 (q := 57) zr_dX6_two_53.2 rfl
noncomputable def dX6_two_56 := zr_dX6_two_56.1
noncomputable def zr_dX6_two_57 := zo_172 (q := 58) zr_dX6_two_56.2 rfl
noncomputable def dX6_two_57 := zr_dX6_two_57.1
noncomputable def zr_dX6_two_58 := zo_27 (q := 59) zr_dX6_two_57.2 rfl
noncomputable def dX6_two_58 := zr_dX6_two_58.1
noncomputable def zr_dX6_two_59 := zo_153 (k := 11)  (q := 62) zr_dX6_two_58.2 (by decide +kernel) rfl
noncomputable def dX6_two_59 := zr_dX6_two_59.1
noncomputable def zr_dX6_two_62 := zo_28 (q := 63) zr_dX6_two_59.2 rfl
noncomputable def dX6_two_62 := zr_dX6_two_62.1
noncomputable def zr_dX6_two_63 := zo_153 (k := 7)  (q := 66) zr_dX6_two_62.2 (by decide +kernel) rfl
noncomputable def dX6_two_63 := zr_dX6_two_63.1
noncomputable def zr_dX6_two_66 := zo_4 (q := 67) zr_dX6_two_63.2 rfl
noncomputable def dX6_two_66 := zr_dX6_two_66.1
noncomputable def zr_dX6_two_67 := zo_167 (k := 4)  (q := 70) zr_dX6_two_66.2 (by decide +kernel) rfl
noncomputable def dX6_two_67 := zr_dX6_two_67.1
noncomputable def zr_dX6_two_70 := zo_3 (q := 71) zr_dX6_two_67.2 rfl
noncomputable def dX6_two_70 := zr_dX6_two_70.1
noncomputable def zr_dX6_two_71 := zo_172 (q := 72) zr_dX6_two_70.2 rfl
noncomputable def dX6_two_71 := zr_dX6_two_71.1
noncomputable def zr_dX6_two_72 := zo_27 (q := 73) zr_dX6_two_71.2 rfl
noncomputable def dX6_two_72 := zr_dX6_two_72.1
noncomputable def zr_dX6_two_73 := zo_28 (q := 74) zr_dX6_two_72.2 rfl
noncomputable def dX6_two_73 := zr_dX6_two_73.1
noncomputable def zr_dX6_two_74 := zo_162 (k := 7)  (q := 77) zr_dX6_two_73.2 (by decide +kernel) rfl
noncomputable def dX6_two_74 := zr_dX6_two_74.1
noncomputable def zr_dX6_two_77 := zo_4 (q := 78) zr_dX6_two_74.2 rfl
noncomputable def dX6_two_77 := zr_dX6_two_77.1
noncomputable def zr_dX6_two_78 := zo_167 (k := 4)  (q := 81) zr_dX6_two_77.2 (by decide +kernel) rfl
noncomputable def dX6_two_78 := zr_dX6_two_78.1
noncomputable def zr_dX6_two_81 := zo_3 (q := 82) zr_dX6_two_78.2 rfl
noncomputable def dX6_two_81 := zr_dX6_two_81.1
noncomputable def zr_dX6_two_82 := zo_172 (q := 83) zr_dX6_two_81.2 rfl
noncomputable def dX6_two_82 := zr_dX6_two_82.1
noncomputable def zr_dX6_two_83 := zo_27 (q := 84) zr_dX6_two_82.2 rfl
noncomputable def dX6_two_83 := zr_dX6_two_83.1
noncomputable def zr_dX6_two_84 := zo_28 (q := 85) zr_dX6_two_83.2 rfl
noncomputable def dX6_two_84 := zr_dX6_two_84.1
noncomputable def zr_dX6_two_85 := zo_160 (k := 7)  (q := 88) zr_dX6_two_84.2 (by decide +kernel) rfl
noncomputable def dX6_two_85 := zr_dX6_two_85.1
noncomputable def zr_dX6_two_88 := zo_4 (q := 89) zr_dX6_two_85.2 rfl
noncomputable def dX6_two_88 := zr_dX6_two_88.1
noncomputable def zr_dX6_two_89 := zo_167 (k := 4)  (q := 92) zr_dX6_two_88.2 (by decide +kernel) rfl
noncomputable def dX6_two_89 := zr_dX6_two_89.1
noncomputable def zr_dX6_two_92 := zo_3 (q := 93) zr_dX6_two_89.2 rfl
noncomputable def dX6_two_92 := zr_dX6_two_92.1
noncomputable def zr_dX6_two_93 := zo_172 (q := 94) zr_dX6_two_92.2 rfl
noncomputable def dX6_two_93 := zr_dX6_two_93.1
noncomputable def zr_dX6_two_94 := zo_27 (q := 95) zr_dX6_two_93.2 rfl
noncomputable def dX6_two_94 := zr_dX6_two_94.1
noncomputable def zr_dX6_two_95 := zo_28 (q := 96) zr_dX6_two_94.2 rfl
noncomputable def dX6_two_95 := zr_dX6_two_95.1
noncomputable def zr_dX6_two_96 := zo_96 (q := 97) zr_dX6_two_95.2 rfl
noncomputable def dX6_two_96 := zr_dX6_two_96.1
noncomputable def zr_dX6_two_97 := zo_172 (q := 98) zr_dX6_two_96.2 rfl
noncomputable def dX6_two_97 := zr_dX6_two_97.1
noncomputable def zr_dX6_two_98 := zo_27 (q := 99) zr_dX6_two_97.2 rfl
noncomputable def dX6_two_98 := zr_dX6_two_98.1
noncomputable def zr_dX6_two_99 := zo_28 (q := 100) zr_dX6_two_98.2 rfl
noncomputable def dX6_two_99 := zr_dX6_two_99.1
noncomputable def zr_dX6_two_100 := zo_100 (q := 101) zr_dX6_two_99.2 rfl
noncomputable def dX6_two_100 := zr_dX6_two_100.1
noncomputable def zr_dX6_two_101 := zo_172 (q := 102) zr_dX6_two_100.2 rfl
noncomputable def dX6_two_101 := zr_dX6_two_101.1
noncomputable def zr_dX6_two_102 := zo_27 (q := 103) zr_dX6_two_101.2 rfl
noncomputable def dX6_two_102 := zr_dX6_two_102.1
noncomputable def zr_dX6_two_103 := zo_28 (q := 104) zr_dX6_two_102.2 rfl
noncomputable def dX6_two_103 := zr_dX6_two_103.1
noncomputable def zr_dX6_two_104 := zo_104 (q := 105) zr_dX6_two_103.2 rfl
noncomputable def dX6_two_104 := zr_dX6_two_104.1
noncomputable def zr_dX6_two_105 := zo_172 (q := 106) zr_dX6_two_104.2 rfl
noncomputable def dX6_two_105 := zr_dX6_two_105.1
theorem zs_dX6_says_0 : zsuf cX6_says 0 cX6_says.data.toList := rfl
noncomputable def zr_dX6_says_0 := zo_3 (q := 1) zs_dX6_says_0 rfl
noncomputable def dX6_says_0 := zr_dX6_says_0.1
noncomputable def zr_dX6_says_1 := zo_61 (q := 2) zr_dX6_says_0.2 rfl
noncomputable def dX6_says_1 := zr_dX6_says_1.1
noncomputable def zr_dX6_says_2 := zo_42 (q := 3) zr_dX6_says_1.2 rfl
noncomputable def dX6_says_2 := zr_dX6_says_2.1
noncomputable def zr_dX6_says_3 := zo_180 (k := 28)  (q := 6) zr_dX6_says_2.2 rfl rfl
noncomputable def dX6_says_3 := zr_dX6_says_3.1
noncomputable def zr_dX6_says_6 := zo_7 (q := 7) zr_dX6_says_3.2 rfl
noncomputable def dX6_says_6 := zr_dX6_says_6.1
noncomputable def zr_dX6_says_7 := zo_42 (q := 8) zr_dX6_says_6.2 rfl
noncomputable def dX6_says_7 := zr_dX6_says_7.1
noncomputable def zr_dX6_says_8 := zo_180 (k := 101)  (q := 11) zr_dX6_says_7.2 rfl rfl
noncomputable def dX6_says_8 := zr_dX6_says_8.1
noncomputable def zr_dX6_says_11 := zo_104 (q := 12) zr_dX6_says_8.2 rfl
noncomputable def dX6_says_11 := zr_dX6_says_11.1
noncomputable def zr_dX6_says_12 := zo_27 (q := 13) zr_dX6_says_11.2 rfl
noncomputable def dX6_says_12 := zr_dX6_says_12.1
noncomputable def zr_dX6_says_13 := zo_96 (q := 14) zr_dX6_says_12.2 rfl
noncomputable def dX6_says_13 := zr_dX6_says_13.1
noncomputable def zr_dX6_says_14 := zo_46 (q := 15) zr_dX6_says_13.2 rfl
noncomputable def dX6_says_14 := zr_dX6_says_14.1
noncomputable def zr_dX6_says_15 := zo_62 (q := 16) zr_dX6_says_14.2 rfl
noncomputable def dX6_says_15 := zr_dX6_says_15.1
noncomputable def zr_dX6_says_16 := zo_29 (q := 17) zr_dX6_says_15.2 rfl
noncomputable def dX6_says_16 := zr_dX6_says_16.1
noncomputable def zr_dX6_says_17 := zo_42 (q := 18) zr_dX6_says_16.2 rfl
noncomputable def dX6_says_17 := zr_dX6_says_17.1
noncomputable def zr_dX6_says_18 := zo_180 (k := 28)  (q := 21) zr_dX6_says_17.2 rfl rfl
noncomputable def dX6_says_18 := zr_dX6_says_18.1
noncomputable def zr_dX6_says_21 := zo_7 (q := 22) zr_dX6_says_18.2 rfl
noncomputable def dX6_says_21 := zr_dX6_says_21.1
noncomputable def zr_dX6_says_22 := zo_42 (q := 23) zr_dX6_says_21.2 rfl
noncomputable def dX6_says_22 := zr_dX6_says_22.1
noncomputable def zr_dX6_says_23 := zo_180 (k := 101)  (q := 26) zr_dX6_says_22.2 rfl rfl
noncomputable def dX6_says_23 := zr_dX6_says_23.1
noncomputable def zr_dX6_says_26 := zo_104 (q := 27) zr_dX6_says_23.2 rfl
noncomputable def dX6_says_26 := zr_dX6_says_26.1
noncomputable def zr_dX6_says_27 := zo_27 (q := 28) zr_dX6_says_26.2 rfl
noncomputable def dX6_says_27 := zr_dX6_says_27.1
noncomputable def zr_dX6_says_28 := zo_96 (q := 29) zr_dX6_says_27.2 rfl
noncomputable def dX6_says_28 := zr_dX6_says_28.1
noncomputable def zr_dX6_says_29 := zo_4 (q := 30) zr_dX6_says_28.2 rfl
noncomputable def dX6_says_29 := zr_dX6_says_29.1
noncomputable def zr_dX6_says_30 := zo_96 (q := 31) zr_dX6_says_29.2 rfl
noncomputable def dX6_says_30 := zr_dX6_says_30.1
noncomputable def zr_dX6_says_31 := zo_46 (q := 32) zr_dX6_says_30.2 rfl
noncomputable def dX6_says_31 := zr_dX6_says_31.1
noncomputable def zr_dX6_says_32 := zo_162 (k := 165)  (q := 35) zr_dX6_says_31.2 (by decide +kernel) rfl
noncomputable def dX6_says_32 := zr_dX6_says_32.1
noncomputable def zr_dX6_says_35 := zo_42 (q := 36) zr_dX6_says_32.2 rfl
noncomputable def dX6_says_35 := zr_dX6_says_35.1
noncomputable def zr_dX6_says_36 := zo_180 (k := 25)  (q := 39) zr_dX6_says_35.2 rfl rfl
noncomputable def dX6_says_36 := zr_dX6_says_36.1
noncomputable def zr_dX6_says_39 := zo_17 (k := 200)  (q := 42) zr_dX6_says_36.2 (by decide +kernel) rfl
noncomputable def dX6_says_39 := zr_dX6_says_39.1
noncomputable def zr_dX6_says_42 := zo_42 (q := 43) zr_dX6_says_39.2 rfl
noncomputable def dX6_says_42 := zr_dX6_says_42.1
noncomputable def zr_dX6_says_43 := zo_180 (k := 101)  (q := 46) zr_dX6_says_42.2 rfl rfl
noncomputable def dX6_says_43 := zr_dX6_says_43.1
noncomputable def zr_dX6_says_46 := zo_104 (q := 47) zr_dX6_says_43.2 rfl
noncomputable def dX6_says_46 := zr_dX6_says_46.1
noncomputable def zr_dX6_says_47 := zo_29 (q := 48) zr_dX6_says_46.2 rfl
noncomputable def dX6_says_47 := zr_dX6_says_47.1
noncomputable def zr_dX6_says_48 := zo_96 (q := 49) zr_dX6_says_47.2 rfl
noncomputable def dX6_says_48 := zr_dX6_says_48.1
noncomputable def zr_dX6_says_49 := zo_46 (q := 50) zr_dX6_says_48.2 rfl
noncomputable def dX6_says_49 := zr_dX6_says_49.1
noncomputable def zr_dX6_says_50 := zo_54 (k := 4)  (q := 52) zr_dX6_says_49.2 rfl rfl
noncomputable def dX6_says_50 := zr_dX6_says_50.1
noncomputable def zr_dX6_says_52 := zo_21 (k := 4)  (q := 54) zr_dX6_says_50.2 rfl rfl
noncomputable def dX6_says_52 := zr_dX6_says_52.1
noncomputable def zr_dX6_says_54 := zo_18 (k := 153)  (q := 56) zr_dX6_says_52.2 rfl rfl
noncomputable def dX6_says_54 := zr_dX6_says_54.1
noncomputable def zr_dX6_says_56 := zo_162 (k := 10)  (q := 59) zr_dX6_says_54.2 (by decide +kernel) rfl
noncomputable def dX6_says_56 := zr_dX6_says_56.1
noncomputable def zr_dX6_says_59 := zo_21 (k := 4)  (q := 61) zr_dX6_says_56.2 rfl rfl
noncomputable def dX6_says_59 := zr_dX6_says_59.1
noncomputable def zr_dX6_says_61 := zo_16 (k := 11)  (q := 63) zr_dX6_says_59.2 (by decide +kernel) rfl
noncomputable def dX6_says_61 := zr_dX6_says_61.1
noncomputable def zr_dX6_says_63 := zo_162 (k := 37)  (q := 66) zr_dX6_says_61.2 (by decide +kernel) rfl
noncomputable def dX6_says_63 := zr_dX6_says_63.1
noncomputable def zr_dX6_says_66 := zo_42 (q := 67) zr_dX6_says_63.2 rfl
noncomputable def dX6_says_66 := zr_dX6_says_66.1
noncomputable def zr_dX6_says_67 := zo_180 (k := 55)  (q := 70) zr_dX6_says_66.2 rfl rfl
noncomputable def dX6_says_67 := zr_dX6_says_67.1
noncomputable def zr_dX6_says_70 := zo_28 (q := 71) zr_dX6_says_67.2 rfl
noncomputable def dX6_says_70 := zr_dX6_says_70.1
noncomputable def zr_dX6_says_71 := zo_21 (k := 4)  (q := 73) zr_dX6_says_70.2 rfl rfl
noncomputable def dX6_says_71 := zr_dX6_says_71.1
noncomputable def zr_dX6_says_73 := zo_16 (k := 11)  (q := 75) zr_dX6_says_71.2 (by decide +kernel) rfl
noncomputable def dX6_says_73 := zr_dX6_says_73.1
noncomputable def zr_dX6_says_75 := zo_162 (k := 13)  (q := 78) zr_dX6_says_73.2 (by decide +kernel) rfl
noncomputable def dX6_says_75 := zr_dX6_says_75.1
noncomputable def zr_dX6_says_78 := zo_42 (q := 79) zr_dX6_says_75.2 rfl
noncomputable def dX6_says_78 := zr_dX6_says_78.1
noncomputable def zr_dX6_says_79 := zo_180 (k := 58)  (q := 82) zr_dX6_says_78.2 rfl rfl
noncomputable def dX6_says_79 := zr_dX6_says_79.1
noncomputable def zr_dX6_says_82 := zo_21 (k := 4)  (q := 84) zr_dX6_says_79.2 rfl rfl
noncomputable def dX6_says_82 := zr_dX6_says_82.1
noncomputable def zr_dX6_says_84 := zo_46 (q := 85) zr_dX6_says_82.2 rfl
noncomputable def dX6_says_84 := zr_dX6_says_84.1
noncomputable def zr_dX6_says_85 := zo_167 (k := 8)  (q := 88) zr_dX6_says_84.2 (by decide +kernel) rfl
noncomputable def dX6_says_85 := zr_dX6_says_85.1
noncomputable def zr_dX6_says_88 := zo_21 (k := 4)  (q := 90) zr_dX6_says_85.2 rfl rfl
noncomputable def dX6_says_88 := zr_dX6_says_88.1
noncomputable def zr_dX6_says_90 := zo_18 (k := 153)  (q := 92) zr_dX6_says_88.2 rfl rfl
noncomputable def dX6_says_90 := zr_dX6_says_90.1
noncomputable def zr_dX6_says_92 := zo_100 (q := 93) zr_dX6_says_90.2 rfl
noncomputable def dX6_says_92 := zr_dX6_says_92.1
noncomputable def zr_dX6_says_93 := zo_79 (q := 94) zr_dX6_says_92.2 rfl
noncomputable def dX6_says_93 := zr_dX6_says_93.1
noncomputable def zr_dX6_says_94 := zo_132 (k := 2) (o := 1)  (q := 97) zr_dX6_says_93.2 rfl (by decide +kernel) rfl
noncomputable def dX6_says_94 := zr_dX6_says_94.1
noncomputable def zr_dX6_says_97 := zo_167 (k := 94)  (q := 100) zr_dX6_says_94.2 (by decide +kernel) rfl
noncomputable def dX6_says_97 := zr_dX6_says_97.1
noncomputable def zr_dX6_says_100 := zo_21 (k := 4)  (q := 102) zr_dX6_says_97.2 rfl rfl
noncomputable def dX6_says_100 := zr_dX6_says_100.1
noncomputable def zr_dX6_says_102 := zo_16 (k := 13)  (q := 104) zr_dX6_says_100.2 (by decide +kernel) rfl
noncomputable def dX6_says_102 := zr_dX6_says_102.1
noncomputable def zr_dX6_says_104 := zo_160 (k := 30)  (q := 107) zr_dX6_says_102.2 (by decide +kernel) rfl
noncomputable def dX6_says_104 := zr_dX6_says_104.1
noncomputable def zr_dX6_says_107 := zo_42 (q := 108) zr_dX6_says_104.2 rfl
noncomputable def dX6_says_107 := zr_dX6_says_107.1
noncomputable def zr_dX6_says_108 := zo_180 (k := 55)  (q := 111) zr_dX6_says_107.2 rfl rfl
noncomputable def dX6_says_108 := zr_dX6_says_108.1
noncomputable def zr_dX6_says_111 := zo_28 (q := 112) zr_dX6_says_108.2 rfl
noncomputable def dX6_says_111 := zr_dX6_says_111.1
noncomputable def zr_dX6_says_112 := zo_4 (q := 113) zr_dX6_says_111.2 rfl
noncomputable def dX6_says_112 := zr_dX6_says_112.1
noncomputable def zr_dX6_says_113 := zo_100 (q := 114) zr_dX6_says_112.2 rfl
noncomputable def dX6_says_113 := zr_dX6_says_113.1
noncomputable def zr_dX6_says_114 := zo_42 (q := 115) zr_dX6_says_113.2 rfl
noncomputable def dX6_says_114 := zr_dX6_says_114.1
noncomputable def zr_dX6_says_115 := zo_180 (k := 55)  (q := 118) zr_dX6_says_114.2 rfl rfl
noncomputable def dX6_says_115 := zr_dX6_says_115.1
noncomputable def zr_dX6_says_118 := zo_28 (q := 119) zr_dX6_says_115.2 rfl
noncomputable def dX6_says_118 := zr_dX6_says_118.1
noncomputable def zr_dX6_says_119 := zo_4 (q := 120) zr_dX6_says_118.2 rfl
noncomputable def dX6_says_119 := zr_dX6_says_119.1
noncomputable def zr_dX6_says_120 := zo_100 (q := 121) zr_dX6_says_119.2 rfl
noncomputable def dX6_says_120 := zr_dX6_says_120.1
noncomputable def zr_dX6_says_121 := zo_46 (q := 122) zr_dX6_says_120.2 rfl
noncomputable def dX6_says_121 := zr_dX6_says_121.1
noncomputable def zr_dX6_says_122 := zo_154 (k := 7)  (q := 125) zr_dX6_says_121.2 (by decide +kernel) rfl
noncomputable def dX6_says_122 := zr_dX6_says_122.1
noncomputable def zr_dX6_says_125 := zo_4 (q := 126) zr_dX6_says_122.2 rfl
noncomputable def dX6_says_125 := zr_dX6_says_125.1
noncomputable def zr_dX6_says_126 := zo_167 (k := 4)  (q := 129) zr_dX6_says_125.2 (by decide +kernel) rfl
noncomputable def dX6_says_126 := zr_dX6_says_126.1
noncomputable def zr_dX6_says_129 := zo_3 (q := 130) zr_dX6_says_126.2 rfl
noncomputable def dX6_says_129 := zr_dX6_says_129.1
noncomputable def zr_dX6_says_130 := zo_79 (q := 131) zr_dX6_says_129.2 rfl
noncomputable def dX6_says_130 := zr_dX6_says_130.1
noncomputable def zr_dX6_says_131 := zo_167 (k := 60)  (q := 134) zr_dX6_says_130.2 (by decide +kernel) rfl
noncomputable def dX6_says_131 := zr_dX6_says_131.1
noncomputable def zr_dX6_says_134 := zo_21 (k := 4)  (q := 136) zr_dX6_says_131.2 rfl rfl
noncomputable def dX6_says_134 := zr_dX6_says_134.1
noncomputable def zr_dX6_says_136 := zo_16 (k := 19)  (q := 138) zr_dX6_says_134.2 (by decide +kernel) rfl
noncomputable def dX6_says_136 := zr_dX6_says_136.1
noncomputable def zr_dX6_says_138 := zo_160 (k := 23)  (q := 141) zr_dX6_says_136.2 (by decide +kernel) rfl
noncomputable def dX6_says_138 := zr_dX6_says_138.1
noncomputable def zr_dX6_says_141 := zo_42 (q := 142) zr_dX6_says_138.2 rfl
noncomputable def dX6_says_141 := zr_dX6_says_141.1
noncomputable def zr_dX6_says_142 := zo_180 (k := 55)  (q := 145) zr_dX6_says_141.2 rfl rfl
noncomputable def dX6_says_142 := zr_dX6_says_142.1
noncomputable def zr_dX6_says_145 := zo_28 (q := 146) zr_dX6_says_142.2 rfl
noncomputable def dX6_says_145 := zr_dX6_says_145.1
noncomputable def zr_dX6_says_146 := zo_4 (q := 147) zr_dX6_says_145.2 rfl
noncomputable def dX6_says_146 := zr_dX6_says_146.1
noncomputable def zr_dX6_says_147 := zo_100 (q := 148) zr_dX6_says_146.2 rfl
noncomputable def dX6_says_147 := zr_dX6_says_147.1
noncomputable def zr_dX6_says_148 := zo_42 (q := 149) zr_dX6_says_147.2 rfl
noncomputable def dX6_says_148 := zr_dX6_says_148.1
noncomputable def zr_dX6_says_149 := zo_180 (k := 55)  (q := 152) zr_dX6_says_148.2 rfl rfl
noncomputable def dX6_says_149 := zr_dX6_says_149.1
noncomputable def zr_dX6_says_152 := zo_28 (q := 153) zr_dX6_says_149.2 rfl
noncomputable def dX6_says_152 := zr_dX6_says_152.1
noncomputable def zr_dX6_says_153 := zo_4 (q := 154) zr_dX6_says_152.2 rfl
noncomputable def dX6_says_153 := zr_dX6_says_153.1
noncomputable def zr_dX6_says_154 := zo_100 (q := 155) zr_dX6_says_153.2 rfl
noncomputable def dX6_says_154 := zr_dX6_says_154.1
noncomputable def zr_dX6_says_155 := zo_46 (q := 156) zr_dX6_says_154.2 rfl
noncomputable def dX6_says_155 := zr_dX6_says_155.1
noncomputable def zr_dX6_says_156 := zo_116 (q := 157) zr_dX6_says_155.2 rfl
noncomputable def dX6_says_156 := zr_dX6_says_156.1
noncomputable def zr_dX6_says_157 := zo_79 (q := 158) zr_dX6_says_156.2 rfl
noncomputable def dX6_says_157 := zr_dX6_says_157.1
noncomputable def zr_dX6_says_158 := zo_167 (k := 33)  (q := 161) zr_dX6_says_157.2 (by decide +kernel) rfl
noncomputable def dX6_says_158 := zr_dX6_says_158.1
noncomputable def zr_dX6_says_161 := zo_132 (k := 2) (o := (-1))  (q := 164) zr_dX6_says_158.2 rfl (by decide +kernel) rfl
noncomputable def dX6_says_161 := zr_dX6_says_161.1
noncomputable def zr_dX6_says_164 := zo_42 (q := 165) zr_dX6_says_161.2 rfl
noncomputable def dX6_says_164 := zr_dX6_says_164.1
noncomputable def zr_dX6_says_165 := zo_180 (k := 55)  (q := 168) zr_dX6_says_164.2 rfl rfl
noncomputable def dX6_says_165 := zr_dX6_says_165.1
noncomputable def zr_dX6_says_168 := zo_28 (q := 169) zr_dX6_says_165.2 rfl
noncomputable def dX6_says_168 := zr_dX6_says_168.1
noncomputable def zr_dX6_says_169 := zo_4 (q := 170) zr_dX6_says_168.2 rfl
noncomputable def dX6_says_169 := zr_dX6_says_169.1
noncomputable def zr_dX6_says_170 := zo_100 (q := 171) zr_dX6_says_169.2 rfl
noncomputable def dX6_says_170 := zr_dX6_says_170.1
noncomputable def zr_dX6_says_171 := zo_21 (k := 4)  (q := 173) zr_dX6_says_170.2 rfl rfl
noncomputable def dX6_says_171 := zr_dX6_says_171.1
noncomputable def zr_dX6_says_173 := zo_42 (q := 174) zr_dX6_says_171.2 rfl
noncomputable def dX6_says_173 := zr_dX6_says_173.1
noncomputable def zr_dX6_says_174 := zo_180 (k := 55)  (q := 177) zr_dX6_says_173.2 rfl rfl
noncomputable def dX6_says_174 := zr_dX6_says_174.1
noncomputable def zr_dX6_says_177 := zo_28 (q := 178) zr_dX6_says_174.2 rfl
noncomputable def dX6_says_177 := zr_dX6_says_177.1
noncomputable def zr_dX6_says_178 := zo_4 (q := 179) zr_dX6_says_177.2 rfl
noncomputable def dX6_says_178 := zr_dX6_says_178.1
noncomputable def zr_dX6_says_179 := zo_100 (q := 180) zr_dX6_says_178.2 rfl
noncomputable def dX6_says_179 := zr_dX6_says_179.1
noncomputable def zr_dX6_says_180 := zo_46 (q := 181) zr_dX6_says_179.2 rfl
noncomputable def dX6_says_180 := zr_dX6_says_180.1
noncomputable def zr_dX6_says_181 := zo_42 (q := 182) zr_dX6_says_180.2 rfl
noncomputable def dX6_says_181 := zr_dX6_says_181.1
noncomputable def zr_dX6_says_182 := zo_180 (k := 55)  (q := 185) zr_dX6_says_181.2 rfl rfl
noncomputable def dX6_says_182 := zr_dX6_says_182.1
noncomputable def zr_dX6_says_185 := zo_28 (q := 186) zr_dX6_says_182.2 rfl
noncomputable def dX6_says_185 := zr_dX6_says_185.1
noncomputable def zr_dX6_says_186 := zo_46 (q := 187) zr_dX6_says_185.2 rfl
noncomputable def dX6_says_186 := zr_dX6_says_186.1
noncomputable def zr_dX6_says_187 := zo_184 (k := 167)  (q := 190) zr_dX6_says_186.2 rfl rfl
noncomputable def dX6_says_187 := zr_dX6_says_187.1
noncomputable def zr_dX6_says_190 := zo_79 (q := 191) zr_dX6_says_187.2 rfl
noncomputable def dX6_says_190 := zr_dX6_says_190.1
noncomputable def zr_dX6_says_191 := zo_132 (k := 3) (o := 1)  (q := 194) zr_dX6_says_190.2 rfl (by decide +kernel) rfl
noncomputable def dX6_says_191 := zr_dX6_says_191.1
noncomputable def zr_dX6_says_194 := zo_167 (k := -178)  (q := 197) zr_dX6_says_191.2 (by decide +kernel) rfl
noncomputable def dX6_says_194 := zr_dX6_says_194.1
noncomputable def zr_dX6_says_197 := zo_42 (q := 198) zr_dX6_says_194.2 rfl
noncomputable def dX6_says_197 := zr_dX6_says_197.1
noncomputable def zr_dX6_says_198 := zo_180 (k := 55)  (q := 201) zr_dX6_says_197.2 rfl rfl
noncomputable def dX6_says_198 := zr_dX6_says_198.1
noncomputable def zr_dX6_says_201 := zo_3 (q := 202) zr_dX6_says_198.2 rfl
noncomputable def dX6_says_201 := zr_dX6_says_201.1
noncomputable def zr_dX6_says_202 := zo_46 (q := 203) zr_dX6_says_201.2 rfl
noncomputable def dX6_says_202 := zr_dX6_says_202.1
noncomputable def zr_dX6_says_203 := zo_172 (q := 204) zr_dX6_says_202.2 rfl
noncomputable def dX6_says_203 := zr_dX6_says_203.1
theorem zs_dX6_force_0 : zsuf cX6_force 0 cX6_force.data.toList := rfl
noncomputable def zr_dX6_force_0 := zo_27 (q := 1) zs_dX6_force_0 rfl
noncomputable def dX6_force_0 := zr_dX6_force_0.1
noncomputable def zr_dX6_force_1 := zo_3 (q := 2) zr_dX6_force_0.2 rfl
noncomputable def dX6_force_1 := zr_dX6_force_1.1
noncomputable def zr_dX6_force_2 := zo_42 (q := 3) zr_dX6_force_1.2 rfl
noncomputable def dX6_force_2 := zr_dX6_force_2.1
noncomputable def zr_dX6_force_3 := zo_180 (k := 98)  (q := 6) zr_dX6_force_2.2 rfl rfl
noncomputable def dX6_force_3 := zr_dX6_force_3.1
noncomputable def zr_dX6_force_6 := zo_4 (q := 7) zr_dX6_force_3.2 rfl
noncomputable def dX6_force_6 := zr_dX6_force_6.1
noncomputable def zr_dX6_force_7 := zo_100 (q := 8) zr_dX6_force_6.2 rfl
noncomputable def dX6_force_7 := zr_dX6_force_7.1
noncomputable def zr_dX6_force_8 := zo_184 (k := 91)  (q := 11) zr_dX6_force_7.2 rfl rfl
noncomputable def dX6_force_8 := zr_dX6_force_8.1
noncomputable def zr_dX6_force_11 := zo_154 (k := 6)  (q := 14) zr_dX6_force_8.2 (by decide +kernel) rfl
noncomputable def dX6_force_11 := zr_dX6_force_11.1
noncomputable def zr_dX6_force_14 := zo_16 (k := -2)  (q := 16) zr_dX6_force_11.2 (by decide +kernel) rfl
noncomputable def dX6_force_14 := zr_dX6_force_14.1
noncomputable def zr_dX6_force_16 := zo_172 (q := 17) zr_dX6_force_14.2 rfl
noncomputable def dX6_force_16 := zr_dX6_force_16.1
noncomputable def zr_dX6_force_17 := zo_42 (q := 18) zr_dX6_force_16.2 rfl
noncomputable def dX6_force_17 := zr_dX6_force_17.1
noncomputable def zr_dX6_force_18 := zo_180 (k := 101)  (q := 21) zr_dX6_force_17.2 rfl rfl
noncomputable def dX6_force_18 := zr_dX6_force_18.1
noncomputable def zr_dX6_force_21 := zo_61 (q := 22) zr_dX6_force_18.2 rfl
noncomputable def dX6_force_21 := zr_dX6_force_21.1
noncomputable def zr_dX6_force_22 := zo_42 (q := 23) zr_dX6_force_21.2 rfl
noncomputable def dX6_force_22 := zr_dX6_force_22.1
noncomputable def zr_dX6_force_23 := zo_27 (q := 24) zr_dX6_force_22.2 rfl
noncomputable def dX6_force_23 := zr_dX6_force_23.1
noncomputable def zr_dX6_force_24 := zo_181 (k := 101)  (q := 27) zr_dX6_force_23.2 rfl rfl
noncomputable def dX6_force_24 := zr_dX6_force_24.1
noncomputable def zr_dX6_force_27 := zo_28 (q := 28) zr_dX6_force_24.2 rfl
noncomputable def dX6_force_27 := zr_dX6_force_27.1
noncomputable def zr_dX6_force_28 := zo_172 (q := 29) zr_dX6_force_27.2 rfl
noncomputable def dX6_force_28 := zr_dX6_force_28.1
theorem zs_dX6_asksOf_0 : zsuf cX6_asksOf 0 cX6_asksOf.data.toList := rfl
noncomputable def zr_dX6_asksOf_0 := zo_42 (q := 1) zs_dX6_asksOf_0 rfl
noncomputable def dX6_asksOf_0 := zr_dX6_asksOf_0.1
noncomputable def zr_dX6_asksOf_1 := zo_180 (k := 58)  (q := 4) zr_dX6_asksOf_0.2 rfl rfl
noncomputable def dX6_asksOf_1 := zr_dX6_asksOf_1.1
noncomputable def zr_dX6_asksOf_4 := zo_3 (q := 5) zr_dX6_asksOf_1.2 rfl
noncomputable def dX6_asksOf_4 := zr_dX6_asksOf_4.1
noncomputable def zr_dX6_asksOf_5 := zo_42 (q := 6) zr_dX6_asksOf_4.2 rfl
noncomputable def dX6_asksOf_5 := zr_dX6_asksOf_5.1
noncomputable def zr_dX6_asksOf_6 := zo_180 (k := 16)  (q := 9) zr_dX6_asksOf_5.2 rfl rfl
noncomputable def dX6_asksOf_6 := zr_dX6_asksOf_6.1
noncomputable def zr_dX6_asksOf_9 := zo_5 (q := 10) zr_dX6_asksOf_6.2 rfl
noncomputable def dX6_asksOf_9 := zr_dX6_asksOf_9.1
noncomputable def zr_dX6_asksOf_10 := zo_29 (q := 11) zr_dX6_asksOf_9.2 rfl
noncomputable def dX6_asksOf_10 := zr_dX6_asksOf_10.1
noncomputable def zr_dX6_asksOf_11 := zo_104 (q := 12) zr_dX6_asksOf_10.2 rfl
noncomputable def dX6_asksOf_11 := zr_dX6_asksOf_11.1
noncomputable def zr_dX6_asksOf_12 := zo_46 (q := 13) zr_dX6_asksOf_11.2 rfl
noncomputable def dX6_asksOf_12 := zr_dX6_asksOf_12.1
noncomputable def zr_dX6_asksOf_13 := zo_79 (q := 14) zr_dX6_asksOf_12.2 rfl
noncomputable def dX6_asksOf_13 := zr_dX6_asksOf_13.1
noncomputable def zr_dX6_asksOf_14 := zo_42 (q := 15) zr_dX6_asksOf_13.2 rfl
noncomputable def dX6_asksOf_14 := zr_dX6_asksOf_14.1
noncomputable def zr_dX6_asksOf_15 := zo_180 (k := 58)  (q := 18) zr_dX6_asksOf_14.2 rfl rfl
noncomputable def dX6_asksOf_15 := zr_dX6_asksOf_15.1
noncomputable def zr_dX6_asksOf_18 := zo_4 (q := 19) zr_dX6_asksOf_15.2 rfl
noncomputable def dX6_asksOf_18 := zr_dX6_asksOf_18.1
noncomputable def zr_dX6_asksOf_19 := zo_42 (q := 20) zr_dX6_asksOf_18.2 rfl
noncomputable def dX6_asksOf_19 := zr_dX6_asksOf_19.1
noncomputable def zr_dX6_asksOf_20 := zo_180 (k := 16)  (q := 23) zr_dX6_asksOf_19.2 rfl rfl
noncomputable def dX6_asksOf_20 := zr_dX6_asksOf_20.1
noncomputable def zr_dX6_asksOf_23 := zo_5 (q := 24) zr_dX6_asksOf_20.2 rfl
noncomputable def dX6_asksOf_23 := zr_dX6_asksOf_23.1
noncomputable def zr_dX6_asksOf_24 := zo_29 (q := 25) zr_dX6_asksOf_23.2 rfl
noncomputable def dX6_asksOf_24 := zr_dX6_asksOf_24.1
noncomputable def zr_dX6_asksOf_25 := zo_104 (q := 26) zr_dX6_asksOf_24.2 rfl
noncomputable def dX6_asksOf_25 := zr_dX6_asksOf_25.1
noncomputable def zr_dX6_asksOf_26 := zo_4 (q := 27) zr_dX6_asksOf_25.2 rfl
noncomputable def dX6_asksOf_26 := zr_dX6_asksOf_26.1
noncomputable def zr_dX6_asksOf_27 := zo_96 (q := 28) zr_dX6_asksOf_26.2 rfl
noncomputable def dX6_asksOf_27 := zr_dX6_asksOf_27.1
noncomputable def zr_dX6_asksOf_28 := zo_46 (q := 29) zr_dX6_asksOf_27.2 rfl
noncomputable def dX6_asksOf_28 := zr_dX6_asksOf_28.1
noncomputable def zr_dX6_asksOf_29 := zo_79 (q := 30) zr_dX6_asksOf_28.2 rfl
noncomputable def dX6_asksOf_29 := zr_dX6_asksOf_29.1
noncomputable def zr_dX6_asksOf_30 := zo_42 (q := 31) zr_dX6_asksOf_29.2 rfl
noncomputable def dX6_asksOf_30 := zr_dX6_asksOf_30.1
noncomputable def zr_dX6_asksOf_31 := zo_180 (k := 58)  (q := 34) zr_dX6_asksOf_30.2 rfl rfl
noncomputable def dX6_asksOf_31 := zr_dX6_asksOf_31.1
noncomputable def zr_dX6_asksOf_34 := zo_5 (q := 35) zr_dX6_asksOf_31.2 rfl
noncomputable def dX6_asksOf_34 := zr_dX6_asksOf_34.1
noncomputable def zr_dX6_asksOf_35 := zo_42 (q := 36) zr_dX6_asksOf_34.2 rfl
noncomputable def dX6_asksOf_35 := zr_dX6_asksOf_35.1
noncomputable def zr_dX6_asksOf_36 := zo_180 (k := 19)  (q := 39) zr_dX6_asksOf_35.2 rfl rfl
noncomputable def dX6_asksOf_36 := zr_dX6_asksOf_36.1
noncomputable def zr_dX6_asksOf_39 := zo_6 (q := 40) zr_dX6_asksOf_36.2 rfl
noncomputable def dX6_asksOf_39 := zr_dX6_asksOf_39.1
noncomputable def zr_dX6_asksOf_40 := zo_28 (q := 41) zr_dX6_asksOf_39.2 rfl
noncomputable def dX6_asksOf_40 := zr_dX6_asksOf_40.1
noncomputable def zr_dX6_asksOf_41 := zo_104 (q := 42) zr_dX6_asksOf_40.2 rfl
noncomputable def dX6_asksOf_41 := zr_dX6_asksOf_41.1
noncomputable def zr_dX6_asksOf_42 := zo_46 (q := 43) zr_dX6_asksOf_41.2 rfl
noncomputable def dX6_asksOf_42 := zr_dX6_asksOf_42.1
noncomputable def zr_dX6_asksOf_43 := zo_79 (q := 44) zr_dX6_asksOf_42.2 rfl
noncomputable def dX6_asksOf_43 := zr_dX6_asksOf_43.1
noncomputable def zr_dX6_asksOf_44 := zo_42 (q := 45) zr_dX6_asksOf_43.2 rfl
noncomputable def dX6_asksOf_44 := zr_dX6_asksOf_44.1
noncomputable def zr_dX6_asksOf_45 := zo_180 (k := 58)  (q := 48) zr_dX6_asksOf_44.2 rfl rfl
noncomputable def dX6_asksOf_45 := zr_dX6_asksOf_45.1
noncomputable def zr_dX6_asksOf_48 := zo_6 (q := 49) zr_dX6_asksOf_45.2 rfl
noncomputable def dX6_asksOf_48 := zr_dX6_asksOf_48.1
noncomputable def zr_dX6_asksOf_49 := zo_42 (q := 50) zr_dX6_asksOf_48.2 rfl
noncomputable def dX6_asksOf_49 := zr_dX6_asksOf_49.1
noncomputable def zr_dX6_asksOf_50 := zo_180 (k := 19)  (q := 53) zr_dX6_asksOf_49.2 rfl rfl
noncomputable def dX6_asksOf_50 := zr_dX6_asksOf_50.1
noncomputable def zr_dX6_asksOf_53 := zo_6 (q := 54) zr_dX6_asksOf_50.2 rfl
noncomputable def dX6_asksOf_53 := zr_dX6_asksOf_53.1
noncomputable def zr_dX6_asksOf_54 := zo_28 (q := 55) zr_dX6_asksOf_53.2 rfl
noncomputable def dX6_asksOf_54 := zr_dX6_asksOf_54.1
noncomputable def zr_dX6_asksOf_55 := zo_104 (q := 56) zr_dX6_asksOf_54.2 rfl
noncomputable def dX6_asksOf_55 := zr_dX6_asksOf_55.1
noncomputable def zr_dX6_asksOf_56 := zo_4 (q := 57) zr_dX6_asksOf_55.2 rfl
noncomputable def dX6_asksOf_56 := zr_dX6_asksOf_56.1
noncomputable def zr_dX6_asksOf_57 := zo_96 (q := 58) zr_dX6_asksOf_56.2 rfl
noncomputable def dX6_asksOf_57 := zr_dX6_asksOf_57.1
noncomputable def zr_dX6_asksOf_58 := zo_46 (q := 59) zr_dX6_asksOf_57.2 rfl
noncomputable def dX6_asksOf_58 := zr_dX6_asksOf_58.1
noncomputable def zr_dX6_asksOf_59 := zo_79 (q := 60) zr_dX6_asksOf_58.2 rfl
noncomputable def dX6_asksOf_59 := zr_dX6_asksOf_59.1
noncomputable def zr_dX6_asksOf_60 := zo_42 (q := 61) zr_dX6_asksOf_59.2 rfl
noncomputable def dX6_asksOf_60 := zr_dX6_asksOf_60.1
noncomputable def zr_dX6_asksOf_61 := zo_180 (k := 58)  (q := 64) zr_dX6_asksOf_60.2 rfl rfl
noncomputable def dX6_asksOf_61 := zr_dX6_asksOf_61.1
noncomputable def zr_dX6_asksOf_64 := zo_7 (q := 65) zr_dX6_asksOf_61.2 rfl
noncomputable def dX6_asksOf_64 := zr_dX6_asksOf_64.1
noncomputable def zr_dX6_asksOf_65 := zo_42 (q := 66) zr_dX6_asksOf_64.2 rfl
noncomputable def dX6_asksOf_65 := zr_dX6_asksOf_65.1
noncomputable def zr_dX6_asksOf_66 := zo_180 (k := 13)  (q := 69) zr_dX6_asksOf_65.2 rfl rfl
noncomputable def dX6_asksOf_66 := zr_dX6_asksOf_66.1
noncomputable def zr_dX6_asksOf_69 := zo_29 (q := 70) zr_dX6_asksOf_66.2 rfl
noncomputable def dX6_asksOf_69 := zr_dX6_asksOf_69.1
noncomputable def zr_dX6_asksOf_70 := zo_46 (q := 71) zr_dX6_asksOf_69.2 rfl
noncomputable def dX6_asksOf_70 := zr_dX6_asksOf_70.1
noncomputable def zr_dX6_asksOf_71 := zo_79 (q := 72) zr_dX6_asksOf_70.2 rfl
noncomputable def dX6_asksOf_71 := zr_dX6_asksOf_71.1
noncomputable def zr_dX6_asksOf_72 := zo_42 (q := 73) zr_dX6_asksOf_71.2 rfl
noncomputable def dX6_asksOf_72 := zr_dX6_asksOf_72.1
noncomputable def zr_dX6_asksOf_73 := zo_180 (k := 58)  (q := 76) zr_dX6_asksOf_72.2 rfl rfl
noncomputable def dX6_asksOf_73 := zr_dX6_asksOf_73.1
noncomputable def zr_dX6_asksOf_76 := zo_8 (q := 77) zr_dX6_asksOf_73.2 rfl
noncomputable def dX6_asksOf_76 := zr_dX6_asksOf_76.1
noncomputable def zr_dX6_asksOf_77 := zo_28 (q := 78) zr_dX6_asksOf_76.2 rfl
noncomputable def dX6_asksOf_77 := zr_dX6_asksOf_77.1
noncomputable def zr_dX6_asksOf_78 := zo_79 (q := 79) zr_dX6_asksOf_77.2 rfl
noncomputable def dX6_asksOf_78 := zr_dX6_asksOf_78.1
noncomputable def zr_dX6_asksOf_79 := zo_42 (q := 80) zr_dX6_asksOf_78.2 rfl
noncomputable def dX6_asksOf_79 := zr_dX6_asksOf_79.1
noncomputable def zr_dX6_asksOf_80 := zo_27 (q := 81) zr_dX6_asksOf_79.2 rfl
noncomputable def dX6_asksOf_80 := zr_dX6_asksOf_80.1
noncomputable def zr_dX6_asksOf_81 := zo_182 (k := 171)  (q := 84) zr_dX6_asksOf_80.2 rfl rfl
noncomputable def dX6_asksOf_81 := zr_dX6_asksOf_81.1
noncomputable def zr_dX6_asksOf_84 := zo_3 (q := 85) zr_dX6_asksOf_81.2 rfl
noncomputable def dX6_asksOf_84 := zr_dX6_asksOf_84.1
noncomputable def zr_dX6_asksOf_85 := zo_27 (q := 86) zr_dX6_asksOf_84.2 rfl
noncomputable def dX6_asksOf_85 := zr_dX6_asksOf_85.1
noncomputable def zr_dX6_asksOf_86 := zo_154 (k := 8)  (q := 89) zr_dX6_asksOf_85.2 (by decide +kernel) rfl
noncomputable def dX6_asksOf_86 := zr_dX6_asksOf_86.1
noncomputable def zr_dX6_asksOf_89 := zo_16 (k := 99)  (q := 91) zr_dX6_asksOf_86.2 (by decide +kernel) rfl
noncomputable def dX6_asksOf_89 := zr_dX6_asksOf_89.1
noncomputable def zr_dX6_asksOf_91 := zo_167 (k := 16)  (q := 94) zr_dX6_asksOf_89.2 (by decide +kernel) rfl
noncomputable def dX6_asksOf_91 := zr_dX6_asksOf_91.1
noncomputable def zr_dX6_asksOf_94 := zo_27 (q := 95) zr_dX6_asksOf_91.2 rfl
noncomputable def dX6_asksOf_94 := zr_dX6_asksOf_94.1
noncomputable def zr_dX6_asksOf_95 := zo_4 (q := 96) zr_dX6_asksOf_94.2 rfl
noncomputable def dX6_asksOf_95 := zr_dX6_asksOf_95.1
noncomputable def zr_dX6_asksOf_96 := zo_160 (k := 8)  (q := 99) zr_dX6_asksOf_95.2 (by decide +kernel) rfl
noncomputable def dX6_asksOf_96 := zr_dX6_asksOf_96.1
noncomputable def zr_dX6_asksOf_99 := zo_16 (k := 20)  (q := 101) zr_dX6_asksOf_96.2 (by decide +kernel) rfl
noncomputable def dX6_asksOf_99 := zr_dX6_asksOf_99.1
noncomputable def zr_dX6_asksOf_101 := zo_167 (k := 6)  (q := 104) zr_dX6_asksOf_99.2 (by decide +kernel) rfl
noncomputable def dX6_asksOf_101 := zr_dX6_asksOf_101.1
noncomputable def zr_dX6_asksOf_104 := zo_17 (k := 9999)  (q := 107) zr_dX6_asksOf_101.2 (by decide +kernel) rfl
noncomputable def dX6_asksOf_104 := zr_dX6_asksOf_104.1
noncomputable def zr_dX6_asksOf_107 := zo_184 (k := 174)  (q := 110) zr_dX6_asksOf_104.2 rfl rfl
noncomputable def dX6_asksOf_107 := zr_dX6_asksOf_107.1
noncomputable def zr_dX6_asksOf_110 := zo_172 (q := 111) zr_dX6_asksOf_107.2 rfl
noncomputable def dX6_asksOf_110 := zr_dX6_asksOf_110.1
theorem zs_dX6_asks_0 : zsuf cX6_asks 0 cX6_asks.data.toList := rfl
noncomputable def zr_dX6_asks_0 := zo_27 (q := 1) zs_dX6_asks_0 rfl
noncomputable def dX6_asks_0 := zr_dX6_asks_0.1
noncomputable def zr_dX6_asks_1 := zo_3 (q := 2) zr_dX6_asks_0.2 rfl
noncomputable def dX6_asks_1 := zr_dX6_asks_1.1
noncomputable def zr_dX6_asks_2 := zo_5 (q := 3) zr_dX6_asks_1.2 rfl
noncomputable def dX6_asks_2 := zr_dX6_asks_2.1
noncomputable def zr_dX6_asks_3 := zo_184 (k := 91)  (q := 6) zr_dX6_asks_2.2 rfl rfl
noncomputable def dX6_asks_3 := zr_dX6_asks_3.1
noncomputable def zr_dX6_asks_6 := zo_153 (k := 29)  (q := 9) zr_dX6_asks_3.2 (by decide +kernel) rfl
noncomputable def dX6_asks_6 := zr_dX6_asks_6.1
noncomputable def zr_dX6_asks_9 := zo_42 (q := 10) zr_dX6_asks_6.2 rfl
noncomputable def dX6_asks_9 := zr_dX6_asks_9.1
noncomputable def zr_dX6_asks_10 := zo_28 (q := 11) zr_dX6_asks_9.2 rfl
noncomputable def dX6_asks_10 := zr_dX6_asks_10.1
noncomputable def zr_dX6_asks_11 := zo_182 (k := 104)  (q := 14) zr_dX6_asks_10.2 rfl rfl
noncomputable def dX6_asks_11 := zr_dX6_asks_11.1
noncomputable def zr_dX6_asks_14 := zo_153 (k := 21)  (q := 17) zr_dX6_asks_11.2 (by decide +kernel) rfl
noncomputable def dX6_asks_14 := zr_dX6_asks_14.1
noncomputable def zr_dX6_asks_17 := zo_42 (q := 18) zr_dX6_asks_14.2 rfl
noncomputable def dX6_asks_17 := zr_dX6_asks_17.1
noncomputable def zr_dX6_asks_18 := zo_29 (q := 19) zr_dX6_asks_17.2 rfl
noncomputable def dX6_asks_18 := zr_dX6_asks_18.1
noncomputable def zr_dX6_asks_19 := zo_182 (k := 177)  (q := 22) zr_dX6_asks_18.2 rfl rfl
noncomputable def dX6_asks_19 := zr_dX6_asks_19.1
noncomputable def zr_dX6_asks_22 := zo_153 (k := 13)  (q := 25) zr_dX6_asks_19.2 (by decide +kernel) rfl
noncomputable def dX6_asks_22 := zr_dX6_asks_22.1
noncomputable def zr_dX6_asks_25 := zo_42 (q := 26) zr_dX6_asks_22.2 rfl
noncomputable def dX6_asks_25 := zr_dX6_asks_25.1
noncomputable def zr_dX6_asks_26 := zo_27 (q := 27) zr_dX6_asks_25.2 rfl
noncomputable def dX6_asks_26 := zr_dX6_asks_26.1
noncomputable def zr_dX6_asks_27 := zo_28 (q := 28) zr_dX6_asks_26.2 rfl
noncomputable def dX6_asks_27 := zr_dX6_asks_27.1
noncomputable def zr_dX6_asks_28 := zo_29 (q := 29) zr_dX6_asks_27.2 rfl
noncomputable def dX6_asks_28 := zr_dX6_asks_28.1
noncomputable def zr_dX6_asks_29 := zo_182 (k := 180)  (q := 32) zr_dX6_asks_28.2 rfl rfl
noncomputable def dX6_asks_29 := zr_dX6_asks_29.1
noncomputable def zr_dX6_asks_32 := zo_167 (k := 5)  (q := 35) zr_dX6_asks_29.2 (by decide +kernel) rfl
noncomputable def dX6_asks_32 := zr_dX6_asks_32.1
noncomputable def zr_dX6_asks_35 := zo_16 (k := -2)  (q := 37) zr_dX6_asks_32.2 (by decide +kernel) rfl
noncomputable def dX6_asks_35 := zr_dX6_asks_35.1
noncomputable def zr_dX6_asks_37 := zo_172 (q := 38) zr_dX6_asks_35.2 rfl
noncomputable def dX6_asks_37 := zr_dX6_asks_37.1
theorem zs_dX6_pebble_0 : zsuf cX6_pebble 0 cX6_pebble.data.toList := rfl
noncomputable def zr_dX6_pebble_0 := zo_27 (q := 1) zs_dX6_pebble_0 rfl
noncomputable def dX6_pebble_0 := zr_dX6_pebble_0.1
noncomputable def zr_dX6_pebble_1 := zo_3 (q := 2) zr_dX6_pebble_0.2 rfl
noncomputable def dX6_pebble_1 := zr_dX6_pebble_1.1
noncomputable def zr_dX6_pebble_2 := zo_16 (k := 59)  (q := 4) zr_dX6_pebble_1.2 (by decide +kernel) rfl
noncomputable def dX6_pebble_2 := zr_dX6_pebble_2.1
noncomputable def zr_dX6_pebble_4 := zo_184 (k := 91)  (q := 7) zr_dX6_pebble_2.2 rfl rfl
noncomputable def dX6_pebble_4 := zr_dX6_pebble_4.1
noncomputable def zr_dX6_pebble_7 := zo_153 (k := 14)  (q := 10) zr_dX6_pebble_4.2 (by decide +kernel) rfl
noncomputable def dX6_pebble_7 := zr_dX6_pebble_7.1
noncomputable def zr_dX6_pebble_10 := zo_28 (q := 11) zr_dX6_pebble_7.2 rfl
noncomputable def dX6_pebble_10 := zr_dX6_pebble_10.1
noncomputable def zr_dX6_pebble_11 := zo_3 (q := 12) zr_dX6_pebble_10.2 rfl
noncomputable def dX6_pebble_11 := zr_dX6_pebble_11.1
noncomputable def zr_dX6_pebble_12 := zo_17 (k := 9999)  (q := 15) zr_dX6_pebble_11.2 (by decide +kernel) rfl
noncomputable def dX6_pebble_12 := zr_dX6_pebble_12.1
noncomputable def zr_dX6_pebble_15 := zo_184 (k := 91)  (q := 18) zr_dX6_pebble_12.2 rfl rfl
noncomputable def dX6_pebble_15 := zr_dX6_pebble_15.1
noncomputable def zr_dX6_pebble_18 := zo_154 (k := 6)  (q := 21) zr_dX6_pebble_15.2 (by decide +kernel) rfl
noncomputable def dX6_pebble_18 := zr_dX6_pebble_18.1
noncomputable def zr_dX6_pebble_21 := zo_16 (k := -2)  (q := 23) zr_dX6_pebble_18.2 (by decide +kernel) rfl
noncomputable def dX6_pebble_21 := zr_dX6_pebble_21.1
noncomputable def zr_dX6_pebble_23 := zo_172 (q := 24) zr_dX6_pebble_21.2 rfl
noncomputable def dX6_pebble_23 := zr_dX6_pebble_23.1
noncomputable def zr_dX6_pebble_24 := zo_42 (q := 25) zr_dX6_pebble_23.2 rfl
noncomputable def dX6_pebble_24 := zr_dX6_pebble_24.1
noncomputable def zr_dX6_pebble_25 := zo_180 (k := 88)  (q := 28) zr_dX6_pebble_24.2 rfl rfl
noncomputable def dX6_pebble_25 := zr_dX6_pebble_25.1
noncomputable def zr_dX6_pebble_28 := zo_16 (k := 6)  (q := 30) zr_dX6_pebble_25.2 (by decide +kernel) rfl
noncomputable def dX6_pebble_28 := zr_dX6_pebble_28.1
noncomputable def zr_dX6_pebble_30 := zo_160 (k := 6)  (q := 33) zr_dX6_pebble_28.2 (by decide +kernel) rfl
noncomputable def dX6_pebble_30 := zr_dX6_pebble_30.1
noncomputable def zr_dX6_pebble_33 := zo_16 (k := -4)  (q := 35) zr_dX6_pebble_30.2 (by decide +kernel) rfl
noncomputable def dX6_pebble_33 := zr_dX6_pebble_33.1
noncomputable def zr_dX6_pebble_35 := zo_172 (q := 36) zr_dX6_pebble_33.2 rfl
noncomputable def dX6_pebble_35 := zr_dX6_pebble_35.1
noncomputable def zr_dX6_pebble_36 := zo_42 (q := 37) zr_dX6_pebble_35.2 rfl
noncomputable def dX6_pebble_36 := zr_dX6_pebble_36.1
noncomputable def zr_dX6_pebble_37 := zo_180 (k := 7)  (q := 40) zr_dX6_pebble_36.2 rfl rfl
noncomputable def dX6_pebble_37 := zr_dX6_pebble_37.1
noncomputable def zr_dX6_pebble_40 := zo_42 (q := 41) zr_dX6_pebble_37.2 rfl
noncomputable def dX6_pebble_40 := zr_dX6_pebble_40.1
noncomputable def zr_dX6_pebble_41 := zo_180 (k := 88)  (q := 44) zr_dX6_pebble_40.2 rfl rfl
noncomputable def dX6_pebble_41 := zr_dX6_pebble_41.1
noncomputable def zr_dX6_pebble_44 := zo_27 (q := 45) zr_dX6_pebble_41.2 rfl
noncomputable def dX6_pebble_44 := zr_dX6_pebble_44.1
noncomputable def zr_dX6_pebble_45 := zo_16 (k := 10)  (q := 47) zr_dX6_pebble_44.2 (by decide +kernel) rfl
noncomputable def dX6_pebble_45 := zr_dX6_pebble_45.1
noncomputable def zr_dX6_pebble_47 := zo_108 (q := 48) zr_dX6_pebble_45.2 rfl
noncomputable def dX6_pebble_47 := zr_dX6_pebble_47.1
noncomputable def zr_dX6_pebble_48 := zo_79 (q := 49) zr_dX6_pebble_47.2 rfl
noncomputable def dX6_pebble_48 := zr_dX6_pebble_48.1
noncomputable def zr_dX6_pebble_49 := zo_42 (q := 50) zr_dX6_pebble_48.2 rfl
noncomputable def dX6_pebble_49 := zr_dX6_pebble_49.1
noncomputable def zr_dX6_pebble_50 := zo_180 (k := 13)  (q := 53) zr_dX6_pebble_49.2 rfl rfl
noncomputable def dX6_pebble_50 := zr_dX6_pebble_50.1
noncomputable def zr_dX6_pebble_53 := zo_42 (q := 54) zr_dX6_pebble_50.2 rfl
noncomputable def dX6_pebble_53 := zr_dX6_pebble_53.1
noncomputable def zr_dX6_pebble_54 := zo_180 (k := 88)  (q := 57) zr_dX6_pebble_53.2 rfl rfl
noncomputable def dX6_pebble_54 := zr_dX6_pebble_54.1
noncomputable def zr_dX6_pebble_57 := zo_27 (q := 58) zr_dX6_pebble_54.2 rfl
noncomputable def dX6_pebble_57 := zr_dX6_pebble_57.1
noncomputable def zr_dX6_pebble_58 := zo_16 (k := 10)  (q := 60) zr_dX6_pebble_57.2 (by decide +kernel) rfl
noncomputable def dX6_pebble_58 := zr_dX6_pebble_58.1
noncomputable def zr_dX6_pebble_60 := zo_112 (q := 61) zr_dX6_pebble_58.2 rfl
noncomputable def dX6_pebble_60 := zr_dX6_pebble_60.1
noncomputable def zr_dX6_pebble_61 := zo_79 (q := 62) zr_dX6_pebble_60.2 rfl
noncomputable def dX6_pebble_61 := zr_dX6_pebble_61.1
noncomputable def zr_dX6_pebble_62 := zo_42 (q := 63) zr_dX6_pebble_61.2 rfl
noncomputable def dX6_pebble_62 := zr_dX6_pebble_62.1
noncomputable def zr_dX6_pebble_63 := zo_180 (k := 16)  (q := 66) zr_dX6_pebble_62.2 rfl rfl
noncomputable def dX6_pebble_63 := zr_dX6_pebble_63.1
noncomputable def zr_dX6_pebble_66 := zo_5 (q := 67) zr_dX6_pebble_63.2 rfl
noncomputable def dX6_pebble_66 := zr_dX6_pebble_66.1
noncomputable def zr_dX6_pebble_67 := zo_42 (q := 68) zr_dX6_pebble_66.2 rfl
noncomputable def dX6_pebble_67 := zr_dX6_pebble_67.1
noncomputable def zr_dX6_pebble_68 := zo_180 (k := 88)  (q := 71) zr_dX6_pebble_67.2 rfl rfl
noncomputable def dX6_pebble_68 := zr_dX6_pebble_68.1
noncomputable def zr_dX6_pebble_71 := zo_104 (q := 72) zr_dX6_pebble_68.2 rfl
noncomputable def dX6_pebble_71 := zr_dX6_pebble_71.1
noncomputable def zr_dX6_pebble_72 := zo_28 (q := 73) zr_dX6_pebble_71.2 rfl
noncomputable def dX6_pebble_72 := zr_dX6_pebble_72.1
noncomputable def zr_dX6_pebble_73 := zo_16 (k := 100)  (q := 75) zr_dX6_pebble_72.2 (by decide +kernel) rfl
noncomputable def dX6_pebble_73 := zr_dX6_pebble_73.1
noncomputable def zr_dX6_pebble_75 := zo_108 (q := 76) zr_dX6_pebble_73.2 rfl
noncomputable def dX6_pebble_75 := zr_dX6_pebble_75.1
noncomputable def zr_dX6_pebble_76 := zo_79 (q := 77) zr_dX6_pebble_75.2 rfl
noncomputable def dX6_pebble_76 := zr_dX6_pebble_76.1
noncomputable def zr_dX6_pebble_77 := zo_42 (q := 78) zr_dX6_pebble_76.2 rfl
noncomputable def dX6_pebble_77 := zr_dX6_pebble_77.1
noncomputable def zr_dX6_pebble_78 := zo_180 (k := 16)  (q := 81) zr_dX6_pebble_77.2 rfl rfl
noncomputable def dX6_pebble_78 := zr_dX6_pebble_78.1
noncomputable def zr_dX6_pebble_81 := zo_5 (q := 82) zr_dX6_pebble_78.2 rfl
noncomputable def dX6_pebble_81 := zr_dX6_pebble_81.1
noncomputable def zr_dX6_pebble_82 := zo_42 (q := 83) zr_dX6_pebble_81.2 rfl
noncomputable def dX6_pebble_82 := zr_dX6_pebble_82.1
noncomputable def zr_dX6_pebble_83 := zo_180 (k := 88)  (q := 86) zr_dX6_pebble_82.2 rfl rfl
noncomputable def dX6_pebble_83 := zr_dX6_pebble_83.1
noncomputable def zr_dX6_pebble_86 := zo_104 (q := 87) zr_dX6_pebble_83.2 rfl
noncomputable def dX6_pebble_86 := zr_dX6_pebble_86.1
noncomputable def zr_dX6_pebble_87 := zo_4 (q := 88) zr_dX6_pebble_86.2 rfl
noncomputable def dX6_pebble_87 := zr_dX6_pebble_87.1
noncomputable def zr_dX6_pebble_88 := zo_96 (q := 89) zr_dX6_pebble_87.2 rfl
noncomputable def dX6_pebble_88 := zr_dX6_pebble_88.1
noncomputable def zr_dX6_pebble_89 := zo_28 (q := 90) zr_dX6_pebble_88.2 rfl
noncomputable def dX6_pebble_89 := zr_dX6_pebble_89.1
noncomputable def zr_dX6_pebble_90 := zo_16 (k := 100)  (q := 92) zr_dX6_pebble_89.2 (by decide +kernel) rfl
noncomputable def dX6_pebble_90 := zr_dX6_pebble_90.1
noncomputable def zr_dX6_pebble_92 := zo_112 (q := 93) zr_dX6_pebble_90.2 rfl
noncomputable def dX6_pebble_92 := zr_dX6_pebble_92.1
noncomputable def zr_dX6_pebble_93 := zo_79 (q := 94) zr_dX6_pebble_92.2 rfl
noncomputable def dX6_pebble_93 := zr_dX6_pebble_93.1
noncomputable def zr_dX6_pebble_94 := zo_42 (q := 95) zr_dX6_pebble_93.2 rfl
noncomputable def dX6_pebble_94 := zr_dX6_pebble_94.1
noncomputable def zr_dX6_pebble_95 := zo_89 (q := 96) zr_dX6_pebble_94.2 rfl
noncomputable def dX6_pebble_95 := zr_dX6_pebble_95.1
noncomputable def zr_dX6_pebble_96 := zo_180 (k := 88)  (q := 99) zr_dX6_pebble_95.2 rfl rfl
noncomputable def dX6_pebble_96 := zr_dX6_pebble_96.1
noncomputable def zr_dX6_pebble_99 := zo_4 (q := 100) zr_dX6_pebble_96.2 rfl
noncomputable def dX6_pebble_99 := zr_dX6_pebble_99.1
noncomputable def zr_dX6_pebble_100 := zo_96 (q := 101) zr_dX6_pebble_99.2 rfl
noncomputable def dX6_pebble_100 := zr_dX6_pebble_100.1
noncomputable def zr_dX6_pebble_101 := zo_181 (k := 88)  (q := 104) zr_dX6_pebble_100.2 rfl rfl
noncomputable def dX6_pebble_101 := zr_dX6_pebble_101.1
noncomputable def zr_dX6_pebble_104 := zo_42 (q := 105) zr_dX6_pebble_101.2 rfl
noncomputable def dX6_pebble_104 := zr_dX6_pebble_104.1
noncomputable def zr_dX6_pebble_105 := zo_180 (k := 88)  (q := 108) zr_dX6_pebble_104.2 rfl rfl
noncomputable def dX6_pebble_105 := zr_dX6_pebble_105.1
noncomputable def zr_dX6_pebble_108 := zo_4 (q := 109) zr_dX6_pebble_105.2 rfl
noncomputable def dX6_pebble_108 := zr_dX6_pebble_108.1
noncomputable def zr_dX6_pebble_109 := zo_100 (q := 110) zr_dX6_pebble_108.2 rfl
noncomputable def dX6_pebble_109 := zr_dX6_pebble_109.1
noncomputable def zr_dX6_pebble_110 := zo_172 (q := 111) zr_dX6_pebble_109.2 rfl
noncomputable def dX6_pebble_110 := zr_dX6_pebble_110.1
theorem zs_dX6_put_0 : zsuf cX6_put 0 cX6_put.data.toList := rfl
noncomputable def zr_dX6_put_0 := zo_42 (q := 1) zs_dX6_put_0 rfl
noncomputable def dX6_put_0 := zr_dX6_put_0.1
noncomputable def zr_dX6_put_1 := zo_27 (q := 2) zr_dX6_put_0.2 rfl
noncomputable def dX6_put_1 := zr_dX6_put_1.1
noncomputable def zr_dX6_put_2 := zo_182 (k := 177)  (q := 5) zr_dX6_put_1.2 rfl rfl
noncomputable def dX6_put_2 := zr_dX6_put_2.1
noncomputable def zr_dX6_put_5 := zo_154 (k := 6)  (q := 8) zr_dX6_put_2.2 (by decide +kernel) rfl
noncomputable def dX6_put_5 := zr_dX6_put_5.1
noncomputable def zr_dX6_put_8 := zo_16 (k := -5)  (q := 10) zr_dX6_put_5.2 (by decide +kernel) rfl
noncomputable def dX6_put_8 := zr_dX6_put_8.1
noncomputable def zr_dX6_put_10 := zo_172 (q := 11) zr_dX6_put_8.2 rfl
noncomputable def dX6_put_10 := zr_dX6_put_10.1
noncomputable def zr_dX6_put_11 := zo_28 (q := 12) zr_dX6_put_10.2 rfl
noncomputable def dX6_put_11 := zr_dX6_put_11.1
noncomputable def zr_dX6_put_12 := zo_3 (q := 13) zr_dX6_put_11.2 rfl
noncomputable def dX6_put_12 := zr_dX6_put_12.1
noncomputable def zr_dX6_put_13 := zo_4 (q := 14) zr_dX6_put_12.2 rfl
noncomputable def dX6_put_13 := zr_dX6_put_13.1
noncomputable def zr_dX6_put_14 := zo_184 (k := 91)  (q := 17) zr_dX6_put_13.2 rfl rfl
noncomputable def dX6_put_14 := zr_dX6_put_14.1
noncomputable def zr_dX6_put_17 := zo_153 (k := 13)  (q := 20) zr_dX6_put_14.2 (by decide +kernel) rfl
noncomputable def dX6_put_17 := zr_dX6_put_17.1
noncomputable def zr_dX6_put_20 := zo_29 (q := 21) zr_dX6_put_17.2 rfl
noncomputable def dX6_put_20 := zr_dX6_put_20.1
noncomputable def zr_dX6_put_21 := zo_3 (q := 22) zr_dX6_put_20.2 rfl
noncomputable def dX6_put_21 := zr_dX6_put_21.1
noncomputable def zr_dX6_put_22 := zo_16 (k := 99)  (q := 24) zr_dX6_put_21.2 (by decide +kernel) rfl
noncomputable def dX6_put_22 := zr_dX6_put_22.1
noncomputable def zr_dX6_put_24 := zo_184 (k := 91)  (q := 27) zr_dX6_put_22.2 rfl rfl
noncomputable def dX6_put_24 := zr_dX6_put_24.1
noncomputable def zr_dX6_put_27 := zo_154 (k := 6)  (q := 30) zr_dX6_put_24.2 (by decide +kernel) rfl
noncomputable def dX6_put_27 := zr_dX6_put_27.1
noncomputable def zr_dX6_put_30 := zo_16 (k := -7)  (q := 32) zr_dX6_put_27.2 (by decide +kernel) rfl
noncomputable def dX6_put_30 := zr_dX6_put_30.1
noncomputable def zr_dX6_put_32 := zo_172 (q := 33) zr_dX6_put_30.2 rfl
noncomputable def dX6_put_32 := zr_dX6_put_32.1
noncomputable def zr_dX6_put_33 := zo_42 (q := 34) zr_dX6_put_32.2 rfl
noncomputable def dX6_put_33 := zr_dX6_put_33.1
noncomputable def zr_dX6_put_34 := zo_180 (k := 16)  (q := 37) zr_dX6_put_33.2 rfl rfl
noncomputable def dX6_put_34 := zr_dX6_put_34.1
noncomputable def zr_dX6_put_37 := zo_5 (q := 38) zr_dX6_put_34.2 rfl
noncomputable def dX6_put_37 := zr_dX6_put_37.1
noncomputable def zr_dX6_put_38 := zo_27 (q := 39) zr_dX6_put_37.2 rfl
noncomputable def dX6_put_38 := zr_dX6_put_38.1
noncomputable def zr_dX6_put_39 := zo_104 (q := 40) zr_dX6_put_38.2 rfl
noncomputable def dX6_put_39 := zr_dX6_put_39.1
noncomputable def zr_dX6_put_40 := zo_28 (q := 41) zr_dX6_put_39.2 rfl
noncomputable def dX6_put_40 := zr_dX6_put_40.1
noncomputable def zr_dX6_put_41 := zo_96 (q := 42) zr_dX6_put_40.2 rfl
noncomputable def dX6_put_41 := zr_dX6_put_41.1
noncomputable def zr_dX6_put_42 := zo_46 (q := 43) zr_dX6_put_41.2 rfl
noncomputable def dX6_put_42 := zr_dX6_put_42.1
noncomputable def zr_dX6_put_43 := zo_54 (k := 4)  (q := 45) zr_dX6_put_42.2 rfl rfl
noncomputable def dX6_put_43 := zr_dX6_put_43.1
noncomputable def zr_dX6_put_45 := zo_42 (q := 46) zr_dX6_put_43.2 rfl
noncomputable def dX6_put_45 := zr_dX6_put_45.1
noncomputable def zr_dX6_put_46 := zo_180 (k := 16)  (q := 49) zr_dX6_put_45.2 rfl rfl
noncomputable def dX6_put_46 := zr_dX6_put_46.1
noncomputable def zr_dX6_put_49 := zo_5 (q := 50) zr_dX6_put_46.2 rfl
noncomputable def dX6_put_49 := zr_dX6_put_49.1
noncomputable def zr_dX6_put_50 := zo_27 (q := 51) zr_dX6_put_49.2 rfl
noncomputable def dX6_put_50 := zr_dX6_put_50.1
noncomputable def zr_dX6_put_51 := zo_104 (q := 52) zr_dX6_put_50.2 rfl
noncomputable def dX6_put_51 := zr_dX6_put_51.1
noncomputable def zr_dX6_put_52 := zo_28 (q := 53) zr_dX6_put_51.2 rfl
noncomputable def dX6_put_52 := zr_dX6_put_52.1
noncomputable def zr_dX6_put_53 := zo_96 (q := 54) zr_dX6_put_52.2 rfl
noncomputable def dX6_put_53 := zr_dX6_put_53.1
noncomputable def zr_dX6_put_54 := zo_29 (q := 55) zr_dX6_put_53.2 rfl
noncomputable def dX6_put_54 := zr_dX6_put_54.1
noncomputable def zr_dX6_put_55 := zo_79 (q := 56) zr_dX6_put_54.2 rfl
noncomputable def dX6_put_55 := zr_dX6_put_55.1
noncomputable def zr_dX6_put_56 := zo_21 (k := 4)  (q := 58) zr_dX6_put_55.2 rfl rfl
noncomputable def dX6_put_56 := zr_dX6_put_56.1
noncomputable def zr_dX6_put_58 := zo_172 (q := 59) zr_dX6_put_56.2 rfl
noncomputable def dX6_put_58 := zr_dX6_put_58.1
theorem zs_dX6_isSand_0 : zsuf cX6_isSand 0 cX6_isSand.data.toList := rfl
noncomputable def zr_dX6_isSand_0 := zo_42 (q := 1) zs_dX6_isSand_0 rfl
noncomputable def dX6_isSand_0 := zr_dX6_isSand_0.1
noncomputable def zr_dX6_isSand_1 := zo_180 (k := 16)  (q := 4) zr_dX6_isSand_0.2 rfl rfl
noncomputable def dX6_isSand_1 := zr_dX6_isSand_1.1
noncomputable def zr_dX6_isSand_4 := zo_5 (q := 5) zr_dX6_isSand_1.2 rfl
noncomputable def dX6_isSand_4 := zr_dX6_isSand_4.1
noncomputable def zr_dX6_isSand_5 := zo_27 (q := 6) zr_dX6_isSand_4.2 rfl
noncomputable def dX6_isSand_5 := zr_dX6_isSand_5.1
noncomputable def zr_dX6_isSand_6 := zo_104 (q := 7) zr_dX6_isSand_5.2 rfl
noncomputable def dX6_isSand_6 := zr_dX6_isSand_6.1
noncomputable def zr_dX6_isSand_7 := zo_46 (q := 8) zr_dX6_isSand_6.2 rfl
noncomputable def dX6_isSand_7 := zr_dX6_isSand_7.1
noncomputable def zr_dX6_isSand_8 := zo_61 (q := 9) zr_dX6_isSand_7.2 rfl
noncomputable def dX6_isSand_8 := zr_dX6_isSand_8.1
noncomputable def zr_dX6_isSand_9 := zo_42 (q := 10) zr_dX6_isSand_8.2 rfl
noncomputable def dX6_isSand_9 := zr_dX6_isSand_9.1
noncomputable def zr_dX6_isSand_10 := zo_180 (k := 7)  (q := 13) zr_dX6_isSand_9.2 rfl rfl
noncomputable def dX6_isSand_10 := zr_dX6_isSand_10.1
noncomputable def zr_dX6_isSand_13 := zo_27 (q := 14) zr_dX6_isSand_10.2 rfl
noncomputable def dX6_isSand_13 := zr_dX6_isSand_13.1
noncomputable def zr_dX6_isSand_14 := zo_46 (q := 15) zr_dX6_isSand_13.2 rfl
noncomputable def dX6_isSand_14 := zr_dX6_isSand_14.1
noncomputable def zr_dX6_isSand_15 := zo_5 (q := 16) zr_dX6_isSand_14.2 rfl
noncomputable def dX6_isSand_15 := zr_dX6_isSand_15.1
noncomputable def zr_dX6_isSand_16 := zo_159 (k := 13)  (q := 19) zr_dX6_isSand_15.2 (by decide +kernel) rfl
noncomputable def dX6_isSand_16 := zr_dX6_isSand_16.1
noncomputable def zr_dX6_isSand_19 := zo_42 (q := 20) zr_dX6_isSand_16.2 rfl
noncomputable def dX6_isSand_19 := zr_dX6_isSand_19.1
noncomputable def zr_dX6_isSand_20 := zo_180 (k := 7)  (q := 23) zr_dX6_isSand_19.2 rfl rfl
noncomputable def dX6_isSand_20 := zr_dX6_isSand_20.1
noncomputable def zr_dX6_isSand_23 := zo_27 (q := 24) zr_dX6_isSand_20.2 rfl
noncomputable def dX6_isSand_23 := zr_dX6_isSand_23.1
noncomputable def zr_dX6_isSand_24 := zo_46 (q := 25) zr_dX6_isSand_23.2 rfl
noncomputable def dX6_isSand_24 := zr_dX6_isSand_24.1
noncomputable def zr_dX6_isSand_25 := zo_7 (q := 26) zr_dX6_isSand_24.2 rfl
noncomputable def dX6_isSand_25 := zr_dX6_isSand_25.1
noncomputable def zr_dX6_isSand_26 := zo_160 (k := 21)  (q := 29) zr_dX6_isSand_25.2 (by decide +kernel) rfl
noncomputable def dX6_isSand_26 := zr_dX6_isSand_26.1
noncomputable def zr_dX6_isSand_29 := zo_28 (q := 30) zr_dX6_isSand_26.2 rfl
noncomputable def dX6_isSand_29 := zr_dX6_isSand_29.1
noncomputable def zr_dX6_isSand_30 := zo_42 (q := 31) zr_dX6_isSand_29.2 rfl
noncomputable def dX6_isSand_30 := zr_dX6_isSand_30.1
noncomputable def zr_dX6_isSand_31 := zo_180 (k := 13)  (q := 34) zr_dX6_isSand_30.2 rfl rfl
noncomputable def dX6_isSand_31 := zr_dX6_isSand_31.1
noncomputable def zr_dX6_isSand_34 := zo_27 (q := 35) zr_dX6_isSand_31.2 rfl
noncomputable def dX6_isSand_34 := zr_dX6_isSand_34.1
noncomputable def zr_dX6_isSand_35 := zo_46 (q := 36) zr_dX6_isSand_34.2 rfl
noncomputable def dX6_isSand_35 := zr_dX6_isSand_35.1
noncomputable def zr_dX6_isSand_36 := zo_163 (k := 7)  (q := 39) zr_dX6_isSand_35.2 (by decide +kernel) rfl
noncomputable def dX6_isSand_36 := zr_dX6_isSand_36.1
noncomputable def zr_dX6_isSand_39 := zo_4 (q := 40) zr_dX6_isSand_36.2 rfl
noncomputable def dX6_isSand_39 := zr_dX6_isSand_39.1
noncomputable def zr_dX6_isSand_40 := zo_167 (k := 39)  (q := 43) zr_dX6_isSand_39.2 (by decide +kernel) rfl
noncomputable def dX6_isSand_40 := zr_dX6_isSand_40.1
noncomputable def zr_dX6_isSand_43 := zo_3 (q := 44) zr_dX6_isSand_40.2 rfl
noncomputable def dX6_isSand_43 := zr_dX6_isSand_43.1
noncomputable def zr_dX6_isSand_44 := zo_167 (k := 35)  (q := 47) zr_dX6_isSand_43.2 (by decide +kernel) rfl
noncomputable def dX6_isSand_44 := zr_dX6_isSand_44.1
noncomputable def zr_dX6_isSand_47 := zo_42 (q := 48) zr_dX6_isSand_44.2 rfl
noncomputable def dX6_isSand_47 := zr_dX6_isSand_47.1
noncomputable def zr_dX6_isSand_48 := zo_180 (k := 7)  (q := 51) zr_dX6_isSand_47.2 rfl rfl
noncomputable def dX6_isSand_48 := zr_dX6_isSand_48.1
noncomputable def zr_dX6_isSand_51 := zo_27 (q := 52) zr_dX6_isSand_48.2 rfl
noncomputable def dX6_isSand_51 := zr_dX6_isSand_51.1
noncomputable def zr_dX6_isSand_52 := zo_46 (q := 53) zr_dX6_isSand_51.2 rfl
noncomputable def dX6_isSand_52 := zr_dX6_isSand_52.1
noncomputable def zr_dX6_isSand_53 := zo_8 (q := 54) zr_dX6_isSand_52.2 rfl
noncomputable def dX6_isSand_53 := zr_dX6_isSand_53.1
noncomputable def zr_dX6_isSand_54 := zo_160 (k := 16)  (q := 57) zr_dX6_isSand_53.2 (by decide +kernel) rfl
noncomputable def dX6_isSand_54 := zr_dX6_isSand_54.1
noncomputable def zr_dX6_isSand_57 := zo_28 (q := 58) zr_dX6_isSand_54.2 rfl
noncomputable def dX6_isSand_57 := zr_dX6_isSand_57.1
noncomputable def zr_dX6_isSand_58 := zo_8 (q := 59) zr_dX6_isSand_57.2 rfl
noncomputable def dX6_isSand_58 := zr_dX6_isSand_58.1
noncomputable def zr_dX6_isSand_59 := zo_162 (k := 7)  (q := 62) zr_dX6_isSand_58.2 (by decide +kernel) rfl
noncomputable def dX6_isSand_59 := zr_dX6_isSand_59.1
noncomputable def zr_dX6_isSand_62 := zo_4 (q := 63) zr_dX6_isSand_59.2 rfl
noncomputable def dX6_isSand_62 := zr_dX6_isSand_62.1
noncomputable def zr_dX6_isSand_63 := zo_167 (k := 16)  (q := 66) zr_dX6_isSand_62.2 (by decide +kernel) rfl
noncomputable def dX6_isSand_63 := zr_dX6_isSand_63.1
noncomputable def zr_dX6_isSand_66 := zo_3 (q := 67) zr_dX6_isSand_63.2 rfl
noncomputable def dX6_isSand_66 := zr_dX6_isSand_66.1
noncomputable def zr_dX6_isSand_67 := zo_167 (k := 12)  (q := 70) zr_dX6_isSand_66.2 (by decide +kernel) rfl
noncomputable def dX6_isSand_67 := zr_dX6_isSand_67.1
noncomputable def zr_dX6_isSand_70 := zo_28 (q := 71) zr_dX6_isSand_67.2 rfl
noncomputable def dX6_isSand_70 := zr_dX6_isSand_70.1
noncomputable def zr_dX6_isSand_71 := zo_154 (k := 7)  (q := 74) zr_dX6_isSand_70.2 (by decide +kernel) rfl
noncomputable def dX6_isSand_71 := zr_dX6_isSand_71.1
noncomputable def zr_dX6_isSand_74 := zo_4 (q := 75) zr_dX6_isSand_71.2 rfl
noncomputable def dX6_isSand_74 := zr_dX6_isSand_74.1
noncomputable def zr_dX6_isSand_75 := zo_167 (k := 4)  (q := 78) zr_dX6_isSand_74.2 (by decide +kernel) rfl
noncomputable def dX6_isSand_75 := zr_dX6_isSand_75.1
noncomputable def zr_dX6_isSand_78 := zo_3 (q := 79) zr_dX6_isSand_75.2 rfl
noncomputable def dX6_isSand_78 := zr_dX6_isSand_78.1
noncomputable def zr_dX6_isSand_79 := zo_172 (q := 80) zr_dX6_isSand_78.2 rfl
noncomputable def dX6_isSand_79 := zr_dX6_isSand_79.1
theorem zs_dX6_told_0 : zsuf cX6_told 0 cX6_told.data.toList := rfl
noncomputable def zr_dX6_told_0 := zo_42 (q := 1) zs_dX6_told_0 rfl
noncomputable def dX6_told_0 := zr_dX6_told_0.1
noncomputable def zr_dX6_told_1 := zo_27 (q := 2) zr_dX6_told_0.2 rfl
noncomputable def dX6_told_1 := zr_dX6_told_1.1
noncomputable def zr_dX6_told_2 := zo_182 (k := 177)  (q := 5) zr_dX6_told_1.2 rfl rfl
noncomputable def dX6_told_2 := zr_dX6_told_2.1
noncomputable def zr_dX6_told_5 := zo_154 (k := 6)  (q := 8) zr_dX6_told_2.2 (by decide +kernel) rfl
noncomputable def dX6_told_5 := zr_dX6_told_5.1
noncomputable def zr_dX6_told_8 := zo_16 (k := -5)  (q := 10) zr_dX6_told_5.2 (by decide +kernel) rfl
noncomputable def dX6_told_8 := zr_dX6_told_8.1
noncomputable def zr_dX6_told_10 := zo_172 (q := 11) zr_dX6_told_8.2 rfl
noncomputable def dX6_told_10 := zr_dX6_told_10.1
noncomputable def zr_dX6_told_11 := zo_28 (q := 12) zr_dX6_told_10.2 rfl
noncomputable def dX6_told_11 := zr_dX6_told_11.1
theorem dX6_told_12 : zD cX6_told 12 (.tableswitch 77 0 4 #[36, 43, 50, 50, 63]) 36 := by decide +kernel
noncomputable def zr_dX6_told_12 := zskip zr_dX6_told_11.2 36 (q := 48) rfl
noncomputable def zr_dX6_told_48 := zo_42 (q := 49) zr_dX6_told_12 rfl
noncomputable def dX6_told_48 := zr_dX6_told_48.1
noncomputable def zr_dX6_told_49 := zo_180 (k := 7)  (q := 52) zr_dX6_told_48.2 rfl rfl
noncomputable def dX6_told_49 := zr_dX6_told_49.1
noncomputable def zr_dX6_told_52 := zo_27 (q := 53) zr_dX6_told_49.2 rfl
noncomputable def dX6_told_52 := zr_dX6_told_52.1
noncomputable def zr_dX6_told_53 := zo_46 (q := 54) zr_dX6_told_52.2 rfl
noncomputable def dX6_told_53 := zr_dX6_told_53.1
noncomputable def zr_dX6_told_54 := zo_172 (q := 55) zr_dX6_told_53.2 rfl
noncomputable def dX6_told_54 := zr_dX6_told_54.1
noncomputable def zr_dX6_told_55 := zo_42 (q := 56) zr_dX6_told_54.2 rfl
noncomputable def dX6_told_55 := zr_dX6_told_55.1
noncomputable def zr_dX6_told_56 := zo_180 (k := 13)  (q := 59) zr_dX6_told_55.2 rfl rfl
noncomputable def dX6_told_56 := zr_dX6_told_56.1
noncomputable def zr_dX6_told_59 := zo_27 (q := 60) zr_dX6_told_56.2 rfl
noncomputable def dX6_told_59 := zr_dX6_told_59.1
noncomputable def zr_dX6_told_60 := zo_46 (q := 61) zr_dX6_told_59.2 rfl
noncomputable def dX6_told_60 := zr_dX6_told_60.1
noncomputable def zr_dX6_told_61 := zo_172 (q := 62) zr_dX6_told_60.2 rfl
noncomputable def dX6_told_61 := zr_dX6_told_61.1
noncomputable def zr_dX6_told_62 := zo_42 (q := 63) zr_dX6_told_61.2 rfl
noncomputable def dX6_told_62 := zr_dX6_told_62.1
noncomputable def zr_dX6_told_63 := zo_180 (k := 16)  (q := 66) zr_dX6_told_62.2 rfl rfl
noncomputable def dX6_told_63 := zr_dX6_told_63.1
noncomputable def zr_dX6_told_66 := zo_5 (q := 67) zr_dX6_told_63.2 rfl
noncomputable def dX6_told_66 := zr_dX6_told_66.1
noncomputable def zr_dX6_told_67 := zo_27 (q := 68) zr_dX6_told_66.2 rfl
noncomputable def dX6_told_67 := zr_dX6_told_67.1
noncomputable def zr_dX6_told_68 := zo_104 (q := 69) zr_dX6_told_67.2 rfl
noncomputable def dX6_told_68 := zr_dX6_told_68.1
noncomputable def zr_dX6_told_69 := zo_28 (q := 70) zr_dX6_told_68.2 rfl
noncomputable def dX6_told_69 := zr_dX6_told_69.1
noncomputable def zr_dX6_told_70 := zo_96 (q := 71) zr_dX6_told_69.2 rfl
noncomputable def dX6_told_70 := zr_dX6_told_70.1
noncomputable def zr_dX6_told_71 := zo_5 (q := 72) zr_dX6_told_70.2 rfl
noncomputable def dX6_told_71 := zr_dX6_told_71.1
noncomputable def zr_dX6_told_72 := zo_100 (q := 73) zr_dX6_told_71.2 rfl
noncomputable def dX6_told_72 := zr_dX6_told_72.1
noncomputable def zr_dX6_told_73 := zo_46 (q := 74) zr_dX6_told_72.2 rfl
noncomputable def dX6_told_73 := zr_dX6_told_73.1
noncomputable def zr_dX6_told_74 := zo_172 (q := 75) zr_dX6_told_73.2 rfl
noncomputable def dX6_told_74 := zr_dX6_told_74.1
noncomputable def zr_dX6_told_75 := zo_42 (q := 76) zr_dX6_told_74.2 rfl
noncomputable def dX6_told_75 := zr_dX6_told_75.1
noncomputable def zr_dX6_told_76 := zo_27 (q := 77) zr_dX6_told_75.2 rfl
noncomputable def dX6_told_76 := zr_dX6_told_76.1
noncomputable def zr_dX6_told_77 := zo_182 (k := 183)  (q := 80) zr_dX6_told_76.2 rfl rfl
noncomputable def dX6_told_77 := zr_dX6_told_77.1
noncomputable def zr_dX6_told_80 := zo_153 (k := 7)  (q := 83) zr_dX6_told_77.2 (by decide +kernel) rfl
noncomputable def dX6_told_80 := zr_dX6_told_80.1
noncomputable def zr_dX6_told_83 := zo_4 (q := 84) zr_dX6_told_80.2 rfl
noncomputable def dX6_told_83 := zr_dX6_told_83.1
noncomputable def zr_dX6_told_84 := zo_167 (k := 4)  (q := 87) zr_dX6_told_83.2 (by decide +kernel) rfl
noncomputable def dX6_told_84 := zr_dX6_told_84.1
noncomputable def zr_dX6_told_87 := zo_3 (q := 88) zr_dX6_told_84.2 rfl
noncomputable def dX6_told_87 := zr_dX6_told_87.1
noncomputable def zr_dX6_told_88 := zo_172 (q := 89) zr_dX6_told_87.2 rfl
noncomputable def dX6_told_88 := zr_dX6_told_88.1
noncomputable def zr_dX6_told_89 := zo_16 (k := -7)  (q := 91) zr_dX6_told_88.2 (by decide +kernel) rfl
noncomputable def dX6_told_89 := zr_dX6_told_89.1
noncomputable def zr_dX6_told_91 := zo_172 (q := 92) zr_dX6_told_89.2 rfl
noncomputable def dX6_told_91 := zr_dX6_told_91.1
theorem zs_dX6_hurtsOf_0 : zsuf cX6_hurtsOf 0 cX6_hurtsOf.data.toList := rfl
noncomputable def zr_dX6_hurtsOf_0 := zo_42 (q := 1) zs_dX6_hurtsOf_0 rfl
noncomputable def dX6_hurtsOf_0 := zr_dX6_hurtsOf_0.1
noncomputable def zr_dX6_hurtsOf_1 := zo_180 (k := 19)  (q := 4) zr_dX6_hurtsOf_0.2 rfl rfl
noncomputable def dX6_hurtsOf_1 := zr_dX6_hurtsOf_1.1
noncomputable def zr_dX6_hurtsOf_4 := zo_6 (q := 5) zr_dX6_hurtsOf_1.2 rfl
noncomputable def dX6_hurtsOf_4 := zr_dX6_hurtsOf_4.1
noncomputable def zr_dX6_hurtsOf_5 := zo_27 (q := 6) zr_dX6_hurtsOf_4.2 rfl
noncomputable def dX6_hurtsOf_5 := zr_dX6_hurtsOf_5.1
noncomputable def zr_dX6_hurtsOf_6 := zo_104 (q := 7) zr_dX6_hurtsOf_5.2 rfl
noncomputable def dX6_hurtsOf_6 := zr_dX6_hurtsOf_6.1
noncomputable def zr_dX6_hurtsOf_7 := zo_46 (q := 8) zr_dX6_hurtsOf_6.2 rfl
noncomputable def dX6_hurtsOf_7 := zr_dX6_hurtsOf_7.1
noncomputable def zr_dX6_hurtsOf_8 := zo_62 (q := 9) zr_dX6_hurtsOf_7.2 rfl
noncomputable def dX6_hurtsOf_8 := zr_dX6_hurtsOf_8.1
noncomputable def zr_dX6_hurtsOf_9 := zo_42 (q := 10) zr_dX6_hurtsOf_8.2 rfl
noncomputable def dX6_hurtsOf_9 := zr_dX6_hurtsOf_9.1
noncomputable def zr_dX6_hurtsOf_10 := zo_3 (q := 11) zr_dX6_hurtsOf_9.2 rfl
noncomputable def dX6_hurtsOf_10 := zr_dX6_hurtsOf_10.1
noncomputable def zr_dX6_hurtsOf_11 := zo_27 (q := 12) zr_dX6_hurtsOf_10.2 rfl
noncomputable def dX6_hurtsOf_11 := zr_dX6_hurtsOf_11.1
noncomputable def zr_dX6_hurtsOf_12 := zo_28 (q := 13) zr_dX6_hurtsOf_11.2 rfl
noncomputable def dX6_hurtsOf_12 := zr_dX6_hurtsOf_12.1
noncomputable def zr_dX6_hurtsOf_13 := zo_182 (k := 180)  (q := 16) zr_dX6_hurtsOf_12.2 rfl rfl
noncomputable def dX6_hurtsOf_13 := zr_dX6_hurtsOf_13.1
noncomputable def zr_dX6_hurtsOf_16 := zo_54 (k := 4)  (q := 18) zr_dX6_hurtsOf_13.2 rfl rfl
noncomputable def dX6_hurtsOf_16 := zr_dX6_hurtsOf_16.1
noncomputable def zr_dX6_hurtsOf_18 := zo_42 (q := 19) zr_dX6_hurtsOf_16.2 rfl
noncomputable def dX6_hurtsOf_18 := zr_dX6_hurtsOf_18.1
noncomputable def zr_dX6_hurtsOf_19 := zo_180 (k := 13)  (q := 22) zr_dX6_hurtsOf_18.2 rfl rfl
noncomputable def dX6_hurtsOf_19 := zr_dX6_hurtsOf_19.1
noncomputable def zr_dX6_hurtsOf_22 := zo_28 (q := 23) zr_dX6_hurtsOf_19.2 rfl
noncomputable def dX6_hurtsOf_22 := zr_dX6_hurtsOf_22.1
noncomputable def zr_dX6_hurtsOf_23 := zo_46 (q := 24) zr_dX6_hurtsOf_22.2 rfl
noncomputable def dX6_hurtsOf_23 := zr_dX6_hurtsOf_23.1
noncomputable def zr_dX6_hurtsOf_24 := zo_54 (k := 5)  (q := 26) zr_dX6_hurtsOf_23.2 rfl rfl
noncomputable def dX6_hurtsOf_24 := zr_dX6_hurtsOf_24.1
noncomputable def zr_dX6_hurtsOf_26 := zo_21 (k := 4)  (q := 28) zr_dX6_hurtsOf_24.2 rfl rfl
noncomputable def dX6_hurtsOf_26 := zr_dX6_hurtsOf_26.1
noncomputable def zr_dX6_hurtsOf_28 := zo_29 (q := 29) zr_dX6_hurtsOf_26.2 rfl
noncomputable def dX6_hurtsOf_28 := zr_dX6_hurtsOf_28.1
noncomputable def zr_dX6_hurtsOf_29 := zo_100 (q := 30) zr_dX6_hurtsOf_28.2 rfl
noncomputable def dX6_hurtsOf_29 := zr_dX6_hurtsOf_29.1
noncomputable def zr_dX6_hurtsOf_30 := zo_54 (k := 6)  (q := 32) zr_dX6_hurtsOf_29.2 rfl rfl
noncomputable def dX6_hurtsOf_30 := zr_dX6_hurtsOf_30.1
noncomputable def zr_dX6_hurtsOf_32 := zo_42 (q := 33) zr_dX6_hurtsOf_30.2 rfl
noncomputable def dX6_hurtsOf_32 := zr_dX6_hurtsOf_32.1
noncomputable def zr_dX6_hurtsOf_33 := zo_180 (k := 7)  (q := 36) zr_dX6_hurtsOf_32.2 rfl rfl
noncomputable def dX6_hurtsOf_33 := zr_dX6_hurtsOf_33.1
noncomputable def zr_dX6_hurtsOf_36 := zo_28 (q := 37) zr_dX6_hurtsOf_33.2 rfl
noncomputable def dX6_hurtsOf_36 := zr_dX6_hurtsOf_36.1
noncomputable def zr_dX6_hurtsOf_37 := zo_46 (q := 38) zr_dX6_hurtsOf_36.2 rfl
noncomputable def dX6_hurtsOf_37 := zr_dX6_hurtsOf_37.1
theorem dX6_hurtsOf_38 : zD cX6_hurtsOf 38 (.tableswitch 92 1 5 #[34, 92, 44, 69, 78]) 34 := by decide +kernel
noncomputable def zr_dX6_hurtsOf_38 := zskip zr_dX6_hurtsOf_37.2 34 (q := 72) rfl
noncomputable def zr_dX6_hurtsOf_72 := zo_21 (k := 6)  (q := 74) zr_dX6_hurtsOf_38 rfl rfl
noncomputable def dX6_hurtsOf_72 := zr_dX6_hurtsOf_72.1
noncomputable def zr_dX6_hurtsOf_74 := zo_21 (k := 5)  (q := 76) zr_dX6_hurtsOf_72.2 rfl rfl
noncomputable def dX6_hurtsOf_74 := zr_dX6_hurtsOf_74.1
noncomputable def zr_dX6_hurtsOf_76 := zo_96 (q := 77) zr_dX6_hurtsOf_74.2 rfl
noncomputable def dX6_hurtsOf_76 := zr_dX6_hurtsOf_76.1
noncomputable def zr_dX6_hurtsOf_77 := zo_54 (k := 6)  (q := 79) zr_dX6_hurtsOf_76.2 rfl rfl
noncomputable def dX6_hurtsOf_77 := zr_dX6_hurtsOf_77.1
noncomputable def zr_dX6_hurtsOf_79 := zo_167 (k := 51)  (q := 82) zr_dX6_hurtsOf_77.2 (by decide +kernel) rfl
noncomputable def dX6_hurtsOf_79 := zr_dX6_hurtsOf_79.1
noncomputable def zr_dX6_hurtsOf_82 := zo_29 (q := 83) zr_dX6_hurtsOf_79.2 rfl
noncomputable def dX6_hurtsOf_82 := zr_dX6_hurtsOf_82.1
noncomputable def zr_dX6_hurtsOf_83 := zo_8 (q := 84) zr_dX6_hurtsOf_82.2 rfl
noncomputable def dX6_hurtsOf_83 := zr_dX6_hurtsOf_83.1
noncomputable def zr_dX6_hurtsOf_84 := zo_162 (k := 13)  (q := 87) zr_dX6_hurtsOf_83.2 (by decide +kernel) rfl
noncomputable def dX6_hurtsOf_84 := zr_dX6_hurtsOf_84.1
noncomputable def zr_dX6_hurtsOf_87 := zo_5 (q := 88) zr_dX6_hurtsOf_84.2 rfl
noncomputable def dX6_hurtsOf_87 := zr_dX6_hurtsOf_87.1
noncomputable def zr_dX6_hurtsOf_88 := zo_21 (k := 6)  (q := 90) zr_dX6_hurtsOf_87.2 rfl rfl
noncomputable def dX6_hurtsOf_88 := zr_dX6_hurtsOf_88.1
noncomputable def zr_dX6_hurtsOf_90 := zo_21 (k := 5)  (q := 92) zr_dX6_hurtsOf_88.2 rfl rfl
noncomputable def dX6_hurtsOf_90 := zr_dX6_hurtsOf_90.1
noncomputable def zr_dX6_hurtsOf_92 := zo_96 (q := 93) zr_dX6_hurtsOf_90.2 rfl
noncomputable def dX6_hurtsOf_92 := zr_dX6_hurtsOf_92.1
noncomputable def zr_dX6_hurtsOf_93 := zo_104 (q := 94) zr_dX6_hurtsOf_92.2 rfl
noncomputable def dX6_hurtsOf_93 := zr_dX6_hurtsOf_93.1
noncomputable def zr_dX6_hurtsOf_94 := zo_167 (k := 8)  (q := 97) zr_dX6_hurtsOf_93.2 (by decide +kernel) rfl
noncomputable def dX6_hurtsOf_94 := zr_dX6_hurtsOf_94.1
noncomputable def zr_dX6_hurtsOf_97 := zo_21 (k := 6)  (q := 99) zr_dX6_hurtsOf_94.2 rfl rfl
noncomputable def dX6_hurtsOf_97 := zr_dX6_hurtsOf_97.1
noncomputable def zr_dX6_hurtsOf_99 := zo_21 (k := 5)  (q := 101) zr_dX6_hurtsOf_97.2 rfl rfl
noncomputable def dX6_hurtsOf_99 := zr_dX6_hurtsOf_99.1
noncomputable def zr_dX6_hurtsOf_101 := zo_96 (q := 102) zr_dX6_hurtsOf_99.2 rfl
noncomputable def dX6_hurtsOf_101 := zr_dX6_hurtsOf_101.1
noncomputable def zr_dX6_hurtsOf_102 := zo_54 (k := 6)  (q := 104) zr_dX6_hurtsOf_101.2 rfl rfl
noncomputable def dX6_hurtsOf_102 := zr_dX6_hurtsOf_102.1
noncomputable def zr_dX6_hurtsOf_104 := zo_167 (k := 26)  (q := 107) zr_dX6_hurtsOf_102.2 (by decide +kernel) rfl
noncomputable def dX6_hurtsOf_104 := zr_dX6_hurtsOf_104.1
noncomputable def zr_dX6_hurtsOf_107 := zo_21 (k := 6)  (q := 109) zr_dX6_hurtsOf_104.2 rfl rfl
noncomputable def dX6_hurtsOf_107 := zr_dX6_hurtsOf_107.1
noncomputable def zr_dX6_hurtsOf_109 := zo_5 (q := 110) zr_dX6_hurtsOf_107.2 rfl
noncomputable def dX6_hurtsOf_109 := zr_dX6_hurtsOf_109.1
noncomputable def zr_dX6_hurtsOf_110 := zo_108 (q := 111) zr_dX6_hurtsOf_109.2 rfl
noncomputable def dX6_hurtsOf_110 := zr_dX6_hurtsOf_110.1
noncomputable def zr_dX6_hurtsOf_111 := zo_54 (k := 6)  (q := 113) zr_dX6_hurtsOf_110.2 rfl rfl
noncomputable def dX6_hurtsOf_111 := zr_dX6_hurtsOf_111.1
noncomputable def zr_dX6_hurtsOf_113 := zo_167 (k := 17)  (q := 116) zr_dX6_hurtsOf_111.2 (by decide +kernel) rfl
noncomputable def dX6_hurtsOf_113 := zr_dX6_hurtsOf_113.1
noncomputable def zr_dX6_hurtsOf_116 := zo_21 (k := 4)  (q := 118) zr_dX6_hurtsOf_113.2 rfl rfl
noncomputable def dX6_hurtsOf_116 := zr_dX6_hurtsOf_116.1
noncomputable def zr_dX6_hurtsOf_118 := zo_29 (q := 119) zr_dX6_hurtsOf_116.2 rfl
noncomputable def dX6_hurtsOf_118 := zr_dX6_hurtsOf_118.1
noncomputable def zr_dX6_hurtsOf_119 := zo_21 (k := 5)  (q := 121) zr_dX6_hurtsOf_118.2 rfl rfl
noncomputable def dX6_hurtsOf_119 := zr_dX6_hurtsOf_119.1
noncomputable def zr_dX6_hurtsOf_121 := zo_104 (q := 122) zr_dX6_hurtsOf_119.2 rfl
noncomputable def dX6_hurtsOf_121 := zr_dX6_hurtsOf_121.1
noncomputable def zr_dX6_hurtsOf_122 := zo_7 (q := 123) zr_dX6_hurtsOf_121.2 rfl
noncomputable def dX6_hurtsOf_122 := zr_dX6_hurtsOf_122.1
noncomputable def zr_dX6_hurtsOf_123 := zo_108 (q := 124) zr_dX6_hurtsOf_122.2 rfl
noncomputable def dX6_hurtsOf_123 := zr_dX6_hurtsOf_123.1
noncomputable def zr_dX6_hurtsOf_124 := zo_100 (q := 125) zr_dX6_hurtsOf_123.2 rfl
noncomputable def dX6_hurtsOf_124 := zr_dX6_hurtsOf_124.1
noncomputable def zr_dX6_hurtsOf_125 := zo_54 (k := 6)  (q := 127) zr_dX6_hurtsOf_124.2 rfl rfl
noncomputable def dX6_hurtsOf_125 := zr_dX6_hurtsOf_125.1
noncomputable def zr_dX6_hurtsOf_127 := zo_167 (k := 3)  (q := 130) zr_dX6_hurtsOf_125.2 (by decide +kernel) rfl
noncomputable def dX6_hurtsOf_127 := zr_dX6_hurtsOf_127.1
noncomputable def zr_dX6_hurtsOf_130 := zo_21 (k := 6)  (q := 132) zr_dX6_hurtsOf_127.2 rfl rfl
noncomputable def dX6_hurtsOf_130 := zr_dX6_hurtsOf_130.1
noncomputable def zr_dX6_hurtsOf_132 := zo_156 (k := 7)  (q := 135) zr_dX6_hurtsOf_130.2 (by decide +kernel) rfl
noncomputable def dX6_hurtsOf_132 := zr_dX6_hurtsOf_132.1
noncomputable def zr_dX6_hurtsOf_135 := zo_3 (q := 136) zr_dX6_hurtsOf_132.2 rfl
noncomputable def dX6_hurtsOf_135 := zr_dX6_hurtsOf_135.1
noncomputable def zr_dX6_hurtsOf_136 := zo_167 (k := 5)  (q := 139) zr_dX6_hurtsOf_135.2 (by decide +kernel) rfl
noncomputable def dX6_hurtsOf_136 := zr_dX6_hurtsOf_136.1
noncomputable def zr_dX6_hurtsOf_139 := zo_21 (k := 6)  (q := 141) zr_dX6_hurtsOf_136.2 rfl rfl
noncomputable def dX6_hurtsOf_139 := zr_dX6_hurtsOf_139.1
noncomputable def zr_dX6_hurtsOf_141 := zo_172 (q := 142) zr_dX6_hurtsOf_139.2 rfl
noncomputable def dX6_hurtsOf_141 := zr_dX6_hurtsOf_141.1
theorem zs_dX6_wearsOf_0 : zsuf cX6_wearsOf 0 cX6_wearsOf.data.toList := rfl
noncomputable def zr_dX6_wearsOf_0 := zo_42 (q := 1) zs_dX6_wearsOf_0 rfl
noncomputable def dX6_wearsOf_0 := zr_dX6_wearsOf_0.1
noncomputable def zr_dX6_wearsOf_1 := zo_4 (q := 2) zr_dX6_wearsOf_0.2 rfl
noncomputable def dX6_wearsOf_1 := zr_dX6_wearsOf_1.1
noncomputable def zr_dX6_wearsOf_2 := zo_27 (q := 3) zr_dX6_wearsOf_1.2 rfl
noncomputable def dX6_wearsOf_2 := zr_dX6_wearsOf_2.1
noncomputable def zr_dX6_wearsOf_3 := zo_28 (q := 4) zr_dX6_wearsOf_2.2 rfl
noncomputable def dX6_wearsOf_3 := zr_dX6_wearsOf_3.1
noncomputable def zr_dX6_wearsOf_4 := zo_182 (k := 180)  (q := 7) zr_dX6_wearsOf_3.2 rfl rfl
noncomputable def dX6_wearsOf_4 := zr_dX6_wearsOf_4.1
noncomputable def zr_dX6_wearsOf_7 := zo_62 (q := 8) zr_dX6_wearsOf_4.2 rfl
noncomputable def dX6_wearsOf_7 := zr_dX6_wearsOf_7.1
noncomputable def zr_dX6_wearsOf_8 := zo_42 (q := 9) zr_dX6_wearsOf_7.2 rfl
noncomputable def dX6_wearsOf_8 := zr_dX6_wearsOf_8.1
noncomputable def zr_dX6_wearsOf_9 := zo_180 (k := 7)  (q := 12) zr_dX6_wearsOf_8.2 rfl rfl
noncomputable def dX6_wearsOf_9 := zr_dX6_wearsOf_9.1
noncomputable def zr_dX6_wearsOf_12 := zo_28 (q := 13) zr_dX6_wearsOf_9.2 rfl
noncomputable def dX6_wearsOf_12 := zr_dX6_wearsOf_12.1
noncomputable def zr_dX6_wearsOf_13 := zo_46 (q := 14) zr_dX6_wearsOf_12.2 rfl
noncomputable def dX6_wearsOf_13 := zr_dX6_wearsOf_13.1
theorem dX6_wearsOf_14 : zD cX6_wearsOf 14 (.tableswitch 47 2 4 #[26, 30, 34]) 26 := by decide +kernel
noncomputable def zr_dX6_wearsOf_14 := zskip zr_dX6_wearsOf_13.2 26 (q := 40) rfl
noncomputable def zr_dX6_wearsOf_40 := zo_5 (q := 41) zr_dX6_wearsOf_14 rfl
noncomputable def dX6_wearsOf_40 := zr_dX6_wearsOf_40.1
noncomputable def zr_dX6_wearsOf_41 := zo_29 (q := 42) zr_dX6_wearsOf_40.2 rfl
noncomputable def dX6_wearsOf_41 := zr_dX6_wearsOf_41.1
noncomputable def zr_dX6_wearsOf_42 := zo_104 (q := 43) zr_dX6_wearsOf_41.2 rfl
noncomputable def dX6_wearsOf_42 := zr_dX6_wearsOf_42.1
noncomputable def zr_dX6_wearsOf_43 := zo_172 (q := 44) zr_dX6_wearsOf_42.2 rfl
noncomputable def dX6_wearsOf_43 := zr_dX6_wearsOf_43.1
noncomputable def zr_dX6_wearsOf_44 := zo_29 (q := 45) zr_dX6_wearsOf_43.2 rfl
noncomputable def dX6_wearsOf_44 := zr_dX6_wearsOf_44.1
noncomputable def zr_dX6_wearsOf_45 := zo_5 (q := 46) zr_dX6_wearsOf_44.2 rfl
noncomputable def dX6_wearsOf_45 := zr_dX6_wearsOf_45.1
noncomputable def zr_dX6_wearsOf_46 := zo_108 (q := 47) zr_dX6_wearsOf_45.2 rfl
noncomputable def dX6_wearsOf_46 := zr_dX6_wearsOf_46.1
noncomputable def zr_dX6_wearsOf_47 := zo_172 (q := 48) zr_dX6_wearsOf_46.2 rfl
noncomputable def dX6_wearsOf_47 := zr_dX6_wearsOf_47.1
noncomputable def zr_dX6_wearsOf_48 := zo_29 (q := 49) zr_dX6_wearsOf_47.2 rfl
noncomputable def dX6_wearsOf_48 := zr_dX6_wearsOf_48.1
noncomputable def zr_dX6_wearsOf_49 := zo_8 (q := 50) zr_dX6_wearsOf_48.2 rfl
noncomputable def dX6_wearsOf_49 := zr_dX6_wearsOf_49.1
noncomputable def zr_dX6_wearsOf_50 := zo_163 (k := 7)  (q := 53) zr_dX6_wearsOf_49.2 (by decide +kernel) rfl
noncomputable def dX6_wearsOf_50 := zr_dX6_wearsOf_50.1
noncomputable def zr_dX6_wearsOf_53 := zo_3 (q := 54) zr_dX6_wearsOf_50.2 rfl
noncomputable def dX6_wearsOf_53 := zr_dX6_wearsOf_53.1
noncomputable def zr_dX6_wearsOf_54 := zo_167 (k := 6)  (q := 57) zr_dX6_wearsOf_53.2 (by decide +kernel) rfl
noncomputable def dX6_wearsOf_54 := zr_dX6_wearsOf_54.1
noncomputable def zr_dX6_wearsOf_57 := zo_5 (q := 58) zr_dX6_wearsOf_54.2 rfl
noncomputable def dX6_wearsOf_57 := zr_dX6_wearsOf_57.1
noncomputable def zr_dX6_wearsOf_58 := zo_29 (q := 59) zr_dX6_wearsOf_57.2 rfl
noncomputable def dX6_wearsOf_58 := zr_dX6_wearsOf_58.1
noncomputable def zr_dX6_wearsOf_59 := zo_104 (q := 60) zr_dX6_wearsOf_58.2 rfl
noncomputable def dX6_wearsOf_59 := zr_dX6_wearsOf_59.1
noncomputable def zr_dX6_wearsOf_60 := zo_172 (q := 61) zr_dX6_wearsOf_59.2 rfl
noncomputable def dX6_wearsOf_60 := zr_dX6_wearsOf_60.1
noncomputable def zr_dX6_wearsOf_61 := zo_29 (q := 62) zr_dX6_wearsOf_60.2 rfl
noncomputable def dX6_wearsOf_61 := zr_dX6_wearsOf_61.1
noncomputable def zr_dX6_wearsOf_62 := zo_172 (q := 63) zr_dX6_wearsOf_61.2 rfl
noncomputable def dX6_wearsOf_62 := zr_dX6_wearsOf_62.1
theorem zs_dX6_mile_0 : zsuf cX6_mile 0 cX6_mile.data.toList := rfl
noncomputable def zr_dX6_mile_0 := zo_3 (q := 1) zs_dX6_mile_0 rfl
noncomputable def dX6_mile_0 := zr_dX6_mile_0.1
noncomputable def zr_dX6_mile_1 := zo_54 (k := 4)  (q := 3) zr_dX6_mile_0.2 rfl rfl
noncomputable def dX6_mile_1 := zr_dX6_mile_1.1
noncomputable def zr_dX6_mile_3 := zo_42 (q := 4) zr_dX6_mile_1.2 rfl
noncomputable def dX6_mile_3 := zr_dX6_mile_3.1
noncomputable def zr_dX6_mile_4 := zo_28 (q := 5) zr_dX6_mile_3.2 rfl
noncomputable def dX6_mile_4 := zr_dX6_mile_4.1
noncomputable def zr_dX6_mile_5 := zo_182 (k := 183)  (q := 8) zr_dX6_mile_4.2 rfl rfl
noncomputable def dX6_mile_5 := zr_dX6_mile_5.1
noncomputable def zr_dX6_mile_8 := zo_154 (k := 75)  (q := 11) zr_dX6_mile_5.2 (by decide +kernel) rfl
noncomputable def dX6_mile_8 := zr_dX6_mile_8.1
noncomputable def zr_dX6_mile_11 := zo_42 (q := 12) zr_dX6_mile_8.2 rfl
noncomputable def dX6_mile_11 := zr_dX6_mile_11.1
noncomputable def zr_dX6_mile_12 := zo_27 (q := 13) zr_dX6_mile_11.2 rfl
noncomputable def dX6_mile_12 := zr_dX6_mile_12.1
noncomputable def zr_dX6_mile_13 := zo_28 (q := 14) zr_dX6_mile_12.2 rfl
noncomputable def dX6_mile_13 := zr_dX6_mile_13.1
noncomputable def zr_dX6_mile_14 := zo_182 (k := 186)  (q := 17) zr_dX6_mile_13.2 rfl rfl
noncomputable def dX6_mile_14 := zr_dX6_mile_14.1
noncomputable def zr_dX6_mile_17 := zo_54 (k := 4)  (q := 19) zr_dX6_mile_14.2 rfl rfl
noncomputable def dX6_mile_17 := zr_dX6_mile_17.1
noncomputable def zr_dX6_mile_19 := zo_42 (q := 20) zr_dX6_mile_17.2 rfl
noncomputable def dX6_mile_19 := zr_dX6_mile_19.1
noncomputable def zr_dX6_mile_20 := zo_27 (q := 21) zr_dX6_mile_19.2 rfl
noncomputable def dX6_mile_20 := zr_dX6_mile_20.1
noncomputable def zr_dX6_mile_21 := zo_28 (q := 22) zr_dX6_mile_20.2 rfl
noncomputable def dX6_mile_21 := zr_dX6_mile_21.1
noncomputable def zr_dX6_mile_22 := zo_182 (k := 189)  (q := 25) zr_dX6_mile_21.2 rfl rfl
noncomputable def dX6_mile_22 := zr_dX6_mile_22.1
noncomputable def zr_dX6_mile_25 := zo_29 (q := 26) zr_dX6_mile_22.2 rfl
noncomputable def dX6_mile_25 := zr_dX6_mile_25.1
noncomputable def zr_dX6_mile_26 := zo_96 (q := 27) zr_dX6_mile_25.2 rfl
noncomputable def dX6_mile_26 := zr_dX6_mile_26.1
noncomputable def zr_dX6_mile_27 := zo_54 (k := 5)  (q := 29) zr_dX6_mile_26.2 rfl rfl
noncomputable def dX6_mile_27 := zr_dX6_mile_27.1
noncomputable def zr_dX6_mile_29 := zo_42 (q := 30) zr_dX6_mile_27.2 rfl
noncomputable def dX6_mile_29 := zr_dX6_mile_29.1
noncomputable def zr_dX6_mile_30 := zo_180 (k := 19)  (q := 33) zr_dX6_mile_29.2 rfl rfl
noncomputable def dX6_mile_30 := zr_dX6_mile_30.1
noncomputable def zr_dX6_mile_33 := zo_6 (q := 34) zr_dX6_mile_30.2 rfl
noncomputable def dX6_mile_33 := zr_dX6_mile_33.1
noncomputable def zr_dX6_mile_34 := zo_27 (q := 35) zr_dX6_mile_33.2 rfl
noncomputable def dX6_mile_34 := zr_dX6_mile_34.1
noncomputable def zr_dX6_mile_35 := zo_104 (q := 36) zr_dX6_mile_34.2 rfl
noncomputable def dX6_mile_35 := zr_dX6_mile_35.1
noncomputable def zr_dX6_mile_36 := zo_5 (q := 37) zr_dX6_mile_35.2 rfl
noncomputable def dX6_mile_36 := zr_dX6_mile_36.1
noncomputable def zr_dX6_mile_37 := zo_96 (q := 38) zr_dX6_mile_36.2 rfl
noncomputable def dX6_mile_37 := zr_dX6_mile_37.1
noncomputable def zr_dX6_mile_38 := zo_42 (q := 39) zr_dX6_mile_37.2 rfl
noncomputable def dX6_mile_38 := zr_dX6_mile_38.1
noncomputable def zr_dX6_mile_39 := zo_180 (k := 19)  (q := 42) zr_dX6_mile_38.2 rfl rfl
noncomputable def dX6_mile_39 := zr_dX6_mile_39.1
noncomputable def zr_dX6_mile_42 := zo_6 (q := 43) zr_dX6_mile_39.2 rfl
noncomputable def dX6_mile_42 := zr_dX6_mile_42.1
noncomputable def zr_dX6_mile_43 := zo_27 (q := 44) zr_dX6_mile_42.2 rfl
noncomputable def dX6_mile_43 := zr_dX6_mile_43.1
noncomputable def zr_dX6_mile_44 := zo_104 (q := 45) zr_dX6_mile_43.2 rfl
noncomputable def dX6_mile_44 := zr_dX6_mile_44.1
noncomputable def zr_dX6_mile_45 := zo_5 (q := 46) zr_dX6_mile_44.2 rfl
noncomputable def dX6_mile_45 := zr_dX6_mile_45.1
noncomputable def zr_dX6_mile_46 := zo_96 (q := 47) zr_dX6_mile_45.2 rfl
noncomputable def dX6_mile_46 := zr_dX6_mile_46.1
noncomputable def zr_dX6_mile_47 := zo_46 (q := 48) zr_dX6_mile_46.2 rfl
noncomputable def dX6_mile_47 := zr_dX6_mile_47.1
noncomputable def zr_dX6_mile_48 := zo_21 (k := 4)  (q := 50) zr_dX6_mile_47.2 rfl rfl
noncomputable def dX6_mile_48 := zr_dX6_mile_48.1
noncomputable def zr_dX6_mile_50 := zo_96 (q := 51) zr_dX6_mile_48.2 rfl
noncomputable def dX6_mile_50 := zr_dX6_mile_50.1
noncomputable def zr_dX6_mile_51 := zo_3 (q := 52) zr_dX6_mile_50.2 rfl
noncomputable def dX6_mile_51 := zr_dX6_mile_51.1
noncomputable def zr_dX6_mile_52 := zo_18 (k := 192)  (q := 54) zr_dX6_mile_51.2 rfl rfl
noncomputable def dX6_mile_52 := zr_dX6_mile_52.1
noncomputable def zr_dX6_mile_54 := zo_184 (k := 174)  (q := 57) zr_dX6_mile_52.2 rfl rfl
noncomputable def dX6_mile_54 := zr_dX6_mile_54.1
noncomputable def zr_dX6_mile_57 := zo_79 (q := 58) zr_dX6_mile_54.2 rfl
noncomputable def dX6_mile_57 := zr_dX6_mile_57.1
noncomputable def zr_dX6_mile_58 := zo_42 (q := 59) zr_dX6_mile_57.2 rfl
noncomputable def dX6_mile_58 := zr_dX6_mile_58.1
noncomputable def zr_dX6_mile_59 := zo_180 (k := 16)  (q := 62) zr_dX6_mile_58.2 rfl rfl
noncomputable def dX6_mile_59 := zr_dX6_mile_59.1
noncomputable def zr_dX6_mile_62 := zo_5 (q := 63) zr_dX6_mile_59.2 rfl
noncomputable def dX6_mile_62 := zr_dX6_mile_62.1
noncomputable def zr_dX6_mile_63 := zo_28 (q := 64) zr_dX6_mile_62.2 rfl
noncomputable def dX6_mile_63 := zr_dX6_mile_63.1
noncomputable def zr_dX6_mile_64 := zo_104 (q := 65) zr_dX6_mile_63.2 rfl
noncomputable def dX6_mile_64 := zr_dX6_mile_64.1
noncomputable def zr_dX6_mile_65 := zo_42 (q := 66) zr_dX6_mile_64.2 rfl
noncomputable def dX6_mile_65 := zr_dX6_mile_65.1
noncomputable def zr_dX6_mile_66 := zo_180 (k := 16)  (q := 69) zr_dX6_mile_65.2 rfl rfl
noncomputable def dX6_mile_66 := zr_dX6_mile_66.1
noncomputable def zr_dX6_mile_69 := zo_5 (q := 70) zr_dX6_mile_66.2 rfl
noncomputable def dX6_mile_69 := zr_dX6_mile_69.1
noncomputable def zr_dX6_mile_70 := zo_28 (q := 71) zr_dX6_mile_69.2 rfl
noncomputable def dX6_mile_70 := zr_dX6_mile_70.1
noncomputable def zr_dX6_mile_71 := zo_104 (q := 72) zr_dX6_mile_70.2 rfl
noncomputable def dX6_mile_71 := zr_dX6_mile_71.1
noncomputable def zr_dX6_mile_72 := zo_46 (q := 73) zr_dX6_mile_71.2 rfl
noncomputable def dX6_mile_72 := zr_dX6_mile_72.1
noncomputable def zr_dX6_mile_73 := zo_21 (k := 5)  (q := 75) zr_dX6_mile_72.2 rfl rfl
noncomputable def dX6_mile_73 := zr_dX6_mile_73.1
noncomputable def zr_dX6_mile_75 := zo_100 (q := 76) zr_dX6_mile_73.2 rfl
noncomputable def dX6_mile_75 := zr_dX6_mile_75.1
noncomputable def zr_dX6_mile_76 := zo_3 (q := 77) zr_dX6_mile_75.2 rfl
noncomputable def dX6_mile_76 := zr_dX6_mile_76.1
noncomputable def zr_dX6_mile_77 := zo_16 (k := 99)  (q := 79) zr_dX6_mile_76.2 (by decide +kernel) rfl
noncomputable def dX6_mile_77 := zr_dX6_mile_77.1
noncomputable def zr_dX6_mile_79 := zo_184 (k := 174)  (q := 82) zr_dX6_mile_77.2 rfl rfl
noncomputable def dX6_mile_79 := zr_dX6_mile_79.1
noncomputable def zr_dX6_mile_82 := zo_79 (q := 83) zr_dX6_mile_79.2 rfl
noncomputable def dX6_mile_82 := zr_dX6_mile_82.1
noncomputable def zr_dX6_mile_83 := zo_42 (q := 84) zr_dX6_mile_82.2 rfl
noncomputable def dX6_mile_83 := zr_dX6_mile_83.1
noncomputable def zr_dX6_mile_84 := zo_180 (k := 19)  (q := 87) zr_dX6_mile_83.2 rfl rfl
noncomputable def dX6_mile_84 := zr_dX6_mile_84.1
noncomputable def zr_dX6_mile_87 := zo_6 (q := 88) zr_dX6_mile_84.2 rfl
noncomputable def dX6_mile_87 := zr_dX6_mile_87.1
noncomputable def zr_dX6_mile_88 := zo_27 (q := 89) zr_dX6_mile_87.2 rfl
noncomputable def dX6_mile_88 := zr_dX6_mile_88.1
noncomputable def zr_dX6_mile_89 := zo_104 (q := 90) zr_dX6_mile_88.2 rfl
noncomputable def dX6_mile_89 := zr_dX6_mile_89.1
noncomputable def zr_dX6_mile_90 := zo_4 (q := 91) zr_dX6_mile_89.2 rfl
noncomputable def dX6_mile_90 := zr_dX6_mile_90.1
noncomputable def zr_dX6_mile_91 := zo_96 (q := 92) zr_dX6_mile_90.2 rfl
noncomputable def dX6_mile_91 := zr_dX6_mile_91.1
noncomputable def zr_dX6_mile_92 := zo_92 (q := 93) zr_dX6_mile_91.2 rfl
noncomputable def dX6_mile_92 := zr_dX6_mile_92.1
noncomputable def zr_dX6_mile_93 := zo_46 (q := 94) zr_dX6_mile_92.2 rfl
noncomputable def dX6_mile_93 := zr_dX6_mile_93.1
noncomputable def zr_dX6_mile_94 := zo_4 (q := 95) zr_dX6_mile_93.2 rfl
noncomputable def dX6_mile_94 := zr_dX6_mile_94.1
noncomputable def zr_dX6_mile_95 := zo_96 (q := 96) zr_dX6_mile_94.2 rfl
noncomputable def dX6_mile_95 := zr_dX6_mile_95.1
noncomputable def zr_dX6_mile_96 := zo_79 (q := 97) zr_dX6_mile_95.2 rfl
noncomputable def dX6_mile_96 := zr_dX6_mile_96.1
noncomputable def zr_dX6_mile_97 := zo_42 (q := 98) zr_dX6_mile_96.2 rfl
noncomputable def dX6_mile_97 := zr_dX6_mile_97.1
noncomputable def zr_dX6_mile_98 := zo_180 (k := 19)  (q := 101) zr_dX6_mile_97.2 rfl rfl
noncomputable def dX6_mile_98 := zr_dX6_mile_98.1
noncomputable def zr_dX6_mile_101 := zo_6 (q := 102) zr_dX6_mile_98.2 rfl
noncomputable def dX6_mile_101 := zr_dX6_mile_101.1
noncomputable def zr_dX6_mile_102 := zo_27 (q := 103) zr_dX6_mile_101.2 rfl
noncomputable def dX6_mile_102 := zr_dX6_mile_102.1
noncomputable def zr_dX6_mile_103 := zo_104 (q := 104) zr_dX6_mile_102.2 rfl
noncomputable def dX6_mile_103 := zr_dX6_mile_103.1
noncomputable def zr_dX6_mile_104 := zo_42 (q := 105) zr_dX6_mile_103.2 rfl
noncomputable def dX6_mile_104 := zr_dX6_mile_104.1
noncomputable def zr_dX6_mile_105 := zo_180 (k := 19)  (q := 108) zr_dX6_mile_104.2 rfl rfl
noncomputable def dX6_mile_105 := zr_dX6_mile_105.1
noncomputable def zr_dX6_mile_108 := zo_6 (q := 109) zr_dX6_mile_105.2 rfl
noncomputable def dX6_mile_108 := zr_dX6_mile_108.1
noncomputable def zr_dX6_mile_109 := zo_27 (q := 110) zr_dX6_mile_108.2 rfl
noncomputable def dX6_mile_109 := zr_dX6_mile_109.1
noncomputable def zr_dX6_mile_110 := zo_104 (q := 111) zr_dX6_mile_109.2 rfl
noncomputable def dX6_mile_110 := zr_dX6_mile_110.1
noncomputable def zr_dX6_mile_111 := zo_4 (q := 112) zr_dX6_mile_110.2 rfl
noncomputable def dX6_mile_111 := zr_dX6_mile_111.1
noncomputable def zr_dX6_mile_112 := zo_96 (q := 113) zr_dX6_mile_111.2 rfl
noncomputable def dX6_mile_112 := zr_dX6_mile_112.1
noncomputable def zr_dX6_mile_113 := zo_46 (q := 114) zr_dX6_mile_112.2 rfl
noncomputable def dX6_mile_113 := zr_dX6_mile_113.1
noncomputable def zr_dX6_mile_114 := zo_16 (k := 10)  (q := 116) zr_dX6_mile_113.2 (by decide +kernel) rfl
noncomputable def dX6_mile_114 := zr_dX6_mile_114.1
noncomputable def zr_dX6_mile_116 := zo_112 (q := 117) zr_dX6_mile_114.2 rfl
noncomputable def dX6_mile_116 := zr_dX6_mile_116.1
noncomputable def zr_dX6_mile_117 := zo_154 (k := 22)  (q := 120) zr_dX6_mile_116.2 (by decide +kernel) rfl
noncomputable def dX6_mile_117 := zr_dX6_mile_117.1
noncomputable def zr_dX6_mile_120 := zo_42 (q := 121) zr_dX6_mile_117.2 rfl
noncomputable def dX6_mile_120 := zr_dX6_mile_120.1
noncomputable def zr_dX6_mile_121 := zo_180 (k := 19)  (q := 124) zr_dX6_mile_120.2 rfl rfl
noncomputable def dX6_mile_121 := zr_dX6_mile_121.1
noncomputable def zr_dX6_mile_124 := zo_6 (q := 125) zr_dX6_mile_121.2 rfl
noncomputable def dX6_mile_124 := zr_dX6_mile_124.1
noncomputable def zr_dX6_mile_125 := zo_27 (q := 126) zr_dX6_mile_124.2 rfl
noncomputable def dX6_mile_125 := zr_dX6_mile_125.1
noncomputable def zr_dX6_mile_126 := zo_104 (q := 127) zr_dX6_mile_125.2 rfl
noncomputable def dX6_mile_126 := zr_dX6_mile_126.1
noncomputable def zr_dX6_mile_127 := zo_46 (q := 128) zr_dX6_mile_126.2 rfl
noncomputable def dX6_mile_127 := zr_dX6_mile_127.1
noncomputable def zr_dX6_mile_128 := zo_4 (q := 129) zr_dX6_mile_127.2 rfl
noncomputable def dX6_mile_128 := zr_dX6_mile_128.1
noncomputable def zr_dX6_mile_129 := zo_96 (q := 130) zr_dX6_mile_128.2 rfl
noncomputable def dX6_mile_129 := zr_dX6_mile_129.1
noncomputable def zr_dX6_mile_130 := zo_3 (q := 131) zr_dX6_mile_129.2 rfl
noncomputable def dX6_mile_130 := zr_dX6_mile_130.1
noncomputable def zr_dX6_mile_131 := zo_16 (k := 20)  (q := 133) zr_dX6_mile_130.2 (by decide +kernel) rfl
noncomputable def dX6_mile_131 := zr_dX6_mile_131.1
noncomputable def zr_dX6_mile_133 := zo_184 (k := 174)  (q := 136) zr_dX6_mile_131.2 rfl rfl
noncomputable def dX6_mile_133 := zr_dX6_mile_133.1
noncomputable def zr_dX6_mile_136 := zo_167 (k := 11)  (q := 139) zr_dX6_mile_133.2 (by decide +kernel) rfl
noncomputable def dX6_mile_136 := zr_dX6_mile_136.1
noncomputable def zr_dX6_mile_139 := zo_42 (q := 140) zr_dX6_mile_136.2 rfl
noncomputable def dX6_mile_139 := zr_dX6_mile_139.1
noncomputable def zr_dX6_mile_140 := zo_180 (k := 19)  (q := 143) zr_dX6_mile_139.2 rfl rfl
noncomputable def dX6_mile_140 := zr_dX6_mile_140.1
noncomputable def zr_dX6_mile_143 := zo_6 (q := 144) zr_dX6_mile_140.2 rfl
noncomputable def dX6_mile_143 := zr_dX6_mile_143.1
noncomputable def zr_dX6_mile_144 := zo_27 (q := 145) zr_dX6_mile_143.2 rfl
noncomputable def dX6_mile_144 := zr_dX6_mile_144.1
noncomputable def zr_dX6_mile_145 := zo_104 (q := 146) zr_dX6_mile_144.2 rfl
noncomputable def dX6_mile_145 := zr_dX6_mile_145.1
noncomputable def zr_dX6_mile_146 := zo_46 (q := 147) zr_dX6_mile_145.2 rfl
noncomputable def dX6_mile_146 := zr_dX6_mile_146.1
noncomputable def zr_dX6_mile_147 := zo_79 (q := 148) zr_dX6_mile_146.2 rfl
noncomputable def dX6_mile_147 := zr_dX6_mile_147.1
noncomputable def zr_dX6_mile_148 := zo_21 (k := 4)  (q := 150) zr_dX6_mile_147.2 rfl rfl
noncomputable def dX6_mile_148 := zr_dX6_mile_148.1
noncomputable def zr_dX6_mile_150 := zo_172 (q := 151) zr_dX6_mile_148.2 rfl
noncomputable def dX6_mile_150 := zr_dX6_mile_150.1
theorem zs_dX6_caseOf_0 : zsuf cX6_caseOf 0 cX6_caseOf.data.toList := rfl
noncomputable def zr_dX6_caseOf_0 := zo_3 (q := 1) zs_dX6_caseOf_0 rfl
noncomputable def dX6_caseOf_0 := zr_dX6_caseOf_0.1
noncomputable def zr_dX6_caseOf_1 := zo_54 (k := 4)  (q := 3) zr_dX6_caseOf_0.2 rfl rfl
noncomputable def dX6_caseOf_1 := zr_dX6_caseOf_1.1
noncomputable def zr_dX6_caseOf_3 := zo_3 (q := 4) zr_dX6_caseOf_1.2 rfl
noncomputable def dX6_caseOf_3 := zr_dX6_caseOf_3.1
noncomputable def zr_dX6_caseOf_4 := zo_54 (k := 5)  (q := 6) zr_dX6_caseOf_3.2 rfl rfl
noncomputable def dX6_caseOf_4 := zr_dX6_caseOf_4.1
noncomputable def zr_dX6_caseOf_6 := zo_21 (k := 5)  (q := 8) zr_dX6_caseOf_4.2 rfl rfl
noncomputable def dX6_caseOf_6 := zr_dX6_caseOf_6.1
noncomputable def zr_dX6_caseOf_8 := zo_29 (q := 9) zr_dX6_caseOf_6.2 rfl
noncomputable def dX6_caseOf_8 := zr_dX6_caseOf_8.1
noncomputable def zr_dX6_caseOf_9 := zo_162 (k := 21)  (q := 12) zr_dX6_caseOf_8.2 (by decide +kernel) rfl
noncomputable def dX6_caseOf_9 := zr_dX6_caseOf_9.1
noncomputable def zr_dX6_caseOf_12 := zo_21 (k := 4)  (q := 14) zr_dX6_caseOf_9.2 rfl rfl
noncomputable def dX6_caseOf_12 := zr_dX6_caseOf_12.1
noncomputable def zr_dX6_caseOf_14 := zo_42 (q := 15) zr_dX6_caseOf_12.2 rfl
noncomputable def dX6_caseOf_14 := zr_dX6_caseOf_14.1
noncomputable def zr_dX6_caseOf_15 := zo_27 (q := 16) zr_dX6_caseOf_14.2 rfl
noncomputable def dX6_caseOf_15 := zr_dX6_caseOf_15.1
noncomputable def zr_dX6_caseOf_16 := zo_28 (q := 17) zr_dX6_caseOf_15.2 rfl
noncomputable def dX6_caseOf_16 := zr_dX6_caseOf_16.1
noncomputable def zr_dX6_caseOf_17 := zo_3 (q := 18) zr_dX6_caseOf_16.2 rfl
noncomputable def dX6_caseOf_17 := zr_dX6_caseOf_17.1
noncomputable def zr_dX6_caseOf_18 := zo_182 (k := 193)  (q := 21) zr_dX6_caseOf_17.2 rfl rfl
noncomputable def dX6_caseOf_18 := zr_dX6_caseOf_18.1
noncomputable def zr_dX6_caseOf_21 := zo_96 (q := 22) zr_dX6_caseOf_18.2 rfl
noncomputable def dX6_caseOf_21 := zr_dX6_caseOf_21.1
noncomputable def zr_dX6_caseOf_22 := zo_54 (k := 4)  (q := 24) zr_dX6_caseOf_21.2 rfl rfl
noncomputable def dX6_caseOf_22 := zr_dX6_caseOf_22.1
noncomputable def zr_dX6_caseOf_24 := zo_132 (k := 5) (o := 1)  (q := 27) zr_dX6_caseOf_22.2 rfl (by decide +kernel) rfl
noncomputable def dX6_caseOf_24 := zr_dX6_caseOf_24.1
noncomputable def zr_dX6_caseOf_27 := zo_167 (k := -21)  (q := 30) zr_dX6_caseOf_24.2 (by decide +kernel) rfl
noncomputable def dX6_caseOf_27 := zr_dX6_caseOf_27.1
noncomputable def zr_dX6_caseOf_30 := zo_21 (k := 4)  (q := 32) zr_dX6_caseOf_27.2 rfl rfl
noncomputable def dX6_caseOf_30 := zr_dX6_caseOf_30.1
noncomputable def zr_dX6_caseOf_32 := zo_172 (q := 33) zr_dX6_caseOf_30.2 rfl
noncomputable def dX6_caseOf_32 := zr_dX6_caseOf_32.1
theorem zs_dX6_walk_0 : zsuf cX6_walk 0 cX6_walk.data.toList := rfl
noncomputable def zr_dX6_walk_0 := zo_42 (q := 1) zs_dX6_walk_0 rfl
noncomputable def dX6_walk_0 := zr_dX6_walk_0.1
noncomputable def zr_dX6_walk_1 := zo_27 (q := 2) zr_dX6_walk_0.2 rfl
noncomputable def dX6_walk_1 := zr_dX6_walk_1.1
noncomputable def zr_dX6_walk_2 := zo_182 (k := 104)  (q := 5) zr_dX6_walk_1.2 rfl rfl
noncomputable def dX6_walk_2 := zr_dX6_walk_2.1
noncomputable def zr_dX6_walk_5 := zo_153 (k := 11)  (q := 8) zr_dX6_walk_2.2 (by decide +kernel) rfl
noncomputable def dX6_walk_5 := zr_dX6_walk_5.1
noncomputable def zr_dX6_walk_8 := zo_42 (q := 9) zr_dX6_walk_5.2 rfl
noncomputable def dX6_walk_8 := zr_dX6_walk_8.1
noncomputable def zr_dX6_walk_9 := zo_28 (q := 10) zr_dX6_walk_8.2 rfl
noncomputable def dX6_walk_9 := zr_dX6_walk_9.1
noncomputable def zr_dX6_walk_10 := zo_182 (k := 177)  (q := 13) zr_dX6_walk_9.2 rfl rfl
noncomputable def dX6_walk_10 := zr_dX6_walk_10.1
noncomputable def zr_dX6_walk_13 := zo_154 (k := 6)  (q := 16) zr_dX6_walk_10.2 (by decide +kernel) rfl
noncomputable def dX6_walk_13 := zr_dX6_walk_13.1
noncomputable def zr_dX6_walk_16 := zo_16 (k := -5)  (q := 18) zr_dX6_walk_13.2 (by decide +kernel) rfl
noncomputable def dX6_walk_16 := zr_dX6_walk_16.1
noncomputable def zr_dX6_walk_18 := zo_172 (q := 19) zr_dX6_walk_16.2 rfl
noncomputable def dX6_walk_18 := zr_dX6_walk_18.1
noncomputable def zr_dX6_walk_19 := zo_29 (q := 20) zr_dX6_walk_18.2 rfl
noncomputable def dX6_walk_19 := zr_dX6_walk_19.1
noncomputable def zr_dX6_walk_20 := zo_184 (k := 196)  (q := 23) zr_dX6_walk_19.2 rfl rfl
noncomputable def dX6_walk_20 := zr_dX6_walk_20.1
noncomputable def zr_dX6_walk_23 := zo_154 (k := 6)  (q := 26) zr_dX6_walk_20.2 (by decide +kernel) rfl
noncomputable def dX6_walk_23 := zr_dX6_walk_23.1
noncomputable def zr_dX6_walk_26 := zo_16 (k := -7)  (q := 28) zr_dX6_walk_23.2 (by decide +kernel) rfl
noncomputable def dX6_walk_26 := zr_dX6_walk_26.1
noncomputable def zr_dX6_walk_28 := zo_172 (q := 29) zr_dX6_walk_26.2 rfl
noncomputable def dX6_walk_28 := zr_dX6_walk_28.1
noncomputable def zr_dX6_walk_29 := zo_42 (q := 30) zr_dX6_walk_28.2 rfl
noncomputable def dX6_walk_29 := zr_dX6_walk_29.1
noncomputable def zr_dX6_walk_30 := zo_180 (k := 19)  (q := 33) zr_dX6_walk_29.2 rfl rfl
noncomputable def dX6_walk_30 := zr_dX6_walk_30.1
noncomputable def zr_dX6_walk_33 := zo_6 (q := 34) zr_dX6_walk_30.2 rfl
noncomputable def dX6_walk_33 := zr_dX6_walk_33.1
noncomputable def zr_dX6_walk_34 := zo_27 (q := 35) zr_dX6_walk_33.2 rfl
noncomputable def dX6_walk_34 := zr_dX6_walk_34.1
noncomputable def zr_dX6_walk_35 := zo_104 (q := 36) zr_dX6_walk_34.2 rfl
noncomputable def dX6_walk_35 := zr_dX6_walk_35.1
noncomputable def zr_dX6_walk_36 := zo_4 (q := 37) zr_dX6_walk_35.2 rfl
noncomputable def dX6_walk_36 := zr_dX6_walk_36.1
noncomputable def zr_dX6_walk_37 := zo_96 (q := 38) zr_dX6_walk_36.2 rfl
noncomputable def dX6_walk_37 := zr_dX6_walk_37.1
noncomputable def zr_dX6_walk_38 := zo_46 (q := 39) zr_dX6_walk_37.2 rfl
noncomputable def dX6_walk_38 := zr_dX6_walk_38.1
noncomputable def zr_dX6_walk_39 := zo_29 (q := 40) zr_dX6_walk_38.2 rfl
noncomputable def dX6_walk_39 := zr_dX6_walk_39.1
noncomputable def zr_dX6_walk_40 := zo_96 (q := 41) zr_dX6_walk_39.2 rfl
noncomputable def dX6_walk_40 := zr_dX6_walk_40.1
noncomputable def zr_dX6_walk_41 := zo_17 (k := 999)  (q := 44) zr_dX6_walk_40.2 (by decide +kernel) rfl
noncomputable def dX6_walk_41 := zr_dX6_walk_41.1
noncomputable def zr_dX6_walk_44 := zo_164 (k := 8)  (q := 47) zr_dX6_walk_41.2 (by decide +kernel) rfl
noncomputable def dX6_walk_44 := zr_dX6_walk_44.1
noncomputable def zr_dX6_walk_47 := zo_16 (k := -4)  (q := 49) zr_dX6_walk_44.2 (by decide +kernel) rfl
noncomputable def dX6_walk_47 := zr_dX6_walk_47.1
noncomputable def zr_dX6_walk_49 := zo_167 (k := 10)  (q := 52) zr_dX6_walk_47.2 (by decide +kernel) rfl
noncomputable def dX6_walk_49 := zr_dX6_walk_49.1
noncomputable def zr_dX6_walk_52 := zo_42 (q := 53) zr_dX6_walk_49.2 rfl
noncomputable def dX6_walk_52 := zr_dX6_walk_52.1
noncomputable def zr_dX6_walk_53 := zo_27 (q := 54) zr_dX6_walk_52.2 rfl
noncomputable def dX6_walk_53 := zr_dX6_walk_53.1
noncomputable def zr_dX6_walk_54 := zo_28 (q := 55) zr_dX6_walk_53.2 rfl
noncomputable def dX6_walk_54 := zr_dX6_walk_54.1
noncomputable def zr_dX6_walk_55 := zo_29 (q := 56) zr_dX6_walk_54.2 rfl
noncomputable def dX6_walk_55 := zr_dX6_walk_55.1
noncomputable def zr_dX6_walk_56 := zo_182 (k := 199)  (q := 59) zr_dX6_walk_55.2 rfl rfl
noncomputable def dX6_walk_56 := zr_dX6_walk_56.1
noncomputable def zr_dX6_walk_59 := zo_172 (q := 60) zr_dX6_walk_56.2 rfl
noncomputable def dX6_walk_59 := zr_dX6_walk_59.1
theorem zs_dX6_keeps_0 : zsuf cX6_keeps 0 cX6_keeps.data.toList := rfl
noncomputable def zr_dX6_keeps_0 := zo_3 (q := 1) zs_dX6_keeps_0 rfl
noncomputable def dX6_keeps_0 := zr_dX6_keeps_0.1
noncomputable def zr_dX6_keeps_1 := zo_60 (q := 2) zr_dX6_keeps_0.2 rfl
noncomputable def dX6_keeps_1 := zr_dX6_keeps_1.1
noncomputable def zr_dX6_keeps_2 := zo_27 (q := 3) zr_dX6_keeps_1.2 rfl
noncomputable def dX6_keeps_2 := zr_dX6_keeps_2.1
noncomputable def zr_dX6_keeps_3 := zo_16 (k := 12)  (q := 5) zr_dX6_keeps_2.2 (by decide +kernel) rfl
noncomputable def dX6_keeps_3 := zr_dX6_keeps_3.1
noncomputable def zr_dX6_keeps_5 := zo_162 (k := 36)  (q := 8) zr_dX6_keeps_3.2 (by decide +kernel) rfl
noncomputable def dX6_keeps_5 := zr_dX6_keeps_5.1
noncomputable def zr_dX6_keeps_8 := zo_42 (q := 9) zr_dX6_keeps_5.2 rfl
noncomputable def dX6_keeps_8 := zr_dX6_keeps_8.1
noncomputable def zr_dX6_keeps_9 := zo_180 (k := 61)  (q := 12) zr_dX6_keeps_8.2 rfl rfl
noncomputable def dX6_keeps_9 := zr_dX6_keeps_9.1
noncomputable def zr_dX6_keeps_12 := zo_27 (q := 13) zr_dX6_keeps_9.2 rfl
noncomputable def dX6_keeps_12 := zr_dX6_keeps_12.1
noncomputable def zr_dX6_keeps_13 := zo_42 (q := 14) zr_dX6_keeps_12.2 rfl
noncomputable def dX6_keeps_13 := zr_dX6_keeps_13.1
noncomputable def zr_dX6_keeps_14 := zo_180 (k := 19)  (q := 17) zr_dX6_keeps_13.2 rfl rfl
noncomputable def dX6_keeps_14 := zr_dX6_keeps_14.1
noncomputable def zr_dX6_keeps_17 := zo_27 (q := 18) zr_dX6_keeps_14.2 rfl
noncomputable def dX6_keeps_17 := zr_dX6_keeps_17.1
noncomputable def zr_dX6_keeps_18 := zo_46 (q := 19) zr_dX6_keeps_17.2 rfl
noncomputable def dX6_keeps_18 := zr_dX6_keeps_18.1
noncomputable def zr_dX6_keeps_19 := zo_79 (q := 20) zr_dX6_keeps_18.2 rfl
noncomputable def dX6_keeps_19 := zr_dX6_keeps_19.1
noncomputable def zr_dX6_keeps_20 := zo_42 (q := 21) zr_dX6_keeps_19.2 rfl
noncomputable def dX6_keeps_20 := zr_dX6_keeps_20.1
noncomputable def zr_dX6_keeps_21 := zo_180 (k := 61)  (q := 24) zr_dX6_keeps_20.2 rfl rfl
noncomputable def dX6_keeps_21 := zr_dX6_keeps_21.1
noncomputable def zr_dX6_keeps_24 := zo_16 (k := 12)  (q := 26) zr_dX6_keeps_21.2 (by decide +kernel) rfl
noncomputable def dX6_keeps_24 := zr_dX6_keeps_24.1
noncomputable def zr_dX6_keeps_26 := zo_27 (q := 27) zr_dX6_keeps_24.2 rfl
noncomputable def dX6_keeps_26 := zr_dX6_keeps_26.1
noncomputable def zr_dX6_keeps_27 := zo_96 (q := 28) zr_dX6_keeps_26.2 rfl
noncomputable def dX6_keeps_27 := zr_dX6_keeps_27.1
noncomputable def zr_dX6_keeps_28 := zo_42 (q := 29) zr_dX6_keeps_27.2 rfl
noncomputable def dX6_keeps_28 := zr_dX6_keeps_28.1
noncomputable def zr_dX6_keeps_29 := zo_180 (k := 16)  (q := 32) zr_dX6_keeps_28.2 rfl rfl
noncomputable def dX6_keeps_29 := zr_dX6_keeps_29.1
noncomputable def zr_dX6_keeps_32 := zo_27 (q := 33) zr_dX6_keeps_29.2 rfl
noncomputable def dX6_keeps_32 := zr_dX6_keeps_32.1
noncomputable def zr_dX6_keeps_33 := zo_46 (q := 34) zr_dX6_keeps_32.2 rfl
noncomputable def dX6_keeps_33 := zr_dX6_keeps_33.1
noncomputable def zr_dX6_keeps_34 := zo_79 (q := 35) zr_dX6_keeps_33.2 rfl
noncomputable def dX6_keeps_34 := zr_dX6_keeps_34.1
noncomputable def zr_dX6_keeps_35 := zo_132 (k := 1) (o := 1)  (q := 38) zr_dX6_keeps_34.2 rfl (by decide +kernel) rfl
noncomputable def dX6_keeps_35 := zr_dX6_keeps_35.1
noncomputable def zr_dX6_keeps_38 := zo_167 (k := -36)  (q := 41) zr_dX6_keeps_35.2 (by decide +kernel) rfl
noncomputable def dX6_keeps_38 := zr_dX6_keeps_38.1
noncomputable def zr_dX6_keeps_41 := zo_177 (q := 42) zr_dX6_keeps_38.2 rfl
noncomputable def dX6_keeps_41 := zr_dX6_keeps_41.1
theorem zs_dX6_laysBack_0 : zsuf cX6_laysBack 0 cX6_laysBack.data.toList := rfl
noncomputable def zr_dX6_laysBack_0 := zo_3 (q := 1) zs_dX6_laysBack_0 rfl
noncomputable def dX6_laysBack_0 := zr_dX6_laysBack_0.1
noncomputable def zr_dX6_laysBack_1 := zo_60 (q := 2) zr_dX6_laysBack_0.2 rfl
noncomputable def dX6_laysBack_1 := zr_dX6_laysBack_1.1
noncomputable def zr_dX6_laysBack_2 := zo_27 (q := 3) zr_dX6_laysBack_1.2 rfl
noncomputable def dX6_laysBack_2 := zr_dX6_laysBack_2.1
noncomputable def zr_dX6_laysBack_3 := zo_16 (k := 12)  (q := 5) zr_dX6_laysBack_2.2 (by decide +kernel) rfl
noncomputable def dX6_laysBack_3 := zr_dX6_laysBack_3.1
noncomputable def zr_dX6_laysBack_5 := zo_162 (k := 36)  (q := 8) zr_dX6_laysBack_3.2 (by decide +kernel) rfl
noncomputable def dX6_laysBack_5 := zr_dX6_laysBack_5.1
noncomputable def zr_dX6_laysBack_8 := zo_42 (q := 9) zr_dX6_laysBack_5.2 rfl
noncomputable def dX6_laysBack_8 := zr_dX6_laysBack_8.1
noncomputable def zr_dX6_laysBack_9 := zo_180 (k := 19)  (q := 12) zr_dX6_laysBack_8.2 rfl rfl
noncomputable def dX6_laysBack_9 := zr_dX6_laysBack_9.1
noncomputable def zr_dX6_laysBack_12 := zo_27 (q := 13) zr_dX6_laysBack_9.2 rfl
noncomputable def dX6_laysBack_12 := zr_dX6_laysBack_12.1
noncomputable def zr_dX6_laysBack_13 := zo_42 (q := 14) zr_dX6_laysBack_12.2 rfl
noncomputable def dX6_laysBack_13 := zr_dX6_laysBack_13.1
noncomputable def zr_dX6_laysBack_14 := zo_180 (k := 61)  (q := 17) zr_dX6_laysBack_13.2 rfl rfl
noncomputable def dX6_laysBack_14 := zr_dX6_laysBack_14.1
noncomputable def zr_dX6_laysBack_17 := zo_27 (q := 18) zr_dX6_laysBack_14.2 rfl
noncomputable def dX6_laysBack_17 := zr_dX6_laysBack_17.1
noncomputable def zr_dX6_laysBack_18 := zo_46 (q := 19) zr_dX6_laysBack_17.2 rfl
noncomputable def dX6_laysBack_18 := zr_dX6_laysBack_18.1
noncomputable def zr_dX6_laysBack_19 := zo_79 (q := 20) zr_dX6_laysBack_18.2 rfl
noncomputable def dX6_laysBack_19 := zr_dX6_laysBack_19.1
noncomputable def zr_dX6_laysBack_20 := zo_42 (q := 21) zr_dX6_laysBack_19.2 rfl
noncomputable def dX6_laysBack_20 := zr_dX6_laysBack_20.1
noncomputable def zr_dX6_laysBack_21 := zo_180 (k := 16)  (q := 24) zr_dX6_laysBack_20.2 rfl rfl
noncomputable def dX6_laysBack_21 := zr_dX6_laysBack_21.1
noncomputable def zr_dX6_laysBack_24 := zo_27 (q := 25) zr_dX6_laysBack_21.2 rfl
noncomputable def dX6_laysBack_24 := zr_dX6_laysBack_24.1
noncomputable def zr_dX6_laysBack_25 := zo_42 (q := 26) zr_dX6_laysBack_24.2 rfl
noncomputable def dX6_laysBack_25 := zr_dX6_laysBack_25.1
noncomputable def zr_dX6_laysBack_26 := zo_180 (k := 61)  (q := 29) zr_dX6_laysBack_25.2 rfl rfl
noncomputable def dX6_laysBack_26 := zr_dX6_laysBack_26.1
noncomputable def zr_dX6_laysBack_29 := zo_16 (k := 12)  (q := 31) zr_dX6_laysBack_26.2 (by decide +kernel) rfl
noncomputable def dX6_laysBack_29 := zr_dX6_laysBack_29.1
noncomputable def zr_dX6_laysBack_31 := zo_27 (q := 32) zr_dX6_laysBack_29.2 rfl
noncomputable def dX6_laysBack_31 := zr_dX6_laysBack_31.1
noncomputable def zr_dX6_laysBack_32 := zo_96 (q := 33) zr_dX6_laysBack_31.2 rfl
noncomputable def dX6_laysBack_32 := zr_dX6_laysBack_32.1
noncomputable def zr_dX6_laysBack_33 := zo_46 (q := 34) zr_dX6_laysBack_32.2 rfl
noncomputable def dX6_laysBack_33 := zr_dX6_laysBack_33.1
noncomputable def zr_dX6_laysBack_34 := zo_79 (q := 35) zr_dX6_laysBack_33.2 rfl
noncomputable def dX6_laysBack_34 := zr_dX6_laysBack_34.1
noncomputable def zr_dX6_laysBack_35 := zo_132 (k := 1) (o := 1)  (q := 38) zr_dX6_laysBack_34.2 rfl (by decide +kernel) rfl
noncomputable def dX6_laysBack_35 := zr_dX6_laysBack_35.1
noncomputable def zr_dX6_laysBack_38 := zo_167 (k := -36)  (q := 41) zr_dX6_laysBack_35.2 (by decide +kernel) rfl
noncomputable def dX6_laysBack_38 := zr_dX6_laysBack_38.1
noncomputable def zr_dX6_laysBack_41 := zo_177 (q := 42) zr_dX6_laysBack_38.2 rfl
noncomputable def dX6_laysBack_41 := zr_dX6_laysBack_41.1
theorem zs_dX6_heard_0 : zsuf cX6_heard 0 cX6_heard.data.toList := rfl
noncomputable def zr_dX6_heard_0 := zo_42 (q := 1) zs_dX6_heard_0 rfl
noncomputable def dX6_heard_0 := zr_dX6_heard_0.1
noncomputable def zr_dX6_heard_1 := zo_182 (k := 202)  (q := 4) zr_dX6_heard_0.2 rfl rfl
noncomputable def dX6_heard_1 := zr_dX6_heard_1.1
noncomputable def zr_dX6_heard_4 := zo_42 (q := 5) zr_dX6_heard_1.2 rfl
noncomputable def dX6_heard_4 := zr_dX6_heard_4.1
noncomputable def zr_dX6_heard_5 := zo_42 (q := 6) zr_dX6_heard_4.2 rfl
noncomputable def dX6_heard_5 := zr_dX6_heard_5.1
noncomputable def zr_dX6_heard_6 := zo_27 (q := 7) zr_dX6_heard_5.2 rfl
noncomputable def dX6_heard_6 := zr_dX6_heard_6.1
noncomputable def zr_dX6_heard_7 := zo_28 (q := 8) zr_dX6_heard_6.2 rfl
noncomputable def dX6_heard_7 := zr_dX6_heard_7.1
noncomputable def zr_dX6_heard_8 := zo_29 (q := 9) zr_dX6_heard_7.2 rfl
noncomputable def dX6_heard_8 := zr_dX6_heard_8.1
noncomputable def zr_dX6_heard_9 := zo_182 (k := 199)  (q := 12) zr_dX6_heard_8.2 rfl rfl
noncomputable def dX6_heard_9 := zr_dX6_heard_9.1
noncomputable def zr_dX6_heard_12 := zo_181 (k := 205)  (q := 15) zr_dX6_heard_9.2 rfl rfl
noncomputable def dX6_heard_12 := zr_dX6_heard_12.1
noncomputable def zr_dX6_heard_15 := zo_42 (q := 16) zr_dX6_heard_12.2 rfl
noncomputable def dX6_heard_15 := zr_dX6_heard_15.1
noncomputable def zr_dX6_heard_16 := zo_42 (q := 17) zr_dX6_heard_15.2 rfl
noncomputable def dX6_heard_16 := zr_dX6_heard_16.1
noncomputable def zr_dX6_heard_17 := zo_180 (k := 16)  (q := 20) zr_dX6_heard_16.2 rfl rfl
noncomputable def dX6_heard_17 := zr_dX6_heard_17.1
noncomputable def zr_dX6_heard_20 := zo_5 (q := 21) zr_dX6_heard_17.2 rfl
noncomputable def dX6_heard_20 := zr_dX6_heard_20.1
noncomputable def zr_dX6_heard_21 := zo_28 (q := 22) zr_dX6_heard_20.2 rfl
noncomputable def dX6_heard_21 := zr_dX6_heard_21.1
noncomputable def zr_dX6_heard_22 := zo_104 (q := 23) zr_dX6_heard_21.2 rfl
noncomputable def dX6_heard_22 := zr_dX6_heard_22.1
noncomputable def zr_dX6_heard_23 := zo_46 (q := 24) zr_dX6_heard_22.2 rfl
noncomputable def dX6_heard_23 := zr_dX6_heard_23.1
noncomputable def zr_dX6_heard_24 := zo_181 (k := 208)  (q := 27) zr_dX6_heard_23.2 rfl rfl
noncomputable def dX6_heard_24 := zr_dX6_heard_24.1
noncomputable def zr_dX6_heard_27 := zo_42 (q := 28) zr_dX6_heard_24.2 rfl
noncomputable def dX6_heard_27 := zr_dX6_heard_27.1
noncomputable def zr_dX6_heard_28 := zo_42 (q := 29) zr_dX6_heard_27.2 rfl
noncomputable def dX6_heard_28 := zr_dX6_heard_28.1
noncomputable def zr_dX6_heard_29 := zo_180 (k := 19)  (q := 32) zr_dX6_heard_28.2 rfl rfl
noncomputable def dX6_heard_29 := zr_dX6_heard_29.1
noncomputable def zr_dX6_heard_32 := zo_6 (q := 33) zr_dX6_heard_29.2 rfl
noncomputable def dX6_heard_32 := zr_dX6_heard_32.1
noncomputable def zr_dX6_heard_33 := zo_27 (q := 34) zr_dX6_heard_32.2 rfl
noncomputable def dX6_heard_33 := zr_dX6_heard_33.1
noncomputable def zr_dX6_heard_34 := zo_104 (q := 35) zr_dX6_heard_33.2 rfl
noncomputable def dX6_heard_34 := zr_dX6_heard_34.1
noncomputable def zr_dX6_heard_35 := zo_46 (q := 36) zr_dX6_heard_34.2 rfl
noncomputable def dX6_heard_35 := zr_dX6_heard_35.1
noncomputable def zr_dX6_heard_36 := zo_181 (k := 211)  (q := 39) zr_dX6_heard_35.2 rfl rfl
noncomputable def dX6_heard_36 := zr_dX6_heard_36.1
noncomputable def zr_dX6_heard_39 := zo_42 (q := 40) zr_dX6_heard_36.2 rfl
noncomputable def dX6_heard_39 := zr_dX6_heard_39.1
noncomputable def zr_dX6_heard_40 := zo_42 (q := 41) zr_dX6_heard_39.2 rfl
noncomputable def dX6_heard_40 := zr_dX6_heard_40.1
noncomputable def zr_dX6_heard_41 := zo_180 (k := 205)  (q := 44) zr_dX6_heard_40.2 rfl rfl
noncomputable def dX6_heard_41 := zr_dX6_heard_41.1
noncomputable def zr_dX6_heard_44 := zo_42 (q := 45) zr_dX6_heard_41.2 rfl
noncomputable def dX6_heard_44 := zr_dX6_heard_44.1
noncomputable def zr_dX6_heard_45 := zo_5 (q := 46) zr_dX6_heard_44.2 rfl
noncomputable def dX6_heard_45 := zr_dX6_heard_45.1
noncomputable def zr_dX6_heard_46 := zo_27 (q := 47) zr_dX6_heard_45.2 rfl
noncomputable def dX6_heard_46 := zr_dX6_heard_46.1
noncomputable def zr_dX6_heard_47 := zo_28 (q := 48) zr_dX6_heard_46.2 rfl
noncomputable def dX6_heard_47 := zr_dX6_heard_47.1
noncomputable def zr_dX6_heard_48 := zo_182 (k := 180)  (q := 51) zr_dX6_heard_47.2 rfl rfl
noncomputable def dX6_heard_48 := zr_dX6_heard_48.1
noncomputable def zr_dX6_heard_51 := zo_161 (k := 7)  (q := 54) zr_dX6_heard_48.2 (by decide +kernel) rfl
noncomputable def dX6_heard_51 := zr_dX6_heard_51.1
noncomputable def zr_dX6_heard_54 := zo_4 (q := 55) zr_dX6_heard_51.2 rfl
noncomputable def dX6_heard_54 := zr_dX6_heard_54.1
noncomputable def zr_dX6_heard_55 := zo_167 (k := 4)  (q := 58) zr_dX6_heard_54.2 (by decide +kernel) rfl
noncomputable def dX6_heard_55 := zr_dX6_heard_55.1
noncomputable def zr_dX6_heard_58 := zo_3 (q := 59) zr_dX6_heard_55.2 rfl
noncomputable def dX6_heard_58 := zr_dX6_heard_58.1
noncomputable def zr_dX6_heard_59 := zo_181 (k := 214)  (q := 62) zr_dX6_heard_58.2 rfl rfl
noncomputable def dX6_heard_59 := zr_dX6_heard_59.1
noncomputable def zr_dX6_heard_62 := zo_42 (q := 63) zr_dX6_heard_59.2 rfl
noncomputable def dX6_heard_62 := zr_dX6_heard_62.1
noncomputable def zr_dX6_heard_63 := zo_182 (k := 218)  (q := 66) zr_dX6_heard_62.2 rfl rfl
noncomputable def dX6_heard_63 := zr_dX6_heard_63.1
noncomputable def zr_dX6_heard_66 := zo_177 (q := 67) zr_dX6_heard_63.2 rfl
noncomputable def dX6_heard_66 := zr_dX6_heard_66.1
theorem zs_dX6_toldCase_0 : zsuf cX6_toldCase 0 cX6_toldCase.data.toList := rfl
noncomputable def zr_dX6_toldCase_0 := zo_27 (q := 1) zs_dX6_toldCase_0 rfl
noncomputable def dX6_toldCase_0 := zr_dX6_toldCase_0.1
noncomputable def zr_dX6_toldCase_1 := zo_154 (k := 10)  (q := 4) zr_dX6_toldCase_0.2 (by decide +kernel) rfl
noncomputable def dX6_toldCase_1 := zr_dX6_toldCase_1.1
noncomputable def zr_dX6_toldCase_4 := zo_42 (q := 5) zr_dX6_toldCase_1.2 rfl
noncomputable def dX6_toldCase_4 := zr_dX6_toldCase_4.1
noncomputable def zr_dX6_toldCase_5 := zo_180 (k := 205)  (q := 8) zr_dX6_toldCase_4.2 rfl rfl
noncomputable def dX6_toldCase_5 := zr_dX6_toldCase_5.1
noncomputable def zr_dX6_toldCase_8 := zo_167 (k := 39)  (q := 11) zr_dX6_toldCase_5.2 (by decide +kernel) rfl
noncomputable def dX6_toldCase_8 := zr_dX6_toldCase_8.1
noncomputable def zr_dX6_toldCase_11 := zo_27 (q := 12) zr_dX6_toldCase_8.2 rfl
noncomputable def dX6_toldCase_11 := zr_dX6_toldCase_11.1
noncomputable def zr_dX6_toldCase_12 := zo_4 (q := 13) zr_dX6_toldCase_11.2 rfl
noncomputable def dX6_toldCase_12 := zr_dX6_toldCase_12.1
noncomputable def zr_dX6_toldCase_13 := zo_160 (k := 10)  (q := 16) zr_dX6_toldCase_12.2 (by decide +kernel) rfl
noncomputable def dX6_toldCase_13 := zr_dX6_toldCase_13.1
noncomputable def zr_dX6_toldCase_16 := zo_42 (q := 17) zr_dX6_toldCase_13.2 rfl
noncomputable def dX6_toldCase_16 := zr_dX6_toldCase_16.1
noncomputable def zr_dX6_toldCase_17 := zo_180 (k := 208)  (q := 20) zr_dX6_toldCase_16.2 rfl rfl
noncomputable def dX6_toldCase_17 := zr_dX6_toldCase_17.1
noncomputable def zr_dX6_toldCase_20 := zo_167 (k := 27)  (q := 23) zr_dX6_toldCase_17.2 (by decide +kernel) rfl
noncomputable def dX6_toldCase_20 := zr_dX6_toldCase_20.1
noncomputable def zr_dX6_toldCase_23 := zo_27 (q := 24) zr_dX6_toldCase_20.2 rfl
noncomputable def dX6_toldCase_23 := zr_dX6_toldCase_23.1
noncomputable def zr_dX6_toldCase_24 := zo_5 (q := 25) zr_dX6_toldCase_23.2 rfl
noncomputable def dX6_toldCase_24 := zr_dX6_toldCase_24.1
noncomputable def zr_dX6_toldCase_25 := zo_160 (k := 18)  (q := 28) zr_dX6_toldCase_24.2 (by decide +kernel) rfl
noncomputable def dX6_toldCase_25 := zr_dX6_toldCase_25.1
noncomputable def zr_dX6_toldCase_28 := zo_42 (q := 29) zr_dX6_toldCase_25.2 rfl
noncomputable def dX6_toldCase_28 := zr_dX6_toldCase_28.1
noncomputable def zr_dX6_toldCase_29 := zo_180 (k := 214)  (q := 32) zr_dX6_toldCase_28.2 rfl rfl
noncomputable def dX6_toldCase_29 := zr_dX6_toldCase_29.1
noncomputable def zr_dX6_toldCase_32 := zo_153 (k := 7)  (q := 35) zr_dX6_toldCase_29.2 (by decide +kernel) rfl
noncomputable def dX6_toldCase_32 := zr_dX6_toldCase_32.1
noncomputable def zr_dX6_toldCase_35 := zo_4 (q := 36) zr_dX6_toldCase_32.2 rfl
noncomputable def dX6_toldCase_35 := zr_dX6_toldCase_35.1
noncomputable def zr_dX6_toldCase_36 := zo_167 (k := 11)  (q := 39) zr_dX6_toldCase_35.2 (by decide +kernel) rfl
noncomputable def dX6_toldCase_36 := zr_dX6_toldCase_36.1
noncomputable def zr_dX6_toldCase_39 := zo_3 (q := 40) zr_dX6_toldCase_36.2 rfl
noncomputable def dX6_toldCase_39 := zr_dX6_toldCase_39.1
noncomputable def zr_dX6_toldCase_40 := zo_167 (k := 7)  (q := 43) zr_dX6_toldCase_39.2 (by decide +kernel) rfl
noncomputable def dX6_toldCase_40 := zr_dX6_toldCase_40.1
noncomputable def zr_dX6_toldCase_43 := zo_42 (q := 44) zr_dX6_toldCase_40.2 rfl
noncomputable def dX6_toldCase_43 := zr_dX6_toldCase_43.1
noncomputable def zr_dX6_toldCase_44 := zo_180 (k := 211)  (q := 47) zr_dX6_toldCase_43.2 rfl rfl
noncomputable def dX6_toldCase_44 := zr_dX6_toldCase_44.1
noncomputable def zr_dX6_toldCase_47 := zo_172 (q := 48) zr_dX6_toldCase_44.2 rfl
noncomputable def dX6_toldCase_47 := zr_dX6_toldCase_47.1
theorem zs_dX6_hear_0 : zsuf cX6_hear 0 cX6_hear.data.toList := rfl
noncomputable def zr_dX6_hear_0 := zo_42 (q := 1) zs_dX6_hear_0 rfl
noncomputable def dX6_hear_0 := zr_dX6_hear_0.1
noncomputable def zr_dX6_hear_1 := zo_27 (q := 2) zr_dX6_hear_0.2 rfl
noncomputable def dX6_hear_1 := zr_dX6_hear_1.1
noncomputable def zr_dX6_hear_2 := zo_182 (k := 104)  (q := 5) zr_dX6_hear_1.2 rfl rfl
noncomputable def dX6_hear_2 := zr_dX6_hear_2.1
noncomputable def zr_dX6_hear_5 := zo_153 (k := 11)  (q := 8) zr_dX6_hear_2.2 (by decide +kernel) rfl
noncomputable def dX6_hear_5 := zr_dX6_hear_5.1
noncomputable def zr_dX6_hear_8 := zo_42 (q := 9) zr_dX6_hear_5.2 rfl
noncomputable def dX6_hear_8 := zr_dX6_hear_8.1
noncomputable def zr_dX6_hear_9 := zo_28 (q := 10) zr_dX6_hear_8.2 rfl
noncomputable def dX6_hear_9 := zr_dX6_hear_9.1
noncomputable def zr_dX6_hear_10 := zo_182 (k := 177)  (q := 13) zr_dX6_hear_9.2 rfl rfl
noncomputable def dX6_hear_10 := zr_dX6_hear_10.1
noncomputable def zr_dX6_hear_13 := zo_154 (k := 6)  (q := 16) zr_dX6_hear_10.2 (by decide +kernel) rfl
noncomputable def dX6_hear_13 := zr_dX6_hear_13.1
noncomputable def zr_dX6_hear_16 := zo_16 (k := -5)  (q := 18) zr_dX6_hear_13.2 (by decide +kernel) rfl
noncomputable def dX6_hear_16 := zr_dX6_hear_16.1
noncomputable def zr_dX6_hear_18 := zo_172 (q := 19) zr_dX6_hear_16.2 rfl
noncomputable def dX6_hear_18 := zr_dX6_hear_18.1
noncomputable def zr_dX6_hear_19 := zo_29 (q := 20) zr_dX6_hear_18.2 rfl
noncomputable def dX6_hear_19 := zr_dX6_hear_19.1
noncomputable def zr_dX6_hear_20 := zo_184 (k := 196)  (q := 23) zr_dX6_hear_19.2 rfl rfl
noncomputable def dX6_hear_20 := zr_dX6_hear_20.1
noncomputable def zr_dX6_hear_23 := zo_153 (k := 13)  (q := 26) zr_dX6_hear_20.2 (by decide +kernel) rfl
noncomputable def dX6_hear_23 := zr_dX6_hear_23.1
noncomputable def zr_dX6_hear_26 := zo_21 (k := 4)  (q := 28) zr_dX6_hear_23.2 rfl rfl
noncomputable def dX6_hear_26 := zr_dX6_hear_26.1
noncomputable def zr_dX6_hear_28 := zo_3 (q := 29) zr_dX6_hear_26.2 rfl
noncomputable def dX6_hear_28 := zr_dX6_hear_28.1
noncomputable def zr_dX6_hear_29 := zo_6 (q := 30) zr_dX6_hear_28.2 rfl
noncomputable def dX6_hear_29 := zr_dX6_hear_29.1
noncomputable def zr_dX6_hear_30 := zo_184 (k := 91)  (q := 33) zr_dX6_hear_29.2 rfl rfl
noncomputable def dX6_hear_30 := zr_dX6_hear_30.1
noncomputable def zr_dX6_hear_33 := zo_154 (k := 6)  (q := 36) zr_dX6_hear_30.2 (by decide +kernel) rfl
noncomputable def dX6_hear_33 := zr_dX6_hear_33.1
noncomputable def zr_dX6_hear_36 := zo_16 (k := -7)  (q := 38) zr_dX6_hear_33.2 (by decide +kernel) rfl
noncomputable def dX6_hear_36 := zr_dX6_hear_36.1
noncomputable def zr_dX6_hear_38 := zo_172 (q := 39) zr_dX6_hear_36.2 rfl
noncomputable def dX6_hear_38 := zr_dX6_hear_38.1
noncomputable def zr_dX6_hear_39 := zo_42 (q := 40) zr_dX6_hear_38.2 rfl
noncomputable def dX6_hear_39 := zr_dX6_hear_39.1
noncomputable def zr_dX6_hear_40 := zo_27 (q := 41) zr_dX6_hear_39.2 rfl
noncomputable def dX6_hear_40 := zr_dX6_hear_40.1
noncomputable def zr_dX6_hear_41 := zo_28 (q := 42) zr_dX6_hear_40.2 rfl
noncomputable def dX6_hear_41 := zr_dX6_hear_41.1
noncomputable def zr_dX6_hear_42 := zo_29 (q := 43) zr_dX6_hear_41.2 rfl
noncomputable def dX6_hear_42 := zr_dX6_hear_42.1
noncomputable def zr_dX6_hear_43 := zo_182 (k := 221)  (q := 46) zr_dX6_hear_42.2 rfl rfl
noncomputable def dX6_hear_43 := zr_dX6_hear_43.1
noncomputable def zr_dX6_hear_46 := zo_42 (q := 47) zr_dX6_hear_43.2 rfl
noncomputable def dX6_hear_46 := zr_dX6_hear_46.1
noncomputable def zr_dX6_hear_47 := zo_21 (k := 4)  (q := 49) zr_dX6_hear_46.2 rfl rfl
noncomputable def dX6_hear_47 := zr_dX6_hear_47.1
noncomputable def zr_dX6_hear_49 := zo_182 (k := 225)  (q := 52) zr_dX6_hear_47.2 rfl rfl
noncomputable def dX6_hear_49 := zr_dX6_hear_49.1
noncomputable def zr_dX6_hear_52 := zo_172 (q := 53) zr_dX6_hear_49.2 rfl
noncomputable def dX6_hear_52 := zr_dX6_hear_52.1
theorem zs_dX6_tellsMiles_0 : zsuf cX6_tellsMiles 0 cX6_tellsMiles.data.toList := rfl
noncomputable def zr_dX6_tellsMiles_0 := zo_3 (q := 1) zs_dX6_tellsMiles_0 rfl
noncomputable def dX6_tellsMiles_0 := zr_dX6_tellsMiles_0.1
noncomputable def zr_dX6_tellsMiles_1 := zo_62 (q := 2) zr_dX6_tellsMiles_0.2 rfl
noncomputable def dX6_tellsMiles_1 := zr_dX6_tellsMiles_1.1
noncomputable def zr_dX6_tellsMiles_2 := zo_2 (q := 3) zr_dX6_tellsMiles_1.2 rfl
noncomputable def dX6_tellsMiles_2 := zr_dX6_tellsMiles_2.1
noncomputable def zr_dX6_tellsMiles_3 := zo_54 (k := 4)  (q := 5) zr_dX6_tellsMiles_2.2 rfl rfl
noncomputable def dX6_tellsMiles_3 := zr_dX6_tellsMiles_3.1
noncomputable def zr_dX6_tellsMiles_5 := zo_42 (q := 6) zr_dX6_tellsMiles_3.2 rfl
noncomputable def dX6_tellsMiles_5 := zr_dX6_tellsMiles_5.1
noncomputable def zr_dX6_tellsMiles_6 := zo_182 (k := 202)  (q := 9) zr_dX6_tellsMiles_5.2 rfl rfl
noncomputable def dX6_tellsMiles_6 := zr_dX6_tellsMiles_6.1
noncomputable def zr_dX6_tellsMiles_9 := zo_3 (q := 10) zr_dX6_tellsMiles_6.2 rfl
noncomputable def dX6_tellsMiles_9 := zr_dX6_tellsMiles_9.1
noncomputable def zr_dX6_tellsMiles_10 := zo_54 (k := 5)  (q := 12) zr_dX6_tellsMiles_9.2 rfl rfl
noncomputable def dX6_tellsMiles_10 := zr_dX6_tellsMiles_10.1
noncomputable def zr_dX6_tellsMiles_12 := zo_21 (k := 5)  (q := 14) zr_dX6_tellsMiles_10.2 rfl rfl
noncomputable def dX6_tellsMiles_12 := zr_dX6_tellsMiles_12.1
noncomputable def zr_dX6_tellsMiles_14 := zo_16 (k := 60)  (q := 16) zr_dX6_tellsMiles_12.2 (by decide +kernel) rfl
noncomputable def dX6_tellsMiles_14 := zr_dX6_tellsMiles_14.1
noncomputable def zr_dX6_tellsMiles_16 := zo_163 (k := 65)  (q := 19) zr_dX6_tellsMiles_14.2 (by decide +kernel) rfl
noncomputable def dX6_tellsMiles_16 := zr_dX6_tellsMiles_16.1
noncomputable def zr_dX6_tellsMiles_19 := zo_42 (q := 20) zr_dX6_tellsMiles_16.2 rfl
noncomputable def dX6_tellsMiles_19 := zr_dX6_tellsMiles_19.1
noncomputable def zr_dX6_tellsMiles_20 := zo_180 (k := 64)  (q := 23) zr_dX6_tellsMiles_19.2 rfl rfl
noncomputable def dX6_tellsMiles_20 := zr_dX6_tellsMiles_20.1
noncomputable def zr_dX6_tellsMiles_23 := zo_21 (k := 5)  (q := 25) zr_dX6_tellsMiles_20.2 rfl rfl
noncomputable def dX6_tellsMiles_23 := zr_dX6_tellsMiles_23.1
noncomputable def zr_dX6_tellsMiles_25 := zo_29 (q := 26) zr_dX6_tellsMiles_23.2 rfl
noncomputable def dX6_tellsMiles_25 := zr_dX6_tellsMiles_25.1
noncomputable def zr_dX6_tellsMiles_26 := zo_42 (q := 27) zr_dX6_tellsMiles_25.2 rfl
noncomputable def dX6_tellsMiles_26 := zr_dX6_tellsMiles_26.1
noncomputable def zr_dX6_tellsMiles_27 := zo_5 (q := 28) zr_dX6_tellsMiles_26.2 rfl
noncomputable def dX6_tellsMiles_27 := zr_dX6_tellsMiles_27.1
noncomputable def zr_dX6_tellsMiles_28 := zo_27 (q := 29) zr_dX6_tellsMiles_27.2 rfl
noncomputable def dX6_tellsMiles_28 := zr_dX6_tellsMiles_28.1
noncomputable def zr_dX6_tellsMiles_29 := zo_28 (q := 30) zr_dX6_tellsMiles_28.2 rfl
noncomputable def dX6_tellsMiles_29 := zr_dX6_tellsMiles_29.1
noncomputable def zr_dX6_tellsMiles_30 := zo_182 (k := 180)  (q := 33) zr_dX6_tellsMiles_29.2 rfl rfl
noncomputable def dX6_tellsMiles_30 := zr_dX6_tellsMiles_30.1
noncomputable def zr_dX6_tellsMiles_33 := zo_161 (k := 7)  (q := 36) zr_dX6_tellsMiles_30.2 (by decide +kernel) rfl
noncomputable def dX6_tellsMiles_33 := zr_dX6_tellsMiles_33.1
noncomputable def zr_dX6_tellsMiles_36 := zo_4 (q := 37) zr_dX6_tellsMiles_33.2 rfl
noncomputable def dX6_tellsMiles_36 := zr_dX6_tellsMiles_36.1
noncomputable def zr_dX6_tellsMiles_37 := zo_167 (k := 4)  (q := 40) zr_dX6_tellsMiles_36.2 (by decide +kernel) rfl
noncomputable def dX6_tellsMiles_37 := zr_dX6_tellsMiles_37.1
noncomputable def zr_dX6_tellsMiles_40 := zo_3 (q := 41) zr_dX6_tellsMiles_37.2 rfl
noncomputable def dX6_tellsMiles_40 := zr_dX6_tellsMiles_40.1
theorem zo_84 {c : ByteArray} {p q : Nat} {L : List UInt8} (h : zsuf c p (84 :: L)) (hq : p + 1 = q) : zD c p .bastore 1 ∧ zsuf c q L := zfin hq (Eq.trans (zbd (zu1 (v := 84) h rfl)) rfl) (zsuf_tl h)
noncomputable def zr_dX6_tellsMiles_41 := zo_84 (q := 42) zr_dX6_tellsMiles_40.2 rfl
noncomputable def dX6_tellsMiles_41 := zr_dX6_tellsMiles_41.1
noncomputable def zr_dX6_tellsMiles_42 := zo_21 (k := 4)  (q := 44) zr_dX6_tellsMiles_41.2 rfl rfl
noncomputable def dX6_tellsMiles_42 := zr_dX6_tellsMiles_42.1
noncomputable def zr_dX6_tellsMiles_44 := zo_2 (q := 45) zr_dX6_tellsMiles_42.2 rfl
noncomputable def dX6_tellsMiles_44 := zr_dX6_tellsMiles_44.1
noncomputable def zr_dX6_tellsMiles_45 := zo_160 (k := 16)  (q := 48) zr_dX6_tellsMiles_44.2 (by decide +kernel) rfl
noncomputable def dX6_tellsMiles_45 := zr_dX6_tellsMiles_45.1
noncomputable def zr_dX6_tellsMiles_48 := zo_42 (q := 49) zr_dX6_tellsMiles_45.2 rfl
noncomputable def dX6_tellsMiles_48 := zr_dX6_tellsMiles_48.1
noncomputable def zr_dX6_tellsMiles_49 := zo_28 (q := 50) zr_dX6_tellsMiles_48.2 rfl
noncomputable def dX6_tellsMiles_49 := zr_dX6_tellsMiles_49.1
noncomputable def zr_dX6_tellsMiles_50 := zo_182 (k := 183)  (q := 53) zr_dX6_tellsMiles_49.2 rfl rfl
noncomputable def dX6_tellsMiles_50 := zr_dX6_tellsMiles_50.1
noncomputable def zr_dX6_tellsMiles_53 := zo_153 (k := 8)  (q := 56) zr_dX6_tellsMiles_50.2 (by decide +kernel) rfl
noncomputable def dX6_tellsMiles_53 := zr_dX6_tellsMiles_53.1
noncomputable def zr_dX6_tellsMiles_56 := zo_21 (k := 5)  (q := 58) zr_dX6_tellsMiles_53.2 rfl rfl
noncomputable def dX6_tellsMiles_56 := zr_dX6_tellsMiles_56.1
noncomputable def zr_dX6_tellsMiles_58 := zo_167 (k := 5)  (q := 61) zr_dX6_tellsMiles_56.2 (by decide +kernel) rfl
noncomputable def dX6_tellsMiles_58 := zr_dX6_tellsMiles_58.1
noncomputable def zr_dX6_tellsMiles_61 := zo_21 (k := 4)  (q := 63) zr_dX6_tellsMiles_58.2 rfl rfl
noncomputable def dX6_tellsMiles_61 := zr_dX6_tellsMiles_61.1
noncomputable def zr_dX6_tellsMiles_63 := zo_54 (k := 4)  (q := 65) zr_dX6_tellsMiles_61.2 rfl rfl
noncomputable def dX6_tellsMiles_63 := zr_dX6_tellsMiles_63.1
noncomputable def zr_dX6_tellsMiles_65 := zo_29 (q := 66) zr_dX6_tellsMiles_63.2 rfl
noncomputable def dX6_tellsMiles_65 := zr_dX6_tellsMiles_65.1
noncomputable def zr_dX6_tellsMiles_66 := zo_42 (q := 67) zr_dX6_tellsMiles_65.2 rfl
noncomputable def dX6_tellsMiles_66 := zr_dX6_tellsMiles_66.1
noncomputable def zr_dX6_tellsMiles_67 := zo_27 (q := 68) zr_dX6_tellsMiles_66.2 rfl
noncomputable def dX6_tellsMiles_67 := zr_dX6_tellsMiles_67.1
noncomputable def zr_dX6_tellsMiles_68 := zo_28 (q := 69) zr_dX6_tellsMiles_67.2 rfl
noncomputable def dX6_tellsMiles_68 := zr_dX6_tellsMiles_68.1
noncomputable def zr_dX6_tellsMiles_69 := zo_3 (q := 70) zr_dX6_tellsMiles_68.2 rfl
noncomputable def dX6_tellsMiles_69 := zr_dX6_tellsMiles_69.1
noncomputable def zr_dX6_tellsMiles_70 := zo_182 (k := 193)  (q := 73) zr_dX6_tellsMiles_69.2 rfl rfl
noncomputable def dX6_tellsMiles_70 := zr_dX6_tellsMiles_70.1
noncomputable def zr_dX6_tellsMiles_73 := zo_96 (q := 74) zr_dX6_tellsMiles_70.2 rfl
noncomputable def dX6_tellsMiles_73 := zr_dX6_tellsMiles_73.1
noncomputable def zr_dX6_tellsMiles_74 := zo_62 (q := 75) zr_dX6_tellsMiles_73.2 rfl
noncomputable def dX6_tellsMiles_74 := zr_dX6_tellsMiles_74.1
noncomputable def zr_dX6_tellsMiles_75 := zo_132 (k := 5) (o := 1)  (q := 78) zr_dX6_tellsMiles_74.2 rfl (by decide +kernel) rfl
noncomputable def dX6_tellsMiles_75 := zr_dX6_tellsMiles_75.1
noncomputable def zr_dX6_tellsMiles_78 := zo_167 (k := -66)  (q := 81) zr_dX6_tellsMiles_75.2 (by decide +kernel) rfl
noncomputable def dX6_tellsMiles_78 := zr_dX6_tellsMiles_78.1
noncomputable def zr_dX6_tellsMiles_81 := zo_42 (q := 82) zr_dX6_tellsMiles_78.2 rfl
noncomputable def dX6_tellsMiles_81 := zr_dX6_tellsMiles_81.1
noncomputable def zr_dX6_tellsMiles_82 := zo_182 (k := 218)  (q := 85) zr_dX6_tellsMiles_81.2 rfl rfl
noncomputable def dX6_tellsMiles_82 := zr_dX6_tellsMiles_82.1
noncomputable def zr_dX6_tellsMiles_85 := zo_21 (k := 4)  (q := 87) zr_dX6_tellsMiles_82.2 rfl rfl
noncomputable def dX6_tellsMiles_85 := zr_dX6_tellsMiles_85.1
noncomputable def zr_dX6_tellsMiles_87 := zo_172 (q := 88) zr_dX6_tellsMiles_85.2 rfl
noncomputable def dX6_tellsMiles_87 := zr_dX6_tellsMiles_87.1
theorem zs_dX6_fewest_0 : zsuf cX6_fewest 0 cX6_fewest.data.toList := rfl
noncomputable def zr_dX6_fewest_0 := zo_42 (q := 1) zs_dX6_fewest_0 rfl
noncomputable def dX6_fewest_0 := zr_dX6_fewest_0.1
noncomputable def zr_dX6_fewest_1 := zo_27 (q := 2) zr_dX6_fewest_0.2 rfl
noncomputable def dX6_fewest_1 := zr_dX6_fewest_1.1
noncomputable def zr_dX6_fewest_2 := zo_182 (k := 104)  (q := 5) zr_dX6_fewest_1.2 rfl rfl
noncomputable def dX6_fewest_2 := zr_dX6_fewest_2.1
noncomputable def zr_dX6_fewest_5 := zo_153 (k := 11)  (q := 8) zr_dX6_fewest_2.2 (by decide +kernel) rfl
noncomputable def dX6_fewest_5 := zr_dX6_fewest_5.1
noncomputable def zr_dX6_fewest_8 := zo_42 (q := 9) zr_dX6_fewest_5.2 rfl
noncomputable def dX6_fewest_8 := zr_dX6_fewest_8.1
noncomputable def zr_dX6_fewest_9 := zo_28 (q := 10) zr_dX6_fewest_8.2 rfl
noncomputable def dX6_fewest_9 := zr_dX6_fewest_9.1
noncomputable def zr_dX6_fewest_10 := zo_182 (k := 177)  (q := 13) zr_dX6_fewest_9.2 rfl rfl
noncomputable def dX6_fewest_10 := zr_dX6_fewest_10.1
noncomputable def zr_dX6_fewest_13 := zo_154 (k := 6)  (q := 16) zr_dX6_fewest_10.2 (by decide +kernel) rfl
noncomputable def dX6_fewest_13 := zr_dX6_fewest_13.1
noncomputable def zr_dX6_fewest_16 := zo_16 (k := -5)  (q := 18) zr_dX6_fewest_13.2 (by decide +kernel) rfl
noncomputable def dX6_fewest_16 := zr_dX6_fewest_16.1
noncomputable def zr_dX6_fewest_18 := zo_172 (q := 19) zr_dX6_fewest_16.2 rfl
noncomputable def dX6_fewest_18 := zr_dX6_fewest_18.1
noncomputable def zr_dX6_fewest_19 := zo_42 (q := 20) zr_dX6_fewest_18.2 rfl
noncomputable def dX6_fewest_19 := zr_dX6_fewest_19.1
noncomputable def zr_dX6_fewest_20 := zo_27 (q := 21) zr_dX6_fewest_19.2 rfl
noncomputable def dX6_fewest_20 := zr_dX6_fewest_20.1
noncomputable def zr_dX6_fewest_21 := zo_28 (q := 22) zr_dX6_fewest_20.2 rfl
noncomputable def dX6_fewest_21 := zr_dX6_fewest_21.1
noncomputable def zr_dX6_fewest_22 := zo_182 (k := 228)  (q := 25) zr_dX6_fewest_21.2 rfl rfl
noncomputable def dX6_fewest_22 := zr_dX6_fewest_22.1
noncomputable def zr_dX6_fewest_25 := zo_87 (q := 26) zr_dX6_fewest_22.2 rfl
noncomputable def dX6_fewest_25 := zr_dX6_fewest_25.1
noncomputable def zr_dX6_fewest_26 := zo_3 (q := 27) zr_dX6_fewest_25.2 rfl
noncomputable def dX6_fewest_26 := zr_dX6_fewest_26.1
noncomputable def zr_dX6_fewest_27 := zo_62 (q := 28) zr_dX6_fewest_26.2 rfl
noncomputable def dX6_fewest_27 := zr_dX6_fewest_27.1
noncomputable def zr_dX6_fewest_28 := zo_29 (q := 29) zr_dX6_fewest_27.2 rfl
noncomputable def dX6_fewest_28 := zr_dX6_fewest_28.1
noncomputable def zr_dX6_fewest_29 := zo_16 (k := 60)  (q := 31) zr_dX6_fewest_28.2 (by decide +kernel) rfl
noncomputable def dX6_fewest_29 := zr_dX6_fewest_29.1
noncomputable def zr_dX6_fewest_31 := zo_163 (k := 20)  (q := 34) zr_dX6_fewest_29.2 (by decide +kernel) rfl
noncomputable def dX6_fewest_31 := zr_dX6_fewest_31.1
noncomputable def zr_dX6_fewest_34 := zo_42 (q := 35) zr_dX6_fewest_31.2 rfl
noncomputable def dX6_fewest_34 := zr_dX6_fewest_34.1
noncomputable def zr_dX6_fewest_35 := zo_180 (k := 64)  (q := 38) zr_dX6_fewest_34.2 rfl rfl
noncomputable def dX6_fewest_35 := zr_dX6_fewest_35.1
noncomputable def zr_dX6_fewest_38 := zo_29 (q := 39) zr_dX6_fewest_35.2 rfl
noncomputable def dX6_fewest_38 := zr_dX6_fewest_38.1
theorem zo_51 {c : ByteArray} {p q : Nat} {L : List UInt8} (h : zsuf c p (51 :: L)) (hq : p + 1 = q) : zD c p .baload 1 ∧ zsuf c q L := zfin hq (Eq.trans (zbd (zu1 (v := 51) h rfl)) rfl) (zsuf_tl h)
noncomputable def zr_dX6_fewest_39 := zo_51 (q := 40) zr_dX6_fewest_38.2 rfl
noncomputable def dX6_fewest_39 := zr_dX6_fewest_39.1
noncomputable def zr_dX6_fewest_40 := zo_153 (k := 5)  (q := 43) zr_dX6_fewest_39.2 (by decide +kernel) rfl
noncomputable def dX6_fewest_40 := zr_dX6_fewest_40.1
noncomputable def zr_dX6_fewest_43 := zo_29 (q := 44) zr_dX6_fewest_40.2 rfl
noncomputable def dX6_fewest_43 := zr_dX6_fewest_43.1
noncomputable def zr_dX6_fewest_44 := zo_172 (q := 45) zr_dX6_fewest_43.2 rfl
noncomputable def dX6_fewest_44 := zr_dX6_fewest_44.1
noncomputable def zr_dX6_fewest_45 := zo_132 (k := 3) (o := 1)  (q := 48) zr_dX6_fewest_44.2 rfl (by decide +kernel) rfl
noncomputable def dX6_fewest_45 := zr_dX6_fewest_45.1
noncomputable def zr_dX6_fewest_48 := zo_167 (k := -20)  (q := 51) zr_dX6_fewest_45.2 (by decide +kernel) rfl
noncomputable def dX6_fewest_48 := zr_dX6_fewest_48.1
noncomputable def zr_dX6_fewest_51 := zo_2 (q := 52) zr_dX6_fewest_48.2 rfl
noncomputable def dX6_fewest_51 := zr_dX6_fewest_51.1
noncomputable def zr_dX6_fewest_52 := zo_172 (q := 53) zr_dX6_fewest_51.2 rfl
noncomputable def dX6_fewest_52 := zr_dX6_fewest_52.1
theorem zs_dX6_sand_0 : zsuf cX6_sand 0 cX6_sand.data.toList := rfl
noncomputable def zr_dX6_sand_0 := zo_42 (q := 1) zs_dX6_sand_0 rfl
noncomputable def dX6_sand_0 := zr_dX6_sand_0.1
noncomputable def zr_dX6_sand_1 := zo_27 (q := 2) zr_dX6_sand_0.2 rfl
noncomputable def dX6_sand_1 := zr_dX6_sand_1.1
noncomputable def zr_dX6_sand_2 := zo_182 (k := 104)  (q := 5) zr_dX6_sand_1.2 rfl rfl
noncomputable def dX6_sand_2 := zr_dX6_sand_2.1
noncomputable def zr_dX6_sand_5 := zo_153 (k := 20)  (q := 8) zr_dX6_sand_2.2 (by decide +kernel) rfl
noncomputable def dX6_sand_5 := zr_dX6_sand_5.1
noncomputable def zr_dX6_sand_8 := zo_42 (q := 9) zr_dX6_sand_5.2 rfl
noncomputable def dX6_sand_8 := zr_dX6_sand_8.1
noncomputable def zr_dX6_sand_9 := zo_28 (q := 10) zr_dX6_sand_8.2 rfl
noncomputable def dX6_sand_9 := zr_dX6_sand_9.1
noncomputable def zr_dX6_sand_10 := zo_182 (k := 177)  (q := 13) zr_dX6_sand_9.2 rfl rfl
noncomputable def dX6_sand_10 := zr_dX6_sand_10.1
noncomputable def zr_dX6_sand_13 := zo_153 (k := 12)  (q := 16) zr_dX6_sand_10.2 (by decide +kernel) rfl
noncomputable def dX6_sand_13 := zr_dX6_sand_13.1
noncomputable def zr_dX6_sand_16 := zo_42 (q := 17) zr_dX6_sand_13.2 rfl
noncomputable def dX6_sand_16 := zr_dX6_sand_16.1
noncomputable def zr_dX6_sand_17 := zo_27 (q := 18) zr_dX6_sand_16.2 rfl
noncomputable def dX6_sand_17 := zr_dX6_sand_17.1
noncomputable def zr_dX6_sand_18 := zo_28 (q := 19) zr_dX6_sand_17.2 rfl
noncomputable def dX6_sand_18 := zr_dX6_sand_18.1
noncomputable def zr_dX6_sand_19 := zo_182 (k := 228)  (q := 22) zr_dX6_sand_18.2 rfl rfl
noncomputable def dX6_sand_19 := zr_dX6_sand_19.1
noncomputable def zr_dX6_sand_22 := zo_167 (k := 5)  (q := 25) zr_dX6_sand_19.2 (by decide +kernel) rfl
noncomputable def dX6_sand_22 := zr_dX6_sand_22.1
noncomputable def zr_dX6_sand_25 := zo_16 (k := -5)  (q := 27) zr_dX6_sand_22.2 (by decide +kernel) rfl
noncomputable def dX6_sand_25 := zr_dX6_sand_25.1
noncomputable def zr_dX6_sand_27 := zo_172 (q := 28) zr_dX6_sand_25.2 rfl
noncomputable def dX6_sand_27 := zr_dX6_sand_27.1
theorem zs_dX6_unlike_0 : zsuf cX6_unlike 0 cX6_unlike.data.toList := rfl
noncomputable def zr_dX6_unlike_0 := zo_42 (q := 1) zs_dX6_unlike_0 rfl
noncomputable def dX6_unlike_0 := zr_dX6_unlike_0.1
noncomputable def zr_dX6_unlike_1 := zo_27 (q := 2) zr_dX6_unlike_0.2 rfl
noncomputable def dX6_unlike_1 := zr_dX6_unlike_1.1
noncomputable def zr_dX6_unlike_2 := zo_182 (k := 104)  (q := 5) zr_dX6_unlike_1.2 rfl rfl
noncomputable def dX6_unlike_2 := zr_dX6_unlike_2.1
noncomputable def zr_dX6_unlike_5 := zo_153 (k := 24)  (q := 8) zr_dX6_unlike_2.2 (by decide +kernel) rfl
noncomputable def dX6_unlike_5 := zr_dX6_unlike_5.1
noncomputable def zr_dX6_unlike_8 := zo_42 (q := 9) zr_dX6_unlike_5.2 rfl
noncomputable def dX6_unlike_8 := zr_dX6_unlike_8.1
noncomputable def zr_dX6_unlike_9 := zo_28 (q := 10) zr_dX6_unlike_8.2 rfl
noncomputable def dX6_unlike_9 := zr_dX6_unlike_9.1
noncomputable def zr_dX6_unlike_10 := zo_182 (k := 104)  (q := 13) zr_dX6_unlike_9.2 rfl rfl
noncomputable def dX6_unlike_10 := zr_dX6_unlike_10.1
noncomputable def zr_dX6_unlike_13 := zo_153 (k := 16)  (q := 16) zr_dX6_unlike_10.2 (by decide +kernel) rfl
noncomputable def dX6_unlike_13 := zr_dX6_unlike_13.1
noncomputable def zr_dX6_unlike_16 := zo_27 (q := 17) zr_dX6_unlike_13.2 rfl
noncomputable def dX6_unlike_16 := zr_dX6_unlike_16.1
noncomputable def zr_dX6_unlike_17 := zo_28 (q := 18) zr_dX6_unlike_16.2 rfl
noncomputable def dX6_unlike_17 := zr_dX6_unlike_17.1
noncomputable def zr_dX6_unlike_18 := zo_159 (k := 11)  (q := 21) zr_dX6_unlike_17.2 (by decide +kernel) rfl
noncomputable def dX6_unlike_18 := zr_dX6_unlike_18.1
noncomputable def zr_dX6_unlike_21 := zo_42 (q := 22) zr_dX6_unlike_18.2 rfl
noncomputable def dX6_unlike_21 := zr_dX6_unlike_21.1
noncomputable def zr_dX6_unlike_22 := zo_29 (q := 23) zr_dX6_unlike_21.2 rfl
noncomputable def dX6_unlike_22 := zr_dX6_unlike_22.1
noncomputable def zr_dX6_unlike_23 := zo_182 (k := 177)  (q := 26) zr_dX6_unlike_22.2 rfl rfl
noncomputable def dX6_unlike_23 := zr_dX6_unlike_23.1
noncomputable def zr_dX6_unlike_26 := zo_154 (k := 6)  (q := 29) zr_dX6_unlike_23.2 (by decide +kernel) rfl
noncomputable def dX6_unlike_26 := zr_dX6_unlike_26.1
noncomputable def zr_dX6_unlike_29 := zo_16 (k := -5)  (q := 31) zr_dX6_unlike_26.2 (by decide +kernel) rfl
noncomputable def dX6_unlike_29 := zr_dX6_unlike_29.1
noncomputable def zr_dX6_unlike_31 := zo_172 (q := 32) zr_dX6_unlike_29.2 rfl
noncomputable def dX6_unlike_31 := zr_dX6_unlike_31.1
noncomputable def zr_dX6_unlike_32 := zo_42 (q := 33) zr_dX6_unlike_31.2 rfl
noncomputable def dX6_unlike_32 := zr_dX6_unlike_32.1
noncomputable def zr_dX6_unlike_33 := zo_27 (q := 34) zr_dX6_unlike_32.2 rfl
noncomputable def dX6_unlike_33 := zr_dX6_unlike_33.1
noncomputable def zr_dX6_unlike_34 := zo_29 (q := 35) zr_dX6_unlike_33.2 rfl
noncomputable def dX6_unlike_34 := zr_dX6_unlike_34.1
noncomputable def zr_dX6_unlike_35 := zo_182 (k := 228)  (q := 38) zr_dX6_unlike_34.2 rfl rfl
noncomputable def dX6_unlike_35 := zr_dX6_unlike_35.1
noncomputable def zr_dX6_unlike_38 := zo_87 (q := 39) zr_dX6_unlike_35.2 rfl
noncomputable def dX6_unlike_38 := zr_dX6_unlike_38.1
noncomputable def zr_dX6_unlike_39 := zo_3 (q := 40) zr_dX6_unlike_38.2 rfl
noncomputable def dX6_unlike_39 := zr_dX6_unlike_39.1
noncomputable def zr_dX6_unlike_40 := zo_54 (k := 4)  (q := 42) zr_dX6_unlike_39.2 rfl rfl
noncomputable def dX6_unlike_40 := zr_dX6_unlike_40.1
noncomputable def zr_dX6_unlike_42 := zo_21 (k := 4)  (q := 44) zr_dX6_unlike_40.2 rfl rfl
noncomputable def dX6_unlike_42 := zr_dX6_unlike_42.1
noncomputable def zr_dX6_unlike_44 := zo_16 (k := 60)  (q := 46) zr_dX6_unlike_42.2 (by decide +kernel) rfl
noncomputable def dX6_unlike_44 := zr_dX6_unlike_44.1
noncomputable def zr_dX6_unlike_46 := zo_163 (k := 23)  (q := 49) zr_dX6_unlike_44.2 (by decide +kernel) rfl
noncomputable def dX6_unlike_46 := zr_dX6_unlike_46.1
noncomputable def zr_dX6_unlike_49 := zo_42 (q := 50) zr_dX6_unlike_46.2 rfl
noncomputable def dX6_unlike_49 := zr_dX6_unlike_49.1
noncomputable def zr_dX6_unlike_50 := zo_180 (k := 68)  (q := 53) zr_dX6_unlike_49.2 rfl rfl
noncomputable def dX6_unlike_50 := zr_dX6_unlike_50.1
noncomputable def zr_dX6_unlike_53 := zo_21 (k := 4)  (q := 55) zr_dX6_unlike_50.2 rfl rfl
noncomputable def dX6_unlike_53 := zr_dX6_unlike_53.1
noncomputable def zr_dX6_unlike_55 := zo_42 (q := 56) zr_dX6_unlike_53.2 rfl
noncomputable def dX6_unlike_55 := zr_dX6_unlike_55.1
noncomputable def zr_dX6_unlike_56 := zo_180 (k := 64)  (q := 59) zr_dX6_unlike_55.2 rfl rfl
noncomputable def dX6_unlike_56 := zr_dX6_unlike_56.1
noncomputable def zr_dX6_unlike_59 := zo_21 (k := 4)  (q := 61) zr_dX6_unlike_56.2 rfl rfl
noncomputable def dX6_unlike_59 := zr_dX6_unlike_59.1
noncomputable def zr_dX6_unlike_61 := zo_51 (q := 62) zr_dX6_unlike_59.2 rfl
noncomputable def dX6_unlike_61 := zr_dX6_unlike_61.1
noncomputable def zr_dX6_unlike_62 := zo_84 (q := 63) zr_dX6_unlike_61.2 rfl
noncomputable def dX6_unlike_62 := zr_dX6_unlike_62.1
noncomputable def zr_dX6_unlike_63 := zo_132 (k := 4) (o := 1)  (q := 66) zr_dX6_unlike_62.2 rfl (by decide +kernel) rfl
noncomputable def dX6_unlike_63 := zr_dX6_unlike_63.1
noncomputable def zr_dX6_unlike_66 := zo_167 (k := -24)  (q := 69) zr_dX6_unlike_63.2 (by decide +kernel) rfl
noncomputable def dX6_unlike_66 := zr_dX6_unlike_66.1
noncomputable def zr_dX6_unlike_69 := zo_42 (q := 70) zr_dX6_unlike_66.2 rfl
noncomputable def dX6_unlike_69 := zr_dX6_unlike_69.1
noncomputable def zr_dX6_unlike_70 := zo_28 (q := 71) zr_dX6_unlike_69.2 rfl
noncomputable def dX6_unlike_70 := zr_dX6_unlike_70.1
noncomputable def zr_dX6_unlike_71 := zo_29 (q := 72) zr_dX6_unlike_70.2 rfl
noncomputable def dX6_unlike_71 := zr_dX6_unlike_71.1
noncomputable def zr_dX6_unlike_72 := zo_182 (k := 228)  (q := 75) zr_dX6_unlike_71.2 rfl rfl
noncomputable def dX6_unlike_72 := zr_dX6_unlike_72.1
noncomputable def zr_dX6_unlike_75 := zo_87 (q := 76) zr_dX6_unlike_72.2 rfl
noncomputable def dX6_unlike_75 := zr_dX6_unlike_75.1
noncomputable def zr_dX6_unlike_76 := zo_3 (q := 77) zr_dX6_unlike_75.2 rfl
noncomputable def dX6_unlike_76 := zr_dX6_unlike_76.1
noncomputable def zr_dX6_unlike_77 := zo_54 (k := 4)  (q := 79) zr_dX6_unlike_76.2 rfl rfl
noncomputable def dX6_unlike_77 := zr_dX6_unlike_77.1
noncomputable def zr_dX6_unlike_79 := zo_21 (k := 4)  (q := 81) zr_dX6_unlike_77.2 rfl rfl
noncomputable def dX6_unlike_79 := zr_dX6_unlike_79.1
noncomputable def zr_dX6_unlike_81 := zo_16 (k := 60)  (q := 83) zr_dX6_unlike_79.2 (by decide +kernel) rfl
noncomputable def dX6_unlike_81 := zr_dX6_unlike_81.1
noncomputable def zr_dX6_unlike_83 := zo_163 (k := 32)  (q := 86) zr_dX6_unlike_81.2 (by decide +kernel) rfl
noncomputable def dX6_unlike_83 := zr_dX6_unlike_83.1
noncomputable def zr_dX6_unlike_86 := zo_42 (q := 87) zr_dX6_unlike_83.2 rfl
noncomputable def dX6_unlike_86 := zr_dX6_unlike_86.1
noncomputable def zr_dX6_unlike_87 := zo_180 (k := 68)  (q := 90) zr_dX6_unlike_86.2 rfl rfl
noncomputable def dX6_unlike_87 := zr_dX6_unlike_87.1
noncomputable def zr_dX6_unlike_90 := zo_21 (k := 4)  (q := 92) zr_dX6_unlike_87.2 rfl rfl
noncomputable def dX6_unlike_90 := zr_dX6_unlike_90.1
noncomputable def zr_dX6_unlike_92 := zo_51 (q := 93) zr_dX6_unlike_90.2 rfl
noncomputable def dX6_unlike_92 := zr_dX6_unlike_92.1
noncomputable def zr_dX6_unlike_93 := zo_153 (k := 16)  (q := 96) zr_dX6_unlike_92.2 (by decide +kernel) rfl
noncomputable def dX6_unlike_93 := zr_dX6_unlike_93.1
noncomputable def zr_dX6_unlike_96 := zo_42 (q := 97) zr_dX6_unlike_93.2 rfl
noncomputable def dX6_unlike_96 := zr_dX6_unlike_96.1
noncomputable def zr_dX6_unlike_97 := zo_180 (k := 64)  (q := 100) zr_dX6_unlike_96.2 rfl rfl
noncomputable def dX6_unlike_97 := zr_dX6_unlike_97.1
noncomputable def zr_dX6_unlike_100 := zo_21 (k := 4)  (q := 102) zr_dX6_unlike_97.2 rfl rfl
noncomputable def dX6_unlike_100 := zr_dX6_unlike_100.1
noncomputable def zr_dX6_unlike_102 := zo_51 (q := 103) zr_dX6_unlike_100.2 rfl
noncomputable def dX6_unlike_102 := zr_dX6_unlike_102.1
noncomputable def zr_dX6_unlike_103 := zo_154 (k := 6)  (q := 106) zr_dX6_unlike_102.2 (by decide +kernel) rfl
noncomputable def dX6_unlike_103 := zr_dX6_unlike_103.1
noncomputable def zr_dX6_unlike_106 := zo_21 (k := 4)  (q := 108) zr_dX6_unlike_103.2 rfl rfl
noncomputable def dX6_unlike_106 := zr_dX6_unlike_106.1
noncomputable def zr_dX6_unlike_108 := zo_172 (q := 109) zr_dX6_unlike_106.2 rfl
noncomputable def dX6_unlike_108 := zr_dX6_unlike_108.1
noncomputable def zr_dX6_unlike_109 := zo_132 (k := 4) (o := 1)  (q := 112) zr_dX6_unlike_108.2 rfl (by decide +kernel) rfl
noncomputable def dX6_unlike_109 := zr_dX6_unlike_109.1
noncomputable def zr_dX6_unlike_112 := zo_167 (k := -33)  (q := 115) zr_dX6_unlike_109.2 (by decide +kernel) rfl
noncomputable def dX6_unlike_112 := zr_dX6_unlike_112.1
noncomputable def zr_dX6_unlike_115 := zo_2 (q := 116) zr_dX6_unlike_112.2 rfl
noncomputable def dX6_unlike_115 := zr_dX6_unlike_115.1
noncomputable def zr_dX6_unlike_116 := zo_172 (q := 117) zr_dX6_unlike_115.2 rfl
noncomputable def dX6_unlike_116 := zr_dX6_unlike_116.1
theorem zs_dX6_hardest_0 : zsuf cX6_hardest 0 cX6_hardest.data.toList := rfl
noncomputable def zr_dX6_hardest_0 := zo_27 (q := 1) zs_dX6_hardest_0 rfl
noncomputable def dX6_hardest_0 := zr_dX6_hardest_0.1
noncomputable def zr_dX6_hardest_1 := zo_184 (k := 196)  (q := 4) zr_dX6_hardest_0.2 rfl rfl
noncomputable def dX6_hardest_1 := zr_dX6_hardest_1.1
noncomputable def zr_dX6_hardest_4 := zo_153 (k := 12)  (q := 7) zr_dX6_hardest_1.2 (by decide +kernel) rfl
noncomputable def dX6_hardest_4 := zr_dX6_hardest_4.1
noncomputable def zr_dX6_hardest_7 := zo_28 (q := 8) zr_dX6_hardest_4.2 rfl
noncomputable def dX6_hardest_7 := zr_dX6_hardest_7.1
noncomputable def zr_dX6_hardest_8 := zo_3 (q := 9) zr_dX6_hardest_7.2 rfl
noncomputable def dX6_hardest_8 := zr_dX6_hardest_8.1
noncomputable def zr_dX6_hardest_9 := zo_4 (q := 10) zr_dX6_hardest_8.2 rfl
noncomputable def dX6_hardest_9 := zr_dX6_hardest_9.1
noncomputable def zr_dX6_hardest_10 := zo_184 (k := 91)  (q := 13) zr_dX6_hardest_9.2 rfl rfl
noncomputable def dX6_hardest_10 := zr_dX6_hardest_10.1
noncomputable def zr_dX6_hardest_13 := zo_154 (k := 6)  (q := 16) zr_dX6_hardest_10.2 (by decide +kernel) rfl
noncomputable def dX6_hardest_13 := zr_dX6_hardest_13.1
noncomputable def zr_dX6_hardest_16 := zo_16 (k := -2)  (q := 18) zr_dX6_hardest_13.2 (by decide +kernel) rfl
noncomputable def dX6_hardest_16 := zr_dX6_hardest_16.1
noncomputable def zr_dX6_hardest_18 := zo_172 (q := 19) zr_dX6_hardest_16.2 rfl
noncomputable def dX6_hardest_18 := zr_dX6_hardest_18.1
noncomputable def zr_dX6_hardest_19 := zo_2 (q := 20) zr_dX6_hardest_18.2 rfl
noncomputable def dX6_hardest_19 := zr_dX6_hardest_19.1
noncomputable def zr_dX6_hardest_20 := zo_62 (q := 21) zr_dX6_hardest_19.2 rfl
noncomputable def dX6_hardest_20 := zr_dX6_hardest_20.1
noncomputable def zr_dX6_hardest_21 := zo_2 (q := 22) zr_dX6_hardest_20.2 rfl
noncomputable def dX6_hardest_21 := zr_dX6_hardest_21.1
noncomputable def zr_dX6_hardest_22 := zo_54 (k := 4)  (q := 24) zr_dX6_hardest_21.2 rfl rfl
noncomputable def dX6_hardest_22 := zr_dX6_hardest_22.1
noncomputable def zr_dX6_hardest_24 := zo_3 (q := 25) zr_dX6_hardest_22.2 rfl
noncomputable def dX6_hardest_24 := zr_dX6_hardest_24.1
noncomputable def zr_dX6_hardest_25 := zo_54 (k := 5)  (q := 27) zr_dX6_hardest_24.2 rfl rfl
noncomputable def dX6_hardest_25 := zr_dX6_hardest_25.1
noncomputable def zr_dX6_hardest_27 := zo_21 (k := 5)  (q := 29) zr_dX6_hardest_25.2 rfl rfl
noncomputable def dX6_hardest_27 := zr_dX6_hardest_27.1
noncomputable def zr_dX6_hardest_29 := zo_42 (q := 30) zr_dX6_hardest_27.2 rfl
noncomputable def dX6_hardest_29 := zr_dX6_hardest_29.1
noncomputable def zr_dX6_hardest_30 := zo_180 (k := 95)  (q := 33) zr_dX6_hardest_29.2 rfl rfl
noncomputable def dX6_hardest_30 := zr_dX6_hardest_30.1
noncomputable def zr_dX6_hardest_33 := zo_162 (k := 86)  (q := 36) zr_dX6_hardest_30.2 (by decide +kernel) rfl
noncomputable def dX6_hardest_33 := zr_dX6_hardest_33.1
noncomputable def zr_dX6_hardest_36 := zo_3 (q := 37) zr_dX6_hardest_33.2 rfl
noncomputable def dX6_hardest_36 := zr_dX6_hardest_36.1
noncomputable def zr_dX6_hardest_37 := zo_54 (k := 6)  (q := 39) zr_dX6_hardest_36.2 rfl rfl
noncomputable def dX6_hardest_37 := zr_dX6_hardest_37.1
noncomputable def zr_dX6_hardest_39 := zo_3 (q := 40) zr_dX6_hardest_37.2 rfl
noncomputable def dX6_hardest_39 := zr_dX6_hardest_39.1
noncomputable def zr_dX6_hardest_40 := zo_54 (k := 7)  (q := 42) zr_dX6_hardest_39.2 rfl rfl
noncomputable def dX6_hardest_40 := zr_dX6_hardest_40.1
noncomputable def zr_dX6_hardest_42 := zo_21 (k := 7)  (q := 44) zr_dX6_hardest_40.2 rfl rfl
noncomputable def dX6_hardest_42 := zr_dX6_hardest_42.1
noncomputable def zr_dX6_hardest_44 := zo_42 (q := 45) zr_dX6_hardest_42.2 rfl
noncomputable def dX6_hardest_44 := zr_dX6_hardest_44.1
noncomputable def zr_dX6_hardest_45 := zo_180 (k := 88)  (q := 48) zr_dX6_hardest_44.2 rfl rfl
noncomputable def dX6_hardest_45 := zr_dX6_hardest_45.1
noncomputable def zr_dX6_hardest_48 := zo_162 (k := 35)  (q := 51) zr_dX6_hardest_45.2 (by decide +kernel) rfl
noncomputable def dX6_hardest_48 := zr_dX6_hardest_48.1
noncomputable def zr_dX6_hardest_51 := zo_42 (q := 52) zr_dX6_hardest_48.2 rfl
noncomputable def dX6_hardest_51 := zr_dX6_hardest_51.1
noncomputable def zr_dX6_hardest_52 := zo_21 (k := 5)  (q := 54) zr_dX6_hardest_51.2 rfl rfl
noncomputable def dX6_hardest_52 := zr_dX6_hardest_52.1
noncomputable def zr_dX6_hardest_54 := zo_21 (k := 7)  (q := 56) zr_dX6_hardest_52.2 rfl rfl
noncomputable def dX6_hardest_54 := zr_dX6_hardest_54.1
noncomputable def zr_dX6_hardest_56 := zo_27 (q := 57) zr_dX6_hardest_54.2 rfl
noncomputable def dX6_hardest_56 := zr_dX6_hardest_56.1
noncomputable def zr_dX6_hardest_57 := zo_182 (k := 221)  (q := 60) zr_dX6_hardest_56.2 rfl rfl
noncomputable def dX6_hardest_57 := zr_dX6_hardest_57.1
noncomputable def zr_dX6_hardest_60 := zo_21 (k := 6)  (q := 62) zr_dX6_hardest_57.2 rfl rfl
noncomputable def dX6_hardest_60 := zr_dX6_hardest_60.1
noncomputable def zr_dX6_hardest_62 := zo_42 (q := 63) zr_dX6_hardest_60.2 rfl
noncomputable def dX6_hardest_62 := zr_dX6_hardest_62.1
noncomputable def zr_dX6_hardest_63 := zo_180 (k := 214)  (q := 66) zr_dX6_hardest_62.2 rfl rfl
noncomputable def dX6_hardest_63 := zr_dX6_hardest_63.1
noncomputable def zr_dX6_hardest_66 := zo_153 (k := 7)  (q := 69) zr_dX6_hardest_63.2 (by decide +kernel) rfl
noncomputable def dX6_hardest_66 := zr_dX6_hardest_66.1
noncomputable def zr_dX6_hardest_69 := zo_4 (q := 70) zr_dX6_hardest_66.2 rfl
noncomputable def dX6_hardest_69 := zr_dX6_hardest_69.1
noncomputable def zr_dX6_hardest_70 := zo_167 (k := 4)  (q := 73) zr_dX6_hardest_69.2 (by decide +kernel) rfl
noncomputable def dX6_hardest_70 := zr_dX6_hardest_70.1
noncomputable def zr_dX6_hardest_73 := zo_3 (q := 74) zr_dX6_hardest_70.2 rfl
noncomputable def dX6_hardest_73 := zr_dX6_hardest_73.1
noncomputable def zr_dX6_hardest_74 := zo_96 (q := 75) zr_dX6_hardest_73.2 rfl
noncomputable def dX6_hardest_74 := zr_dX6_hardest_74.1
noncomputable def zr_dX6_hardest_75 := zo_54 (k := 6)  (q := 77) zr_dX6_hardest_74.2 rfl rfl
noncomputable def dX6_hardest_75 := zr_dX6_hardest_75.1
noncomputable def zr_dX6_hardest_77 := zo_132 (k := 7) (o := 1)  (q := 80) zr_dX6_hardest_75.2 rfl (by decide +kernel) rfl
noncomputable def dX6_hardest_77 := zr_dX6_hardest_77.1
noncomputable def zr_dX6_hardest_80 := zo_167 (k := -38)  (q := 83) zr_dX6_hardest_77.2 (by decide +kernel) rfl
noncomputable def dX6_hardest_80 := zr_dX6_hardest_80.1
noncomputable def zr_dX6_hardest_83 := zo_21 (k := 6)  (q := 85) zr_dX6_hardest_80.2 rfl rfl
noncomputable def dX6_hardest_83 := zr_dX6_hardest_83.1
noncomputable def zr_dX6_hardest_85 := zo_21 (k := 4)  (q := 87) zr_dX6_hardest_83.2 rfl rfl
noncomputable def dX6_hardest_85 := zr_dX6_hardest_85.1
noncomputable def zr_dX6_hardest_87 := zo_164 (k := 8)  (q := 90) zr_dX6_hardest_85.2 (by decide +kernel) rfl
noncomputable def dX6_hardest_87 := zr_dX6_hardest_87.1
noncomputable def zr_dX6_hardest_90 := zo_21 (k := 5)  (q := 92) zr_dX6_hardest_87.2 rfl rfl
noncomputable def dX6_hardest_90 := zr_dX6_hardest_90.1
noncomputable def zr_dX6_hardest_92 := zo_167 (k := 4)  (q := 95) zr_dX6_hardest_90.2 (by decide +kernel) rfl
noncomputable def dX6_hardest_92 := zr_dX6_hardest_92.1
noncomputable def zr_dX6_hardest_95 := zo_29 (q := 96) zr_dX6_hardest_92.2 rfl
noncomputable def dX6_hardest_95 := zr_dX6_hardest_95.1
noncomputable def zr_dX6_hardest_96 := zo_62 (q := 97) zr_dX6_hardest_95.2 rfl
noncomputable def dX6_hardest_96 := zr_dX6_hardest_96.1
noncomputable def zr_dX6_hardest_97 := zo_21 (k := 6)  (q := 99) zr_dX6_hardest_96.2 rfl rfl
noncomputable def dX6_hardest_97 := zr_dX6_hardest_97.1
noncomputable def zr_dX6_hardest_99 := zo_21 (k := 4)  (q := 101) zr_dX6_hardest_97.2 rfl rfl
noncomputable def dX6_hardest_99 := zr_dX6_hardest_99.1
noncomputable def zr_dX6_hardest_101 := zo_164 (k := 8)  (q := 104) zr_dX6_hardest_99.2 (by decide +kernel) rfl
noncomputable def dX6_hardest_101 := zr_dX6_hardest_101.1
noncomputable def zr_dX6_hardest_104 := zo_21 (k := 6)  (q := 106) zr_dX6_hardest_101.2 rfl rfl
noncomputable def dX6_hardest_104 := zr_dX6_hardest_104.1
noncomputable def zr_dX6_hardest_106 := zo_167 (k := 5)  (q := 109) zr_dX6_hardest_104.2 (by decide +kernel) rfl
noncomputable def dX6_hardest_106 := zr_dX6_hardest_106.1
noncomputable def zr_dX6_hardest_109 := zo_21 (k := 4)  (q := 111) zr_dX6_hardest_106.2 rfl rfl
noncomputable def dX6_hardest_109 := zr_dX6_hardest_109.1
noncomputable def zr_dX6_hardest_111 := zo_54 (k := 4)  (q := 113) zr_dX6_hardest_109.2 rfl rfl
noncomputable def dX6_hardest_111 := zr_dX6_hardest_111.1
noncomputable def zr_dX6_hardest_113 := zo_132 (k := 5) (o := 1)  (q := 116) zr_dX6_hardest_111.2 rfl (by decide +kernel) rfl
noncomputable def dX6_hardest_113 := zr_dX6_hardest_113.1
noncomputable def zr_dX6_hardest_116 := zo_167 (k := -89)  (q := 119) zr_dX6_hardest_113.2 (by decide +kernel) rfl
noncomputable def dX6_hardest_116 := zr_dX6_hardest_116.1
noncomputable def zr_dX6_hardest_119 := zo_28 (q := 120) zr_dX6_hardest_116.2 rfl
noncomputable def dX6_hardest_119 := zr_dX6_hardest_119.1
noncomputable def zr_dX6_hardest_120 := zo_154 (k := 7)  (q := 123) zr_dX6_hardest_119.2 (by decide +kernel) rfl
noncomputable def dX6_hardest_120 := zr_dX6_hardest_120.1
noncomputable def zr_dX6_hardest_123 := zo_29 (q := 124) zr_dX6_hardest_120.2 rfl
noncomputable def dX6_hardest_123 := zr_dX6_hardest_123.1
noncomputable def zr_dX6_hardest_124 := zo_167 (k := 5)  (q := 127) zr_dX6_hardest_123.2 (by decide +kernel) rfl
noncomputable def dX6_hardest_124 := zr_dX6_hardest_124.1
noncomputable def zr_dX6_hardest_127 := zo_21 (k := 4)  (q := 129) zr_dX6_hardest_124.2 rfl rfl
noncomputable def dX6_hardest_127 := zr_dX6_hardest_127.1
noncomputable def zr_dX6_hardest_129 := zo_172 (q := 130) zr_dX6_hardest_127.2 rfl
noncomputable def dX6_hardest_129 := zr_dX6_hardest_129.1
theorem zs_dX6_thick_0 : zsuf cX6_thick 0 cX6_thick.data.toList := rfl
noncomputable def zr_dX6_thick_0 := zo_42 (q := 1) zs_dX6_thick_0 rfl
noncomputable def dX6_thick_0 := zr_dX6_thick_0.1
noncomputable def zr_dX6_thick_1 := zo_27 (q := 2) zr_dX6_thick_0.2 rfl
noncomputable def dX6_thick_1 := zr_dX6_thick_1.1
noncomputable def zr_dX6_thick_2 := zo_182 (k := 104)  (q := 5) zr_dX6_thick_1.2 rfl rfl
noncomputable def dX6_thick_2 := zr_dX6_thick_2.1
noncomputable def zr_dX6_thick_5 := zo_153 (k := 11)  (q := 8) zr_dX6_thick_2.2 (by decide +kernel) rfl
noncomputable def dX6_thick_5 := zr_dX6_thick_5.1
noncomputable def zr_dX6_thick_8 := zo_42 (q := 9) zr_dX6_thick_5.2 rfl
noncomputable def dX6_thick_8 := zr_dX6_thick_8.1
noncomputable def zr_dX6_thick_9 := zo_28 (q := 10) zr_dX6_thick_8.2 rfl
noncomputable def dX6_thick_9 := zr_dX6_thick_9.1
noncomputable def zr_dX6_thick_10 := zo_182 (k := 177)  (q := 13) zr_dX6_thick_9.2 rfl rfl
noncomputable def dX6_thick_10 := zr_dX6_thick_10.1
noncomputable def zr_dX6_thick_13 := zo_154 (k := 6)  (q := 16) zr_dX6_thick_10.2 (by decide +kernel) rfl
noncomputable def dX6_thick_13 := zr_dX6_thick_13.1
noncomputable def zr_dX6_thick_16 := zo_16 (k := -5)  (q := 18) zr_dX6_thick_13.2 (by decide +kernel) rfl
noncomputable def dX6_thick_16 := zr_dX6_thick_16.1
noncomputable def zr_dX6_thick_18 := zo_172 (q := 19) zr_dX6_thick_16.2 rfl
noncomputable def dX6_thick_18 := zr_dX6_thick_18.1
noncomputable def zr_dX6_thick_19 := zo_29 (q := 20) zr_dX6_thick_18.2 rfl
noncomputable def dX6_thick_19 := zr_dX6_thick_19.1
noncomputable def zr_dX6_thick_20 := zo_184 (k := 196)  (q := 23) zr_dX6_thick_19.2 rfl rfl
noncomputable def dX6_thick_20 := zr_dX6_thick_20.1
noncomputable def zr_dX6_thick_23 := zo_154 (k := 6)  (q := 26) zr_dX6_thick_20.2 (by decide +kernel) rfl
noncomputable def dX6_thick_23 := zr_dX6_thick_23.1
noncomputable def zr_dX6_thick_26 := zo_16 (k := -7)  (q := 28) zr_dX6_thick_23.2 (by decide +kernel) rfl
noncomputable def dX6_thick_26 := zr_dX6_thick_26.1
noncomputable def zr_dX6_thick_28 := zo_172 (q := 29) zr_dX6_thick_26.2 rfl
noncomputable def dX6_thick_28 := zr_dX6_thick_28.1
noncomputable def zr_dX6_thick_29 := zo_42 (q := 30) zr_dX6_thick_28.2 rfl
noncomputable def dX6_thick_29 := zr_dX6_thick_29.1
noncomputable def zr_dX6_thick_30 := zo_180 (k := 19)  (q := 33) zr_dX6_thick_29.2 rfl rfl
noncomputable def dX6_thick_30 := zr_dX6_thick_30.1
noncomputable def zr_dX6_thick_33 := zo_6 (q := 34) zr_dX6_thick_30.2 rfl
noncomputable def dX6_thick_33 := zr_dX6_thick_33.1
noncomputable def zr_dX6_thick_34 := zo_27 (q := 35) zr_dX6_thick_33.2 rfl
noncomputable def dX6_thick_34 := zr_dX6_thick_34.1
noncomputable def zr_dX6_thick_35 := zo_104 (q := 36) zr_dX6_thick_34.2 rfl
noncomputable def dX6_thick_35 := zr_dX6_thick_35.1
noncomputable def zr_dX6_thick_36 := zo_46 (q := 37) zr_dX6_thick_35.2 rfl
noncomputable def dX6_thick_36 := zr_dX6_thick_36.1
noncomputable def zr_dX6_thick_37 := zo_54 (k := 4)  (q := 39) zr_dX6_thick_36.2 rfl rfl
noncomputable def dX6_thick_37 := zr_dX6_thick_37.1
noncomputable def zr_dX6_thick_39 := zo_2 (q := 40) zr_dX6_thick_37.2 rfl
noncomputable def dX6_thick_39 := zr_dX6_thick_39.1
noncomputable def zr_dX6_thick_40 := zo_54 (k := 5)  (q := 42) zr_dX6_thick_39.2 rfl rfl
noncomputable def dX6_thick_40 := zr_dX6_thick_40.1
noncomputable def zr_dX6_thick_42 := zo_3 (q := 43) zr_dX6_thick_40.2 rfl
noncomputable def dX6_thick_42 := zr_dX6_thick_42.1
noncomputable def zr_dX6_thick_43 := zo_54 (k := 6)  (q := 45) zr_dX6_thick_42.2 rfl rfl
noncomputable def dX6_thick_43 := zr_dX6_thick_43.1
noncomputable def zr_dX6_thick_45 := zo_21 (k := 6)  (q := 47) zr_dX6_thick_43.2 rfl rfl
noncomputable def dX6_thick_45 := zr_dX6_thick_45.1
noncomputable def zr_dX6_thick_47 := zo_16 (k := 20)  (q := 49) zr_dX6_thick_45.2 (by decide +kernel) rfl
noncomputable def dX6_thick_47 := zr_dX6_thick_47.1
noncomputable def zr_dX6_thick_49 := zo_163 (k := 47)  (q := 52) zr_dX6_thick_47.2 (by decide +kernel) rfl
noncomputable def dX6_thick_49 := zr_dX6_thick_49.1
noncomputable def zr_dX6_thick_52 := zo_21 (k := 5)  (q := 54) zr_dX6_thick_49.2 rfl rfl
noncomputable def dX6_thick_52 := zr_dX6_thick_52.1
noncomputable def zr_dX6_thick_54 := zo_2 (q := 55) zr_dX6_thick_52.2 rfl
noncomputable def dX6_thick_54 := zr_dX6_thick_54.1
noncomputable def zr_dX6_thick_55 := zo_160 (k := 41)  (q := 58) zr_dX6_thick_54.2 (by decide +kernel) rfl
noncomputable def dX6_thick_55 := zr_dX6_thick_55.1
noncomputable def zr_dX6_thick_58 := zo_42 (q := 59) zr_dX6_thick_55.2 rfl
noncomputable def dX6_thick_58 := zr_dX6_thick_58.1
noncomputable def zr_dX6_thick_59 := zo_180 (k := 19)  (q := 62) zr_dX6_thick_58.2 rfl rfl
noncomputable def dX6_thick_59 := zr_dX6_thick_59.1
noncomputable def zr_dX6_thick_62 := zo_6 (q := 63) zr_dX6_thick_59.2 rfl
noncomputable def dX6_thick_62 := zr_dX6_thick_62.1
noncomputable def zr_dX6_thick_63 := zo_27 (q := 64) zr_dX6_thick_62.2 rfl
noncomputable def dX6_thick_63 := zr_dX6_thick_63.1
noncomputable def zr_dX6_thick_64 := zo_104 (q := 65) zr_dX6_thick_63.2 rfl
noncomputable def dX6_thick_64 := zr_dX6_thick_64.1
noncomputable def zr_dX6_thick_65 := zo_21 (k := 6)  (q := 67) zr_dX6_thick_64.2 rfl rfl
noncomputable def dX6_thick_65 := zr_dX6_thick_65.1
noncomputable def zr_dX6_thick_67 := zo_79 (q := 68) zr_dX6_thick_65.2 rfl
noncomputable def dX6_thick_67 := zr_dX6_thick_67.1
noncomputable def zr_dX6_thick_68 := zo_42 (q := 69) zr_dX6_thick_67.2 rfl
noncomputable def dX6_thick_68 := zr_dX6_thick_68.1
noncomputable def zr_dX6_thick_69 := zo_27 (q := 70) zr_dX6_thick_68.2 rfl
noncomputable def dX6_thick_69 := zr_dX6_thick_69.1
noncomputable def zr_dX6_thick_70 := zo_28 (q := 71) zr_dX6_thick_69.2 rfl
noncomputable def dX6_thick_70 := zr_dX6_thick_70.1
noncomputable def zr_dX6_thick_71 := zo_29 (q := 72) zr_dX6_thick_70.2 rfl
noncomputable def dX6_thick_71 := zr_dX6_thick_71.1
noncomputable def zr_dX6_thick_72 := zo_182 (k := 221)  (q := 75) zr_dX6_thick_71.2 rfl rfl
noncomputable def dX6_thick_72 := zr_dX6_thick_72.1
noncomputable def zr_dX6_thick_75 := zo_42 (q := 76) zr_dX6_thick_72.2 rfl
noncomputable def dX6_thick_75 := zr_dX6_thick_75.1
noncomputable def zr_dX6_thick_76 := zo_180 (k := 214)  (q := 79) zr_dX6_thick_75.2 rfl rfl
noncomputable def dX6_thick_76 := zr_dX6_thick_76.1
noncomputable def zr_dX6_thick_79 := zo_153 (k := 7)  (q := 82) zr_dX6_thick_76.2 (by decide +kernel) rfl
noncomputable def dX6_thick_79 := zr_dX6_thick_79.1
noncomputable def zr_dX6_thick_82 := zo_2 (q := 83) zr_dX6_thick_79.2 rfl
noncomputable def dX6_thick_82 := zr_dX6_thick_82.1
noncomputable def zr_dX6_thick_83 := zo_167 (k := 5)  (q := 86) zr_dX6_thick_82.2 (by decide +kernel) rfl
noncomputable def dX6_thick_83 := zr_dX6_thick_83.1
noncomputable def zr_dX6_thick_86 := zo_21 (k := 6)  (q := 88) zr_dX6_thick_83.2 rfl rfl
noncomputable def dX6_thick_86 := zr_dX6_thick_86.1
noncomputable def zr_dX6_thick_88 := zo_54 (k := 5)  (q := 90) zr_dX6_thick_86.2 rfl rfl
noncomputable def dX6_thick_88 := zr_dX6_thick_88.1
noncomputable def zr_dX6_thick_90 := zo_132 (k := 6) (o := 1)  (q := 93) zr_dX6_thick_88.2 rfl (by decide +kernel) rfl
noncomputable def dX6_thick_90 := zr_dX6_thick_90.1
noncomputable def zr_dX6_thick_93 := zo_167 (k := -48)  (q := 96) zr_dX6_thick_90.2 (by decide +kernel) rfl
noncomputable def dX6_thick_93 := zr_dX6_thick_93.1
noncomputable def zr_dX6_thick_96 := zo_42 (q := 97) zr_dX6_thick_93.2 rfl
noncomputable def dX6_thick_96 := zr_dX6_thick_96.1
noncomputable def zr_dX6_thick_97 := zo_180 (k := 19)  (q := 100) zr_dX6_thick_96.2 rfl rfl
noncomputable def dX6_thick_97 := zr_dX6_thick_97.1
noncomputable def zr_dX6_thick_100 := zo_6 (q := 101) zr_dX6_thick_97.2 rfl
noncomputable def dX6_thick_100 := zr_dX6_thick_100.1
noncomputable def zr_dX6_thick_101 := zo_27 (q := 102) zr_dX6_thick_100.2 rfl
noncomputable def dX6_thick_101 := zr_dX6_thick_101.1
noncomputable def zr_dX6_thick_102 := zo_104 (q := 103) zr_dX6_thick_101.2 rfl
noncomputable def dX6_thick_102 := zr_dX6_thick_102.1
noncomputable def zr_dX6_thick_103 := zo_21 (k := 4)  (q := 105) zr_dX6_thick_102.2 rfl rfl
noncomputable def dX6_thick_103 := zr_dX6_thick_103.1
noncomputable def zr_dX6_thick_105 := zo_79 (q := 106) zr_dX6_thick_103.2 rfl
noncomputable def dX6_thick_105 := zr_dX6_thick_105.1
noncomputable def zr_dX6_thick_106 := zo_21 (k := 5)  (q := 108) zr_dX6_thick_105.2 rfl rfl
noncomputable def dX6_thick_106 := zr_dX6_thick_106.1
noncomputable def zr_dX6_thick_108 := zo_172 (q := 109) zr_dX6_thick_106.2 rfl
noncomputable def dX6_thick_108 := zr_dX6_thick_108.1
theorem zs_dX6_tellsPlaces_0 : zsuf cX6_tellsPlaces 0 cX6_tellsPlaces.data.toList := rfl
noncomputable def zr_dX6_tellsPlaces_0 := zo_42 (q := 1) zs_dX6_tellsPlaces_0 rfl
noncomputable def dX6_tellsPlaces_0 := zr_dX6_tellsPlaces_0.1
noncomputable def zr_dX6_tellsPlaces_1 := zo_180 (k := 19)  (q := 4) zr_dX6_tellsPlaces_0.2 rfl rfl
noncomputable def dX6_tellsPlaces_1 := zr_dX6_tellsPlaces_1.1
noncomputable def zr_dX6_tellsPlaces_4 := zo_6 (q := 5) zr_dX6_tellsPlaces_1.2 rfl
noncomputable def dX6_tellsPlaces_4 := zr_dX6_tellsPlaces_4.1
noncomputable def zr_dX6_tellsPlaces_5 := zo_27 (q := 6) zr_dX6_tellsPlaces_4.2 rfl
noncomputable def dX6_tellsPlaces_5 := zr_dX6_tellsPlaces_5.1
noncomputable def zr_dX6_tellsPlaces_6 := zo_104 (q := 7) zr_dX6_tellsPlaces_5.2 rfl
noncomputable def dX6_tellsPlaces_6 := zr_dX6_tellsPlaces_6.1
noncomputable def zr_dX6_tellsPlaces_7 := zo_46 (q := 8) zr_dX6_tellsPlaces_6.2 rfl
noncomputable def dX6_tellsPlaces_7 := zr_dX6_tellsPlaces_7.1
noncomputable def zr_dX6_tellsPlaces_8 := zo_62 (q := 9) zr_dX6_tellsPlaces_7.2 rfl
noncomputable def dX6_tellsPlaces_8 := zr_dX6_tellsPlaces_8.1
noncomputable def zr_dX6_tellsPlaces_9 := zo_42 (q := 10) zr_dX6_tellsPlaces_8.2 rfl
noncomputable def dX6_tellsPlaces_9 := zr_dX6_tellsPlaces_9.1
noncomputable def zr_dX6_tellsPlaces_10 := zo_180 (k := 19)  (q := 13) zr_dX6_tellsPlaces_9.2 rfl rfl
noncomputable def dX6_tellsPlaces_10 := zr_dX6_tellsPlaces_10.1
noncomputable def zr_dX6_tellsPlaces_13 := zo_6 (q := 14) zr_dX6_tellsPlaces_10.2 rfl
noncomputable def dX6_tellsPlaces_13 := zr_dX6_tellsPlaces_13.1
noncomputable def zr_dX6_tellsPlaces_14 := zo_27 (q := 15) zr_dX6_tellsPlaces_13.2 rfl
noncomputable def dX6_tellsPlaces_14 := zr_dX6_tellsPlaces_14.1
noncomputable def zr_dX6_tellsPlaces_15 := zo_104 (q := 16) zr_dX6_tellsPlaces_14.2 rfl
noncomputable def dX6_tellsPlaces_15 := zr_dX6_tellsPlaces_15.1
noncomputable def zr_dX6_tellsPlaces_16 := zo_4 (q := 17) zr_dX6_tellsPlaces_15.2 rfl
noncomputable def dX6_tellsPlaces_16 := zr_dX6_tellsPlaces_16.1
noncomputable def zr_dX6_tellsPlaces_17 := zo_96 (q := 18) zr_dX6_tellsPlaces_16.2 rfl
noncomputable def dX6_tellsPlaces_17 := zr_dX6_tellsPlaces_17.1
noncomputable def zr_dX6_tellsPlaces_18 := zo_46 (q := 19) zr_dX6_tellsPlaces_17.2 rfl
noncomputable def dX6_tellsPlaces_18 := zr_dX6_tellsPlaces_18.1
noncomputable def zr_dX6_tellsPlaces_19 := zo_54 (k := 4)  (q := 21) zr_dX6_tellsPlaces_18.2 rfl rfl
noncomputable def dX6_tellsPlaces_19 := zr_dX6_tellsPlaces_19.1
noncomputable def zr_dX6_tellsPlaces_21 := zo_3 (q := 22) zr_dX6_tellsPlaces_19.2 rfl
noncomputable def dX6_tellsPlaces_21 := zr_dX6_tellsPlaces_21.1
noncomputable def zr_dX6_tellsPlaces_22 := zo_54 (k := 5)  (q := 24) zr_dX6_tellsPlaces_21.2 rfl rfl
noncomputable def dX6_tellsPlaces_22 := zr_dX6_tellsPlaces_22.1
noncomputable def zr_dX6_tellsPlaces_24 := zo_21 (k := 5)  (q := 26) zr_dX6_tellsPlaces_22.2 rfl rfl
noncomputable def dX6_tellsPlaces_24 := zr_dX6_tellsPlaces_24.1
noncomputable def zr_dX6_tellsPlaces_26 := zo_42 (q := 27) zr_dX6_tellsPlaces_24.2 rfl
noncomputable def dX6_tellsPlaces_26 := zr_dX6_tellsPlaces_26.1
noncomputable def zr_dX6_tellsPlaces_27 := zo_180 (k := 88)  (q := 30) zr_dX6_tellsPlaces_26.2 rfl rfl
noncomputable def dX6_tellsPlaces_27 := zr_dX6_tellsPlaces_27.1
noncomputable def zr_dX6_tellsPlaces_30 := zo_162 (k := 157)  (q := 33) zr_dX6_tellsPlaces_27.2 (by decide +kernel) rfl
noncomputable def dX6_tellsPlaces_30 := zr_dX6_tellsPlaces_30.1
noncomputable def zr_dX6_tellsPlaces_33 := zo_3 (q := 34) zr_dX6_tellsPlaces_30.2 rfl
noncomputable def dX6_tellsPlaces_33 := zr_dX6_tellsPlaces_33.1
noncomputable def zr_dX6_tellsPlaces_34 := zo_54 (k := 6)  (q := 36) zr_dX6_tellsPlaces_33.2 rfl rfl
noncomputable def dX6_tellsPlaces_34 := zr_dX6_tellsPlaces_34.1
noncomputable def zr_dX6_tellsPlaces_36 := zo_21 (k := 6)  (q := 38) zr_dX6_tellsPlaces_34.2 rfl rfl
noncomputable def dX6_tellsPlaces_36 := zr_dX6_tellsPlaces_36.1
noncomputable def zr_dX6_tellsPlaces_38 := zo_42 (q := 39) zr_dX6_tellsPlaces_36.2 rfl
noncomputable def dX6_tellsPlaces_38 := zr_dX6_tellsPlaces_38.1
noncomputable def zr_dX6_tellsPlaces_39 := zo_180 (k := 88)  (q := 42) zr_dX6_tellsPlaces_38.2 rfl rfl
noncomputable def dX6_tellsPlaces_39 := zr_dX6_tellsPlaces_39.1
noncomputable def zr_dX6_tellsPlaces_42 := zo_162 (k := 59)  (q := 45) zr_dX6_tellsPlaces_39.2 (by decide +kernel) rfl
noncomputable def dX6_tellsPlaces_42 := zr_dX6_tellsPlaces_42.1
noncomputable def zr_dX6_tellsPlaces_45 := zo_42 (q := 46) zr_dX6_tellsPlaces_42.2 rfl
noncomputable def dX6_tellsPlaces_45 := zr_dX6_tellsPlaces_45.1
noncomputable def zr_dX6_tellsPlaces_46 := zo_27 (q := 47) zr_dX6_tellsPlaces_45.2 rfl
noncomputable def dX6_tellsPlaces_46 := zr_dX6_tellsPlaces_46.1
noncomputable def zr_dX6_tellsPlaces_47 := zo_21 (k := 6)  (q := 49) zr_dX6_tellsPlaces_46.2 rfl rfl
noncomputable def dX6_tellsPlaces_47 := zr_dX6_tellsPlaces_47.1
noncomputable def zr_dX6_tellsPlaces_49 := zo_28 (q := 50) zr_dX6_tellsPlaces_47.2 rfl
noncomputable def dX6_tellsPlaces_49 := zr_dX6_tellsPlaces_49.1
noncomputable def zr_dX6_tellsPlaces_50 := zo_182 (k := 221)  (q := 53) zr_dX6_tellsPlaces_49.2 rfl rfl
noncomputable def dX6_tellsPlaces_50 := zr_dX6_tellsPlaces_50.1
noncomputable def zr_dX6_tellsPlaces_53 := zo_42 (q := 54) zr_dX6_tellsPlaces_50.2 rfl
noncomputable def dX6_tellsPlaces_53 := zr_dX6_tellsPlaces_53.1
noncomputable def zr_dX6_tellsPlaces_54 := zo_180 (k := 71)  (q := 57) zr_dX6_tellsPlaces_53.2 rfl rfl
noncomputable def dX6_tellsPlaces_54 := zr_dX6_tellsPlaces_54.1
noncomputable def zr_dX6_tellsPlaces_57 := zo_16 (k := 6)  (q := 59) zr_dX6_tellsPlaces_54.2 (by decide +kernel) rfl
noncomputable def dX6_tellsPlaces_57 := zr_dX6_tellsPlaces_57.1
noncomputable def zr_dX6_tellsPlaces_59 := zo_21 (k := 5)  (q := 61) zr_dX6_tellsPlaces_57.2 rfl rfl
noncomputable def dX6_tellsPlaces_59 := zr_dX6_tellsPlaces_59.1
noncomputable def zr_dX6_tellsPlaces_61 := zo_104 (q := 62) zr_dX6_tellsPlaces_59.2 rfl
noncomputable def dX6_tellsPlaces_61 := zr_dX6_tellsPlaces_61.1
noncomputable def zr_dX6_tellsPlaces_62 := zo_21 (k := 6)  (q := 64) zr_dX6_tellsPlaces_61.2 rfl rfl
noncomputable def dX6_tellsPlaces_62 := zr_dX6_tellsPlaces_62.1
noncomputable def zr_dX6_tellsPlaces_64 := zo_96 (q := 65) zr_dX6_tellsPlaces_62.2 rfl
noncomputable def dX6_tellsPlaces_64 := zr_dX6_tellsPlaces_64.1
noncomputable def zr_dX6_tellsPlaces_65 := zo_42 (q := 66) zr_dX6_tellsPlaces_64.2 rfl
noncomputable def dX6_tellsPlaces_65 := zr_dX6_tellsPlaces_65.1
noncomputable def zr_dX6_tellsPlaces_66 := zo_180 (k := 205)  (q := 69) zr_dX6_tellsPlaces_65.2 rfl rfl
noncomputable def dX6_tellsPlaces_66 := zr_dX6_tellsPlaces_66.1
noncomputable def zr_dX6_tellsPlaces_69 := zo_79 (q := 70) zr_dX6_tellsPlaces_66.2 rfl
noncomputable def dX6_tellsPlaces_69 := zr_dX6_tellsPlaces_69.1
noncomputable def zr_dX6_tellsPlaces_70 := zo_42 (q := 71) zr_dX6_tellsPlaces_69.2 rfl
noncomputable def dX6_tellsPlaces_70 := zr_dX6_tellsPlaces_70.1
noncomputable def zr_dX6_tellsPlaces_71 := zo_180 (k := 74)  (q := 74) zr_dX6_tellsPlaces_70.2 rfl rfl
noncomputable def dX6_tellsPlaces_71 := zr_dX6_tellsPlaces_71.1
noncomputable def zr_dX6_tellsPlaces_74 := zo_16 (k := 6)  (q := 76) zr_dX6_tellsPlaces_71.2 (by decide +kernel) rfl
noncomputable def dX6_tellsPlaces_74 := zr_dX6_tellsPlaces_74.1
noncomputable def zr_dX6_tellsPlaces_76 := zo_21 (k := 5)  (q := 78) zr_dX6_tellsPlaces_74.2 rfl rfl
noncomputable def dX6_tellsPlaces_76 := zr_dX6_tellsPlaces_76.1
noncomputable def zr_dX6_tellsPlaces_78 := zo_104 (q := 79) zr_dX6_tellsPlaces_76.2 rfl
noncomputable def dX6_tellsPlaces_78 := zr_dX6_tellsPlaces_78.1
noncomputable def zr_dX6_tellsPlaces_79 := zo_21 (k := 6)  (q := 81) zr_dX6_tellsPlaces_78.2 rfl rfl
noncomputable def dX6_tellsPlaces_79 := zr_dX6_tellsPlaces_79.1
noncomputable def zr_dX6_tellsPlaces_81 := zo_96 (q := 82) zr_dX6_tellsPlaces_79.2 rfl
noncomputable def dX6_tellsPlaces_81 := zr_dX6_tellsPlaces_81.1
noncomputable def zr_dX6_tellsPlaces_82 := zo_42 (q := 83) zr_dX6_tellsPlaces_81.2 rfl
noncomputable def dX6_tellsPlaces_82 := zr_dX6_tellsPlaces_82.1
noncomputable def zr_dX6_tellsPlaces_83 := zo_180 (k := 214)  (q := 86) zr_dX6_tellsPlaces_82.2 rfl rfl
noncomputable def dX6_tellsPlaces_83 := zr_dX6_tellsPlaces_83.1
noncomputable def zr_dX6_tellsPlaces_86 := zo_153 (k := 7)  (q := 89) zr_dX6_tellsPlaces_83.2 (by decide +kernel) rfl
noncomputable def dX6_tellsPlaces_86 := zr_dX6_tellsPlaces_86.1
noncomputable def zr_dX6_tellsPlaces_89 := zo_4 (q := 90) zr_dX6_tellsPlaces_86.2 rfl
noncomputable def dX6_tellsPlaces_89 := zr_dX6_tellsPlaces_89.1
noncomputable def zr_dX6_tellsPlaces_90 := zo_167 (k := 4)  (q := 93) zr_dX6_tellsPlaces_89.2 (by decide +kernel) rfl
noncomputable def dX6_tellsPlaces_90 := zr_dX6_tellsPlaces_90.1
noncomputable def zr_dX6_tellsPlaces_93 := zo_3 (q := 94) zr_dX6_tellsPlaces_90.2 rfl
noncomputable def dX6_tellsPlaces_93 := zr_dX6_tellsPlaces_93.1
noncomputable def zr_dX6_tellsPlaces_94 := zo_79 (q := 95) zr_dX6_tellsPlaces_93.2 rfl
noncomputable def dX6_tellsPlaces_94 := zr_dX6_tellsPlaces_94.1
noncomputable def zr_dX6_tellsPlaces_95 := zo_132 (k := 6) (o := 1)  (q := 98) zr_dX6_tellsPlaces_94.2 rfl (by decide +kernel) rfl
noncomputable def dX6_tellsPlaces_95 := zr_dX6_tellsPlaces_95.1
noncomputable def zr_dX6_tellsPlaces_98 := zo_167 (k := -62)  (q := 101) zr_dX6_tellsPlaces_95.2 (by decide +kernel) rfl
noncomputable def dX6_tellsPlaces_98 := zr_dX6_tellsPlaces_98.1
noncomputable def zr_dX6_tellsPlaces_101 := zo_3 (q := 102) zr_dX6_tellsPlaces_98.2 rfl
noncomputable def dX6_tellsPlaces_101 := zr_dX6_tellsPlaces_101.1
