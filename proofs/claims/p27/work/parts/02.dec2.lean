theorem zs_dX5_hear_46 : zsuf cX5_hear 0 cX5_hear.data.toList := rfl
noncomputable def zr_dX5_hear_46 := zo_29 (q := 47) (zskip zs_dX5_hear_46 46 (q := 46) rfl) rfl
noncomputable def dX5_hear_46 := zr_dX5_hear_46.1
noncomputable def zr_dX5_hear_47 := zo_182 (k := 140)  (q := 50) zr_dX5_hear_46.2 rfl rfl
noncomputable def dX5_hear_47 := zr_dX5_hear_47.1
noncomputable def zr_dX5_hear_50 := zo_54 (k := 5)  (q := 52) zr_dX5_hear_47.2 rfl rfl
noncomputable def dX5_hear_50 := zr_dX5_hear_50.1
noncomputable def zr_dX5_hear_52 := zo_21 (k := 4)  (q := 54) zr_dX5_hear_50.2 rfl rfl
noncomputable def dX5_hear_52 := zr_dX5_hear_52.1
noncomputable def zr_dX5_hear_54 := zo_6 (q := 55) zr_dX5_hear_52.2 rfl
noncomputable def dX5_hear_54 := zr_dX5_hear_54.1
noncomputable def zr_dX5_hear_55 := zo_160 (k := 15)  (q := 58) zr_dX5_hear_54.2 (by decide +kernel) rfl
noncomputable def dX5_hear_55 := zr_dX5_hear_55.1
noncomputable def zr_dX5_hear_58 := zo_42 (q := 59) zr_dX5_hear_55.2 rfl
noncomputable def dX5_hear_58 := zr_dX5_hear_58.1
noncomputable def zr_dX5_hear_59 := zo_180 (k := 32)  (q := 62) zr_dX5_hear_58.2 rfl rfl
noncomputable def dX5_hear_59 := zr_dX5_hear_59.1
noncomputable def zr_dX5_hear_62 := zo_180 (k := 98)  (q := 65) zr_dX5_hear_59.2 rfl rfl
noncomputable def dX5_hear_62 := zr_dX5_hear_62.1
noncomputable def zr_dX5_hear_65 := zo_27 (q := 66) zr_dX5_hear_62.2 rfl
noncomputable def dX5_hear_65 := zr_dX5_hear_65.1
noncomputable def zr_dX5_hear_66 := zo_46 (q := 67) zr_dX5_hear_65.2 rfl
noncomputable def dX5_hear_66 := zr_dX5_hear_66.1
noncomputable def zr_dX5_hear_67 := zo_167 (k := 13)  (q := 70) zr_dX5_hear_66.2 (by decide +kernel) rfl
noncomputable def dX5_hear_67 := zr_dX5_hear_67.1
noncomputable def zr_dX5_hear_70 := zo_42 (q := 71) zr_dX5_hear_67.2 rfl
noncomputable def dX5_hear_70 := zr_dX5_hear_70.1
noncomputable def zr_dX5_hear_71 := zo_27 (q := 72) zr_dX5_hear_70.2 rfl
noncomputable def dX5_hear_71 := zr_dX5_hear_71.1
noncomputable def zr_dX5_hear_72 := zo_28 (q := 73) zr_dX5_hear_71.2 rfl
noncomputable def dX5_hear_72 := zr_dX5_hear_72.1
noncomputable def zr_dX5_hear_73 := zo_21 (k := 5)  (q := 75) zr_dX5_hear_72.2 rfl rfl
noncomputable def dX5_hear_73 := zr_dX5_hear_73.1
noncomputable def zr_dX5_hear_75 := zo_21 (k := 4)  (q := 77) zr_dX5_hear_73.2 rfl rfl
noncomputable def dX5_hear_75 := zr_dX5_hear_75.1
noncomputable def zr_dX5_hear_77 := zo_182 (k := 146)  (q := 80) zr_dX5_hear_75.2 rfl rfl
noncomputable def dX5_hear_77 := zr_dX5_hear_77.1
noncomputable def zr_dX5_hear_80 := zo_172 (q := 81) zr_dX5_hear_77.2 rfl
noncomputable def dX5_hear_80 := zr_dX5_hear_80.1
theorem zs_dX5_fewest_0 : zsuf cX5_fewest 0 cX5_fewest.data.toList := rfl
noncomputable def zr_dX5_fewest_0 := zo_42 (q := 1) zs_dX5_fewest_0 rfl
noncomputable def dX5_fewest_0 := zr_dX5_fewest_0.1
noncomputable def zr_dX5_fewest_1 := zo_180 (k := 28)  (q := 4) zr_dX5_fewest_0.2 rfl rfl
noncomputable def dX5_fewest_1 := zr_dX5_fewest_1.1
noncomputable def zr_dX5_fewest_4 := zo_27 (q := 5) zr_dX5_fewest_1.2 rfl
noncomputable def dX5_fewest_4 := zr_dX5_fewest_4.1
noncomputable def zr_dX5_fewest_5 := zo_28 (q := 6) zr_dX5_fewest_4.2 rfl
noncomputable def dX5_fewest_5 := zr_dX5_fewest_5.1
noncomputable def zr_dX5_fewest_6 := zo_182 (k := 137)  (q := 9) zr_dX5_fewest_5.2 rfl rfl
noncomputable def dX5_fewest_6 := zr_dX5_fewest_6.1
noncomputable def zr_dX5_fewest_9 := zo_154 (k := 6)  (q := 12) zr_dX5_fewest_6.2 (by decide +kernel) rfl
noncomputable def dX5_fewest_9 := zr_dX5_fewest_9.1
noncomputable def zr_dX5_fewest_12 := zo_16 (k := -5)  (q := 14) zr_dX5_fewest_9.2 (by decide +kernel) rfl
noncomputable def dX5_fewest_12 := zr_dX5_fewest_12.1
noncomputable def zr_dX5_fewest_14 := zo_172 (q := 15) zr_dX5_fewest_12.2 rfl
noncomputable def dX5_fewest_14 := zr_dX5_fewest_14.1
noncomputable def zr_dX5_fewest_15 := zo_42 (q := 16) zr_dX5_fewest_14.2 rfl
noncomputable def dX5_fewest_15 := zr_dX5_fewest_15.1
noncomputable def zr_dX5_fewest_16 := zo_27 (q := 17) zr_dX5_fewest_15.2 rfl
noncomputable def dX5_fewest_16 := zr_dX5_fewest_16.1
noncomputable def zr_dX5_fewest_17 := zo_28 (q := 18) zr_dX5_fewest_16.2 rfl
noncomputable def dX5_fewest_17 := zr_dX5_fewest_17.1
noncomputable def zr_dX5_fewest_18 := zo_182 (k := 150)  (q := 21) zr_dX5_fewest_17.2 rfl rfl
noncomputable def dX5_fewest_18 := zr_dX5_fewest_18.1
noncomputable def zr_dX5_fewest_21 := zo_184 (k := 154)  (q := 24) zr_dX5_fewest_18.2 rfl rfl
noncomputable def dX5_fewest_21 := zr_dX5_fewest_21.1
noncomputable def zr_dX5_fewest_24 := zo_172 (q := 25) zr_dX5_fewest_21.2 rfl
noncomputable def dX5_fewest_24 := zr_dX5_fewest_24.1
theorem zs_dX5_sand_0 : zsuf cX5_sand 0 cX5_sand.data.toList := rfl
noncomputable def zr_dX5_sand_0 := zo_42 (q := 1) zs_dX5_sand_0 rfl
noncomputable def dX5_sand_0 := zr_dX5_sand_0.1
noncomputable def zr_dX5_sand_1 := zo_180 (k := 28)  (q := 4) zr_dX5_sand_0.2 rfl rfl
noncomputable def dX5_sand_1 := zr_dX5_sand_1.1
noncomputable def zr_dX5_sand_4 := zo_27 (q := 5) zr_dX5_sand_1.2 rfl
noncomputable def dX5_sand_4 := zr_dX5_sand_4.1
noncomputable def zr_dX5_sand_5 := zo_28 (q := 6) zr_dX5_sand_4.2 rfl
noncomputable def dX5_sand_5 := zr_dX5_sand_5.1
noncomputable def zr_dX5_sand_6 := zo_182 (k := 137)  (q := 9) zr_dX5_sand_5.2 rfl rfl
noncomputable def dX5_sand_6 := zr_dX5_sand_6.1
noncomputable def zr_dX5_sand_9 := zo_154 (k := 6)  (q := 12) zr_dX5_sand_6.2 (by decide +kernel) rfl
noncomputable def dX5_sand_9 := zr_dX5_sand_9.1
noncomputable def zr_dX5_sand_12 := zo_16 (k := -5)  (q := 14) zr_dX5_sand_9.2 (by decide +kernel) rfl
noncomputable def dX5_sand_12 := zr_dX5_sand_12.1
noncomputable def zr_dX5_sand_14 := zo_172 (q := 15) zr_dX5_sand_12.2 rfl
noncomputable def dX5_sand_14 := zr_dX5_sand_14.1
noncomputable def zr_dX5_sand_15 := zo_42 (q := 16) zr_dX5_sand_14.2 rfl
noncomputable def dX5_sand_15 := zr_dX5_sand_15.1
noncomputable def zr_dX5_sand_16 := zo_182 (k := 143)  (q := 19) zr_dX5_sand_15.2 rfl rfl
noncomputable def dX5_sand_16 := zr_dX5_sand_16.1
noncomputable def zr_dX5_sand_19 := zo_3 (q := 20) zr_dX5_sand_16.2 rfl
noncomputable def dX5_sand_19 := zr_dX5_sand_19.1
noncomputable def zr_dX5_sand_20 := zo_62 (q := 21) zr_dX5_sand_19.2 rfl
noncomputable def dX5_sand_20 := zr_dX5_sand_20.1
noncomputable def zr_dX5_sand_21 := zo_29 (q := 22) zr_dX5_sand_20.2 rfl
noncomputable def dX5_sand_21 := zr_dX5_sand_21.1
noncomputable def zr_dX5_sand_22 := zo_16 (k := 60)  (q := 24) zr_dX5_sand_21.2 (by decide +kernel) rfl
noncomputable def dX5_sand_22 := zr_dX5_sand_22.1
noncomputable def zr_dX5_sand_24 := zo_163 (k := 33)  (q := 27) zr_dX5_sand_22.2 (by decide +kernel) rfl
noncomputable def dX5_sand_24 := zr_dX5_sand_24.1
noncomputable def zr_dX5_sand_27 := zo_42 (q := 28) zr_dX5_sand_24.2 rfl
noncomputable def dX5_sand_27 := zr_dX5_sand_27.1
noncomputable def zr_dX5_sand_28 := zo_180 (k := 32)  (q := 31) zr_dX5_sand_27.2 rfl rfl
noncomputable def dX5_sand_28 := zr_dX5_sand_28.1
noncomputable def zr_dX5_sand_31 := zo_28 (q := 32) zr_dX5_sand_28.2 rfl
noncomputable def dX5_sand_31 := zr_dX5_sand_31.1
noncomputable def zr_dX5_sand_32 := zo_182 (k := 134)  (q := 35) zr_dX5_sand_31.2 rfl rfl
noncomputable def dX5_sand_32 := zr_dX5_sand_32.1
noncomputable def zr_dX5_sand_35 := zo_153 (k := 5)  (q := 38) zr_dX5_sand_32.2 (by decide +kernel) rfl
noncomputable def dX5_sand_35 := zr_dX5_sand_35.1
noncomputable def zr_dX5_sand_38 := zo_29 (q := 39) zr_dX5_sand_35.2 rfl
noncomputable def dX5_sand_38 := zr_dX5_sand_38.1
noncomputable def zr_dX5_sand_39 := zo_172 (q := 40) zr_dX5_sand_38.2 rfl
noncomputable def dX5_sand_39 := zr_dX5_sand_39.1
noncomputable def zr_dX5_sand_40 := zo_42 (q := 41) zr_dX5_sand_39.2 rfl
noncomputable def dX5_sand_40 := zr_dX5_sand_40.1
noncomputable def zr_dX5_sand_41 := zo_180 (k := 32)  (q := 44) zr_dX5_sand_40.2 rfl rfl
noncomputable def dX5_sand_41 := zr_dX5_sand_41.1
noncomputable def zr_dX5_sand_44 := zo_27 (q := 45) zr_dX5_sand_41.2 rfl
noncomputable def dX5_sand_44 := zr_dX5_sand_44.1
noncomputable def zr_dX5_sand_45 := zo_28 (q := 46) zr_dX5_sand_44.2 rfl
noncomputable def dX5_sand_45 := zr_dX5_sand_45.1
noncomputable def zr_dX5_sand_46 := zo_3 (q := 47) zr_dX5_sand_45.2 rfl
noncomputable def dX5_sand_46 := zr_dX5_sand_46.1
noncomputable def zr_dX5_sand_47 := zo_182 (k := 158)  (q := 50) zr_dX5_sand_46.2 rfl rfl
noncomputable def dX5_sand_47 := zr_dX5_sand_47.1
noncomputable def zr_dX5_sand_50 := zo_87 (q := 51) zr_dX5_sand_47.2 rfl
noncomputable def dX5_sand_50 := zr_dX5_sand_50.1
noncomputable def zr_dX5_sand_51 := zo_132 (k := 3) (o := 1)  (q := 54) zr_dX5_sand_50.2 rfl (by decide +kernel) rfl
noncomputable def dX5_sand_51 := zr_dX5_sand_51.1
noncomputable def zr_dX5_sand_54 := zo_167 (k := -33)  (q := 57) zr_dX5_sand_51.2 (by decide +kernel) rfl
noncomputable def dX5_sand_54 := zr_dX5_sand_54.1
noncomputable def zr_dX5_sand_57 := zo_2 (q := 58) zr_dX5_sand_54.2 rfl
noncomputable def dX5_sand_57 := zr_dX5_sand_57.1
noncomputable def zr_dX5_sand_58 := zo_172 (q := 59) zr_dX5_sand_57.2 rfl
noncomputable def dX5_sand_58 := zr_dX5_sand_58.1
theorem zs_dX5_unlike_0 : zsuf cX5_unlike 0 cX5_unlike.data.toList := rfl
noncomputable def zr_dX5_unlike_0 := zo_42 (q := 1) zs_dX5_unlike_0 rfl
noncomputable def dX5_unlike_0 := zr_dX5_unlike_0.1
noncomputable def zr_dX5_unlike_1 := zo_180 (k := 28)  (q := 4) zr_dX5_unlike_0.2 rfl rfl
noncomputable def dX5_unlike_1 := zr_dX5_unlike_1.1
noncomputable def zr_dX5_unlike_4 := zo_27 (q := 5) zr_dX5_unlike_1.2 rfl
noncomputable def dX5_unlike_4 := zr_dX5_unlike_4.1
noncomputable def zr_dX5_unlike_5 := zo_29 (q := 6) zr_dX5_unlike_4.2 rfl
noncomputable def dX5_unlike_5 := zr_dX5_unlike_5.1
noncomputable def zr_dX5_unlike_6 := zo_182 (k := 137)  (q := 9) zr_dX5_unlike_5.2 rfl rfl
noncomputable def dX5_unlike_6 := zr_dX5_unlike_6.1
noncomputable def zr_dX5_unlike_9 := zo_153 (k := 19)  (q := 12) zr_dX5_unlike_6.2 (by decide +kernel) rfl
noncomputable def dX5_unlike_9 := zr_dX5_unlike_9.1
noncomputable def zr_dX5_unlike_12 := zo_42 (q := 13) zr_dX5_unlike_9.2 rfl
noncomputable def dX5_unlike_12 := zr_dX5_unlike_12.1
noncomputable def zr_dX5_unlike_13 := zo_180 (k := 28)  (q := 16) zr_dX5_unlike_12.2 rfl rfl
noncomputable def dX5_unlike_13 := zr_dX5_unlike_13.1
noncomputable def zr_dX5_unlike_16 := zo_28 (q := 17) zr_dX5_unlike_13.2 rfl
noncomputable def dX5_unlike_16 := zr_dX5_unlike_16.1
noncomputable def zr_dX5_unlike_17 := zo_182 (k := 94)  (q := 20) zr_dX5_unlike_16.2 rfl rfl
noncomputable def dX5_unlike_17 := zr_dX5_unlike_17.1
noncomputable def zr_dX5_unlike_20 := zo_153 (k := 8)  (q := 23) zr_dX5_unlike_17.2 (by decide +kernel) rfl
noncomputable def dX5_unlike_20 := zr_dX5_unlike_20.1
noncomputable def zr_dX5_unlike_23 := zo_27 (q := 24) zr_dX5_unlike_20.2 rfl
noncomputable def dX5_unlike_23 := zr_dX5_unlike_23.1
noncomputable def zr_dX5_unlike_24 := zo_28 (q := 25) zr_dX5_unlike_23.2 rfl
noncomputable def dX5_unlike_24 := zr_dX5_unlike_24.1
noncomputable def zr_dX5_unlike_25 := zo_160 (k := 6)  (q := 28) zr_dX5_unlike_24.2 (by decide +kernel) rfl
noncomputable def dX5_unlike_25 := zr_dX5_unlike_25.1
noncomputable def zr_dX5_unlike_28 := zo_16 (k := -5)  (q := 30) zr_dX5_unlike_25.2 (by decide +kernel) rfl
noncomputable def dX5_unlike_28 := zr_dX5_unlike_28.1
noncomputable def zr_dX5_unlike_30 := zo_172 (q := 31) zr_dX5_unlike_28.2 rfl
noncomputable def dX5_unlike_30 := zr_dX5_unlike_30.1
noncomputable def zr_dX5_unlike_31 := zo_42 (q := 32) zr_dX5_unlike_30.2 rfl
noncomputable def dX5_unlike_31 := zr_dX5_unlike_31.1
noncomputable def zr_dX5_unlike_32 := zo_27 (q := 33) zr_dX5_unlike_31.2 rfl
noncomputable def dX5_unlike_32 := zr_dX5_unlike_32.1
noncomputable def zr_dX5_unlike_33 := zo_29 (q := 34) zr_dX5_unlike_32.2 rfl
noncomputable def dX5_unlike_33 := zr_dX5_unlike_33.1
noncomputable def zr_dX5_unlike_34 := zo_182 (k := 150)  (q := 37) zr_dX5_unlike_33.2 rfl rfl
noncomputable def dX5_unlike_34 := zr_dX5_unlike_34.1
noncomputable def zr_dX5_unlike_37 := zo_42 (q := 38) zr_dX5_unlike_34.2 rfl
noncomputable def dX5_unlike_37 := zr_dX5_unlike_37.1
noncomputable def zr_dX5_unlike_38 := zo_28 (q := 39) zr_dX5_unlike_37.2 rfl
noncomputable def dX5_unlike_38 := zr_dX5_unlike_38.1
noncomputable def zr_dX5_unlike_39 := zo_29 (q := 40) zr_dX5_unlike_38.2 rfl
noncomputable def dX5_unlike_39 := zr_dX5_unlike_39.1
noncomputable def zr_dX5_unlike_40 := zo_182 (k := 150)  (q := 43) zr_dX5_unlike_39.2 rfl rfl
noncomputable def dX5_unlike_40 := zr_dX5_unlike_40.1
theorem zo_131 {c : ByteArray} {p q : Nat} {L : List UInt8} (h : zsuf c p (131 :: L)) (hq : p + 1 = q) : zD c p .lxor 1 ∧ zsuf c q L := zfin hq (Eq.trans (zbd (zu1 (v := 131) h rfl)) rfl) (zsuf_tl h)
noncomputable def zr_dX5_unlike_43 := zo_131 (q := 44) zr_dX5_unlike_40.2 rfl
noncomputable def dX5_unlike_43 := zr_dX5_unlike_43.1
noncomputable def zr_dX5_unlike_44 := zo_184 (k := 154)  (q := 47) zr_dX5_unlike_43.2 rfl rfl
noncomputable def dX5_unlike_44 := zr_dX5_unlike_44.1
noncomputable def zr_dX5_unlike_47 := zo_172 (q := 48) zr_dX5_unlike_44.2 rfl
noncomputable def dX5_unlike_47 := zr_dX5_unlike_47.1
theorem zs_dX5_hardest_0 : zsuf cX5_hardest 0 cX5_hardest.data.toList := rfl
noncomputable def zr_dX5_hardest_0 := zo_27 (q := 1) zs_dX5_hardest_0 rfl
noncomputable def dX5_hardest_0 := zr_dX5_hardest_0.1
noncomputable def zr_dX5_hardest_1 := zo_16 (k := 60)  (q := 3) zr_dX5_hardest_0.2 (by decide +kernel) rfl
noncomputable def dX5_hardest_1 := zr_dX5_hardest_1.1
noncomputable def zr_dX5_hardest_3 := zo_184 (k := 86)  (q := 6) zr_dX5_hardest_1.2 rfl rfl
noncomputable def dX5_hardest_3 := zr_dX5_hardest_3.1
noncomputable def zr_dX5_hardest_6 := zo_153 (k := 11)  (q := 9) zr_dX5_hardest_3.2 (by decide +kernel) rfl
noncomputable def dX5_hardest_6 := zr_dX5_hardest_6.1
noncomputable def zr_dX5_hardest_9 := zo_28 (q := 10) zr_dX5_hardest_6.2 rfl
noncomputable def dX5_hardest_9 := zr_dX5_hardest_9.1
noncomputable def zr_dX5_hardest_10 := zo_4 (q := 11) zr_dX5_hardest_9.2 rfl
noncomputable def dX5_hardest_10 := zr_dX5_hardest_10.1
noncomputable def zr_dX5_hardest_11 := zo_184 (k := 86)  (q := 14) zr_dX5_hardest_10.2 rfl rfl
noncomputable def dX5_hardest_11 := zr_dX5_hardest_11.1
noncomputable def zr_dX5_hardest_14 := zo_154 (k := 6)  (q := 17) zr_dX5_hardest_11.2 (by decide +kernel) rfl
noncomputable def dX5_hardest_14 := zr_dX5_hardest_14.1
noncomputable def zr_dX5_hardest_17 := zo_16 (k := -2)  (q := 19) zr_dX5_hardest_14.2 (by decide +kernel) rfl
noncomputable def dX5_hardest_17 := zr_dX5_hardest_17.1
noncomputable def zr_dX5_hardest_19 := zo_172 (q := 20) zr_dX5_hardest_17.2 rfl
noncomputable def dX5_hardest_19 := zr_dX5_hardest_19.1
noncomputable def zr_dX5_hardest_20 := zo_2 (q := 21) zr_dX5_hardest_19.2 rfl
noncomputable def dX5_hardest_20 := zr_dX5_hardest_20.1
noncomputable def zr_dX5_hardest_21 := zo_62 (q := 22) zr_dX5_hardest_20.2 rfl
noncomputable def dX5_hardest_21 := zr_dX5_hardest_21.1
noncomputable def zr_dX5_hardest_22 := zo_2 (q := 23) zr_dX5_hardest_21.2 rfl
noncomputable def dX5_hardest_22 := zr_dX5_hardest_22.1
noncomputable def zr_dX5_hardest_23 := zo_54 (k := 4)  (q := 25) zr_dX5_hardest_22.2 rfl rfl
noncomputable def dX5_hardest_23 := zr_dX5_hardest_23.1
noncomputable def zr_dX5_hardest_25 := zo_3 (q := 26) zr_dX5_hardest_23.2 rfl
noncomputable def dX5_hardest_25 := zr_dX5_hardest_25.1
noncomputable def zr_dX5_hardest_26 := zo_54 (k := 5)  (q := 28) zr_dX5_hardest_25.2 rfl rfl
noncomputable def dX5_hardest_26 := zr_dX5_hardest_26.1
noncomputable def zr_dX5_hardest_28 := zo_21 (k := 5)  (q := 30) zr_dX5_hardest_26.2 rfl rfl
noncomputable def dX5_hardest_28 := zr_dX5_hardest_28.1
noncomputable def zr_dX5_hardest_30 := zo_42 (q := 31) zr_dX5_hardest_28.2 rfl
noncomputable def dX5_hardest_30 := zr_dX5_hardest_30.1
noncomputable def zr_dX5_hardest_31 := zo_180 (k := 28)  (q := 34) zr_dX5_hardest_30.2 rfl rfl
noncomputable def dX5_hardest_31 := zr_dX5_hardest_31.1
noncomputable def zr_dX5_hardest_34 := zo_180 (k := 75)  (q := 37) zr_dX5_hardest_31.2 rfl rfl
noncomputable def dX5_hardest_34 := zr_dX5_hardest_34.1
noncomputable def zr_dX5_hardest_37 := zo_162 (k := 32)  (q := 40) zr_dX5_hardest_34.2 (by decide +kernel) rfl
noncomputable def dX5_hardest_37 := zr_dX5_hardest_37.1
noncomputable def zr_dX5_hardest_40 := zo_42 (q := 41) zr_dX5_hardest_37.2 rfl
noncomputable def dX5_hardest_40 := zr_dX5_hardest_40.1
noncomputable def zr_dX5_hardest_41 := zo_21 (k := 5)  (q := 43) zr_dX5_hardest_40.2 rfl rfl
noncomputable def dX5_hardest_41 := zr_dX5_hardest_41.1
noncomputable def zr_dX5_hardest_43 := zo_27 (q := 44) zr_dX5_hardest_41.2 rfl
noncomputable def dX5_hardest_43 := zr_dX5_hardest_43.1
noncomputable def zr_dX5_hardest_44 := zo_182 (k := 161)  (q := 47) zr_dX5_hardest_43.2 rfl rfl
noncomputable def dX5_hardest_44 := zr_dX5_hardest_44.1
noncomputable def zr_dX5_hardest_47 := zo_54 (k := 6)  (q := 49) zr_dX5_hardest_44.2 rfl rfl
noncomputable def dX5_hardest_47 := zr_dX5_hardest_47.1
noncomputable def zr_dX5_hardest_49 := zo_21 (k := 6)  (q := 51) zr_dX5_hardest_47.2 rfl rfl
noncomputable def dX5_hardest_49 := zr_dX5_hardest_49.1
noncomputable def zr_dX5_hardest_51 := zo_21 (k := 4)  (q := 53) zr_dX5_hardest_49.2 rfl rfl
noncomputable def dX5_hardest_51 := zr_dX5_hardest_51.1
noncomputable def zr_dX5_hardest_53 := zo_164 (k := 10)  (q := 56) zr_dX5_hardest_51.2 (by decide +kernel) rfl
noncomputable def dX5_hardest_53 := zr_dX5_hardest_53.1
noncomputable def zr_dX5_hardest_56 := zo_21 (k := 6)  (q := 58) zr_dX5_hardest_53.2 rfl rfl
noncomputable def dX5_hardest_56 := zr_dX5_hardest_56.1
noncomputable def zr_dX5_hardest_58 := zo_54 (k := 4)  (q := 60) zr_dX5_hardest_56.2 rfl rfl
noncomputable def dX5_hardest_58 := zr_dX5_hardest_58.1
noncomputable def zr_dX5_hardest_60 := zo_21 (k := 5)  (q := 62) zr_dX5_hardest_58.2 rfl rfl
noncomputable def dX5_hardest_60 := zr_dX5_hardest_60.1
noncomputable def zr_dX5_hardest_62 := zo_62 (q := 63) zr_dX5_hardest_60.2 rfl
noncomputable def dX5_hardest_62 := zr_dX5_hardest_62.1
noncomputable def zr_dX5_hardest_63 := zo_132 (k := 5) (o := 1)  (q := 66) zr_dX5_hardest_62.2 rfl (by decide +kernel) rfl
noncomputable def dX5_hardest_63 := zr_dX5_hardest_63.1
noncomputable def zr_dX5_hardest_66 := zo_167 (k := -38)  (q := 69) zr_dX5_hardest_63.2 (by decide +kernel) rfl
noncomputable def dX5_hardest_66 := zr_dX5_hardest_66.1
noncomputable def zr_dX5_hardest_69 := zo_28 (q := 70) zr_dX5_hardest_66.2 rfl
noncomputable def dX5_hardest_69 := zr_dX5_hardest_69.1
noncomputable def zr_dX5_hardest_70 := zo_154 (k := 7)  (q := 73) zr_dX5_hardest_69.2 (by decide +kernel) rfl
noncomputable def dX5_hardest_70 := zr_dX5_hardest_70.1
noncomputable def zr_dX5_hardest_73 := zo_29 (q := 74) zr_dX5_hardest_70.2 rfl
noncomputable def dX5_hardest_73 := zr_dX5_hardest_73.1
noncomputable def zr_dX5_hardest_74 := zo_167 (k := 5)  (q := 77) zr_dX5_hardest_73.2 (by decide +kernel) rfl
noncomputable def dX5_hardest_74 := zr_dX5_hardest_74.1
noncomputable def zr_dX5_hardest_77 := zo_21 (k := 4)  (q := 79) zr_dX5_hardest_74.2 rfl rfl
noncomputable def dX5_hardest_77 := zr_dX5_hardest_77.1
noncomputable def zr_dX5_hardest_79 := zo_172 (q := 80) zr_dX5_hardest_77.2 rfl
noncomputable def dX5_hardest_79 := zr_dX5_hardest_79.1
theorem zs_dX5_thick_0 : zsuf cX5_thick 0 cX5_thick.data.toList := rfl
noncomputable def zr_dX5_thick_0 := zo_42 (q := 1) zs_dX5_thick_0 rfl
noncomputable def dX5_thick_0 := zr_dX5_thick_0.1
noncomputable def zr_dX5_thick_1 := zo_180 (k := 28)  (q := 4) zr_dX5_thick_0.2 rfl rfl
noncomputable def dX5_thick_1 := zr_dX5_thick_1.1
noncomputable def zr_dX5_thick_4 := zo_27 (q := 5) zr_dX5_thick_1.2 rfl
noncomputable def dX5_thick_4 := zr_dX5_thick_4.1
noncomputable def zr_dX5_thick_5 := zo_28 (q := 6) zr_dX5_thick_4.2 rfl
noncomputable def dX5_thick_5 := zr_dX5_thick_5.1
noncomputable def zr_dX5_thick_6 := zo_182 (k := 137)  (q := 9) zr_dX5_thick_5.2 rfl rfl
noncomputable def dX5_thick_6 := zr_dX5_thick_6.1
noncomputable def zr_dX5_thick_9 := zo_154 (k := 6)  (q := 12) zr_dX5_thick_6.2 (by decide +kernel) rfl
noncomputable def dX5_thick_9 := zr_dX5_thick_9.1
noncomputable def zr_dX5_thick_12 := zo_16 (k := -5)  (q := 14) zr_dX5_thick_9.2 (by decide +kernel) rfl
noncomputable def dX5_thick_12 := zr_dX5_thick_12.1
noncomputable def zr_dX5_thick_14 := zo_172 (q := 15) zr_dX5_thick_12.2 rfl
noncomputable def dX5_thick_14 := zr_dX5_thick_14.1
noncomputable def zr_dX5_thick_15 := zo_29 (q := 16) zr_dX5_thick_14.2 rfl
noncomputable def dX5_thick_15 := zr_dX5_thick_15.1
noncomputable def zr_dX5_thick_16 := zo_16 (k := 60)  (q := 18) zr_dX5_thick_15.2 (by decide +kernel) rfl
noncomputable def dX5_thick_16 := zr_dX5_thick_16.1
noncomputable def zr_dX5_thick_18 := zo_184 (k := 86)  (q := 21) zr_dX5_thick_16.2 rfl rfl
noncomputable def dX5_thick_18 := zr_dX5_thick_18.1
noncomputable def zr_dX5_thick_21 := zo_154 (k := 6)  (q := 24) zr_dX5_thick_18.2 (by decide +kernel) rfl
noncomputable def dX5_thick_21 := zr_dX5_thick_21.1
noncomputable def zr_dX5_thick_24 := zo_16 (k := -7)  (q := 26) zr_dX5_thick_21.2 (by decide +kernel) rfl
noncomputable def dX5_thick_24 := zr_dX5_thick_24.1
noncomputable def zr_dX5_thick_26 := zo_172 (q := 27) zr_dX5_thick_24.2 rfl
noncomputable def dX5_thick_26 := zr_dX5_thick_26.1
noncomputable def zr_dX5_thick_27 := zo_3 (q := 28) zr_dX5_thick_26.2 rfl
noncomputable def dX5_thick_27 := zr_dX5_thick_27.1
noncomputable def zr_dX5_thick_28 := zo_54 (k := 4)  (q := 30) zr_dX5_thick_27.2 rfl rfl
noncomputable def dX5_thick_28 := zr_dX5_thick_28.1
noncomputable def zr_dX5_thick_30 := zo_21 (k := 4)  (q := 32) zr_dX5_thick_28.2 rfl rfl
noncomputable def dX5_thick_30 := zr_dX5_thick_30.1
noncomputable def zr_dX5_thick_32 := zo_16 (k := 20)  (q := 34) zr_dX5_thick_30.2 (by decide +kernel) rfl
noncomputable def dX5_thick_32 := zr_dX5_thick_32.1
noncomputable def zr_dX5_thick_34 := zo_163 (k := 49)  (q := 37) zr_dX5_thick_32.2 (by decide +kernel) rfl
noncomputable def dX5_thick_34 := zr_dX5_thick_34.1
noncomputable def zr_dX5_thick_37 := zo_42 (q := 38) zr_dX5_thick_34.2 rfl
noncomputable def dX5_thick_37 := zr_dX5_thick_37.1
noncomputable def zr_dX5_thick_38 := zo_182 (k := 143)  (q := 41) zr_dX5_thick_37.2 rfl rfl
noncomputable def dX5_thick_38 := zr_dX5_thick_38.1
noncomputable def zr_dX5_thick_41 := zo_42 (q := 42) zr_dX5_thick_38.2 rfl
noncomputable def dX5_thick_41 := zr_dX5_thick_41.1
noncomputable def zr_dX5_thick_42 := zo_180 (k := 32)  (q := 45) zr_dX5_thick_41.2 rfl rfl
noncomputable def dX5_thick_42 := zr_dX5_thick_42.1
noncomputable def zr_dX5_thick_45 := zo_180 (k := 98)  (q := 48) zr_dX5_thick_42.2 rfl rfl
noncomputable def dX5_thick_45 := zr_dX5_thick_45.1
noncomputable def zr_dX5_thick_48 := zo_27 (q := 49) zr_dX5_thick_45.2 rfl
noncomputable def dX5_thick_48 := zr_dX5_thick_48.1
noncomputable def zr_dX5_thick_49 := zo_21 (k := 4)  (q := 51) zr_dX5_thick_48.2 rfl rfl
noncomputable def dX5_thick_49 := zr_dX5_thick_49.1
noncomputable def zr_dX5_thick_51 := zo_79 (q := 52) zr_dX5_thick_49.2 rfl
noncomputable def dX5_thick_51 := zr_dX5_thick_51.1
noncomputable def zr_dX5_thick_52 := zo_42 (q := 53) zr_dX5_thick_51.2 rfl
noncomputable def dX5_thick_52 := zr_dX5_thick_52.1
noncomputable def zr_dX5_thick_53 := zo_180 (k := 32)  (q := 56) zr_dX5_thick_52.2 rfl rfl
noncomputable def dX5_thick_53 := zr_dX5_thick_53.1
noncomputable def zr_dX5_thick_56 := zo_27 (q := 57) zr_dX5_thick_53.2 rfl
noncomputable def dX5_thick_56 := zr_dX5_thick_56.1
noncomputable def zr_dX5_thick_57 := zo_28 (q := 58) zr_dX5_thick_56.2 rfl
noncomputable def dX5_thick_57 := zr_dX5_thick_57.1
noncomputable def zr_dX5_thick_58 := zo_42 (q := 59) zr_dX5_thick_57.2 rfl
noncomputable def dX5_thick_58 := zr_dX5_thick_58.1
noncomputable def zr_dX5_thick_59 := zo_180 (k := 32)  (q := 62) zr_dX5_thick_58.2 rfl rfl
noncomputable def dX5_thick_59 := zr_dX5_thick_59.1
noncomputable def zr_dX5_thick_62 := zo_27 (q := 63) zr_dX5_thick_59.2 rfl
noncomputable def dX5_thick_62 := zr_dX5_thick_62.1
noncomputable def zr_dX5_thick_63 := zo_28 (q := 64) zr_dX5_thick_62.2 rfl
noncomputable def dX5_thick_63 := zr_dX5_thick_63.1
noncomputable def zr_dX5_thick_64 := zo_29 (q := 65) zr_dX5_thick_63.2 rfl
noncomputable def dX5_thick_64 := zr_dX5_thick_64.1
noncomputable def zr_dX5_thick_65 := zo_182 (k := 140)  (q := 68) zr_dX5_thick_64.2 rfl rfl
noncomputable def dX5_thick_65 := zr_dX5_thick_65.1
noncomputable def zr_dX5_thick_68 := zo_182 (k := 164)  (q := 71) zr_dX5_thick_65.2 rfl rfl
noncomputable def dX5_thick_68 := zr_dX5_thick_68.1
noncomputable def zr_dX5_thick_71 := zo_154 (k := 6)  (q := 74) zr_dX5_thick_68.2 (by decide +kernel) rfl
noncomputable def dX5_thick_71 := zr_dX5_thick_71.1
noncomputable def zr_dX5_thick_74 := zo_21 (k := 4)  (q := 76) zr_dX5_thick_71.2 rfl rfl
noncomputable def dX5_thick_74 := zr_dX5_thick_74.1
noncomputable def zr_dX5_thick_76 := zo_172 (q := 77) zr_dX5_thick_74.2 rfl
noncomputable def dX5_thick_76 := zr_dX5_thick_76.1
noncomputable def zr_dX5_thick_77 := zo_132 (k := 4) (o := 1)  (q := 80) zr_dX5_thick_76.2 rfl (by decide +kernel) rfl
noncomputable def dX5_thick_77 := zr_dX5_thick_77.1
noncomputable def zr_dX5_thick_80 := zo_167 (k := -50)  (q := 83) zr_dX5_thick_77.2 (by decide +kernel) rfl
noncomputable def dX5_thick_80 := zr_dX5_thick_80.1
noncomputable def zr_dX5_thick_83 := zo_2 (q := 84) zr_dX5_thick_80.2 rfl
noncomputable def dX5_thick_83 := zr_dX5_thick_83.1
noncomputable def zr_dX5_thick_84 := zo_172 (q := 85) zr_dX5_thick_83.2 rfl
noncomputable def dX5_thick_84 := zr_dX5_thick_84.1
theorem zs_dX5_order_0 : zsuf cX5_order 0 cX5_order.data.toList := rfl
noncomputable def zr_dX5_order_0 := zo_42 (q := 1) zs_dX5_order_0 rfl
noncomputable def dX5_order_0 := zr_dX5_order_0.1
noncomputable def zr_dX5_order_1 := zo_180 (k := 28)  (q := 4) zr_dX5_order_0.2 rfl rfl
noncomputable def dX5_order_1 := zr_dX5_order_1.1
noncomputable def zr_dX5_order_4 := zo_27 (q := 5) zr_dX5_order_1.2 rfl
noncomputable def dX5_order_4 := zr_dX5_order_4.1
noncomputable def zr_dX5_order_5 := zo_182 (k := 94)  (q := 8) zr_dX5_order_4.2 rfl rfl
noncomputable def dX5_order_5 := zr_dX5_order_5.1
noncomputable def zr_dX5_order_8 := zo_154 (k := 6)  (q := 11) zr_dX5_order_5.2 (by decide +kernel) rfl
noncomputable def dX5_order_8 := zr_dX5_order_8.1
noncomputable def zr_dX5_order_11 := zo_16 (k := -5)  (q := 13) zr_dX5_order_8.2 (by decide +kernel) rfl
noncomputable def dX5_order_11 := zr_dX5_order_11.1
noncomputable def zr_dX5_order_13 := zo_172 (q := 14) zr_dX5_order_11.2 rfl
noncomputable def dX5_order_13 := zr_dX5_order_13.1
noncomputable def zr_dX5_order_14 := zo_28 (q := 15) zr_dX5_order_13.2 rfl
noncomputable def dX5_order_14 := zr_dX5_order_14.1
noncomputable def zr_dX5_order_15 := zo_16 (k := 60)  (q := 17) zr_dX5_order_14.2 (by decide +kernel) rfl
noncomputable def dX5_order_15 := zr_dX5_order_15.1
noncomputable def zr_dX5_order_17 := zo_184 (k := 86)  (q := 20) zr_dX5_order_15.2 rfl rfl
noncomputable def dX5_order_17 := zr_dX5_order_17.1
noncomputable def zr_dX5_order_20 := zo_153 (k := 10)  (q := 23) zr_dX5_order_17.2 (by decide +kernel) rfl
noncomputable def dX5_order_20 := zr_dX5_order_20.1
noncomputable def zr_dX5_order_23 := zo_29 (q := 24) zr_dX5_order_20.2 rfl
noncomputable def dX5_order_23 := zr_dX5_order_23.1
noncomputable def zr_dX5_order_24 := zo_184 (k := 167)  (q := 27) zr_dX5_order_23.2 rfl rfl
noncomputable def dX5_order_24 := zr_dX5_order_24.1
noncomputable def zr_dX5_order_27 := zo_154 (k := 6)  (q := 30) zr_dX5_order_24.2 (by decide +kernel) rfl
noncomputable def dX5_order_27 := zr_dX5_order_27.1
noncomputable def zr_dX5_order_30 := zo_16 (k := -7)  (q := 32) zr_dX5_order_27.2 (by decide +kernel) rfl
noncomputable def dX5_order_30 := zr_dX5_order_30.1
noncomputable def zr_dX5_order_32 := zo_172 (q := 33) zr_dX5_order_30.2 rfl
noncomputable def dX5_order_32 := zr_dX5_order_32.1
noncomputable def zr_dX5_order_33 := zo_42 (q := 34) zr_dX5_order_32.2 rfl
noncomputable def dX5_order_33 := zr_dX5_order_33.1
noncomputable def zr_dX5_order_34 := zo_27 (q := 35) zr_dX5_order_33.2 rfl
noncomputable def dX5_order_34 := zr_dX5_order_34.1
noncomputable def zr_dX5_order_35 := zo_28 (q := 36) zr_dX5_order_34.2 rfl
noncomputable def dX5_order_35 := zr_dX5_order_35.1
noncomputable def zr_dX5_order_36 := zo_29 (q := 37) zr_dX5_order_35.2 rfl
noncomputable def dX5_order_36 := zr_dX5_order_36.1
noncomputable def zr_dX5_order_37 := zo_16 (k := 10)  (q := 39) zr_dX5_order_36.2 (by decide +kernel) rfl
noncomputable def dX5_order_37 := zr_dX5_order_37.1
noncomputable def zr_dX5_order_39 := zo_108 (q := 40) zr_dX5_order_37.2 rfl
noncomputable def dX5_order_39 := zr_dX5_order_39.1
noncomputable def zr_dX5_order_40 := zo_4 (q := 41) zr_dX5_order_39.2 rfl
noncomputable def dX5_order_40 := zr_dX5_order_40.1
noncomputable def zr_dX5_order_41 := zo_160 (k := 7)  (q := 44) zr_dX5_order_40.2 (by decide +kernel) rfl
noncomputable def dX5_order_41 := zr_dX5_order_41.1
noncomputable def zr_dX5_order_44 := zo_4 (q := 45) zr_dX5_order_41.2 rfl
noncomputable def dX5_order_44 := zr_dX5_order_44.1
noncomputable def zr_dX5_order_45 := zo_167 (k := 4)  (q := 48) zr_dX5_order_44.2 (by decide +kernel) rfl
noncomputable def dX5_order_45 := zr_dX5_order_45.1
noncomputable def zr_dX5_order_48 := zo_3 (q := 49) zr_dX5_order_45.2 rfl
noncomputable def dX5_order_48 := zr_dX5_order_48.1
noncomputable def zr_dX5_order_49 := zo_182 (k := 170)  (q := 52) zr_dX5_order_48.2 rfl rfl
noncomputable def dX5_order_49 := zr_dX5_order_49.1
noncomputable def zr_dX5_order_52 := zo_42 (q := 53) zr_dX5_order_49.2 rfl
noncomputable def dX5_order_52 := zr_dX5_order_52.1
noncomputable def zr_dX5_order_53 := zo_180 (k := 48)  (q := 56) zr_dX5_order_52.2 rfl rfl
noncomputable def dX5_order_53 := zr_dX5_order_53.1
noncomputable def zr_dX5_order_56 := zo_42 (q := 57) zr_dX5_order_53.2 rfl
noncomputable def dX5_order_56 := zr_dX5_order_56.1
noncomputable def zr_dX5_order_57 := zo_180 (k := 28)  (q := 60) zr_dX5_order_56.2 rfl rfl
noncomputable def dX5_order_57 := zr_dX5_order_57.1
noncomputable def zr_dX5_order_60 := zo_180 (k := 71)  (q := 63) zr_dX5_order_57.2 rfl rfl
noncomputable def dX5_order_60 := zr_dX5_order_60.1
noncomputable def zr_dX5_order_63 := zo_3 (q := 64) zr_dX5_order_60.2 rfl
noncomputable def dX5_order_63 := zr_dX5_order_63.1
noncomputable def zr_dX5_order_64 := zo_182 (k := 174)  (q := 67) zr_dX5_order_63.2 rfl rfl
noncomputable def dX5_order_64 := zr_dX5_order_64.1
noncomputable def zr_dX5_order_67 := zo_29 (q := 68) zr_dX5_order_64.2 rfl
noncomputable def dX5_order_67 := zr_dX5_order_67.1
noncomputable def zr_dX5_order_68 := zo_16 (k := 10)  (q := 70) zr_dX5_order_67.2 (by decide +kernel) rfl
noncomputable def dX5_order_68 := zr_dX5_order_68.1
noncomputable def zr_dX5_order_70 := zo_112 (q := 71) zr_dX5_order_68.2 rfl
noncomputable def dX5_order_70 := zr_dX5_order_70.1
noncomputable def zr_dX5_order_71 := zo_154 (k := 20)  (q := 74) zr_dX5_order_70.2 (by decide +kernel) rfl
noncomputable def dX5_order_71 := zr_dX5_order_71.1
noncomputable def zr_dX5_order_74 := zo_42 (q := 75) zr_dX5_order_71.2 rfl
noncomputable def dX5_order_74 := zr_dX5_order_74.1
noncomputable def zr_dX5_order_75 := zo_180 (k := 48)  (q := 78) zr_dX5_order_74.2 rfl rfl
noncomputable def dX5_order_75 := zr_dX5_order_75.1
noncomputable def zr_dX5_order_78 := zo_42 (q := 79) zr_dX5_order_75.2 rfl
noncomputable def dX5_order_78 := zr_dX5_order_78.1
noncomputable def zr_dX5_order_79 := zo_180 (k := 28)  (q := 82) zr_dX5_order_78.2 rfl rfl
noncomputable def dX5_order_79 := zr_dX5_order_79.1
noncomputable def zr_dX5_order_82 := zo_180 (k := 71)  (q := 85) zr_dX5_order_79.2 rfl rfl
noncomputable def dX5_order_82 := zr_dX5_order_82.1
noncomputable def zr_dX5_order_85 := zo_182 (k := 178)  (q := 88) zr_dX5_order_82.2 rfl rfl
noncomputable def dX5_order_85 := zr_dX5_order_85.1
noncomputable def zr_dX5_order_88 := zo_167 (k := 10)  (q := 91) zr_dX5_order_85.2 (by decide +kernel) rfl
noncomputable def dX5_order_88 := zr_dX5_order_88.1
noncomputable def zr_dX5_order_91 := zo_42 (q := 92) zr_dX5_order_88.2 rfl
noncomputable def dX5_order_91 := zr_dX5_order_91.1
noncomputable def zr_dX5_order_92 := zo_180 (k := 48)  (q := 95) zr_dX5_order_91.2 rfl rfl
noncomputable def dX5_order_92 := zr_dX5_order_92.1
noncomputable def zr_dX5_order_95 := zo_182 (k := 181)  (q := 98) zr_dX5_order_92.2 rfl rfl
noncomputable def dX5_order_95 := zr_dX5_order_95.1
noncomputable def zr_dX5_order_98 := zo_172 (q := 99) zr_dX5_order_95.2 rfl
noncomputable def dX5_order_98 := zr_dX5_order_98.1
theorem zs_dX5_counsel_0 : zsuf cX5_counsel 0 cX5_counsel.data.toList := rfl
noncomputable def zr_dX5_counsel_0 := zo_42 (q := 1) zs_dX5_counsel_0 rfl
noncomputable def dX5_counsel_0 := zr_dX5_counsel_0.1
noncomputable def zr_dX5_counsel_1 := zo_180 (k := 28)  (q := 4) zr_dX5_counsel_0.2 rfl rfl
noncomputable def dX5_counsel_1 := zr_dX5_counsel_1.1
noncomputable def zr_dX5_counsel_4 := zo_27 (q := 5) zr_dX5_counsel_1.2 rfl
noncomputable def dX5_counsel_4 := zr_dX5_counsel_4.1
noncomputable def zr_dX5_counsel_5 := zo_182 (k := 94)  (q := 8) zr_dX5_counsel_4.2 rfl rfl
noncomputable def dX5_counsel_5 := zr_dX5_counsel_5.1
noncomputable def zr_dX5_counsel_8 := zo_154 (k := 6)  (q := 11) zr_dX5_counsel_5.2 (by decide +kernel) rfl
noncomputable def dX5_counsel_8 := zr_dX5_counsel_8.1
noncomputable def zr_dX5_counsel_11 := zo_16 (k := -5)  (q := 13) zr_dX5_counsel_8.2 (by decide +kernel) rfl
noncomputable def dX5_counsel_11 := zr_dX5_counsel_11.1
noncomputable def zr_dX5_counsel_13 := zo_172 (q := 14) zr_dX5_counsel_11.2 rfl
noncomputable def dX5_counsel_13 := zr_dX5_counsel_13.1
noncomputable def zr_dX5_counsel_14 := zo_28 (q := 15) zr_dX5_counsel_13.2 rfl
noncomputable def dX5_counsel_14 := zr_dX5_counsel_14.1
noncomputable def zr_dX5_counsel_15 := zo_16 (k := 60)  (q := 17) zr_dX5_counsel_14.2 (by decide +kernel) rfl
noncomputable def dX5_counsel_15 := zr_dX5_counsel_15.1
noncomputable def zr_dX5_counsel_17 := zo_184 (k := 86)  (q := 20) zr_dX5_counsel_15.2 rfl rfl
noncomputable def dX5_counsel_17 := zr_dX5_counsel_17.1
noncomputable def zr_dX5_counsel_20 := zo_153 (k := 11)  (q := 23) zr_dX5_counsel_17.2 (by decide +kernel) rfl
noncomputable def dX5_counsel_20 := zr_dX5_counsel_20.1
noncomputable def zr_dX5_counsel_23 := zo_29 (q := 24) zr_dX5_counsel_20.2 rfl
noncomputable def dX5_counsel_23 := zr_dX5_counsel_23.1
noncomputable def zr_dX5_counsel_24 := zo_4 (q := 25) zr_dX5_counsel_23.2 rfl
noncomputable def dX5_counsel_24 := zr_dX5_counsel_24.1
noncomputable def zr_dX5_counsel_25 := zo_184 (k := 86)  (q := 28) zr_dX5_counsel_24.2 rfl rfl
noncomputable def dX5_counsel_25 := zr_dX5_counsel_25.1
noncomputable def zr_dX5_counsel_28 := zo_154 (k := 6)  (q := 31) zr_dX5_counsel_25.2 (by decide +kernel) rfl
noncomputable def dX5_counsel_28 := zr_dX5_counsel_28.1
noncomputable def zr_dX5_counsel_31 := zo_16 (k := -7)  (q := 33) zr_dX5_counsel_28.2 (by decide +kernel) rfl
noncomputable def dX5_counsel_31 := zr_dX5_counsel_31.1
noncomputable def zr_dX5_counsel_33 := zo_172 (q := 34) zr_dX5_counsel_31.2 rfl
noncomputable def dX5_counsel_33 := zr_dX5_counsel_33.1
noncomputable def zr_dX5_counsel_34 := zo_42 (q := 35) zr_dX5_counsel_33.2 rfl
noncomputable def dX5_counsel_34 := zr_dX5_counsel_34.1
noncomputable def zr_dX5_counsel_35 := zo_27 (q := 36) zr_dX5_counsel_34.2 rfl
noncomputable def dX5_counsel_35 := zr_dX5_counsel_35.1
noncomputable def zr_dX5_counsel_36 := zo_28 (q := 37) zr_dX5_counsel_35.2 rfl
noncomputable def dX5_counsel_36 := zr_dX5_counsel_36.1
noncomputable def zr_dX5_counsel_37 := zo_4 (q := 38) zr_dX5_counsel_36.2 rfl
noncomputable def dX5_counsel_37 := zr_dX5_counsel_37.1
noncomputable def zr_dX5_counsel_38 := zo_182 (k := 170)  (q := 41) zr_dX5_counsel_37.2 rfl rfl
noncomputable def dX5_counsel_38 := zr_dX5_counsel_38.1
noncomputable def zr_dX5_counsel_41 := zo_42 (q := 42) zr_dX5_counsel_38.2 rfl
noncomputable def dX5_counsel_41 := zr_dX5_counsel_41.1
noncomputable def zr_dX5_counsel_42 := zo_180 (k := 48)  (q := 45) zr_dX5_counsel_41.2 rfl rfl
noncomputable def dX5_counsel_42 := zr_dX5_counsel_42.1
noncomputable def zr_dX5_counsel_45 := zo_42 (q := 46) zr_dX5_counsel_42.2 rfl
noncomputable def dX5_counsel_45 := zr_dX5_counsel_45.1
noncomputable def zr_dX5_counsel_46 := zo_180 (k := 28)  (q := 49) zr_dX5_counsel_45.2 rfl rfl
noncomputable def dX5_counsel_46 := zr_dX5_counsel_46.1
noncomputable def zr_dX5_counsel_49 := zo_180 (k := 71)  (q := 52) zr_dX5_counsel_46.2 rfl rfl
noncomputable def dX5_counsel_49 := zr_dX5_counsel_49.1
noncomputable def zr_dX5_counsel_52 := zo_4 (q := 53) zr_dX5_counsel_49.2 rfl
noncomputable def dX5_counsel_52 := zr_dX5_counsel_52.1
noncomputable def zr_dX5_counsel_53 := zo_182 (k := 174)  (q := 56) zr_dX5_counsel_52.2 rfl rfl
noncomputable def dX5_counsel_53 := zr_dX5_counsel_53.1
noncomputable def zr_dX5_counsel_56 := zo_29 (q := 57) zr_dX5_counsel_53.2 rfl
noncomputable def dX5_counsel_56 := zr_dX5_counsel_56.1
noncomputable def zr_dX5_counsel_57 := zo_154 (k := 13)  (q := 60) zr_dX5_counsel_56.2 (by decide +kernel) rfl
noncomputable def dX5_counsel_57 := zr_dX5_counsel_57.1
noncomputable def zr_dX5_counsel_60 := zo_42 (q := 61) zr_dX5_counsel_57.2 rfl
noncomputable def dX5_counsel_60 := zr_dX5_counsel_60.1
noncomputable def zr_dX5_counsel_61 := zo_180 (k := 48)  (q := 64) zr_dX5_counsel_60.2 rfl rfl
noncomputable def dX5_counsel_61 := zr_dX5_counsel_61.1
noncomputable def zr_dX5_counsel_64 := zo_182 (k := 181)  (q := 67) zr_dX5_counsel_61.2 rfl rfl
noncomputable def dX5_counsel_64 := zr_dX5_counsel_64.1
noncomputable def zr_dX5_counsel_67 := zo_167 (k := 18)  (q := 70) zr_dX5_counsel_64.2 (by decide +kernel) rfl
noncomputable def dX5_counsel_67 := zr_dX5_counsel_67.1
noncomputable def zr_dX5_counsel_70 := zo_42 (q := 71) zr_dX5_counsel_67.2 rfl
noncomputable def dX5_counsel_70 := zr_dX5_counsel_70.1
noncomputable def zr_dX5_counsel_71 := zo_180 (k := 48)  (q := 74) zr_dX5_counsel_70.2 rfl rfl
noncomputable def dX5_counsel_71 := zr_dX5_counsel_71.1
noncomputable def zr_dX5_counsel_74 := zo_3 (q := 75) zr_dX5_counsel_71.2 rfl
noncomputable def dX5_counsel_74 := zr_dX5_counsel_74.1
noncomputable def zr_dX5_counsel_75 := zo_42 (q := 76) zr_dX5_counsel_74.2 rfl
noncomputable def dX5_counsel_75 := zr_dX5_counsel_75.1
noncomputable def zr_dX5_counsel_76 := zo_180 (k := 28)  (q := 79) zr_dX5_counsel_75.2 rfl rfl
noncomputable def dX5_counsel_76 := zr_dX5_counsel_76.1
noncomputable def zr_dX5_counsel_79 := zo_180 (k := 71)  (q := 82) zr_dX5_counsel_76.2 rfl rfl
noncomputable def dX5_counsel_79 := zr_dX5_counsel_79.1
noncomputable def zr_dX5_counsel_82 := zo_182 (k := 184)  (q := 85) zr_dX5_counsel_79.2 rfl rfl
noncomputable def dX5_counsel_82 := zr_dX5_counsel_82.1
noncomputable def zr_dX5_counsel_85 := zo_172 (q := 86) zr_dX5_counsel_82.2 rfl
noncomputable def dX5_counsel_85 := zr_dX5_counsel_85.1
theorem zs_dX5_reversed_0 : zsuf cX5_reversed 0 cX5_reversed.data.toList := rfl
noncomputable def zr_dX5_reversed_0 := zo_42 (q := 1) zs_dX5_reversed_0 rfl
noncomputable def dX5_reversed_0 := zr_dX5_reversed_0.1
noncomputable def zr_dX5_reversed_1 := zo_27 (q := 2) zr_dX5_reversed_0.2 rfl
noncomputable def dX5_reversed_1 := zr_dX5_reversed_1.1
noncomputable def zr_dX5_reversed_2 := zo_28 (q := 3) zr_dX5_reversed_1.2 rfl
noncomputable def dX5_reversed_2 := zr_dX5_reversed_2.1
noncomputable def zr_dX5_reversed_3 := zo_182 (k := 187)  (q := 6) zr_dX5_reversed_2.2 rfl rfl
noncomputable def dX5_reversed_3 := zr_dX5_reversed_3.1
noncomputable def zr_dX5_reversed_6 := zo_62 (q := 7) zr_dX5_reversed_3.2 rfl
noncomputable def dX5_reversed_6 := zr_dX5_reversed_6.1
noncomputable def zr_dX5_reversed_7 := zo_29 (q := 8) zr_dX5_reversed_6.2 rfl
noncomputable def dX5_reversed_7 := zr_dX5_reversed_7.1
noncomputable def zr_dX5_reversed_8 := zo_153 (k := 5)  (q := 11) zr_dX5_reversed_7.2 (by decide +kernel) rfl
noncomputable def dX5_reversed_8 := zr_dX5_reversed_8.1
noncomputable def zr_dX5_reversed_11 := zo_29 (q := 12) zr_dX5_reversed_8.2 rfl
noncomputable def dX5_reversed_11 := zr_dX5_reversed_11.1
noncomputable def zr_dX5_reversed_12 := zo_172 (q := 13) zr_dX5_reversed_11.2 rfl
noncomputable def dX5_reversed_12 := zr_dX5_reversed_12.1
noncomputable def zr_dX5_reversed_13 := zo_42 (q := 14) zr_dX5_reversed_12.2 rfl
noncomputable def dX5_reversed_13 := zr_dX5_reversed_13.1
noncomputable def zr_dX5_reversed_14 := zo_182 (k := 143)  (q := 17) zr_dX5_reversed_13.2 rfl rfl
noncomputable def dX5_reversed_14 := zr_dX5_reversed_14.1
noncomputable def zr_dX5_reversed_17 := zo_42 (q := 18) zr_dX5_reversed_14.2 rfl
noncomputable def dX5_reversed_17 := zr_dX5_reversed_17.1
noncomputable def zr_dX5_reversed_18 := zo_27 (q := 19) zr_dX5_reversed_17.2 rfl
noncomputable def dX5_reversed_18 := zr_dX5_reversed_18.1
noncomputable def zr_dX5_reversed_19 := zo_28 (q := 20) zr_dX5_reversed_18.2 rfl
noncomputable def dX5_reversed_19 := zr_dX5_reversed_19.1
noncomputable def zr_dX5_reversed_20 := zo_182 (k := 190)  (q := 23) zr_dX5_reversed_19.2 rfl rfl
noncomputable def dX5_reversed_20 := zr_dX5_reversed_20.1
noncomputable def zr_dX5_reversed_23 := zo_172 (q := 24) zr_dX5_reversed_20.2 rfl
noncomputable def dX5_reversed_23 := zr_dX5_reversed_23.1
theorem zs_dX5_kinds_0 : zsuf cX5_kinds 0 cX5_kinds.data.toList := rfl
noncomputable def zr_dX5_kinds_0 := zo_42 (q := 1) zs_dX5_kinds_0 rfl
noncomputable def dX5_kinds_0 := zr_dX5_kinds_0.1
noncomputable def zr_dX5_kinds_1 := zo_27 (q := 2) zr_dX5_kinds_0.2 rfl
noncomputable def dX5_kinds_1 := zr_dX5_kinds_1.1
noncomputable def zr_dX5_kinds_2 := zo_28 (q := 3) zr_dX5_kinds_1.2 rfl
noncomputable def dX5_kinds_2 := zr_dX5_kinds_2.1
noncomputable def zr_dX5_kinds_3 := zo_182 (k := 187)  (q := 6) zr_dX5_kinds_2.2 rfl rfl
noncomputable def dX5_kinds_3 := zr_dX5_kinds_3.1
noncomputable def zr_dX5_kinds_6 := zo_54 (k := 5)  (q := 8) zr_dX5_kinds_3.2 rfl rfl
noncomputable def dX5_kinds_6 := zr_dX5_kinds_6.1
noncomputable def zr_dX5_kinds_8 := zo_21 (k := 5)  (q := 10) zr_dX5_kinds_6.2 rfl rfl
noncomputable def dX5_kinds_8 := zr_dX5_kinds_8.1
noncomputable def zr_dX5_kinds_10 := zo_153 (k := 6)  (q := 13) zr_dX5_kinds_8.2 (by decide +kernel) rfl
noncomputable def dX5_kinds_10 := zr_dX5_kinds_10.1
noncomputable def zr_dX5_kinds_13 := zo_21 (k := 5)  (q := 15) zr_dX5_kinds_10.2 rfl rfl
noncomputable def dX5_kinds_13 := zr_dX5_kinds_13.1
noncomputable def zr_dX5_kinds_15 := zo_172 (q := 16) zr_dX5_kinds_13.2 rfl
noncomputable def dX5_kinds_15 := zr_dX5_kinds_15.1
noncomputable def zr_dX5_kinds_16 := zo_42 (q := 17) zr_dX5_kinds_15.2 rfl
noncomputable def dX5_kinds_16 := zr_dX5_kinds_16.1
noncomputable def zr_dX5_kinds_17 := zo_180 (k := 28)  (q := 20) zr_dX5_kinds_16.2 rfl rfl
noncomputable def dX5_kinds_17 := zr_dX5_kinds_17.1
noncomputable def zr_dX5_kinds_20 := zo_29 (q := 21) zr_dX5_kinds_17.2 rfl
noncomputable def dX5_kinds_20 := zr_dX5_kinds_20.1
noncomputable def zr_dX5_kinds_21 := zo_182 (k := 111)  (q := 24) zr_dX5_kinds_20.2 rfl rfl
noncomputable def dX5_kinds_21 := zr_dX5_kinds_21.1
noncomputable def zr_dX5_kinds_24 := zo_154 (k := 6)  (q := 27) zr_dX5_kinds_21.2 (by decide +kernel) rfl
noncomputable def dX5_kinds_24 := zr_dX5_kinds_24.1
noncomputable def zr_dX5_kinds_27 := zo_16 (k := -6)  (q := 29) zr_dX5_kinds_24.2 (by decide +kernel) rfl
noncomputable def dX5_kinds_27 := zr_dX5_kinds_27.1
noncomputable def zr_dX5_kinds_29 := zo_172 (q := 30) zr_dX5_kinds_27.2 rfl
noncomputable def dX5_kinds_29 := zr_dX5_kinds_29.1
noncomputable def zr_dX5_kinds_30 := zo_21 (k := 4)  (q := 32) zr_dX5_kinds_29.2 rfl rfl
noncomputable def dX5_kinds_30 := zr_dX5_kinds_30.1
noncomputable def zr_dX5_kinds_32 := zo_4 (q := 33) zr_dX5_kinds_30.2 rfl
noncomputable def dX5_kinds_32 := zr_dX5_kinds_32.1
noncomputable def zr_dX5_kinds_33 := zo_184 (k := 86)  (q := 36) zr_dX5_kinds_32.2 rfl rfl
noncomputable def dX5_kinds_33 := zr_dX5_kinds_33.1
noncomputable def zr_dX5_kinds_36 := zo_154 (k := 6)  (q := 39) zr_dX5_kinds_33.2 (by decide +kernel) rfl
noncomputable def dX5_kinds_36 := zr_dX5_kinds_36.1
noncomputable def zr_dX5_kinds_39 := zo_16 (k := -7)  (q := 41) zr_dX5_kinds_36.2 (by decide +kernel) rfl
noncomputable def dX5_kinds_39 := zr_dX5_kinds_39.1
noncomputable def zr_dX5_kinds_41 := zo_172 (q := 42) zr_dX5_kinds_39.2 rfl
noncomputable def dX5_kinds_41 := zr_dX5_kinds_41.1
noncomputable def zr_dX5_kinds_42 := zo_21 (k := 4)  (q := 44) zr_dX5_kinds_41.2 rfl rfl
noncomputable def dX5_kinds_42 := zr_dX5_kinds_42.1
noncomputable def zr_dX5_kinds_44 := zo_154 (k := 13)  (q := 47) zr_dX5_kinds_42.2 (by decide +kernel) rfl
noncomputable def dX5_kinds_44 := zr_dX5_kinds_44.1
noncomputable def zr_dX5_kinds_47 := zo_42 (q := 48) zr_dX5_kinds_44.2 rfl
noncomputable def dX5_kinds_47 := zr_dX5_kinds_47.1
noncomputable def zr_dX5_kinds_48 := zo_180 (k := 32)  (q := 51) zr_dX5_kinds_47.2 rfl rfl
noncomputable def dX5_kinds_48 := zr_dX5_kinds_48.1
noncomputable def zr_dX5_kinds_51 := zo_180 (k := 128)  (q := 54) zr_dX5_kinds_48.2 rfl rfl
noncomputable def dX5_kinds_51 := zr_dX5_kinds_51.1
noncomputable def zr_dX5_kinds_54 := zo_167 (k := 10)  (q := 57) zr_dX5_kinds_51.2 (by decide +kernel) rfl
noncomputable def dX5_kinds_54 := zr_dX5_kinds_54.1
noncomputable def zr_dX5_kinds_57 := zo_42 (q := 58) zr_dX5_kinds_54.2 rfl
noncomputable def dX5_kinds_57 := zr_dX5_kinds_57.1
noncomputable def zr_dX5_kinds_58 := zo_180 (k := 32)  (q := 61) zr_dX5_kinds_57.2 rfl rfl
noncomputable def dX5_kinds_58 := zr_dX5_kinds_58.1
noncomputable def zr_dX5_kinds_61 := zo_180 (k := 131)  (q := 64) zr_dX5_kinds_58.2 rfl rfl
noncomputable def dX5_kinds_61 := zr_dX5_kinds_61.1
noncomputable def zr_dX5_kinds_64 := zo_58 (k := 6)  (q := 66) zr_dX5_kinds_61.2 rfl rfl
noncomputable def dX5_kinds_64 := zr_dX5_kinds_64.1
noncomputable def zr_dX5_kinds_66 := zo_21 (k := 4)  (q := 68) zr_dX5_kinds_64.2 rfl rfl
noncomputable def dX5_kinds_66 := zr_dX5_kinds_66.1
noncomputable def zr_dX5_kinds_68 := zo_154 (k := 7)  (q := 71) zr_dX5_kinds_66.2 (by decide +kernel) rfl
noncomputable def dX5_kinds_68 := zr_dX5_kinds_68.1
noncomputable def zr_dX5_kinds_71 := zo_8 (q := 72) zr_dX5_kinds_68.2 rfl
noncomputable def dX5_kinds_71 := zr_dX5_kinds_71.1
noncomputable def zr_dX5_kinds_72 := zo_167 (k := 5)  (q := 75) zr_dX5_kinds_71.2 (by decide +kernel) rfl
noncomputable def dX5_kinds_72 := zr_dX5_kinds_72.1
noncomputable def zr_dX5_kinds_75 := zo_16 (k := 9)  (q := 77) zr_dX5_kinds_72.2 (by decide +kernel) rfl
noncomputable def dX5_kinds_75 := zr_dX5_kinds_75.1
noncomputable def zr_dX5_kinds_77 := zo_54 (k := 7)  (q := 79) zr_dX5_kinds_75.2 rfl rfl
noncomputable def dX5_kinds_77 := zr_dX5_kinds_77.1
noncomputable def zr_dX5_kinds_79 := zo_3 (q := 80) zr_dX5_kinds_77.2 rfl
noncomputable def dX5_kinds_79 := zr_dX5_kinds_79.1
noncomputable def zr_dX5_kinds_80 := zo_54 (k := 8)  (q := 82) zr_dX5_kinds_79.2 rfl rfl
noncomputable def dX5_kinds_80 := zr_dX5_kinds_80.1
noncomputable def zr_dX5_kinds_82 := zo_3 (q := 83) zr_dX5_kinds_80.2 rfl
noncomputable def dX5_kinds_82 := zr_dX5_kinds_82.1
noncomputable def zr_dX5_kinds_83 := zo_54 (k := 9)  (q := 85) zr_dX5_kinds_82.2 rfl rfl
noncomputable def dX5_kinds_83 := zr_dX5_kinds_83.1
noncomputable def zr_dX5_kinds_85 := zo_21 (k := 9)  (q := 87) zr_dX5_kinds_83.2 rfl rfl
noncomputable def dX5_kinds_85 := zr_dX5_kinds_85.1
noncomputable def zr_dX5_kinds_87 := zo_21 (k := 7)  (q := 89) zr_dX5_kinds_85.2 rfl rfl
noncomputable def dX5_kinds_87 := zr_dX5_kinds_87.1
noncomputable def zr_dX5_kinds_89 := zo_163 (k := 38)  (q := 92) zr_dX5_kinds_87.2 (by decide +kernel) rfl
noncomputable def dX5_kinds_89 := zr_dX5_kinds_89.1
noncomputable def zr_dX5_kinds_92 := zo_42 (q := 93) zr_dX5_kinds_89.2 rfl
noncomputable def dX5_kinds_92 := zr_dX5_kinds_92.1
noncomputable def zr_dX5_kinds_93 := zo_182 (k := 143)  (q := 96) zr_dX5_kinds_92.2 rfl rfl
noncomputable def dX5_kinds_93 := zr_dX5_kinds_93.1
noncomputable def zr_dX5_kinds_96 := zo_25 (k := 6)  (q := 98) zr_dX5_kinds_93.2 rfl rfl
noncomputable def dX5_kinds_96 := zr_dX5_kinds_96.1
noncomputable def zr_dX5_kinds_98 := zo_29 (q := 99) zr_dX5_kinds_96.2 rfl
noncomputable def dX5_kinds_98 := zr_dX5_kinds_98.1
noncomputable def zr_dX5_kinds_99 := zo_21 (k := 9)  (q := 101) zr_dX5_kinds_98.2 rfl rfl
noncomputable def dX5_kinds_99 := zr_dX5_kinds_99.1
noncomputable def zr_dX5_kinds_101 := zo_79 (q := 102) zr_dX5_kinds_99.2 rfl
noncomputable def dX5_kinds_101 := zr_dX5_kinds_101.1
noncomputable def zr_dX5_kinds_102 := zo_42 (q := 103) zr_dX5_kinds_101.2 rfl
noncomputable def dX5_kinds_102 := zr_dX5_kinds_102.1
noncomputable def zr_dX5_kinds_103 := zo_27 (q := 104) zr_dX5_kinds_102.2 rfl
noncomputable def dX5_kinds_103 := zr_dX5_kinds_103.1
noncomputable def zr_dX5_kinds_104 := zo_28 (q := 105) zr_dX5_kinds_103.2 rfl
noncomputable def dX5_kinds_104 := zr_dX5_kinds_104.1
noncomputable def zr_dX5_kinds_105 := zo_182 (k := 190)  (q := 108) zr_dX5_kinds_104.2 rfl rfl
noncomputable def dX5_kinds_105 := zr_dX5_kinds_105.1
noncomputable def zr_dX5_kinds_108 := zo_2 (q := 109) zr_dX5_kinds_105.2 rfl
noncomputable def dX5_kinds_108 := zr_dX5_kinds_108.1
noncomputable def zr_dX5_kinds_109 := zo_160 (k := 12)  (q := 112) zr_dX5_kinds_108.2 (by decide +kernel) rfl
noncomputable def dX5_kinds_109 := zr_dX5_kinds_109.1
noncomputable def zr_dX5_kinds_112 := zo_21 (k := 8)  (q := 114) zr_dX5_kinds_109.2 rfl rfl
noncomputable def dX5_kinds_112 := zr_dX5_kinds_112.1
noncomputable def zr_dX5_kinds_114 := zo_4 (q := 115) zr_dX5_kinds_112.2 rfl
noncomputable def dX5_kinds_114 := zr_dX5_kinds_114.1
noncomputable def zr_dX5_kinds_115 := zo_21 (k := 9)  (q := 117) zr_dX5_kinds_114.2 rfl rfl
noncomputable def dX5_kinds_115 := zr_dX5_kinds_115.1
noncomputable def zr_dX5_kinds_117 := zo_120 (q := 118) zr_dX5_kinds_115.2 rfl
noncomputable def dX5_kinds_117 := zr_dX5_kinds_117.1
noncomputable def zr_dX5_kinds_118 := zo_128 (q := 119) zr_dX5_kinds_117.2 rfl
noncomputable def dX5_kinds_118 := zr_dX5_kinds_118.1
noncomputable def zr_dX5_kinds_119 := zo_54 (k := 8)  (q := 121) zr_dX5_kinds_118.2 rfl rfl
noncomputable def dX5_kinds_119 := zr_dX5_kinds_119.1
noncomputable def zr_dX5_kinds_121 := zo_132 (k := 9) (o := 1)  (q := 124) zr_dX5_kinds_119.2 rfl (by decide +kernel) rfl
noncomputable def dX5_kinds_121 := zr_dX5_kinds_121.1
noncomputable def zr_dX5_kinds_124 := zo_167 (k := -39)  (q := 127) zr_dX5_kinds_121.2 (by decide +kernel) rfl
noncomputable def dX5_kinds_124 := zr_dX5_kinds_124.1
noncomputable def zr_dX5_kinds_127 := zo_21 (k := 8)  (q := 129) zr_dX5_kinds_124.2 rfl rfl
noncomputable def dX5_kinds_127 := zr_dX5_kinds_127.1
noncomputable def zr_dX5_kinds_129 := zo_172 (q := 130) zr_dX5_kinds_127.2 rfl
noncomputable def dX5_kinds_129 := zr_dX5_kinds_129.1
theorem zs_dX5_soled_0 : zsuf cX5_soled 0 cX5_soled.data.toList := rfl
noncomputable def zr_dX5_soled_0 := zo_42 (q := 1) zs_dX5_soled_0 rfl
noncomputable def dX5_soled_0 := zr_dX5_soled_0.1
noncomputable def zr_dX5_soled_1 := zo_27 (q := 2) zr_dX5_soled_0.2 rfl
noncomputable def dX5_soled_1 := zr_dX5_soled_1.1
noncomputable def zr_dX5_soled_2 := zo_28 (q := 3) zr_dX5_soled_1.2 rfl
noncomputable def dX5_soled_2 := zr_dX5_soled_2.1
noncomputable def zr_dX5_soled_3 := zo_182 (k := 187)  (q := 6) zr_dX5_soled_2.2 rfl rfl
noncomputable def dX5_soled_3 := zr_dX5_soled_3.1
noncomputable def zr_dX5_soled_6 := zo_62 (q := 7) zr_dX5_soled_3.2 rfl
noncomputable def dX5_soled_6 := zr_dX5_soled_6.1
noncomputable def zr_dX5_soled_7 := zo_29 (q := 8) zr_dX5_soled_6.2 rfl
noncomputable def dX5_soled_7 := zr_dX5_soled_7.1
noncomputable def zr_dX5_soled_8 := zo_153 (k := 5)  (q := 11) zr_dX5_soled_7.2 (by decide +kernel) rfl
noncomputable def dX5_soled_8 := zr_dX5_soled_8.1
noncomputable def zr_dX5_soled_11 := zo_29 (q := 12) zr_dX5_soled_8.2 rfl
noncomputable def dX5_soled_11 := zr_dX5_soled_11.1
noncomputable def zr_dX5_soled_12 := zo_172 (q := 13) zr_dX5_soled_11.2 rfl
noncomputable def dX5_soled_12 := zr_dX5_soled_12.1
noncomputable def zr_dX5_soled_13 := zo_3 (q := 14) zr_dX5_soled_12.2 rfl
noncomputable def dX5_soled_13 := zr_dX5_soled_13.1
noncomputable def zr_dX5_soled_14 := zo_54 (k := 4)  (q := 16) zr_dX5_soled_13.2 rfl rfl
noncomputable def dX5_soled_14 := zr_dX5_soled_14.1
noncomputable def zr_dX5_soled_16 := zo_3 (q := 17) zr_dX5_soled_14.2 rfl
noncomputable def dX5_soled_16 := zr_dX5_soled_16.1
noncomputable def zr_dX5_soled_17 := zo_54 (k := 5)  (q := 19) zr_dX5_soled_16.2 rfl rfl
noncomputable def dX5_soled_17 := zr_dX5_soled_17.1
noncomputable def zr_dX5_soled_19 := zo_21 (k := 5)  (q := 21) zr_dX5_soled_17.2 rfl rfl
noncomputable def dX5_soled_19 := zr_dX5_soled_19.1
noncomputable def zr_dX5_soled_21 := zo_16 (k := 20)  (q := 23) zr_dX5_soled_19.2 (by decide +kernel) rfl
noncomputable def dX5_soled_21 := zr_dX5_soled_21.1
noncomputable def zr_dX5_soled_23 := zo_163 (k := 43)  (q := 26) zr_dX5_soled_21.2 (by decide +kernel) rfl
noncomputable def dX5_soled_23 := zr_dX5_soled_23.1
noncomputable def zr_dX5_soled_26 := zo_42 (q := 27) zr_dX5_soled_23.2 rfl
noncomputable def dX5_soled_26 := zr_dX5_soled_26.1
noncomputable def zr_dX5_soled_27 := zo_182 (k := 143)  (q := 30) zr_dX5_soled_26.2 rfl rfl
noncomputable def dX5_soled_27 := zr_dX5_soled_27.1
noncomputable def zr_dX5_soled_30 := zo_42 (q := 31) zr_dX5_soled_27.2 rfl
noncomputable def dX5_soled_30 := zr_dX5_soled_30.1
noncomputable def zr_dX5_soled_31 := zo_180 (k := 32)  (q := 34) zr_dX5_soled_30.2 rfl rfl
noncomputable def dX5_soled_31 := zr_dX5_soled_31.1
noncomputable def zr_dX5_soled_34 := zo_180 (k := 98)  (q := 37) zr_dX5_soled_31.2 rfl rfl
noncomputable def dX5_soled_34 := zr_dX5_soled_34.1
noncomputable def zr_dX5_soled_37 := zo_28 (q := 38) zr_dX5_soled_34.2 rfl
noncomputable def dX5_soled_37 := zr_dX5_soled_37.1
noncomputable def zr_dX5_soled_38 := zo_21 (k := 5)  (q := 40) zr_dX5_soled_37.2 rfl rfl
noncomputable def dX5_soled_38 := zr_dX5_soled_38.1
noncomputable def zr_dX5_soled_40 := zo_79 (q := 41) zr_dX5_soled_38.2 rfl
noncomputable def dX5_soled_40 := zr_dX5_soled_40.1
noncomputable def zr_dX5_soled_41 := zo_42 (q := 42) zr_dX5_soled_40.2 rfl
noncomputable def dX5_soled_41 := zr_dX5_soled_41.1
noncomputable def zr_dX5_soled_42 := zo_27 (q := 43) zr_dX5_soled_41.2 rfl
noncomputable def dX5_soled_42 := zr_dX5_soled_42.1
noncomputable def zr_dX5_soled_43 := zo_28 (q := 44) zr_dX5_soled_42.2 rfl
noncomputable def dX5_soled_43 := zr_dX5_soled_43.1
noncomputable def zr_dX5_soled_44 := zo_182 (k := 190)  (q := 47) zr_dX5_soled_43.2 rfl rfl
noncomputable def dX5_soled_44 := zr_dX5_soled_44.1
noncomputable def zr_dX5_soled_47 := zo_2 (q := 48) zr_dX5_soled_44.2 rfl
noncomputable def dX5_soled_47 := zr_dX5_soled_47.1
noncomputable def zr_dX5_soled_48 := zo_160 (k := 12)  (q := 51) zr_dX5_soled_47.2 (by decide +kernel) rfl
noncomputable def dX5_soled_48 := zr_dX5_soled_48.1
noncomputable def zr_dX5_soled_51 := zo_21 (k := 4)  (q := 53) zr_dX5_soled_48.2 rfl rfl
noncomputable def dX5_soled_51 := zr_dX5_soled_51.1
noncomputable def zr_dX5_soled_53 := zo_4 (q := 54) zr_dX5_soled_51.2 rfl
noncomputable def dX5_soled_53 := zr_dX5_soled_53.1
noncomputable def zr_dX5_soled_54 := zo_21 (k := 5)  (q := 56) zr_dX5_soled_53.2 rfl rfl
noncomputable def dX5_soled_54 := zr_dX5_soled_54.1
noncomputable def zr_dX5_soled_56 := zo_120 (q := 57) zr_dX5_soled_54.2 rfl
noncomputable def dX5_soled_56 := zr_dX5_soled_56.1
noncomputable def zr_dX5_soled_57 := zo_128 (q := 58) zr_dX5_soled_56.2 rfl
noncomputable def dX5_soled_57 := zr_dX5_soled_57.1
noncomputable def zr_dX5_soled_58 := zo_54 (k := 4)  (q := 60) zr_dX5_soled_57.2 rfl rfl
noncomputable def dX5_soled_58 := zr_dX5_soled_58.1
noncomputable def zr_dX5_soled_60 := zo_132 (k := 5) (o := 1)  (q := 63) zr_dX5_soled_58.2 rfl (by decide +kernel) rfl
noncomputable def dX5_soled_60 := zr_dX5_soled_60.1
noncomputable def zr_dX5_soled_63 := zo_167 (k := -44)  (q := 66) zr_dX5_soled_60.2 (by decide +kernel) rfl
noncomputable def dX5_soled_63 := zr_dX5_soled_63.1
noncomputable def zr_dX5_soled_66 := zo_21 (k := 4)  (q := 68) zr_dX5_soled_63.2 rfl rfl
noncomputable def dX5_soled_66 := zr_dX5_soled_66.1
noncomputable def zr_dX5_soled_68 := zo_172 (q := 69) zr_dX5_soled_66.2 rfl
noncomputable def dX5_soled_68 := zr_dX5_soled_68.1
theorem zs_dX5_sizes_0 : zsuf cX5_sizes 0 cX5_sizes.data.toList := rfl
noncomputable def zr_dX5_sizes_0 := zo_42 (q := 1) zs_dX5_sizes_0 rfl
noncomputable def dX5_sizes_0 := zr_dX5_sizes_0.1
noncomputable def zr_dX5_sizes_1 := zo_27 (q := 2) zr_dX5_sizes_0.2 rfl
noncomputable def dX5_sizes_1 := zr_dX5_sizes_1.1
noncomputable def zr_dX5_sizes_2 := zo_28 (q := 3) zr_dX5_sizes_1.2 rfl
noncomputable def dX5_sizes_2 := zr_dX5_sizes_2.1
noncomputable def zr_dX5_sizes_3 := zo_182 (k := 187)  (q := 6) zr_dX5_sizes_2.2 rfl rfl
noncomputable def dX5_sizes_3 := zr_dX5_sizes_3.1
noncomputable def zr_dX5_sizes_6 := zo_54 (k := 5)  (q := 8) zr_dX5_sizes_3.2 rfl rfl
noncomputable def dX5_sizes_6 := zr_dX5_sizes_6.1
noncomputable def zr_dX5_sizes_8 := zo_21 (k := 5)  (q := 10) zr_dX5_sizes_6.2 rfl rfl
noncomputable def dX5_sizes_8 := zr_dX5_sizes_8.1
noncomputable def zr_dX5_sizes_10 := zo_153 (k := 6)  (q := 13) zr_dX5_sizes_8.2 (by decide +kernel) rfl
noncomputable def dX5_sizes_10 := zr_dX5_sizes_10.1
noncomputable def zr_dX5_sizes_13 := zo_21 (k := 5)  (q := 15) zr_dX5_sizes_10.2 rfl rfl
noncomputable def dX5_sizes_13 := zr_dX5_sizes_13.1
noncomputable def zr_dX5_sizes_15 := zo_172 (q := 16) zr_dX5_sizes_13.2 rfl
noncomputable def dX5_sizes_15 := zr_dX5_sizes_15.1
noncomputable def zr_dX5_sizes_16 := zo_42 (q := 17) zr_dX5_sizes_15.2 rfl
noncomputable def dX5_sizes_16 := zr_dX5_sizes_16.1
noncomputable def zr_dX5_sizes_17 := zo_180 (k := 28)  (q := 20) zr_dX5_sizes_16.2 rfl rfl
noncomputable def dX5_sizes_17 := zr_dX5_sizes_17.1
noncomputable def zr_dX5_sizes_20 := zo_29 (q := 21) zr_dX5_sizes_17.2 rfl
noncomputable def dX5_sizes_20 := zr_dX5_sizes_20.1
noncomputable def zr_dX5_sizes_21 := zo_182 (k := 111)  (q := 24) zr_dX5_sizes_20.2 rfl rfl
noncomputable def dX5_sizes_21 := zr_dX5_sizes_21.1
noncomputable def zr_dX5_sizes_24 := zo_154 (k := 6)  (q := 27) zr_dX5_sizes_21.2 (by decide +kernel) rfl
noncomputable def dX5_sizes_24 := zr_dX5_sizes_24.1
noncomputable def zr_dX5_sizes_27 := zo_16 (k := -6)  (q := 29) zr_dX5_sizes_24.2 (by decide +kernel) rfl
noncomputable def dX5_sizes_27 := zr_dX5_sizes_27.1
noncomputable def zr_dX5_sizes_29 := zo_172 (q := 30) zr_dX5_sizes_27.2 rfl
noncomputable def dX5_sizes_29 := zr_dX5_sizes_29.1
noncomputable def zr_dX5_sizes_30 := zo_21 (k := 4)  (q := 32) zr_dX5_sizes_29.2 rfl rfl
noncomputable def dX5_sizes_30 := zr_dX5_sizes_30.1
noncomputable def zr_dX5_sizes_32 := zo_184 (k := 167)  (q := 35) zr_dX5_sizes_30.2 rfl rfl
noncomputable def dX5_sizes_32 := zr_dX5_sizes_32.1
noncomputable def zr_dX5_sizes_35 := zo_154 (k := 6)  (q := 38) zr_dX5_sizes_32.2 (by decide +kernel) rfl
noncomputable def dX5_sizes_35 := zr_dX5_sizes_35.1
noncomputable def zr_dX5_sizes_38 := zo_16 (k := -7)  (q := 40) zr_dX5_sizes_35.2 (by decide +kernel) rfl
noncomputable def dX5_sizes_38 := zr_dX5_sizes_38.1
noncomputable def zr_dX5_sizes_40 := zo_172 (q := 41) zr_dX5_sizes_38.2 rfl
noncomputable def dX5_sizes_40 := zr_dX5_sizes_40.1
noncomputable def zr_dX5_sizes_41 := zo_21 (k := 4)  (q := 43) zr_dX5_sizes_40.2 rfl rfl
noncomputable def dX5_sizes_41 := zr_dX5_sizes_41.1
noncomputable def zr_dX5_sizes_43 := zo_16 (k := 10)  (q := 45) zr_dX5_sizes_41.2 (by decide +kernel) rfl
noncomputable def dX5_sizes_43 := zr_dX5_sizes_43.1
noncomputable def zr_dX5_sizes_45 := zo_108 (q := 46) zr_dX5_sizes_43.2 rfl
noncomputable def dX5_sizes_45 := zr_dX5_sizes_45.1
noncomputable def zr_dX5_sizes_46 := zo_154 (k := 13)  (q := 49) zr_dX5_sizes_45.2 (by decide +kernel) rfl
noncomputable def dX5_sizes_46 := zr_dX5_sizes_46.1
noncomputable def zr_dX5_sizes_49 := zo_42 (q := 50) zr_dX5_sizes_46.2 rfl
noncomputable def dX5_sizes_49 := zr_dX5_sizes_49.1
noncomputable def zr_dX5_sizes_50 := zo_180 (k := 32)  (q := 53) zr_dX5_sizes_49.2 rfl rfl
noncomputable def dX5_sizes_50 := zr_dX5_sizes_50.1
noncomputable def zr_dX5_sizes_53 := zo_180 (k := 122)  (q := 56) zr_dX5_sizes_50.2 rfl rfl
noncomputable def dX5_sizes_53 := zr_dX5_sizes_53.1
noncomputable def zr_dX5_sizes_56 := zo_167 (k := 10)  (q := 59) zr_dX5_sizes_53.2 (by decide +kernel) rfl
noncomputable def dX5_sizes_56 := zr_dX5_sizes_56.1
noncomputable def zr_dX5_sizes_59 := zo_42 (q := 60) zr_dX5_sizes_56.2 rfl
noncomputable def dX5_sizes_59 := zr_dX5_sizes_59.1
noncomputable def zr_dX5_sizes_60 := zo_180 (k := 32)  (q := 63) zr_dX5_sizes_59.2 rfl rfl
noncomputable def dX5_sizes_60 := zr_dX5_sizes_60.1
noncomputable def zr_dX5_sizes_63 := zo_180 (k := 125)  (q := 66) zr_dX5_sizes_60.2 rfl rfl
noncomputable def dX5_sizes_63 := zr_dX5_sizes_63.1
noncomputable def zr_dX5_sizes_66 := zo_58 (k := 6)  (q := 68) zr_dX5_sizes_63.2 rfl rfl
noncomputable def dX5_sizes_66 := zr_dX5_sizes_66.1
noncomputable def zr_dX5_sizes_68 := zo_3 (q := 69) zr_dX5_sizes_66.2 rfl
noncomputable def dX5_sizes_68 := zr_dX5_sizes_68.1
noncomputable def zr_dX5_sizes_69 := zo_54 (k := 7)  (q := 71) zr_dX5_sizes_68.2 rfl rfl
noncomputable def dX5_sizes_69 := zr_dX5_sizes_69.1
noncomputable def zr_dX5_sizes_71 := zo_2 (q := 72) zr_dX5_sizes_69.2 rfl
noncomputable def dX5_sizes_71 := zr_dX5_sizes_71.1
noncomputable def zr_dX5_sizes_72 := zo_54 (k := 8)  (q := 74) zr_dX5_sizes_71.2 rfl rfl
noncomputable def dX5_sizes_72 := zr_dX5_sizes_72.1
noncomputable def zr_dX5_sizes_74 := zo_16 (k := 99)  (q := 76) zr_dX5_sizes_72.2 (by decide +kernel) rfl
noncomputable def dX5_sizes_74 := zr_dX5_sizes_74.1
noncomputable def zr_dX5_sizes_76 := zo_54 (k := 9)  (q := 78) zr_dX5_sizes_74.2 rfl rfl
noncomputable def dX5_sizes_76 := zr_dX5_sizes_76.1
noncomputable def zr_dX5_sizes_78 := zo_21 (k := 9)  (q := 80) zr_dX5_sizes_76.2 rfl rfl
noncomputable def dX5_sizes_78 := zr_dX5_sizes_78.1
noncomputable def zr_dX5_sizes_80 := zo_155 (k := 36)  (q := 83) zr_dX5_sizes_78.2 (by decide +kernel) rfl
noncomputable def dX5_sizes_80 := zr_dX5_sizes_80.1
noncomputable def zr_dX5_sizes_83 := zo_42 (q := 84) zr_dX5_sizes_80.2 rfl
noncomputable def dX5_sizes_83 := zr_dX5_sizes_83.1
noncomputable def zr_dX5_sizes_84 := zo_182 (k := 143)  (q := 87) zr_dX5_sizes_83.2 rfl rfl
noncomputable def dX5_sizes_84 := zr_dX5_sizes_84.1
noncomputable def zr_dX5_sizes_87 := zo_25 (k := 6)  (q := 89) zr_dX5_sizes_84.2 rfl rfl
noncomputable def dX5_sizes_87 := zr_dX5_sizes_87.1
noncomputable def zr_dX5_sizes_89 := zo_29 (q := 90) zr_dX5_sizes_87.2 rfl
noncomputable def dX5_sizes_89 := zr_dX5_sizes_89.1
noncomputable def zr_dX5_sizes_90 := zo_21 (k := 9)  (q := 92) zr_dX5_sizes_89.2 rfl rfl
noncomputable def dX5_sizes_90 := zr_dX5_sizes_90.1
noncomputable def zr_dX5_sizes_92 := zo_79 (q := 93) zr_dX5_sizes_90.2 rfl
noncomputable def dX5_sizes_92 := zr_dX5_sizes_92.1
noncomputable def zr_dX5_sizes_93 := zo_42 (q := 94) zr_dX5_sizes_92.2 rfl
noncomputable def dX5_sizes_93 := zr_dX5_sizes_93.1
noncomputable def zr_dX5_sizes_94 := zo_27 (q := 95) zr_dX5_sizes_93.2 rfl
noncomputable def dX5_sizes_94 := zr_dX5_sizes_94.1
noncomputable def zr_dX5_sizes_95 := zo_28 (q := 96) zr_dX5_sizes_94.2 rfl
noncomputable def dX5_sizes_95 := zr_dX5_sizes_95.1
noncomputable def zr_dX5_sizes_96 := zo_182 (k := 190)  (q := 99) zr_dX5_sizes_95.2 rfl rfl
noncomputable def dX5_sizes_96 := zr_dX5_sizes_96.1
noncomputable def zr_dX5_sizes_99 := zo_2 (q := 100) zr_dX5_sizes_96.2 rfl
noncomputable def dX5_sizes_99 := zr_dX5_sizes_99.1
noncomputable def zr_dX5_sizes_100 := zo_160 (k := 10)  (q := 103) zr_dX5_sizes_99.2 (by decide +kernel) rfl
noncomputable def dX5_sizes_100 := zr_dX5_sizes_100.1
noncomputable def zr_dX5_sizes_103 := zo_132 (k := 7) (o := 1)  (q := 106) zr_dX5_sizes_100.2 rfl (by decide +kernel) rfl
noncomputable def dX5_sizes_103 := zr_dX5_sizes_103.1
noncomputable def zr_dX5_sizes_106 := zo_21 (k := 9)  (q := 108) zr_dX5_sizes_103.2 rfl rfl
noncomputable def dX5_sizes_106 := zr_dX5_sizes_106.1
noncomputable def zr_dX5_sizes_108 := zo_54 (k := 8)  (q := 110) zr_dX5_sizes_106.2 rfl rfl
noncomputable def dX5_sizes_108 := zr_dX5_sizes_108.1
noncomputable def zr_dX5_sizes_110 := zo_132 (k := 9) (o := (-1))  (q := 113) zr_dX5_sizes_108.2 rfl (by decide +kernel) rfl
noncomputable def dX5_sizes_110 := zr_dX5_sizes_110.1
noncomputable def zr_dX5_sizes_113 := zo_167 (k := -35)  (q := 116) zr_dX5_sizes_110.2 (by decide +kernel) rfl
noncomputable def dX5_sizes_113 := zr_dX5_sizes_113.1
noncomputable def zr_dX5_sizes_116 := zo_21 (k := 4)  (q := 118) zr_dX5_sizes_113.2 rfl rfl
noncomputable def dX5_sizes_116 := zr_dX5_sizes_116.1
noncomputable def zr_dX5_sizes_118 := zo_16 (k := 10)  (q := 120) zr_dX5_sizes_116.2 (by decide +kernel) rfl
noncomputable def dX5_sizes_118 := zr_dX5_sizes_118.1
noncomputable def zr_dX5_sizes_120 := zo_112 (q := 121) zr_dX5_sizes_118.2 rfl
noncomputable def dX5_sizes_120 := zr_dX5_sizes_120.1
noncomputable def zr_dX5_sizes_121 := zo_154 (k := 8)  (q := 124) zr_dX5_sizes_120.2 (by decide +kernel) rfl
noncomputable def dX5_sizes_121 := zr_dX5_sizes_121.1
noncomputable def zr_dX5_sizes_124 := zo_21 (k := 7)  (q := 126) zr_dX5_sizes_121.2 rfl rfl
noncomputable def dX5_sizes_124 := zr_dX5_sizes_124.1
noncomputable def zr_dX5_sizes_126 := zo_167 (k := 5)  (q := 129) zr_dX5_sizes_124.2 (by decide +kernel) rfl
noncomputable def dX5_sizes_126 := zr_dX5_sizes_126.1
noncomputable def zr_dX5_sizes_129 := zo_21 (k := 8)  (q := 131) zr_dX5_sizes_126.2 rfl rfl
noncomputable def dX5_sizes_129 := zr_dX5_sizes_129.1
noncomputable def zr_dX5_sizes_131 := zo_172 (q := 132) zr_dX5_sizes_129.2 rfl
noncomputable def dX5_sizes_131 := zr_dX5_sizes_131.1
theorem zs_dX5_whose_0 : zsuf cX5_whose 0 cX5_whose.data.toList := rfl
noncomputable def zr_dX5_whose_0 := zo_42 (q := 1) zs_dX5_whose_0 rfl
noncomputable def dX5_whose_0 := zr_dX5_whose_0.1
noncomputable def zr_dX5_whose_1 := zo_27 (q := 2) zr_dX5_whose_0.2 rfl
noncomputable def dX5_whose_1 := zr_dX5_whose_1.1
noncomputable def zr_dX5_whose_2 := zo_182 (k := 193)  (q := 5) zr_dX5_whose_1.2 rfl rfl
noncomputable def dX5_whose_2 := zr_dX5_whose_2.1
noncomputable def zr_dX5_whose_5 := zo_61 (q := 6) zr_dX5_whose_2.2 rfl
noncomputable def dX5_whose_5 := zr_dX5_whose_5.1
noncomputable def zr_dX5_whose_6 := zo_28 (q := 7) zr_dX5_whose_5.2 rfl
noncomputable def dX5_whose_6 := zr_dX5_whose_6.1
noncomputable def zr_dX5_whose_7 := zo_153 (k := 5)  (q := 10) zr_dX5_whose_6.2 (by decide +kernel) rfl
noncomputable def dX5_whose_7 := zr_dX5_whose_7.1
noncomputable def zr_dX5_whose_10 := zo_28 (q := 11) zr_dX5_whose_7.2 rfl
noncomputable def dX5_whose_10 := zr_dX5_whose_10.1
noncomputable def zr_dX5_whose_11 := zo_172 (q := 12) zr_dX5_whose_10.2 rfl
noncomputable def dX5_whose_11 := zr_dX5_whose_11.1
noncomputable def zr_dX5_whose_12 := zo_3 (q := 13) zr_dX5_whose_11.2 rfl
noncomputable def dX5_whose_12 := zr_dX5_whose_12.1
noncomputable def zr_dX5_whose_13 := zo_62 (q := 14) zr_dX5_whose_12.2 rfl
noncomputable def dX5_whose_13 := zr_dX5_whose_13.1
noncomputable def zr_dX5_whose_14 := zo_3 (q := 15) zr_dX5_whose_13.2 rfl
noncomputable def dX5_whose_14 := zr_dX5_whose_14.1
noncomputable def zr_dX5_whose_15 := zo_54 (k := 4)  (q := 17) zr_dX5_whose_14.2 rfl rfl
noncomputable def dX5_whose_15 := zr_dX5_whose_15.1
noncomputable def zr_dX5_whose_17 := zo_21 (k := 4)  (q := 19) zr_dX5_whose_15.2 rfl rfl
noncomputable def dX5_whose_17 := zr_dX5_whose_17.1
noncomputable def zr_dX5_whose_19 := zo_42 (q := 20) zr_dX5_whose_17.2 rfl
noncomputable def dX5_whose_19 := zr_dX5_whose_19.1
noncomputable def zr_dX5_whose_20 := zo_180 (k := 28)  (q := 23) zr_dX5_whose_19.2 rfl rfl
noncomputable def dX5_whose_20 := zr_dX5_whose_20.1
noncomputable def zr_dX5_whose_23 := zo_180 (k := 75)  (q := 26) zr_dX5_whose_20.2 rfl rfl
noncomputable def dX5_whose_23 := zr_dX5_whose_23.1
noncomputable def zr_dX5_whose_26 := zo_162 (k := 31)  (q := 29) zr_dX5_whose_23.2 (by decide +kernel) rfl
noncomputable def dX5_whose_26 := zr_dX5_whose_26.1
noncomputable def zr_dX5_whose_29 := zo_42 (q := 30) zr_dX5_whose_26.2 rfl
noncomputable def dX5_whose_29 := zr_dX5_whose_29.1
noncomputable def zr_dX5_whose_30 := zo_182 (k := 143)  (q := 33) zr_dX5_whose_29.2 rfl rfl
noncomputable def dX5_whose_30 := zr_dX5_whose_30.1
noncomputable def zr_dX5_whose_33 := zo_42 (q := 34) zr_dX5_whose_30.2 rfl
noncomputable def dX5_whose_33 := zr_dX5_whose_33.1
noncomputable def zr_dX5_whose_34 := zo_27 (q := 35) zr_dX5_whose_33.2 rfl
noncomputable def dX5_whose_34 := zr_dX5_whose_34.1
noncomputable def zr_dX5_whose_35 := zo_21 (k := 4)  (q := 37) zr_dX5_whose_34.2 rfl rfl
noncomputable def dX5_whose_35 := zr_dX5_whose_35.1
noncomputable def zr_dX5_whose_37 := zo_182 (k := 190)  (q := 40) zr_dX5_whose_35.2 rfl rfl
noncomputable def dX5_whose_37 := zr_dX5_whose_37.1
noncomputable def zr_dX5_whose_40 := zo_2 (q := 41) zr_dX5_whose_37.2 rfl
noncomputable def dX5_whose_40 := zr_dX5_whose_40.1
noncomputable def zr_dX5_whose_41 := zo_160 (k := 10)  (q := 44) zr_dX5_whose_40.2 (by decide +kernel) rfl
noncomputable def dX5_whose_41 := zr_dX5_whose_41.1
noncomputable def zr_dX5_whose_44 := zo_29 (q := 45) zr_dX5_whose_41.2 rfl
noncomputable def dX5_whose_44 := zr_dX5_whose_44.1
noncomputable def zr_dX5_whose_45 := zo_4 (q := 46) zr_dX5_whose_44.2 rfl
noncomputable def dX5_whose_45 := zr_dX5_whose_45.1
noncomputable def zr_dX5_whose_46 := zo_21 (k := 4)  (q := 48) zr_dX5_whose_45.2 rfl rfl
noncomputable def dX5_whose_46 := zr_dX5_whose_46.1
noncomputable def zr_dX5_whose_48 := zo_120 (q := 49) zr_dX5_whose_46.2 rfl
noncomputable def dX5_whose_48 := zr_dX5_whose_48.1
noncomputable def zr_dX5_whose_49 := zo_128 (q := 50) zr_dX5_whose_48.2 rfl
noncomputable def dX5_whose_49 := zr_dX5_whose_49.1
noncomputable def zr_dX5_whose_50 := zo_62 (q := 51) zr_dX5_whose_49.2 rfl
noncomputable def dX5_whose_50 := zr_dX5_whose_50.1
noncomputable def zr_dX5_whose_51 := zo_132 (k := 4) (o := 1)  (q := 54) zr_dX5_whose_50.2 rfl (by decide +kernel) rfl
noncomputable def dX5_whose_51 := zr_dX5_whose_51.1
noncomputable def zr_dX5_whose_54 := zo_167 (k := -37)  (q := 57) zr_dX5_whose_51.2 (by decide +kernel) rfl
noncomputable def dX5_whose_54 := zr_dX5_whose_54.1
noncomputable def zr_dX5_whose_57 := zo_29 (q := 58) zr_dX5_whose_54.2 rfl
noncomputable def dX5_whose_57 := zr_dX5_whose_57.1
noncomputable def zr_dX5_whose_58 := zo_172 (q := 59) zr_dX5_whose_57.2 rfl
noncomputable def dX5_whose_58 := zr_dX5_whose_58.1
theorem zs_dX5_laws_0 : zsuf cX5_laws 0 cX5_laws.data.toList := rfl
noncomputable def zr_dX5_laws_0 := zo_42 (q := 1) zs_dX5_laws_0 rfl
noncomputable def dX5_laws_0 := zr_dX5_laws_0.1
noncomputable def zr_dX5_laws_1 := zo_27 (q := 2) zr_dX5_laws_0.2 rfl
noncomputable def dX5_laws_1 := zr_dX5_laws_1.1
noncomputable def zr_dX5_laws_2 := zo_28 (q := 3) zr_dX5_laws_1.2 rfl
noncomputable def dX5_laws_2 := zr_dX5_laws_2.1
noncomputable def zr_dX5_laws_3 := zo_182 (k := 187)  (q := 6) zr_dX5_laws_2.2 rfl rfl
noncomputable def dX5_laws_3 := zr_dX5_laws_3.1
noncomputable def zr_dX5_laws_6 := zo_62 (q := 7) zr_dX5_laws_3.2 rfl
noncomputable def dX5_laws_6 := zr_dX5_laws_6.1
noncomputable def zr_dX5_laws_7 := zo_29 (q := 8) zr_dX5_laws_6.2 rfl
noncomputable def dX5_laws_7 := zr_dX5_laws_7.1
noncomputable def zr_dX5_laws_8 := zo_153 (k := 5)  (q := 11) zr_dX5_laws_7.2 (by decide +kernel) rfl
noncomputable def dX5_laws_8 := zr_dX5_laws_8.1
noncomputable def zr_dX5_laws_11 := zo_29 (q := 12) zr_dX5_laws_8.2 rfl
noncomputable def dX5_laws_11 := zr_dX5_laws_11.1
noncomputable def zr_dX5_laws_12 := zo_172 (q := 13) zr_dX5_laws_11.2 rfl
noncomputable def dX5_laws_12 := zr_dX5_laws_12.1
noncomputable def zr_dX5_laws_13 := zo_3 (q := 14) zr_dX5_laws_12.2 rfl
noncomputable def dX5_laws_13 := zr_dX5_laws_13.1
noncomputable def zr_dX5_laws_14 := zo_54 (k := 4)  (q := 16) zr_dX5_laws_13.2 rfl rfl
noncomputable def dX5_laws_14 := zr_dX5_laws_14.1
noncomputable def zr_dX5_laws_16 := zo_3 (q := 17) zr_dX5_laws_14.2 rfl
noncomputable def dX5_laws_16 := zr_dX5_laws_16.1
noncomputable def zr_dX5_laws_17 := zo_54 (k := 5)  (q := 19) zr_dX5_laws_16.2 rfl rfl
noncomputable def dX5_laws_17 := zr_dX5_laws_17.1
noncomputable def zr_dX5_laws_19 := zo_21 (k := 5)  (q := 21) zr_dX5_laws_17.2 rfl rfl
noncomputable def dX5_laws_19 := zr_dX5_laws_19.1
noncomputable def zr_dX5_laws_21 := zo_42 (q := 22) zr_dX5_laws_19.2 rfl
noncomputable def dX5_laws_21 := zr_dX5_laws_21.1
noncomputable def zr_dX5_laws_22 := zo_180 (k := 10)  (q := 25) zr_dX5_laws_21.2 rfl rfl
noncomputable def dX5_laws_22 := zr_dX5_laws_22.1
noncomputable def zr_dX5_laws_25 := zo_180 (k := 78)  (q := 28) zr_dX5_laws_22.2 rfl rfl
noncomputable def dX5_laws_25 := zr_dX5_laws_25.1
noncomputable def zr_dX5_laws_28 := zo_162 (k := 41)  (q := 31) zr_dX5_laws_25.2 (by decide +kernel) rfl
noncomputable def dX5_laws_28 := zr_dX5_laws_28.1
noncomputable def zr_dX5_laws_31 := zo_42 (q := 32) zr_dX5_laws_28.2 rfl
noncomputable def dX5_laws_31 := zr_dX5_laws_31.1
noncomputable def zr_dX5_laws_32 := zo_182 (k := 143)  (q := 35) zr_dX5_laws_31.2 rfl rfl
noncomputable def dX5_laws_32 := zr_dX5_laws_32.1
noncomputable def zr_dX5_laws_35 := zo_42 (q := 36) zr_dX5_laws_32.2 rfl
noncomputable def dX5_laws_35 := zr_dX5_laws_35.1
noncomputable def zr_dX5_laws_36 := zo_180 (k := 32)  (q := 39) zr_dX5_laws_35.2 rfl rfl
noncomputable def dX5_laws_36 := zr_dX5_laws_36.1
noncomputable def zr_dX5_laws_39 := zo_21 (k := 5)  (q := 41) zr_dX5_laws_36.2 rfl rfl
noncomputable def dX5_laws_39 := zr_dX5_laws_39.1
noncomputable def zr_dX5_laws_41 := zo_181 (k := 81)  (q := 44) zr_dX5_laws_39.2 rfl rfl
noncomputable def dX5_laws_41 := zr_dX5_laws_41.1
noncomputable def zr_dX5_laws_44 := zo_42 (q := 45) zr_dX5_laws_41.2 rfl
noncomputable def dX5_laws_44 := zr_dX5_laws_44.1
noncomputable def zr_dX5_laws_45 := zo_27 (q := 46) zr_dX5_laws_44.2 rfl
noncomputable def dX5_laws_45 := zr_dX5_laws_45.1
noncomputable def zr_dX5_laws_46 := zo_28 (q := 47) zr_dX5_laws_45.2 rfl
noncomputable def dX5_laws_46 := zr_dX5_laws_46.1
noncomputable def zr_dX5_laws_47 := zo_182 (k := 190)  (q := 50) zr_dX5_laws_46.2 rfl rfl
noncomputable def dX5_laws_47 := zr_dX5_laws_47.1
noncomputable def zr_dX5_laws_50 := zo_2 (q := 51) zr_dX5_laws_47.2 rfl
noncomputable def dX5_laws_50 := zr_dX5_laws_50.1
noncomputable def zr_dX5_laws_51 := zo_160 (k := 12)  (q := 54) zr_dX5_laws_50.2 (by decide +kernel) rfl
noncomputable def dX5_laws_51 := zr_dX5_laws_51.1
noncomputable def zr_dX5_laws_54 := zo_21 (k := 4)  (q := 56) zr_dX5_laws_51.2 rfl rfl
noncomputable def dX5_laws_54 := zr_dX5_laws_54.1
noncomputable def zr_dX5_laws_56 := zo_4 (q := 57) zr_dX5_laws_54.2 rfl
noncomputable def dX5_laws_56 := zr_dX5_laws_56.1
noncomputable def zr_dX5_laws_57 := zo_21 (k := 5)  (q := 59) zr_dX5_laws_56.2 rfl rfl
noncomputable def dX5_laws_57 := zr_dX5_laws_57.1
noncomputable def zr_dX5_laws_59 := zo_120 (q := 60) zr_dX5_laws_57.2 rfl
noncomputable def dX5_laws_59 := zr_dX5_laws_59.1
noncomputable def zr_dX5_laws_60 := zo_128 (q := 61) zr_dX5_laws_59.2 rfl
noncomputable def dX5_laws_60 := zr_dX5_laws_60.1
noncomputable def zr_dX5_laws_61 := zo_54 (k := 4)  (q := 63) zr_dX5_laws_60.2 rfl rfl
noncomputable def dX5_laws_61 := zr_dX5_laws_61.1
noncomputable def zr_dX5_laws_63 := zo_132 (k := 5) (o := 1)  (q := 66) zr_dX5_laws_61.2 rfl (by decide +kernel) rfl
noncomputable def dX5_laws_63 := zr_dX5_laws_63.1
noncomputable def zr_dX5_laws_66 := zo_167 (k := -47)  (q := 69) zr_dX5_laws_63.2 (by decide +kernel) rfl
noncomputable def dX5_laws_66 := zr_dX5_laws_66.1
noncomputable def zr_dX5_laws_69 := zo_21 (k := 4)  (q := 71) zr_dX5_laws_66.2 rfl rfl
noncomputable def dX5_laws_69 := zr_dX5_laws_69.1
noncomputable def zr_dX5_laws_71 := zo_172 (q := 72) zr_dX5_laws_69.2 rfl
noncomputable def dX5_laws_71 := zr_dX5_laws_71.1
theorem zs_dX5_film_0 : zsuf cX5_film 0 cX5_film.data.toList := rfl
noncomputable def zr_dX5_film_0 := zo_42 (q := 1) zs_dX5_film_0 rfl
noncomputable def dX5_film_0 := zr_dX5_film_0.1
noncomputable def zr_dX5_film_1 := zo_180 (k := 41)  (q := 4) zr_dX5_film_0.2 rfl rfl
noncomputable def dX5_film_1 := zr_dX5_film_1.1
noncomputable def zr_dX5_film_4 := zo_27 (q := 5) zr_dX5_film_1.2 rfl
noncomputable def dX5_film_4 := zr_dX5_film_4.1
noncomputable def zr_dX5_film_5 := zo_182 (k := 196)  (q := 8) zr_dX5_film_4.2 rfl rfl
noncomputable def dX5_film_5 := zr_dX5_film_5.1
noncomputable def zr_dX5_film_8 := zo_154 (k := 6)  (q := 11) zr_dX5_film_5.2 (by decide +kernel) rfl
noncomputable def dX5_film_8 := zr_dX5_film_8.1
noncomputable def zr_dX5_film_11 := zo_16 (k := -2)  (q := 13) zr_dX5_film_8.2 (by decide +kernel) rfl
noncomputable def dX5_film_11 := zr_dX5_film_11.1
noncomputable def zr_dX5_film_13 := zo_172 (q := 14) zr_dX5_film_11.2 rfl
noncomputable def dX5_film_13 := zr_dX5_film_13.1
noncomputable def zr_dX5_film_14 := zo_42 (q := 15) zr_dX5_film_13.2 rfl
noncomputable def dX5_film_14 := zr_dX5_film_14.1
noncomputable def zr_dX5_film_15 := zo_180 (k := 28)  (q := 18) zr_dX5_film_14.2 rfl rfl
noncomputable def dX5_film_15 := zr_dX5_film_15.1
noncomputable def zr_dX5_film_18 := zo_28 (q := 19) zr_dX5_film_15.2 rfl
noncomputable def dX5_film_18 := zr_dX5_film_18.1
noncomputable def zr_dX5_film_19 := zo_182 (k := 94)  (q := 22) zr_dX5_film_18.2 rfl rfl
noncomputable def dX5_film_19 := zr_dX5_film_19.1
noncomputable def zr_dX5_film_22 := zo_154 (k := 6)  (q := 25) zr_dX5_film_19.2 (by decide +kernel) rfl
noncomputable def dX5_film_22 := zr_dX5_film_22.1
noncomputable def zr_dX5_film_25 := zo_16 (k := -5)  (q := 27) zr_dX5_film_22.2 (by decide +kernel) rfl
noncomputable def dX5_film_25 := zr_dX5_film_25.1
noncomputable def zr_dX5_film_27 := zo_172 (q := 28) zr_dX5_film_25.2 rfl
noncomputable def dX5_film_27 := zr_dX5_film_27.1
noncomputable def zr_dX5_film_28 := zo_29 (q := 29) zr_dX5_film_27.2 rfl
noncomputable def dX5_film_28 := zr_dX5_film_28.1
noncomputable def zr_dX5_film_29 := zo_16 (k := 60)  (q := 31) zr_dX5_film_28.2 (by decide +kernel) rfl
noncomputable def dX5_film_29 := zr_dX5_film_29.1
noncomputable def zr_dX5_film_31 := zo_184 (k := 86)  (q := 34) zr_dX5_film_29.2 rfl rfl
noncomputable def dX5_film_31 := zr_dX5_film_31.1
noncomputable def zr_dX5_film_34 := zo_154 (k := 6)  (q := 37) zr_dX5_film_31.2 (by decide +kernel) rfl
noncomputable def dX5_film_34 := zr_dX5_film_34.1
noncomputable def zr_dX5_film_37 := zo_16 (k := -7)  (q := 39) zr_dX5_film_34.2 (by decide +kernel) rfl
noncomputable def dX5_film_37 := zr_dX5_film_37.1
noncomputable def zr_dX5_film_39 := zo_172 (q := 40) zr_dX5_film_37.2 rfl
noncomputable def dX5_film_39 := zr_dX5_film_39.1
noncomputable def zr_dX5_film_40 := zo_42 (q := 41) zr_dX5_film_39.2 rfl
noncomputable def dX5_film_40 := zr_dX5_film_40.1
noncomputable def zr_dX5_film_41 := zo_182 (k := 143)  (q := 44) zr_dX5_film_40.2 rfl rfl
noncomputable def dX5_film_41 := zr_dX5_film_41.1
noncomputable def zr_dX5_film_44 := zo_42 (q := 45) zr_dX5_film_41.2 rfl
noncomputable def dX5_film_44 := zr_dX5_film_44.1
noncomputable def zr_dX5_film_45 := zo_180 (k := 41)  (q := 48) zr_dX5_film_44.2 rfl rfl
noncomputable def dX5_film_45 := zr_dX5_film_45.1
noncomputable def zr_dX5_film_48 := zo_27 (q := 49) zr_dX5_film_45.2 rfl
noncomputable def dX5_film_48 := zr_dX5_film_48.1
noncomputable def zr_dX5_film_49 := zo_3 (q := 50) zr_dX5_film_48.2 rfl
noncomputable def dX5_film_49 := zr_dX5_film_49.1
noncomputable def zr_dX5_film_50 := zo_6 (q := 51) zr_dX5_film_49.2 rfl
noncomputable def dX5_film_50 := zr_dX5_film_50.1
noncomputable def zr_dX5_film_51 := zo_42 (q := 52) zr_dX5_film_50.2 rfl
noncomputable def dX5_film_51 := zr_dX5_film_51.1
noncomputable def zr_dX5_film_52 := zo_180 (k := 28)  (q := 55) zr_dX5_film_51.2 rfl rfl
noncomputable def dX5_film_52 := zr_dX5_film_52.1
noncomputable def zr_dX5_film_55 := zo_180 (k := 71)  (q := 58) zr_dX5_film_52.2 rfl rfl
noncomputable def dX5_film_55 := zr_dX5_film_55.1
noncomputable def zr_dX5_film_58 := zo_104 (q := 59) zr_dX5_film_55.2 rfl
noncomputable def dX5_film_58 := zr_dX5_film_58.1
noncomputable def zr_dX5_film_59 := zo_182 (k := 199)  (q := 62) zr_dX5_film_58.2 rfl rfl
noncomputable def dX5_film_59 := zr_dX5_film_59.1
noncomputable def zr_dX5_film_62 := zo_3 (q := 63) zr_dX5_film_59.2 rfl
noncomputable def dX5_film_62 := zr_dX5_film_62.1
noncomputable def zr_dX5_film_63 := zo_54 (k := 4)  (q := 65) zr_dX5_film_62.2 rfl rfl
noncomputable def dX5_film_63 := zr_dX5_film_63.1
noncomputable def zr_dX5_film_65 := zo_3 (q := 66) zr_dX5_film_63.2 rfl
noncomputable def dX5_film_65 := zr_dX5_film_65.1
noncomputable def zr_dX5_film_66 := zo_54 (k := 5)  (q := 68) zr_dX5_film_65.2 rfl rfl
noncomputable def dX5_film_66 := zr_dX5_film_66.1
noncomputable def zr_dX5_film_68 := zo_21 (k := 5)  (q := 70) zr_dX5_film_66.2 rfl rfl
noncomputable def dX5_film_68 := zr_dX5_film_68.1
noncomputable def zr_dX5_film_70 := zo_42 (q := 71) zr_dX5_film_68.2 rfl
noncomputable def dX5_film_70 := zr_dX5_film_70.1
noncomputable def zr_dX5_film_71 := zo_180 (k := 28)  (q := 74) zr_dX5_film_70.2 rfl rfl
noncomputable def dX5_film_71 := zr_dX5_film_71.1
noncomputable def zr_dX5_film_74 := zo_180 (k := 71)  (q := 77) zr_dX5_film_71.2 rfl rfl
noncomputable def dX5_film_74 := zr_dX5_film_74.1
noncomputable def zr_dX5_film_77 := zo_162 (k := 84)  (q := 80) zr_dX5_film_74.2 (by decide +kernel) rfl
noncomputable def dX5_film_77 := zr_dX5_film_77.1
noncomputable def zr_dX5_film_80 := zo_42 (q := 81) zr_dX5_film_77.2 rfl
noncomputable def dX5_film_80 := zr_dX5_film_80.1
noncomputable def zr_dX5_film_81 := zo_180 (k := 32)  (q := 84) zr_dX5_film_80.2 rfl rfl
noncomputable def dX5_film_81 := zr_dX5_film_81.1
noncomputable def zr_dX5_film_84 := zo_28 (q := 85) zr_dX5_film_81.2 rfl
noncomputable def dX5_film_84 := zr_dX5_film_84.1
noncomputable def zr_dX5_film_85 := zo_21 (k := 5)  (q := 87) zr_dX5_film_84.2 rfl rfl
noncomputable def dX5_film_85 := zr_dX5_film_85.1
noncomputable def zr_dX5_film_87 := zo_42 (q := 88) zr_dX5_film_85.2 rfl
noncomputable def dX5_film_87 := zr_dX5_film_87.1
noncomputable def zr_dX5_film_88 := zo_180 (k := 32)  (q := 91) zr_dX5_film_87.2 rfl rfl
noncomputable def dX5_film_88 := zr_dX5_film_88.1
noncomputable def zr_dX5_film_91 := zo_28 (q := 92) zr_dX5_film_88.2 rfl
noncomputable def dX5_film_91 := zr_dX5_film_91.1
noncomputable def zr_dX5_film_92 := zo_21 (k := 5)  (q := 94) zr_dX5_film_91.2 rfl rfl
noncomputable def dX5_film_92 := zr_dX5_film_92.1
noncomputable def zr_dX5_film_94 := zo_29 (q := 95) zr_dX5_film_92.2 rfl
noncomputable def dX5_film_94 := zr_dX5_film_94.1
noncomputable def zr_dX5_film_95 := zo_182 (k := 140)  (q := 98) zr_dX5_film_94.2 rfl rfl
noncomputable def dX5_film_95 := zr_dX5_film_95.1
noncomputable def zr_dX5_film_98 := zo_182 (k := 164)  (q := 101) zr_dX5_film_95.2 rfl rfl
noncomputable def dX5_film_98 := zr_dX5_film_98.1
noncomputable def zr_dX5_film_101 := zo_54 (k := 6)  (q := 103) zr_dX5_film_98.2 rfl rfl
noncomputable def dX5_film_101 := zr_dX5_film_101.1
noncomputable def zr_dX5_film_103 := zo_42 (q := 104) zr_dX5_film_101.2 rfl
noncomputable def dX5_film_103 := zr_dX5_film_103.1
noncomputable def zr_dX5_film_104 := zo_180 (k := 41)  (q := 107) zr_dX5_film_103.2 rfl rfl
noncomputable def dX5_film_104 := zr_dX5_film_104.1
noncomputable def zr_dX5_film_107 := zo_27 (q := 108) zr_dX5_film_104.2 rfl
noncomputable def dX5_film_107 := zr_dX5_film_107.1
noncomputable def zr_dX5_film_108 := zo_6 (q := 109) zr_dX5_film_107.2 rfl
noncomputable def dX5_film_108 := zr_dX5_film_108.1
noncomputable def zr_dX5_film_109 := zo_21 (k := 5)  (q := 111) zr_dX5_film_108.2 rfl rfl
noncomputable def dX5_film_109 := zr_dX5_film_109.1
noncomputable def zr_dX5_film_111 := zo_104 (q := 112) zr_dX5_film_109.2 rfl
noncomputable def dX5_film_111 := zr_dX5_film_111.1
noncomputable def zr_dX5_film_112 := zo_21 (k := 5)  (q := 114) zr_dX5_film_111.2 rfl rfl
noncomputable def dX5_film_112 := zr_dX5_film_112.1
noncomputable def zr_dX5_film_114 := zo_182 (k := 203)  (q := 117) zr_dX5_film_112.2 rfl rfl
noncomputable def dX5_film_114 := zr_dX5_film_114.1
noncomputable def zr_dX5_film_117 := zo_42 (q := 118) zr_dX5_film_114.2 rfl
noncomputable def dX5_film_117 := zr_dX5_film_117.1
noncomputable def zr_dX5_film_118 := zo_180 (k := 41)  (q := 121) zr_dX5_film_117.2 rfl rfl
noncomputable def dX5_film_118 := zr_dX5_film_118.1
noncomputable def zr_dX5_film_121 := zo_27 (q := 122) zr_dX5_film_118.2 rfl
noncomputable def dX5_film_121 := zr_dX5_film_121.1
noncomputable def zr_dX5_film_122 := zo_6 (q := 123) zr_dX5_film_121.2 rfl
noncomputable def dX5_film_122 := zr_dX5_film_122.1
noncomputable def zr_dX5_film_123 := zo_21 (k := 5)  (q := 125) zr_dX5_film_122.2 rfl rfl
noncomputable def dX5_film_123 := zr_dX5_film_123.1
noncomputable def zr_dX5_film_125 := zo_104 (q := 126) zr_dX5_film_123.2 rfl
noncomputable def dX5_film_125 := zr_dX5_film_125.1
noncomputable def zr_dX5_film_126 := zo_4 (q := 127) zr_dX5_film_125.2 rfl
noncomputable def dX5_film_126 := zr_dX5_film_126.1
noncomputable def zr_dX5_film_127 := zo_96 (q := 128) zr_dX5_film_126.2 rfl
noncomputable def dX5_film_127 := zr_dX5_film_127.1
noncomputable def zr_dX5_film_128 := zo_29 (q := 129) zr_dX5_film_127.2 rfl
noncomputable def dX5_film_128 := zr_dX5_film_128.1
noncomputable def zr_dX5_film_129 := zo_182 (k := 203)  (q := 132) zr_dX5_film_128.2 rfl rfl
noncomputable def dX5_film_129 := zr_dX5_film_129.1
noncomputable def zr_dX5_film_132 := zo_42 (q := 133) zr_dX5_film_129.2 rfl
noncomputable def dX5_film_132 := zr_dX5_film_132.1
noncomputable def zr_dX5_film_133 := zo_180 (k := 41)  (q := 136) zr_dX5_film_132.2 rfl rfl
noncomputable def dX5_film_133 := zr_dX5_film_133.1
noncomputable def zr_dX5_film_136 := zo_27 (q := 137) zr_dX5_film_133.2 rfl
noncomputable def dX5_film_136 := zr_dX5_film_136.1
noncomputable def zr_dX5_film_137 := zo_6 (q := 138) zr_dX5_film_136.2 rfl
noncomputable def dX5_film_137 := zr_dX5_film_137.1
noncomputable def zr_dX5_film_138 := zo_21 (k := 5)  (q := 140) zr_dX5_film_137.2 rfl rfl
noncomputable def dX5_film_138 := zr_dX5_film_138.1
noncomputable def zr_dX5_film_140 := zo_104 (q := 141) zr_dX5_film_138.2 rfl
noncomputable def dX5_film_140 := zr_dX5_film_140.1
noncomputable def zr_dX5_film_141 := zo_5 (q := 142) zr_dX5_film_140.2 rfl
noncomputable def dX5_film_141 := zr_dX5_film_141.1
noncomputable def zr_dX5_film_142 := zo_96 (q := 143) zr_dX5_film_141.2 rfl
noncomputable def dX5_film_142 := zr_dX5_film_142.1
noncomputable def zr_dX5_film_143 := zo_21 (k := 6)  (q := 145) zr_dX5_film_142.2 rfl rfl
noncomputable def dX5_film_143 := zr_dX5_film_143.1
noncomputable def zr_dX5_film_145 := zo_182 (k := 203)  (q := 148) zr_dX5_film_143.2 rfl rfl
noncomputable def dX5_film_145 := zr_dX5_film_145.1
noncomputable def zr_dX5_film_148 := zo_21 (k := 4)  (q := 150) zr_dX5_film_145.2 rfl rfl
noncomputable def dX5_film_148 := zr_dX5_film_148.1
noncomputable def zr_dX5_film_150 := zo_21 (k := 6)  (q := 152) zr_dX5_film_148.2 rfl rfl
noncomputable def dX5_film_150 := zr_dX5_film_150.1
noncomputable def zr_dX5_film_152 := zo_96 (q := 153) zr_dX5_film_150.2 rfl
noncomputable def dX5_film_152 := zr_dX5_film_152.1
noncomputable def zr_dX5_film_153 := zo_54 (k := 4)  (q := 155) zr_dX5_film_152.2 rfl rfl
noncomputable def dX5_film_153 := zr_dX5_film_153.1
noncomputable def zr_dX5_film_155 := zo_132 (k := 5) (o := 1)  (q := 158) zr_dX5_film_153.2 rfl (by decide +kernel) rfl
noncomputable def dX5_film_155 := zr_dX5_film_155.1
noncomputable def zr_dX5_film_158 := zo_167 (k := -90)  (q := 161) zr_dX5_film_155.2 (by decide +kernel) rfl
noncomputable def dX5_film_158 := zr_dX5_film_158.1
noncomputable def zr_dX5_film_161 := zo_21 (k := 4)  (q := 163) zr_dX5_film_158.2 rfl rfl
noncomputable def dX5_film_161 := zr_dX5_film_161.1
noncomputable def zr_dX5_film_163 := zo_172 (q := 164) zr_dX5_film_161.2 rfl
noncomputable def dX5_film_163 := zr_dX5_film_163.1
theorem zs_dX5_drawn_0 : zsuf cX5_drawn 0 cX5_drawn.data.toList := rfl
noncomputable def zr_dX5_drawn_0 := zo_42 (q := 1) zs_dX5_drawn_0 rfl
noncomputable def dX5_drawn_0 := zr_dX5_drawn_0.1
noncomputable def zr_dX5_drawn_1 := zo_180 (k := 28)  (q := 4) zr_dX5_drawn_0.2 rfl rfl
noncomputable def dX5_drawn_1 := zr_dX5_drawn_1.1
noncomputable def zr_dX5_drawn_4 := zo_28 (q := 5) zr_dX5_drawn_1.2 rfl
noncomputable def dX5_drawn_4 := zr_dX5_drawn_4.1
noncomputable def zr_dX5_drawn_5 := zo_29 (q := 6) zr_dX5_drawn_4.2 rfl
noncomputable def dX5_drawn_5 := zr_dX5_drawn_5.1
noncomputable def zr_dX5_drawn_6 := zo_182 (k := 137)  (q := 9) zr_dX5_drawn_5.2 rfl rfl
noncomputable def dX5_drawn_6 := zr_dX5_drawn_6.1
noncomputable def zr_dX5_drawn_9 := zo_154 (k := 6)  (q := 12) zr_dX5_drawn_6.2 (by decide +kernel) rfl
noncomputable def dX5_drawn_9 := zr_dX5_drawn_9.1
noncomputable def zr_dX5_drawn_12 := zo_16 (k := -5)  (q := 14) zr_dX5_drawn_9.2 (by decide +kernel) rfl
noncomputable def dX5_drawn_12 := zr_dX5_drawn_12.1
noncomputable def zr_dX5_drawn_14 := zo_172 (q := 15) zr_dX5_drawn_12.2 rfl
noncomputable def dX5_drawn_14 := zr_dX5_drawn_14.1
noncomputable def zr_dX5_drawn_15 := zo_27 (q := 16) zr_dX5_drawn_14.2 rfl
noncomputable def dX5_drawn_15 := zr_dX5_drawn_15.1
noncomputable def zr_dX5_drawn_16 := zo_18 (k := 206)  (q := 18) zr_dX5_drawn_15.2 rfl rfl
noncomputable def dX5_drawn_16 := zr_dX5_drawn_16.1
noncomputable def zr_dX5_drawn_18 := zo_184 (k := 86)  (q := 21) zr_dX5_drawn_16.2 rfl rfl
noncomputable def dX5_drawn_18 := zr_dX5_drawn_18.1
noncomputable def zr_dX5_drawn_21 := zo_153 (k := 20)  (q := 24) zr_dX5_drawn_18.2 (by decide +kernel) rfl
noncomputable def dX5_drawn_21 := zr_dX5_drawn_21.1
noncomputable def zr_dX5_drawn_24 := zo_21 (k := 4)  (q := 26) zr_dX5_drawn_21.2 rfl rfl
noncomputable def dX5_drawn_24 := zr_dX5_drawn_24.1
noncomputable def zr_dX5_drawn_26 := zo_184 (k := 207)  (q := 29) zr_dX5_drawn_24.2 rfl rfl
noncomputable def dX5_drawn_26 := zr_dX5_drawn_26.1
noncomputable def zr_dX5_drawn_29 := zo_153 (k := 12)  (q := 32) zr_dX5_drawn_26.2 (by decide +kernel) rfl
noncomputable def dX5_drawn_29 := zr_dX5_drawn_29.1
noncomputable def zr_dX5_drawn_32 := zo_21 (k := 5)  (q := 34) zr_dX5_drawn_29.2 rfl rfl
noncomputable def dX5_drawn_32 := zr_dX5_drawn_32.1
noncomputable def zr_dX5_drawn_34 := zo_5 (q := 35) zr_dX5_drawn_32.2 rfl
noncomputable def dX5_drawn_34 := zr_dX5_drawn_34.1
noncomputable def zr_dX5_drawn_35 := zo_184 (k := 86)  (q := 38) zr_dX5_drawn_34.2 rfl rfl
noncomputable def dX5_drawn_35 := zr_dX5_drawn_35.1
noncomputable def zr_dX5_drawn_38 := zo_154 (k := 6)  (q := 41) zr_dX5_drawn_35.2 (by decide +kernel) rfl
noncomputable def dX5_drawn_38 := zr_dX5_drawn_38.1
noncomputable def zr_dX5_drawn_41 := zo_16 (k := -7)  (q := 43) zr_dX5_drawn_38.2 (by decide +kernel) rfl
noncomputable def dX5_drawn_41 := zr_dX5_drawn_41.1
noncomputable def zr_dX5_drawn_43 := zo_172 (q := 44) zr_dX5_drawn_41.2 rfl
noncomputable def dX5_drawn_43 := zr_dX5_drawn_43.1
noncomputable def zr_dX5_drawn_44 := zo_42 (q := 45) zr_dX5_drawn_43.2 rfl
noncomputable def dX5_drawn_44 := zr_dX5_drawn_44.1
noncomputable def zr_dX5_drawn_45 := zo_182 (k := 143)  (q := 48) zr_dX5_drawn_44.2 rfl rfl
noncomputable def dX5_drawn_45 := zr_dX5_drawn_45.1
noncomputable def zr_dX5_drawn_48 := zo_42 (q := 49) zr_dX5_drawn_45.2 rfl
noncomputable def dX5_drawn_48 := zr_dX5_drawn_48.1
noncomputable def zr_dX5_drawn_49 := zo_180 (k := 32)  (q := 52) zr_dX5_drawn_48.2 rfl rfl
noncomputable def dX5_drawn_49 := zr_dX5_drawn_49.1
noncomputable def zr_dX5_drawn_52 := zo_27 (q := 53) zr_dX5_drawn_49.2 rfl
noncomputable def dX5_drawn_52 := zr_dX5_drawn_52.1
noncomputable def zr_dX5_drawn_53 := zo_28 (q := 54) zr_dX5_drawn_52.2 rfl
noncomputable def dX5_drawn_53 := zr_dX5_drawn_53.1
noncomputable def zr_dX5_drawn_54 := zo_29 (q := 55) zr_dX5_drawn_53.2 rfl
noncomputable def dX5_drawn_54 := zr_dX5_drawn_54.1
noncomputable def zr_dX5_drawn_55 := zo_21 (k := 4)  (q := 57) zr_dX5_drawn_54.2 rfl rfl
noncomputable def dX5_drawn_55 := zr_dX5_drawn_55.1
noncomputable def zr_dX5_drawn_57 := zo_182 (k := 210)  (q := 60) zr_dX5_drawn_55.2 rfl rfl
noncomputable def dX5_drawn_57 := zr_dX5_drawn_57.1
noncomputable def zr_dX5_drawn_60 := zo_54 (k := 6)  (q := 62) zr_dX5_drawn_57.2 rfl rfl
noncomputable def dX5_drawn_60 := zr_dX5_drawn_60.1
noncomputable def zr_dX5_drawn_62 := zo_42 (q := 63) zr_dX5_drawn_60.2 rfl
noncomputable def dX5_drawn_62 := zr_dX5_drawn_62.1
noncomputable def zr_dX5_drawn_63 := zo_28 (q := 64) zr_dX5_drawn_62.2 rfl
noncomputable def dX5_drawn_63 := zr_dX5_drawn_63.1
noncomputable def zr_dX5_drawn_64 := zo_29 (q := 65) zr_dX5_drawn_63.2 rfl
noncomputable def dX5_drawn_64 := zr_dX5_drawn_64.1
noncomputable def zr_dX5_drawn_65 := zo_21 (k := 6)  (q := 67) zr_dX5_drawn_64.2 rfl rfl
noncomputable def dX5_drawn_65 := zr_dX5_drawn_65.1
noncomputable def zr_dX5_drawn_67 := zo_21 (k := 5)  (q := 69) zr_dX5_drawn_65.2 rfl rfl
noncomputable def dX5_drawn_67 := zr_dX5_drawn_67.1
noncomputable def zr_dX5_drawn_69 := zo_182 (k := 146)  (q := 72) zr_dX5_drawn_67.2 rfl rfl
noncomputable def dX5_drawn_69 := zr_dX5_drawn_69.1
noncomputable def zr_dX5_drawn_72 := zo_172 (q := 73) zr_dX5_drawn_69.2 rfl
noncomputable def dX5_drawn_72 := zr_dX5_drawn_72.1
theorem zs_dX5_odds_0 : zsuf cX5_odds 0 cX5_odds.data.toList := rfl
noncomputable def zr_dX5_odds_0 := zo_27 (q := 1) zs_dX5_odds_0 rfl
noncomputable def dX5_odds_0 := zr_dX5_odds_0.1
noncomputable def zr_dX5_odds_1 := zo_18 (k := 206)  (q := 3) zr_dX5_odds_0.2 rfl rfl
noncomputable def dX5_odds_1 := zr_dX5_odds_1.1
noncomputable def zr_dX5_odds_3 := zo_184 (k := 86)  (q := 6) zr_dX5_odds_1.2 rfl rfl
noncomputable def dX5_odds_3 := zr_dX5_odds_3.1
noncomputable def zr_dX5_odds_6 := zo_153 (k := 23)  (q := 9) zr_dX5_odds_3.2 (by decide +kernel) rfl
noncomputable def dX5_odds_6 := zr_dX5_odds_6.1
noncomputable def zr_dX5_odds_9 := zo_28 (q := 10) zr_dX5_odds_6.2 rfl
noncomputable def dX5_odds_9 := zr_dX5_odds_9.1
noncomputable def zr_dX5_odds_10 := zo_4 (q := 11) zr_dX5_odds_9.2 rfl
noncomputable def dX5_odds_10 := zr_dX5_odds_10.1
noncomputable def zr_dX5_odds_11 := zo_161 (k := 18)  (q := 14) zr_dX5_odds_10.2 (by decide +kernel) rfl
noncomputable def dX5_odds_11 := zr_dX5_odds_11.1
noncomputable def zr_dX5_odds_14 := zo_28 (q := 15) zr_dX5_odds_11.2 rfl
noncomputable def dX5_odds_14 := zr_dX5_odds_14.1
noncomputable def zr_dX5_odds_15 := zo_16 (k := 40)  (q := 17) zr_dX5_odds_14.2 (by decide +kernel) rfl
noncomputable def dX5_odds_15 := zr_dX5_odds_15.1
noncomputable def zr_dX5_odds_17 := zo_163 (k := 12)  (q := 20) zr_dX5_odds_15.2 (by decide +kernel) rfl
noncomputable def dX5_odds_17 := zr_dX5_odds_17.1
noncomputable def zr_dX5_odds_20 := zo_21 (k := 6)  (q := 22) zr_dX5_odds_17.2 rfl rfl
noncomputable def dX5_odds_20 := zr_dX5_odds_20.1
noncomputable def zr_dX5_odds_22 := zo_4 (q := 23) zr_dX5_odds_20.2 rfl
noncomputable def dX5_odds_22 := zr_dX5_odds_22.1
noncomputable def zr_dX5_odds_23 := zo_184 (k := 86)  (q := 26) zr_dX5_odds_22.2 rfl rfl
noncomputable def dX5_odds_23 := zr_dX5_odds_23.1
noncomputable def zr_dX5_odds_26 := zo_154 (k := 7)  (q := 29) zr_dX5_odds_23.2 (by decide +kernel) rfl
noncomputable def dX5_odds_26 := zr_dX5_odds_26.1
noncomputable def zr_dX5_odds_29 := zo_20 (k := 213)  (q := 32) zr_dX5_odds_26.2 rfl rfl
noncomputable def dX5_odds_29 := zr_dX5_odds_29.1
theorem zo_173 {c : ByteArray} {p q : Nat} {L : List UInt8} (h : zsuf c p (173 :: L)) (hq : p + 1 = q) : zD c p .lreturn 1 ∧ zsuf c q L := zfin hq (Eq.trans (zbd (zu1 (v := 173) h rfl)) rfl) (zsuf_tl h)
noncomputable def zr_dX5_odds_32 := zo_173 (q := 33) zr_dX5_odds_29.2 rfl
noncomputable def dX5_odds_32 := zr_dX5_odds_32.1
noncomputable def zr_dX5_odds_33 := zo_42 (q := 34) zr_dX5_odds_32.2 rfl
noncomputable def dX5_odds_33 := zr_dX5_odds_33.1
noncomputable def zr_dX5_odds_34 := zo_180 (k := 28)  (q := 37) zr_dX5_odds_33.2 rfl rfl
noncomputable def dX5_odds_34 := zr_dX5_odds_34.1
noncomputable def zr_dX5_odds_37 := zo_29 (q := 38) zr_dX5_odds_34.2 rfl
noncomputable def dX5_odds_37 := zr_dX5_odds_37.1
noncomputable def zr_dX5_odds_38 := zo_21 (k := 4)  (q := 40) zr_dX5_odds_37.2 rfl rfl
noncomputable def dX5_odds_38 := zr_dX5_odds_38.1
noncomputable def zr_dX5_odds_40 := zo_182 (k := 137)  (q := 43) zr_dX5_odds_38.2 rfl rfl
noncomputable def dX5_odds_40 := zr_dX5_odds_40.1
noncomputable def zr_dX5_odds_43 := zo_153 (k := 11)  (q := 46) zr_dX5_odds_40.2 (by decide +kernel) rfl
noncomputable def dX5_odds_43 := zr_dX5_odds_43.1
noncomputable def zr_dX5_odds_46 := zo_21 (k := 5)  (q := 48) zr_dX5_odds_43.2 rfl rfl
noncomputable def dX5_odds_46 := zr_dX5_odds_46.1
noncomputable def zr_dX5_odds_48 := zo_184 (k := 207)  (q := 51) zr_dX5_odds_46.2 rfl rfl
noncomputable def dX5_odds_48 := zr_dX5_odds_48.1
noncomputable def zr_dX5_odds_51 := zo_154 (k := 7)  (q := 54) zr_dX5_odds_48.2 (by decide +kernel) rfl
noncomputable def dX5_odds_51 := zr_dX5_odds_51.1
noncomputable def zr_dX5_odds_54 := zo_20 (k := 213)  (q := 57) zr_dX5_odds_51.2 rfl rfl
noncomputable def dX5_odds_54 := zr_dX5_odds_54.1
noncomputable def zr_dX5_odds_57 := zo_173 (q := 58) zr_dX5_odds_54.2 rfl
noncomputable def dX5_odds_57 := zr_dX5_odds_57.1
noncomputable def zr_dX5_odds_58 := zo_3 (q := 59) zr_dX5_odds_57.2 rfl
noncomputable def dX5_odds_58 := zr_dX5_odds_58.1
noncomputable def zr_dX5_odds_59 := zo_54 (k := 7)  (q := 61) zr_dX5_odds_58.2 rfl rfl
noncomputable def dX5_odds_59 := zr_dX5_odds_59.1
noncomputable def zr_dX5_odds_61 := zo_3 (q := 62) zr_dX5_odds_59.2 rfl
noncomputable def dX5_odds_61 := zr_dX5_odds_61.1
noncomputable def zr_dX5_odds_62 := zo_54 (k := 8)  (q := 64) zr_dX5_odds_61.2 rfl rfl
noncomputable def dX5_odds_62 := zr_dX5_odds_62.1
noncomputable def zr_dX5_odds_64 := zo_21 (k := 8)  (q := 66) zr_dX5_odds_62.2 rfl rfl
noncomputable def dX5_odds_64 := zr_dX5_odds_64.1
noncomputable def zr_dX5_odds_66 := zo_28 (q := 67) zr_dX5_odds_64.2 rfl
noncomputable def dX5_odds_66 := zr_dX5_odds_66.1
noncomputable def zr_dX5_odds_67 := zo_162 (k := 44)  (q := 70) zr_dX5_odds_66.2 (by decide +kernel) rfl
noncomputable def dX5_odds_67 := zr_dX5_odds_67.1
noncomputable def zr_dX5_odds_70 := zo_42 (q := 71) zr_dX5_odds_67.2 rfl
noncomputable def dX5_odds_70 := zr_dX5_odds_70.1
noncomputable def zr_dX5_odds_71 := zo_182 (k := 143)  (q := 74) zr_dX5_odds_70.2 rfl rfl
noncomputable def dX5_odds_71 := zr_dX5_odds_71.1
noncomputable def zr_dX5_odds_74 := zo_21 (k := 7)  (q := 76) zr_dX5_odds_71.2 rfl rfl
noncomputable def dX5_odds_74 := zr_dX5_odds_74.1
noncomputable def zr_dX5_odds_76 := zo_42 (q := 77) zr_dX5_odds_74.2 rfl
noncomputable def dX5_odds_76 := zr_dX5_odds_76.1
noncomputable def zr_dX5_odds_77 := zo_180 (k := 32)  (q := 80) zr_dX5_odds_76.2 rfl rfl
noncomputable def dX5_odds_77 := zr_dX5_odds_77.1
noncomputable def zr_dX5_odds_80 := zo_29 (q := 81) zr_dX5_odds_77.2 rfl
noncomputable def dX5_odds_80 := zr_dX5_odds_80.1
noncomputable def zr_dX5_odds_81 := zo_21 (k := 4)  (q := 83) zr_dX5_odds_80.2 rfl rfl
noncomputable def dX5_odds_81 := zr_dX5_odds_81.1
noncomputable def zr_dX5_odds_83 := zo_42 (q := 84) zr_dX5_odds_81.2 rfl
noncomputable def dX5_odds_83 := zr_dX5_odds_83.1
noncomputable def zr_dX5_odds_84 := zo_180 (k := 32)  (q := 87) zr_dX5_odds_83.2 rfl rfl
noncomputable def dX5_odds_84 := zr_dX5_odds_84.1
noncomputable def zr_dX5_odds_87 := zo_27 (q := 88) zr_dX5_odds_84.2 rfl
noncomputable def dX5_odds_87 := zr_dX5_odds_87.1
noncomputable def zr_dX5_odds_88 := zo_21 (k := 8)  (q := 90) zr_dX5_odds_87.2 rfl rfl
noncomputable def dX5_odds_88 := zr_dX5_odds_88.1
noncomputable def zr_dX5_odds_90 := zo_96 (q := 91) zr_dX5_odds_88.2 rfl
noncomputable def dX5_odds_90 := zr_dX5_odds_90.1
noncomputable def zr_dX5_odds_91 := zo_29 (q := 92) zr_dX5_odds_90.2 rfl
noncomputable def dX5_odds_91 := zr_dX5_odds_91.1
noncomputable def zr_dX5_odds_92 := zo_21 (k := 4)  (q := 94) zr_dX5_odds_91.2 rfl rfl
noncomputable def dX5_odds_92 := zr_dX5_odds_92.1
noncomputable def zr_dX5_odds_94 := zo_21 (k := 5)  (q := 96) zr_dX5_odds_92.2 rfl rfl
noncomputable def dX5_odds_94 := zr_dX5_odds_94.1
noncomputable def zr_dX5_odds_96 := zo_182 (k := 210)  (q := 99) zr_dX5_odds_94.2 rfl rfl
noncomputable def dX5_odds_96 := zr_dX5_odds_96.1
noncomputable def zr_dX5_odds_99 := zo_182 (k := 164)  (q := 102) zr_dX5_odds_96.2 rfl rfl
noncomputable def dX5_odds_99 := zr_dX5_odds_99.1
noncomputable def zr_dX5_odds_102 := zo_96 (q := 103) zr_dX5_odds_99.2 rfl
noncomputable def dX5_odds_102 := zr_dX5_odds_102.1
noncomputable def zr_dX5_odds_103 := zo_54 (k := 7)  (q := 105) zr_dX5_odds_102.2 rfl rfl
noncomputable def dX5_odds_103 := zr_dX5_odds_103.1
noncomputable def zr_dX5_odds_105 := zo_132 (k := 8) (o := 1)  (q := 108) zr_dX5_odds_103.2 rfl (by decide +kernel) rfl
noncomputable def dX5_odds_105 := zr_dX5_odds_105.1
noncomputable def zr_dX5_odds_108 := zo_167 (k := -44)  (q := 111) zr_dX5_odds_105.2 (by decide +kernel) rfl
noncomputable def dX5_odds_108 := zr_dX5_odds_108.1
noncomputable def zr_dX5_odds_111 := zo_21 (k := 6)  (q := 113) zr_dX5_odds_108.2 rfl rfl
noncomputable def dX5_odds_111 := zr_dX5_odds_111.1
noncomputable def zr_dX5_odds_113 := zo_154 (k := 8)  (q := 116) zr_dX5_odds_111.2 (by decide +kernel) rfl
noncomputable def dX5_odds_113 := zr_dX5_odds_113.1
noncomputable def zr_dX5_odds_116 := zo_21 (k := 7)  (q := 118) zr_dX5_odds_113.2 rfl rfl
noncomputable def dX5_odds_116 := zr_dX5_odds_116.1
noncomputable def zr_dX5_odds_118 := zo_167 (k := 4)  (q := 121) zr_dX5_odds_116.2 (by decide +kernel) rfl
noncomputable def dX5_odds_118 := zr_dX5_odds_118.1
noncomputable def zr_dX5_odds_121 := zo_28 (q := 122) zr_dX5_odds_118.2 rfl
noncomputable def dX5_odds_121 := zr_dX5_odds_121.1
noncomputable def zr_dX5_odds_122 := zo_21 (k := 7)  (q := 124) zr_dX5_odds_121.2 rfl rfl
noncomputable def dX5_odds_122 := zr_dX5_odds_122.1
noncomputable def zr_dX5_odds_124 := zo_28 (q := 125) zr_dX5_odds_122.2 rfl
noncomputable def dX5_odds_124 := zr_dX5_odds_124.1
noncomputable def zr_dX5_odds_125 := zo_184 (k := 215)  (q := 128) zr_dX5_odds_124.2 rfl rfl
noncomputable def dX5_odds_125 := zr_dX5_odds_125.1
noncomputable def zr_dX5_odds_128 := zo_108 (q := 129) zr_dX5_odds_125.2 rfl
noncomputable def dX5_odds_128 := zr_dX5_odds_128.1
noncomputable def zr_dX5_odds_129 := zo_133 (q := 130) zr_dX5_odds_128.2 rfl
noncomputable def dX5_odds_129 := zr_dX5_odds_129.1
noncomputable def zr_dX5_odds_130 := zo_173 (q := 131) zr_dX5_odds_129.2 rfl
noncomputable def dX5_odds_130 := zr_dX5_odds_130.1
theorem zs_dX5_image_0 : zsuf cX5_image 0 cX5_image.data.toList := rfl
noncomputable def zr_dX5_image_0 := zo_42 (q := 1) zs_dX5_image_0 rfl
noncomputable def dX5_image_0 := zr_dX5_image_0.1
noncomputable def zr_dX5_image_1 := zo_180 (k := 35)  (q := 4) zr_dX5_image_0.2 rfl rfl
noncomputable def dX5_image_1 := zr_dX5_image_1.1
noncomputable def zr_dX5_image_4 := zo_42 (q := 5) zr_dX5_image_1.2 rfl
noncomputable def dX5_image_4 := zr_dX5_image_4.1
noncomputable def zr_dX5_image_5 := zo_180 (k := 28)  (q := 8) zr_dX5_image_4.2 rfl rfl
noncomputable def dX5_image_5 := zr_dX5_image_5.1
noncomputable def zr_dX5_image_8 := zo_182 (k := 218)  (q := 11) zr_dX5_image_5.2 rfl rfl
noncomputable def dX5_image_8 := zr_dX5_image_8.1
noncomputable def zr_dX5_image_11 := zo_42 (q := 12) zr_dX5_image_8.2 rfl
noncomputable def dX5_image_11 := zr_dX5_image_11.1
noncomputable def zr_dX5_image_12 := zo_4 (q := 13) zr_dX5_image_11.2 rfl
noncomputable def dX5_image_12 := zr_dX5_image_12.1
noncomputable def zr_dX5_image_13 := zo_181 (k := 221)  (q := 16) zr_dX5_image_12.2 rfl rfl
noncomputable def dX5_image_13 := zr_dX5_image_13.1
noncomputable def zr_dX5_image_16 := zo_42 (q := 17) zr_dX5_image_13.2 rfl
noncomputable def dX5_image_16 := zr_dX5_image_16.1
noncomputable def zr_dX5_image_17 := zo_180 (k := 28)  (q := 20) zr_dX5_image_16.2 rfl rfl
noncomputable def dX5_image_17 := zr_dX5_image_17.1
noncomputable def zr_dX5_image_20 := zo_180 (k := 71)  (q := 23) zr_dX5_image_17.2 rfl rfl
noncomputable def dX5_image_20 := zr_dX5_image_20.1
noncomputable def zr_dX5_image_23 := zo_172 (q := 24) zr_dX5_image_20.2 rfl
noncomputable def dX5_image_23 := zr_dX5_image_23.1
theorem zs_dX5_back_0 : zsuf cX5_back 0 cX5_back.data.toList := rfl
noncomputable def zr_dX5_back_0 := zo_42 (q := 1) zs_dX5_back_0 rfl
noncomputable def dX5_back_0 := zr_dX5_back_0.1
noncomputable def zr_dX5_back_1 := zo_180 (k := 221)  (q := 4) zr_dX5_back_0.2 rfl rfl
noncomputable def dX5_back_1 := zr_dX5_back_1.1
noncomputable def zr_dX5_back_4 := zo_154 (k := 6)  (q := 7) zr_dX5_back_1.2 (by decide +kernel) rfl
noncomputable def dX5_back_4 := zr_dX5_back_4.1
noncomputable def zr_dX5_back_7 := zo_16 (k := -3)  (q := 9) zr_dX5_back_4.2 (by decide +kernel) rfl
noncomputable def dX5_back_7 := zr_dX5_back_7.1
noncomputable def zr_dX5_back_9 := zo_172 (q := 10) zr_dX5_back_7.2 rfl
noncomputable def dX5_back_9 := zr_dX5_back_9.1
noncomputable def zr_dX5_back_10 := zo_42 (q := 11) zr_dX5_back_9.2 rfl
noncomputable def dX5_back_10 := zr_dX5_back_10.1
noncomputable def zr_dX5_back_11 := zo_180 (k := 28)  (q := 14) zr_dX5_back_10.2 rfl rfl
noncomputable def dX5_back_11 := zr_dX5_back_11.1
noncomputable def zr_dX5_back_14 := zo_42 (q := 15) zr_dX5_back_11.2 rfl
noncomputable def dX5_back_14 := zr_dX5_back_14.1
noncomputable def zr_dX5_back_15 := zo_180 (k := 35)  (q := 18) zr_dX5_back_14.2 rfl rfl
noncomputable def dX5_back_15 := zr_dX5_back_15.1
noncomputable def zr_dX5_back_18 := zo_182 (k := 218)  (q := 21) zr_dX5_back_15.2 rfl rfl
noncomputable def dX5_back_18 := zr_dX5_back_18.1
noncomputable def zr_dX5_back_21 := zo_42 (q := 22) zr_dX5_back_18.2 rfl
noncomputable def dX5_back_21 := zr_dX5_back_21.1
noncomputable def zr_dX5_back_22 := zo_180 (k := 28)  (q := 25) zr_dX5_back_21.2 rfl rfl
noncomputable def dX5_back_22 := zr_dX5_back_22.1
noncomputable def zr_dX5_back_25 := zo_180 (k := 71)  (q := 28) zr_dX5_back_22.2 rfl rfl
noncomputable def dX5_back_25 := zr_dX5_back_25.1
noncomputable def zr_dX5_back_28 := zo_172 (q := 29) zr_dX5_back_25.2 rfl
noncomputable def dX5_back_28 := zr_dX5_back_28.1
theorem zs_dX5_sheet_0 : zsuf cX5_sheet 0 cX5_sheet.data.toList := rfl
noncomputable def zr_dX5_sheet_0 := zo_42 (q := 1) zs_dX5_sheet_0 rfl
noncomputable def dX5_sheet_0 := zr_dX5_sheet_0.1
noncomputable def zr_dX5_sheet_1 := zo_180 (k := 41)  (q := 4) zr_dX5_sheet_0.2 rfl rfl
noncomputable def dX5_sheet_1 := zr_dX5_sheet_1.1
noncomputable def zr_dX5_sheet_4 := zo_27 (q := 5) zr_dX5_sheet_1.2 rfl
noncomputable def dX5_sheet_4 := zr_dX5_sheet_4.1
noncomputable def zr_dX5_sheet_5 := zo_182 (k := 196)  (q := 8) zr_dX5_sheet_4.2 rfl rfl
noncomputable def dX5_sheet_5 := zr_dX5_sheet_5.1
noncomputable def zr_dX5_sheet_8 := zo_153 (k := 13)  (q := 11) zr_dX5_sheet_5.2 (by decide +kernel) rfl
noncomputable def dX5_sheet_8 := zr_dX5_sheet_8.1
noncomputable def zr_dX5_sheet_11 := zo_28 (q := 12) zr_dX5_sheet_8.2 rfl
noncomputable def dX5_sheet_11 := zr_dX5_sheet_11.1
noncomputable def zr_dX5_sheet_12 := zo_2 (q := 13) zr_dX5_sheet_11.2 rfl
noncomputable def dX5_sheet_12 := zr_dX5_sheet_12.1
noncomputable def zr_dX5_sheet_13 := zo_161 (k := 8)  (q := 16) zr_dX5_sheet_12.2 (by decide +kernel) rfl
noncomputable def dX5_sheet_13 := zr_dX5_sheet_13.1
noncomputable def zr_dX5_sheet_16 := zo_28 (q := 17) zr_dX5_sheet_13.2 rfl
noncomputable def dX5_sheet_16 := zr_dX5_sheet_16.1
noncomputable def zr_dX5_sheet_17 := zo_5 (q := 18) zr_dX5_sheet_16.2 rfl
noncomputable def dX5_sheet_17 := zr_dX5_sheet_17.1
noncomputable def zr_dX5_sheet_18 := zo_164 (k := 6)  (q := 21) zr_dX5_sheet_17.2 (by decide +kernel) rfl
noncomputable def dX5_sheet_18 := zr_dX5_sheet_18.1
noncomputable def zr_dX5_sheet_21 := zo_16 (k := -2)  (q := 23) zr_dX5_sheet_18.2 (by decide +kernel) rfl
noncomputable def dX5_sheet_21 := zr_dX5_sheet_21.1
noncomputable def zr_dX5_sheet_23 := zo_172 (q := 24) zr_dX5_sheet_21.2 rfl
noncomputable def dX5_sheet_23 := zr_dX5_sheet_23.1
noncomputable def zr_dX5_sheet_24 := zo_28 (q := 25) zr_dX5_sheet_23.2 rfl
noncomputable def dX5_sheet_24 := zr_dX5_sheet_24.1
noncomputable def zr_dX5_sheet_25 := zo_2 (q := 26) zr_dX5_sheet_24.2 rfl
noncomputable def dX5_sheet_25 := zr_dX5_sheet_25.1
noncomputable def zr_dX5_sheet_26 := zo_160 (k := 15)  (q := 29) zr_dX5_sheet_25.2 (by decide +kernel) rfl
noncomputable def dX5_sheet_26 := zr_dX5_sheet_26.1
noncomputable def zr_dX5_sheet_29 := zo_42 (q := 30) zr_dX5_sheet_26.2 rfl
noncomputable def dX5_sheet_29 := zr_dX5_sheet_29.1
noncomputable def zr_dX5_sheet_30 := zo_180 (k := 41)  (q := 33) zr_dX5_sheet_29.2 rfl rfl
noncomputable def dX5_sheet_30 := zr_dX5_sheet_30.1
noncomputable def zr_dX5_sheet_33 := zo_27 (q := 34) zr_dX5_sheet_30.2 rfl
noncomputable def dX5_sheet_33 := zr_dX5_sheet_33.1
noncomputable def zr_dX5_sheet_34 := zo_2 (q := 35) zr_dX5_sheet_33.2 rfl
noncomputable def dX5_sheet_34 := zr_dX5_sheet_34.1
noncomputable def zr_dX5_sheet_35 := zo_3 (q := 36) zr_dX5_sheet_34.2 rfl
noncomputable def dX5_sheet_35 := zr_dX5_sheet_35.1
noncomputable def zr_dX5_sheet_36 := zo_182 (k := 199)  (q := 39) zr_dX5_sheet_35.2 rfl rfl
noncomputable def dX5_sheet_36 := zr_dX5_sheet_36.1
noncomputable def zr_dX5_sheet_39 := zo_4 (q := 40) zr_dX5_sheet_36.2 rfl
noncomputable def dX5_sheet_39 := zr_dX5_sheet_39.1
noncomputable def zr_dX5_sheet_40 := zo_172 (q := 41) zr_dX5_sheet_39.2 rfl
noncomputable def dX5_sheet_40 := zr_dX5_sheet_40.1
noncomputable def zr_dX5_sheet_41 := zo_29 (q := 42) zr_dX5_sheet_40.2 rfl
noncomputable def dX5_sheet_41 := zr_dX5_sheet_41.1
noncomputable def zr_dX5_sheet_42 := zo_16 (k := 40)  (q := 44) zr_dX5_sheet_41.2 (by decide +kernel) rfl
noncomputable def dX5_sheet_42 := zr_dX5_sheet_42.1
noncomputable def zr_dX5_sheet_44 := zo_164 (k := 6)  (q := 47) zr_dX5_sheet_42.2 (by decide +kernel) rfl
noncomputable def dX5_sheet_44 := zr_dX5_sheet_44.1
noncomputable def zr_dX5_sheet_47 := zo_16 (k := -2)  (q := 49) zr_dX5_sheet_44.2 (by decide +kernel) rfl
noncomputable def dX5_sheet_47 := zr_dX5_sheet_47.1
noncomputable def zr_dX5_sheet_49 := zo_172 (q := 50) zr_dX5_sheet_47.2 rfl
noncomputable def dX5_sheet_49 := zr_dX5_sheet_49.1
noncomputable def zr_dX5_sheet_50 := zo_29 (q := 51) zr_dX5_sheet_49.2 rfl
noncomputable def dX5_sheet_50 := zr_dX5_sheet_50.1
noncomputable def zr_dX5_sheet_51 := zo_156 (k := 6)  (q := 54) zr_dX5_sheet_50.2 (by decide +kernel) rfl
noncomputable def dX5_sheet_51 := zr_dX5_sheet_51.1
noncomputable def zr_dX5_sheet_54 := zo_16 (k := -14)  (q := 56) zr_dX5_sheet_51.2 (by decide +kernel) rfl
noncomputable def dX5_sheet_54 := zr_dX5_sheet_54.1
noncomputable def zr_dX5_sheet_56 := zo_172 (q := 57) zr_dX5_sheet_54.2 rfl
noncomputable def dX5_sheet_56 := zr_dX5_sheet_56.1
noncomputable def zr_dX5_sheet_57 := zo_42 (q := 58) zr_dX5_sheet_56.2 rfl
noncomputable def dX5_sheet_57 := zr_dX5_sheet_57.1
noncomputable def zr_dX5_sheet_58 := zo_180 (k := 41)  (q := 61) zr_dX5_sheet_57.2 rfl rfl
noncomputable def dX5_sheet_58 := zr_dX5_sheet_58.1
noncomputable def zr_dX5_sheet_61 := zo_27 (q := 62) zr_dX5_sheet_58.2 rfl
noncomputable def dX5_sheet_61 := zr_dX5_sheet_61.1
noncomputable def zr_dX5_sheet_62 := zo_28 (q := 63) zr_dX5_sheet_61.2 rfl
noncomputable def dX5_sheet_62 := zr_dX5_sheet_62.1
noncomputable def zr_dX5_sheet_63 := zo_29 (q := 64) zr_dX5_sheet_62.2 rfl
noncomputable def dX5_sheet_63 := zr_dX5_sheet_63.1
noncomputable def zr_dX5_sheet_64 := zo_182 (k := 199)  (q := 67) zr_dX5_sheet_63.2 rfl rfl
noncomputable def dX5_sheet_64 := zr_dX5_sheet_64.1
noncomputable def zr_dX5_sheet_67 := zo_4 (q := 68) zr_dX5_sheet_64.2 rfl
noncomputable def dX5_sheet_67 := zr_dX5_sheet_67.1
noncomputable def zr_dX5_sheet_68 := zo_172 (q := 69) zr_dX5_sheet_67.2 rfl
noncomputable def dX5_sheet_68 := zr_dX5_sheet_68.1
theorem zs_dX5_cell_0 : zsuf cX5_cell 0 cX5_cell.data.toList := rfl
noncomputable def zr_dX5_cell_0 := zo_42 (q := 1) zs_dX5_cell_0 rfl
noncomputable def dX5_cell_0 := zr_dX5_cell_0.1
noncomputable def zr_dX5_cell_1 := zo_180 (k := 41)  (q := 4) zr_dX5_cell_0.2 rfl rfl
noncomputable def dX5_cell_1 := zr_dX5_cell_1.1
noncomputable def zr_dX5_cell_4 := zo_27 (q := 5) zr_dX5_cell_1.2 rfl
noncomputable def dX5_cell_4 := zr_dX5_cell_4.1
noncomputable def zr_dX5_cell_5 := zo_182 (k := 196)  (q := 8) zr_dX5_cell_4.2 rfl rfl
noncomputable def dX5_cell_5 := zr_dX5_cell_5.1
noncomputable def zr_dX5_cell_8 := zo_154 (k := 6)  (q := 11) zr_dX5_cell_5.2 (by decide +kernel) rfl
noncomputable def dX5_cell_8 := zr_dX5_cell_8.1
noncomputable def zr_dX5_cell_11 := zo_16 (k := -2)  (q := 13) zr_dX5_cell_8.2 (by decide +kernel) rfl
noncomputable def dX5_cell_11 := zr_dX5_cell_11.1
noncomputable def zr_dX5_cell_13 := zo_172 (q := 14) zr_dX5_cell_11.2 rfl
noncomputable def dX5_cell_13 := zr_dX5_cell_13.1
noncomputable def zr_dX5_cell_14 := zo_42 (q := 15) zr_dX5_cell_13.2 rfl
noncomputable def dX5_cell_14 := zr_dX5_cell_14.1
noncomputable def zr_dX5_cell_15 := zo_180 (k := 41)  (q := 18) zr_dX5_cell_14.2 rfl rfl
noncomputable def dX5_cell_15 := zr_dX5_cell_15.1
noncomputable def zr_dX5_cell_18 := zo_180 (k := 225)  (q := 21) zr_dX5_cell_15.2 rfl rfl
noncomputable def dX5_cell_18 := zr_dX5_cell_18.1
noncomputable def zr_dX5_cell_21 := zo_27 (q := 22) zr_dX5_cell_18.2 rfl
noncomputable def dX5_cell_21 := zr_dX5_cell_21.1
noncomputable def zr_dX5_cell_22 := zo_46 (q := 23) zr_dX5_cell_21.2 rfl
noncomputable def dX5_cell_22 := zr_dX5_cell_22.1
noncomputable def zr_dX5_cell_23 := zo_2 (q := 24) zr_dX5_cell_22.2 rfl
noncomputable def dX5_cell_23 := zr_dX5_cell_23.1
noncomputable def zr_dX5_cell_24 := zo_160 (k := 6)  (q := 27) zr_dX5_cell_23.2 (by decide +kernel) rfl
noncomputable def dX5_cell_24 := zr_dX5_cell_24.1
noncomputable def zr_dX5_cell_27 := zo_16 (k := -11)  (q := 29) zr_dX5_cell_24.2 (by decide +kernel) rfl
noncomputable def dX5_cell_27 := zr_dX5_cell_27.1
noncomputable def zr_dX5_cell_29 := zo_172 (q := 30) zr_dX5_cell_27.2 rfl
noncomputable def dX5_cell_29 := zr_dX5_cell_29.1
noncomputable def zr_dX5_cell_30 := zo_28 (q := 31) zr_dX5_cell_29.2 rfl
noncomputable def dX5_cell_30 := zr_dX5_cell_30.1
noncomputable def zr_dX5_cell_31 := zo_155 (k := 16)  (q := 34) zr_dX5_cell_30.2 (by decide +kernel) rfl
noncomputable def dX5_cell_31 := zr_dX5_cell_31.1
noncomputable def zr_dX5_cell_34 := zo_28 (q := 35) zr_dX5_cell_31.2 rfl
noncomputable def dX5_cell_34 := zr_dX5_cell_34.1
noncomputable def zr_dX5_cell_35 := zo_42 (q := 36) zr_dX5_cell_34.2 rfl
noncomputable def dX5_cell_35 := zr_dX5_cell_35.1
noncomputable def zr_dX5_cell_36 := zo_180 (k := 41)  (q := 39) zr_dX5_cell_35.2 rfl rfl
noncomputable def dX5_cell_36 := zr_dX5_cell_36.1
noncomputable def zr_dX5_cell_39 := zo_180 (k := 228)  (q := 42) zr_dX5_cell_36.2 rfl rfl
noncomputable def dX5_cell_39 := zr_dX5_cell_39.1
noncomputable def zr_dX5_cell_42 := zo_27 (q := 43) zr_dX5_cell_39.2 rfl
noncomputable def dX5_cell_42 := zr_dX5_cell_42.1
noncomputable def zr_dX5_cell_43 := zo_46 (q := 44) zr_dX5_cell_42.2 rfl
noncomputable def dX5_cell_43 := zr_dX5_cell_43.1
noncomputable def zr_dX5_cell_44 := zo_161 (k := 6)  (q := 47) zr_dX5_cell_43.2 (by decide +kernel) rfl
noncomputable def dX5_cell_44 := zr_dX5_cell_44.1
noncomputable def zr_dX5_cell_47 := zo_16 (k := -12)  (q := 49) zr_dX5_cell_44.2 (by decide +kernel) rfl
noncomputable def dX5_cell_47 := zr_dX5_cell_47.1
noncomputable def zr_dX5_cell_49 := zo_172 (q := 50) zr_dX5_cell_47.2 rfl
noncomputable def dX5_cell_49 := zr_dX5_cell_49.1
noncomputable def zr_dX5_cell_50 := zo_42 (q := 51) zr_dX5_cell_49.2 rfl
noncomputable def dX5_cell_50 := zr_dX5_cell_50.1
noncomputable def zr_dX5_cell_51 := zo_180 (k := 41)  (q := 54) zr_dX5_cell_50.2 rfl rfl
noncomputable def dX5_cell_51 := zr_dX5_cell_51.1
noncomputable def zr_dX5_cell_54 := zo_27 (q := 55) zr_dX5_cell_51.2 rfl
noncomputable def dX5_cell_54 := zr_dX5_cell_54.1
noncomputable def zr_dX5_cell_55 := zo_28 (q := 56) zr_dX5_cell_54.2 rfl
noncomputable def dX5_cell_55 := zr_dX5_cell_55.1
noncomputable def zr_dX5_cell_56 := zo_29 (q := 57) zr_dX5_cell_55.2 rfl
noncomputable def dX5_cell_56 := zr_dX5_cell_56.1
noncomputable def zr_dX5_cell_57 := zo_182 (k := 203)  (q := 60) zr_dX5_cell_56.2 rfl rfl
noncomputable def dX5_cell_57 := zr_dX5_cell_57.1
noncomputable def zr_dX5_cell_60 := zo_4 (q := 61) zr_dX5_cell_57.2 rfl
noncomputable def dX5_cell_60 := zr_dX5_cell_60.1
noncomputable def zr_dX5_cell_61 := zo_172 (q := 62) zr_dX5_cell_60.2 rfl
noncomputable def dX5_cell_61 := zr_dX5_cell_61.1
theorem zs_dX5_copy_0 : zsuf cX5_copy 0 cX5_copy.data.toList := rfl
noncomputable def zr_dX5_copy_0 := zo_42 (q := 1) zs_dX5_copy_0 rfl
noncomputable def dX5_copy_0 := zr_dX5_copy_0.1
noncomputable def zr_dX5_copy_1 := zo_180 (k := 41)  (q := 4) zr_dX5_copy_0.2 rfl rfl
noncomputable def dX5_copy_1 := zr_dX5_copy_1.1
noncomputable def zr_dX5_copy_4 := zo_27 (q := 5) zr_dX5_copy_1.2 rfl
noncomputable def dX5_copy_4 := zr_dX5_copy_4.1
noncomputable def zr_dX5_copy_5 := zo_182 (k := 196)  (q := 8) zr_dX5_copy_4.2 rfl rfl
noncomputable def dX5_copy_5 := zr_dX5_copy_5.1
noncomputable def zr_dX5_copy_8 := zo_153 (k := 14)  (q := 11) zr_dX5_copy_5.2 (by decide +kernel) rfl
noncomputable def dX5_copy_8 := zr_dX5_copy_8.1
noncomputable def zr_dX5_copy_11 := zo_42 (q := 12) zr_dX5_copy_8.2 rfl
noncomputable def dX5_copy_11 := zr_dX5_copy_11.1
noncomputable def zr_dX5_copy_12 := zo_180 (k := 41)  (q := 15) zr_dX5_copy_11.2 rfl rfl
noncomputable def dX5_copy_12 := zr_dX5_copy_12.1
noncomputable def zr_dX5_copy_15 := zo_29 (q := 16) zr_dX5_copy_12.2 rfl
noncomputable def dX5_copy_15 := zr_dX5_copy_15.1
noncomputable def zr_dX5_copy_16 := zo_182 (k := 196)  (q := 19) zr_dX5_copy_15.2 rfl rfl
noncomputable def dX5_copy_16 := zr_dX5_copy_16.1
noncomputable def zr_dX5_copy_19 := zo_154 (k := 6)  (q := 22) zr_dX5_copy_16.2 (by decide +kernel) rfl
noncomputable def dX5_copy_19 := zr_dX5_copy_19.1
noncomputable def zr_dX5_copy_22 := zo_16 (k := -2)  (q := 24) zr_dX5_copy_19.2 (by decide +kernel) rfl
noncomputable def dX5_copy_22 := zr_dX5_copy_22.1
noncomputable def zr_dX5_copy_24 := zo_172 (q := 25) zr_dX5_copy_22.2 rfl
noncomputable def dX5_copy_24 := zr_dX5_copy_24.1
noncomputable def zr_dX5_copy_25 := zo_42 (q := 26) zr_dX5_copy_24.2 rfl
noncomputable def dX5_copy_25 := zr_dX5_copy_25.1
noncomputable def zr_dX5_copy_26 := zo_180 (k := 41)  (q := 29) zr_dX5_copy_25.2 rfl rfl
noncomputable def dX5_copy_26 := zr_dX5_copy_26.1
noncomputable def zr_dX5_copy_29 := zo_180 (k := 225)  (q := 32) zr_dX5_copy_26.2 rfl rfl
noncomputable def dX5_copy_29 := zr_dX5_copy_29.1
noncomputable def zr_dX5_copy_32 := zo_27 (q := 33) zr_dX5_copy_29.2 rfl
noncomputable def dX5_copy_32 := zr_dX5_copy_32.1
noncomputable def zr_dX5_copy_33 := zo_46 (q := 34) zr_dX5_copy_32.2 rfl
noncomputable def dX5_copy_33 := zr_dX5_copy_33.1
noncomputable def zr_dX5_copy_34 := zo_2 (q := 35) zr_dX5_copy_33.2 rfl
noncomputable def dX5_copy_34 := zr_dX5_copy_34.1
noncomputable def zr_dX5_copy_35 := zo_159 (k := 16)  (q := 38) zr_dX5_copy_34.2 (by decide +kernel) rfl
noncomputable def dX5_copy_35 := zr_dX5_copy_35.1
noncomputable def zr_dX5_copy_38 := zo_42 (q := 39) zr_dX5_copy_35.2 rfl
noncomputable def dX5_copy_38 := zr_dX5_copy_38.1
noncomputable def zr_dX5_copy_39 := zo_180 (k := 41)  (q := 42) zr_dX5_copy_38.2 rfl rfl
noncomputable def dX5_copy_39 := zr_dX5_copy_39.1
noncomputable def zr_dX5_copy_42 := zo_180 (k := 225)  (q := 45) zr_dX5_copy_39.2 rfl rfl
noncomputable def dX5_copy_42 := zr_dX5_copy_42.1
noncomputable def zr_dX5_copy_45 := zo_29 (q := 46) zr_dX5_copy_42.2 rfl
noncomputable def dX5_copy_45 := zr_dX5_copy_45.1
noncomputable def zr_dX5_copy_46 := zo_46 (q := 47) zr_dX5_copy_45.2 rfl
noncomputable def dX5_copy_46 := zr_dX5_copy_46.1
noncomputable def zr_dX5_copy_47 := zo_2 (q := 48) zr_dX5_copy_46.2 rfl
noncomputable def dX5_copy_47 := zr_dX5_copy_47.1
noncomputable def zr_dX5_copy_48 := zo_160 (k := 6)  (q := 51) zr_dX5_copy_47.2 (by decide +kernel) rfl
noncomputable def dX5_copy_48 := zr_dX5_copy_48.1
noncomputable def zr_dX5_copy_51 := zo_16 (k := -11)  (q := 53) zr_dX5_copy_48.2 (by decide +kernel) rfl
noncomputable def dX5_copy_51 := zr_dX5_copy_51.1
noncomputable def zr_dX5_copy_53 := zo_172 (q := 54) zr_dX5_copy_51.2 rfl
noncomputable def dX5_copy_53 := zr_dX5_copy_53.1
noncomputable def zr_dX5_copy_54 := zo_42 (q := 55) zr_dX5_copy_53.2 rfl
noncomputable def dX5_copy_54 := zr_dX5_copy_54.1
noncomputable def zr_dX5_copy_55 := zo_180 (k := 41)  (q := 58) zr_dX5_copy_54.2 rfl rfl
noncomputable def dX5_copy_55 := zr_dX5_copy_55.1
noncomputable def zr_dX5_copy_58 := zo_180 (k := 225)  (q := 61) zr_dX5_copy_55.2 rfl rfl
noncomputable def dX5_copy_58 := zr_dX5_copy_58.1
noncomputable def zr_dX5_copy_61 := zo_27 (q := 62) zr_dX5_copy_58.2 rfl
noncomputable def dX5_copy_61 := zr_dX5_copy_61.1
noncomputable def zr_dX5_copy_62 := zo_46 (q := 63) zr_dX5_copy_61.2 rfl
noncomputable def dX5_copy_62 := zr_dX5_copy_62.1
noncomputable def zr_dX5_copy_63 := zo_42 (q := 64) zr_dX5_copy_62.2 rfl
noncomputable def dX5_copy_63 := zr_dX5_copy_63.1
noncomputable def zr_dX5_copy_64 := zo_180 (k := 41)  (q := 67) zr_dX5_copy_63.2 rfl rfl
noncomputable def dX5_copy_64 := zr_dX5_copy_64.1
noncomputable def zr_dX5_copy_67 := zo_180 (k := 225)  (q := 70) zr_dX5_copy_64.2 rfl rfl
noncomputable def dX5_copy_67 := zr_dX5_copy_67.1
noncomputable def zr_dX5_copy_70 := zo_29 (q := 71) zr_dX5_copy_67.2 rfl
noncomputable def dX5_copy_70 := zr_dX5_copy_70.1
noncomputable def zr_dX5_copy_71 := zo_46 (q := 72) zr_dX5_copy_70.2 rfl
noncomputable def dX5_copy_71 := zr_dX5_copy_71.1
noncomputable def zr_dX5_copy_72 := zo_159 (k := 6)  (q := 75) zr_dX5_copy_71.2 (by decide +kernel) rfl
noncomputable def dX5_copy_72 := zr_dX5_copy_72.1
noncomputable def zr_dX5_copy_75 := zo_16 (k := -13)  (q := 77) zr_dX5_copy_72.2 (by decide +kernel) rfl
noncomputable def dX5_copy_75 := zr_dX5_copy_75.1
noncomputable def zr_dX5_copy_77 := zo_172 (q := 78) zr_dX5_copy_75.2 rfl
noncomputable def dX5_copy_77 := zr_dX5_copy_77.1
noncomputable def zr_dX5_copy_78 := zo_42 (q := 79) zr_dX5_copy_77.2 rfl
noncomputable def dX5_copy_78 := zr_dX5_copy_78.1
noncomputable def zr_dX5_copy_79 := zo_180 (k := 41)  (q := 82) zr_dX5_copy_78.2 rfl rfl
noncomputable def dX5_copy_79 := zr_dX5_copy_79.1
noncomputable def zr_dX5_copy_82 := zo_27 (q := 83) zr_dX5_copy_79.2 rfl
noncomputable def dX5_copy_82 := zr_dX5_copy_82.1
noncomputable def zr_dX5_copy_83 := zo_28 (q := 84) zr_dX5_copy_82.2 rfl
noncomputable def dX5_copy_83 := zr_dX5_copy_83.1
noncomputable def zr_dX5_copy_84 := zo_21 (k := 5)  (q := 86) zr_dX5_copy_83.2 rfl rfl
noncomputable def dX5_copy_84 := zr_dX5_copy_84.1
noncomputable def zr_dX5_copy_86 := zo_182 (k := 231)  (q := 89) zr_dX5_copy_84.2 rfl rfl
noncomputable def dX5_copy_86 := zr_dX5_copy_86.1
noncomputable def zr_dX5_copy_89 := zo_153 (k := 18)  (q := 92) zr_dX5_copy_86.2 (by decide +kernel) rfl
noncomputable def dX5_copy_89 := zr_dX5_copy_89.1
noncomputable def zr_dX5_copy_92 := zo_42 (q := 93) zr_dX5_copy_89.2 rfl
noncomputable def dX5_copy_92 := zr_dX5_copy_92.1
noncomputable def zr_dX5_copy_93 := zo_180 (k := 41)  (q := 96) zr_dX5_copy_92.2 rfl rfl
noncomputable def dX5_copy_93 := zr_dX5_copy_93.1
noncomputable def zr_dX5_copy_96 := zo_29 (q := 97) zr_dX5_copy_93.2 rfl
noncomputable def dX5_copy_96 := zr_dX5_copy_96.1
noncomputable def zr_dX5_copy_97 := zo_21 (k := 4)  (q := 99) zr_dX5_copy_96.2 rfl rfl
noncomputable def dX5_copy_97 := zr_dX5_copy_97.1
noncomputable def zr_dX5_copy_99 := zo_21 (k := 5)  (q := 101) zr_dX5_copy_97.2 rfl rfl
noncomputable def dX5_copy_99 := zr_dX5_copy_99.1
noncomputable def zr_dX5_copy_101 := zo_182 (k := 231)  (q := 104) zr_dX5_copy_99.2 rfl rfl
noncomputable def dX5_copy_101 := zr_dX5_copy_101.1
noncomputable def zr_dX5_copy_104 := zo_154 (k := 6)  (q := 107) zr_dX5_copy_101.2 (by decide +kernel) rfl
noncomputable def dX5_copy_104 := zr_dX5_copy_104.1
noncomputable def zr_dX5_copy_107 := zo_16 (k := -12)  (q := 109) zr_dX5_copy_104.2 (by decide +kernel) rfl
noncomputable def dX5_copy_107 := zr_dX5_copy_107.1
noncomputable def zr_dX5_copy_109 := zo_172 (q := 110) zr_dX5_copy_107.2 rfl
noncomputable def dX5_copy_109 := zr_dX5_copy_109.1
noncomputable def zr_dX5_copy_110 := zo_42 (q := 111) zr_dX5_copy_109.2 rfl
noncomputable def dX5_copy_110 := zr_dX5_copy_110.1
noncomputable def zr_dX5_copy_111 := zo_180 (k := 41)  (q := 114) zr_dX5_copy_110.2 rfl rfl
noncomputable def dX5_copy_111 := zr_dX5_copy_111.1
noncomputable def zr_dX5_copy_114 := zo_180 (k := 235)  (q := 117) zr_dX5_copy_111.2 rfl rfl
noncomputable def dX5_copy_114 := zr_dX5_copy_114.1
noncomputable def zr_dX5_copy_117 := zo_27 (q := 118) zr_dX5_copy_114.2 rfl
noncomputable def dX5_copy_117 := zr_dX5_copy_117.1
noncomputable def zr_dX5_copy_118 := zo_50 (q := 119) zr_dX5_copy_117.2 rfl
noncomputable def dX5_copy_118 := zr_dX5_copy_118.1
noncomputable def zr_dX5_copy_119 := zo_28 (q := 120) zr_dX5_copy_118.2 rfl
noncomputable def dX5_copy_119 := zr_dX5_copy_119.1
noncomputable def zr_dX5_copy_120 := zo_42 (q := 121) zr_dX5_copy_119.2 rfl
noncomputable def dX5_copy_120 := zr_dX5_copy_120.1
noncomputable def zr_dX5_copy_121 := zo_180 (k := 41)  (q := 124) zr_dX5_copy_120.2 rfl rfl
noncomputable def dX5_copy_121 := zr_dX5_copy_121.1
noncomputable def zr_dX5_copy_124 := zo_180 (k := 235)  (q := 127) zr_dX5_copy_121.2 rfl rfl
noncomputable def dX5_copy_124 := zr_dX5_copy_124.1
noncomputable def zr_dX5_copy_127 := zo_29 (q := 128) zr_dX5_copy_124.2 rfl
noncomputable def dX5_copy_127 := zr_dX5_copy_127.1
noncomputable def zr_dX5_copy_128 := zo_50 (q := 129) zr_dX5_copy_127.2 rfl
noncomputable def dX5_copy_128 := zr_dX5_copy_128.1
noncomputable def zr_dX5_copy_129 := zo_21 (k := 4)  (q := 131) zr_dX5_copy_128.2 rfl rfl
noncomputable def dX5_copy_129 := zr_dX5_copy_129.1
noncomputable def zr_dX5_copy_131 := zo_21 (k := 5)  (q := 133) zr_dX5_copy_129.2 rfl rfl
noncomputable def dX5_copy_131 := zr_dX5_copy_131.1
noncomputable def zr_dX5_copy_133 := zo_184 (k := 239)  (q := 136) zr_dX5_copy_131.2 rfl rfl
noncomputable def dX5_copy_133 := zr_dX5_copy_133.1
noncomputable def zr_dX5_copy_136 := zo_21 (k := 5)  (q := 138) zr_dX5_copy_133.2 rfl rfl
noncomputable def dX5_copy_136 := zr_dX5_copy_136.1
noncomputable def zr_dX5_copy_138 := zo_172 (q := 139) zr_dX5_copy_136.2 rfl
noncomputable def dX5_copy_138 := zr_dX5_copy_138.1
theorem zs_dX5_pebblesBy_0 : zsuf cX5_pebblesBy 0 cX5_pebblesBy.data.toList := rfl
noncomputable def zr_dX5_pebblesBy_0 := zo_42 (q := 1) zs_dX5_pebblesBy_0 rfl
noncomputable def dX5_pebblesBy_0 := zr_dX5_pebblesBy_0.1
noncomputable def zr_dX5_pebblesBy_1 := zo_180 (k := 41)  (q := 4) zr_dX5_pebblesBy_0.2 rfl rfl
noncomputable def dX5_pebblesBy_1 := zr_dX5_pebblesBy_1.1
noncomputable def zr_dX5_pebblesBy_4 := zo_27 (q := 5) zr_dX5_pebblesBy_1.2 rfl
noncomputable def dX5_pebblesBy_4 := zr_dX5_pebblesBy_4.1
noncomputable def zr_dX5_pebblesBy_5 := zo_182 (k := 196)  (q := 8) zr_dX5_pebblesBy_4.2 rfl rfl
noncomputable def dX5_pebblesBy_5 := zr_dX5_pebblesBy_5.1
noncomputable def zr_dX5_pebblesBy_8 := zo_153 (k := 21)  (q := 11) zr_dX5_pebblesBy_5.2 (by decide +kernel) rfl
noncomputable def dX5_pebblesBy_8 := zr_dX5_pebblesBy_8.1
noncomputable def zr_dX5_pebblesBy_11 := zo_28 (q := 12) zr_dX5_pebblesBy_8.2 rfl
noncomputable def dX5_pebblesBy_11 := zr_dX5_pebblesBy_11.1
noncomputable def zr_dX5_pebblesBy_12 := zo_5 (q := 13) zr_dX5_pebblesBy_11.2 rfl
noncomputable def dX5_pebblesBy_12 := zr_dX5_pebblesBy_12.1
noncomputable def zr_dX5_pebblesBy_13 := zo_184 (k := 86)  (q := 16) zr_dX5_pebblesBy_12.2 rfl rfl
noncomputable def dX5_pebblesBy_13 := zr_dX5_pebblesBy_13.1
noncomputable def zr_dX5_pebblesBy_16 := zo_153 (k := 13)  (q := 19) zr_dX5_pebblesBy_13.2 (by decide +kernel) rfl
noncomputable def dX5_pebblesBy_16 := zr_dX5_pebblesBy_16.1
noncomputable def zr_dX5_pebblesBy_19 := zo_21 (k := 4)  (q := 21) zr_dX5_pebblesBy_16.2 rfl rfl
noncomputable def dX5_pebblesBy_19 := zr_dX5_pebblesBy_19.1
noncomputable def zr_dX5_pebblesBy_21 := zo_16 (k := 6)  (q := 23) zr_dX5_pebblesBy_19.2 (by decide +kernel) rfl
noncomputable def dX5_pebblesBy_21 := zr_dX5_pebblesBy_21.1
noncomputable def zr_dX5_pebblesBy_23 := zo_184 (k := 86)  (q := 26) zr_dX5_pebblesBy_21.2 rfl rfl
noncomputable def dX5_pebblesBy_23 := zr_dX5_pebblesBy_23.1
noncomputable def zr_dX5_pebblesBy_26 := zo_154 (k := 6)  (q := 29) zr_dX5_pebblesBy_23.2 (by decide +kernel) rfl
noncomputable def dX5_pebblesBy_26 := zr_dX5_pebblesBy_26.1
noncomputable def zr_dX5_pebblesBy_29 := zo_16 (k := -2)  (q := 31) zr_dX5_pebblesBy_26.2 (by decide +kernel) rfl
noncomputable def dX5_pebblesBy_29 := zr_dX5_pebblesBy_29.1
noncomputable def zr_dX5_pebblesBy_31 := zo_172 (q := 32) zr_dX5_pebblesBy_29.2 rfl
noncomputable def dX5_pebblesBy_31 := zr_dX5_pebblesBy_31.1
noncomputable def zr_dX5_pebblesBy_32 := zo_42 (q := 33) zr_dX5_pebblesBy_31.2 rfl
noncomputable def dX5_pebblesBy_32 := zr_dX5_pebblesBy_32.1
noncomputable def zr_dX5_pebblesBy_33 := zo_180 (k := 41)  (q := 36) zr_dX5_pebblesBy_32.2 rfl rfl
noncomputable def dX5_pebblesBy_33 := zr_dX5_pebblesBy_33.1
noncomputable def zr_dX5_pebblesBy_36 := zo_180 (k := 225)  (q := 39) zr_dX5_pebblesBy_33.2 rfl rfl
noncomputable def dX5_pebblesBy_36 := zr_dX5_pebblesBy_36.1
noncomputable def zr_dX5_pebblesBy_39 := zo_27 (q := 40) zr_dX5_pebblesBy_36.2 rfl
noncomputable def dX5_pebblesBy_39 := zr_dX5_pebblesBy_39.1
noncomputable def zr_dX5_pebblesBy_40 := zo_46 (q := 41) zr_dX5_pebblesBy_39.2 rfl
noncomputable def dX5_pebblesBy_40 := zr_dX5_pebblesBy_40.1
noncomputable def zr_dX5_pebblesBy_41 := zo_2 (q := 42) zr_dX5_pebblesBy_40.2 rfl
noncomputable def dX5_pebblesBy_41 := zr_dX5_pebblesBy_41.1
noncomputable def zr_dX5_pebblesBy_42 := zo_160 (k := 6)  (q := 45) zr_dX5_pebblesBy_41.2 (by decide +kernel) rfl
noncomputable def dX5_pebblesBy_42 := zr_dX5_pebblesBy_42.1
noncomputable def zr_dX5_pebblesBy_45 := zo_16 (k := -11)  (q := 47) zr_dX5_pebblesBy_42.2 (by decide +kernel) rfl
noncomputable def dX5_pebblesBy_45 := zr_dX5_pebblesBy_45.1
noncomputable def zr_dX5_pebblesBy_47 := zo_172 (q := 48) zr_dX5_pebblesBy_45.2 rfl
noncomputable def dX5_pebblesBy_47 := zr_dX5_pebblesBy_47.1
noncomputable def zr_dX5_pebblesBy_48 := zo_42 (q := 49) zr_dX5_pebblesBy_47.2 rfl
noncomputable def dX5_pebblesBy_48 := zr_dX5_pebblesBy_48.1
noncomputable def zr_dX5_pebblesBy_49 := zo_180 (k := 41)  (q := 52) zr_dX5_pebblesBy_48.2 rfl rfl
noncomputable def dX5_pebblesBy_49 := zr_dX5_pebblesBy_49.1
noncomputable def zr_dX5_pebblesBy_52 := zo_180 (k := 225)  (q := 55) zr_dX5_pebblesBy_49.2 rfl rfl
noncomputable def dX5_pebblesBy_52 := zr_dX5_pebblesBy_52.1
noncomputable def zr_dX5_pebblesBy_55 := zo_27 (q := 56) zr_dX5_pebblesBy_52.2 rfl
noncomputable def dX5_pebblesBy_55 := zr_dX5_pebblesBy_55.1
noncomputable def zr_dX5_pebblesBy_56 := zo_46 (q := 57) zr_dX5_pebblesBy_55.2 rfl
noncomputable def dX5_pebblesBy_56 := zr_dX5_pebblesBy_56.1
noncomputable def zr_dX5_pebblesBy_57 := zo_28 (q := 58) zr_dX5_pebblesBy_56.2 rfl
noncomputable def dX5_pebblesBy_57 := zr_dX5_pebblesBy_57.1
noncomputable def zr_dX5_pebblesBy_58 := zo_159 (k := 6)  (q := 61) zr_dX5_pebblesBy_57.2 (by decide +kernel) rfl
noncomputable def dX5_pebblesBy_58 := zr_dX5_pebblesBy_58.1
noncomputable def zr_dX5_pebblesBy_61 := zo_16 (k := -13)  (q := 63) zr_dX5_pebblesBy_58.2 (by decide +kernel) rfl
noncomputable def dX5_pebblesBy_61 := zr_dX5_pebblesBy_61.1
noncomputable def zr_dX5_pebblesBy_63 := zo_172 (q := 64) zr_dX5_pebblesBy_61.2 rfl
noncomputable def dX5_pebblesBy_63 := zr_dX5_pebblesBy_63.1
noncomputable def zr_dX5_pebblesBy_64 := zo_3 (q := 65) zr_dX5_pebblesBy_63.2 rfl
noncomputable def dX5_pebblesBy_64 := zr_dX5_pebblesBy_64.1
noncomputable def zr_dX5_pebblesBy_65 := zo_54 (k := 5)  (q := 67) zr_dX5_pebblesBy_64.2 rfl rfl
noncomputable def dX5_pebblesBy_65 := zr_dX5_pebblesBy_65.1
noncomputable def zr_dX5_pebblesBy_67 := zo_3 (q := 68) zr_dX5_pebblesBy_65.2 rfl
noncomputable def dX5_pebblesBy_67 := zr_dX5_pebblesBy_67.1
noncomputable def zr_dX5_pebblesBy_68 := zo_54 (k := 6)  (q := 70) zr_dX5_pebblesBy_67.2 rfl rfl
noncomputable def dX5_pebblesBy_68 := zr_dX5_pebblesBy_68.1
noncomputable def zr_dX5_pebblesBy_70 := zo_21 (k := 6)  (q := 72) zr_dX5_pebblesBy_68.2 rfl rfl
noncomputable def dX5_pebblesBy_70 := zr_dX5_pebblesBy_70.1
noncomputable def zr_dX5_pebblesBy_72 := zo_21 (k := 4)  (q := 74) zr_dX5_pebblesBy_70.2 rfl rfl
noncomputable def dX5_pebblesBy_72 := zr_dX5_pebblesBy_72.1
noncomputable def zr_dX5_pebblesBy_74 := zo_162 (k := 70)  (q := 77) zr_dX5_pebblesBy_72.2 (by decide +kernel) rfl
noncomputable def dX5_pebblesBy_74 := zr_dX5_pebblesBy_74.1
noncomputable def zr_dX5_pebblesBy_77 := zo_29 (q := 78) zr_dX5_pebblesBy_74.2 rfl
noncomputable def dX5_pebblesBy_77 := zr_dX5_pebblesBy_77.1
noncomputable def zr_dX5_pebblesBy_78 := zo_5 (q := 79) zr_dX5_pebblesBy_77.2 rfl
noncomputable def dX5_pebblesBy_78 := zr_dX5_pebblesBy_78.1
noncomputable def zr_dX5_pebblesBy_79 := zo_21 (k := 6)  (q := 81) zr_dX5_pebblesBy_78.2 rfl rfl
noncomputable def dX5_pebblesBy_79 := zr_dX5_pebblesBy_79.1
noncomputable def zr_dX5_pebblesBy_81 := zo_104 (q := 82) zr_dX5_pebblesBy_79.2 rfl
noncomputable def dX5_pebblesBy_81 := zr_dX5_pebblesBy_81.1
noncomputable def zr_dX5_pebblesBy_82 := zo_96 (q := 83) zr_dX5_pebblesBy_81.2 rfl
noncomputable def dX5_pebblesBy_82 := zr_dX5_pebblesBy_82.1
noncomputable def zr_dX5_pebblesBy_83 := zo_54 (k := 7)  (q := 85) zr_dX5_pebblesBy_82.2 rfl rfl
noncomputable def dX5_pebblesBy_83 := zr_dX5_pebblesBy_83.1
noncomputable def zr_dX5_pebblesBy_85 := zo_42 (q := 86) zr_dX5_pebblesBy_83.2 rfl
noncomputable def dX5_pebblesBy_85 := zr_dX5_pebblesBy_85.1
noncomputable def zr_dX5_pebblesBy_86 := zo_180 (k := 41)  (q := 89) zr_dX5_pebblesBy_85.2 rfl rfl
noncomputable def dX5_pebblesBy_86 := zr_dX5_pebblesBy_86.1
noncomputable def zr_dX5_pebblesBy_89 := zo_27 (q := 90) zr_dX5_pebblesBy_86.2 rfl
noncomputable def dX5_pebblesBy_89 := zr_dX5_pebblesBy_89.1
noncomputable def zr_dX5_pebblesBy_90 := zo_21 (k := 7)  (q := 92) zr_dX5_pebblesBy_89.2 rfl rfl
noncomputable def dX5_pebblesBy_90 := zr_dX5_pebblesBy_90.1
noncomputable def zr_dX5_pebblesBy_92 := zo_5 (q := 93) zr_dX5_pebblesBy_90.2 rfl
noncomputable def dX5_pebblesBy_92 := zr_dX5_pebblesBy_92.1
noncomputable def zr_dX5_pebblesBy_93 := zo_182 (k := 231)  (q := 96) zr_dX5_pebblesBy_92.2 rfl rfl
noncomputable def dX5_pebblesBy_93 := zr_dX5_pebblesBy_93.1
noncomputable def zr_dX5_pebblesBy_96 := zo_154 (k := 6)  (q := 99) zr_dX5_pebblesBy_93.2 (by decide +kernel) rfl
noncomputable def dX5_pebblesBy_96 := zr_dX5_pebblesBy_96.1
noncomputable def zr_dX5_pebblesBy_99 := zo_16 (k := -12)  (q := 101) zr_dX5_pebblesBy_96.2 (by decide +kernel) rfl
noncomputable def dX5_pebblesBy_99 := zr_dX5_pebblesBy_99.1
noncomputable def zr_dX5_pebblesBy_101 := zo_172 (q := 102) zr_dX5_pebblesBy_99.2 rfl
noncomputable def dX5_pebblesBy_101 := zr_dX5_pebblesBy_101.1
noncomputable def zr_dX5_pebblesBy_102 := zo_42 (q := 103) zr_dX5_pebblesBy_101.2 rfl
noncomputable def dX5_pebblesBy_102 := zr_dX5_pebblesBy_102.1
noncomputable def zr_dX5_pebblesBy_103 := zo_42 (q := 104) zr_dX5_pebblesBy_102.2 rfl
noncomputable def dX5_pebblesBy_103 := zr_dX5_pebblesBy_103.1
noncomputable def zr_dX5_pebblesBy_104 := zo_180 (k := 41)  (q := 107) zr_dX5_pebblesBy_103.2 rfl rfl
noncomputable def dX5_pebblesBy_104 := zr_dX5_pebblesBy_104.1
noncomputable def zr_dX5_pebblesBy_107 := zo_180 (k := 235)  (q := 110) zr_dX5_pebblesBy_104.2 rfl rfl
noncomputable def dX5_pebblesBy_107 := zr_dX5_pebblesBy_107.1
noncomputable def zr_dX5_pebblesBy_110 := zo_27 (q := 111) zr_dX5_pebblesBy_107.2 rfl
noncomputable def dX5_pebblesBy_110 := zr_dX5_pebblesBy_110.1
noncomputable def zr_dX5_pebblesBy_111 := zo_50 (q := 112) zr_dX5_pebblesBy_110.2 rfl
noncomputable def dX5_pebblesBy_111 := zr_dX5_pebblesBy_111.1
noncomputable def zr_dX5_pebblesBy_112 := zo_21 (k := 7)  (q := 114) zr_dX5_pebblesBy_111.2 rfl rfl
noncomputable def dX5_pebblesBy_112 := zr_dX5_pebblesBy_112.1
noncomputable def zr_dX5_pebblesBy_114 := zo_46 (q := 115) zr_dX5_pebblesBy_112.2 rfl
noncomputable def dX5_pebblesBy_114 := zr_dX5_pebblesBy_114.1
noncomputable def zr_dX5_pebblesBy_115 := zo_42 (q := 116) zr_dX5_pebblesBy_114.2 rfl
noncomputable def dX5_pebblesBy_115 := zr_dX5_pebblesBy_115.1
noncomputable def zr_dX5_pebblesBy_116 := zo_180 (k := 41)  (q := 119) zr_dX5_pebblesBy_115.2 rfl rfl
noncomputable def dX5_pebblesBy_116 := zr_dX5_pebblesBy_116.1
noncomputable def zr_dX5_pebblesBy_119 := zo_180 (k := 235)  (q := 122) zr_dX5_pebblesBy_116.2 rfl rfl
noncomputable def dX5_pebblesBy_119 := zr_dX5_pebblesBy_119.1
noncomputable def zr_dX5_pebblesBy_122 := zo_27 (q := 123) zr_dX5_pebblesBy_119.2 rfl
noncomputable def dX5_pebblesBy_122 := zr_dX5_pebblesBy_122.1
noncomputable def zr_dX5_pebblesBy_123 := zo_50 (q := 124) zr_dX5_pebblesBy_122.2 rfl
noncomputable def dX5_pebblesBy_123 := zr_dX5_pebblesBy_123.1
noncomputable def zr_dX5_pebblesBy_124 := zo_21 (k := 7)  (q := 126) zr_dX5_pebblesBy_123.2 rfl rfl
noncomputable def dX5_pebblesBy_124 := zr_dX5_pebblesBy_124.1
noncomputable def zr_dX5_pebblesBy_126 := zo_4 (q := 127) zr_dX5_pebblesBy_124.2 rfl
noncomputable def dX5_pebblesBy_126 := zr_dX5_pebblesBy_126.1
noncomputable def zr_dX5_pebblesBy_127 := zo_96 (q := 128) zr_dX5_pebblesBy_126.2 rfl
noncomputable def dX5_pebblesBy_127 := zr_dX5_pebblesBy_127.1
noncomputable def zr_dX5_pebblesBy_128 := zo_46 (q := 129) zr_dX5_pebblesBy_127.2 rfl
noncomputable def dX5_pebblesBy_128 := zr_dX5_pebblesBy_128.1
noncomputable def zr_dX5_pebblesBy_129 := zo_182 (k := 245)  (q := 132) zr_dX5_pebblesBy_128.2 rfl rfl
noncomputable def dX5_pebblesBy_129 := zr_dX5_pebblesBy_129.1
noncomputable def zr_dX5_pebblesBy_132 := zo_155 (k := 6)  (q := 135) zr_dX5_pebblesBy_129.2 (by decide +kernel) rfl
noncomputable def dX5_pebblesBy_132 := zr_dX5_pebblesBy_132.1
noncomputable def zr_dX5_pebblesBy_135 := zo_132 (k := 5) (o := 1)  (q := 138) zr_dX5_pebblesBy_132.2 rfl (by decide +kernel) rfl
noncomputable def dX5_pebblesBy_135 := zr_dX5_pebblesBy_135.1
noncomputable def zr_dX5_pebblesBy_138 := zo_132 (k := 6) (o := 1)  (q := 141) zr_dX5_pebblesBy_135.2 rfl (by decide +kernel) rfl
noncomputable def dX5_pebblesBy_138 := zr_dX5_pebblesBy_138.1
noncomputable def zr_dX5_pebblesBy_141 := zo_167 (k := -71)  (q := 144) zr_dX5_pebblesBy_138.2 (by decide +kernel) rfl
noncomputable def dX5_pebblesBy_141 := zr_dX5_pebblesBy_141.1
noncomputable def zr_dX5_pebblesBy_144 := zo_21 (k := 5)  (q := 146) zr_dX5_pebblesBy_141.2 rfl rfl
noncomputable def dX5_pebblesBy_144 := zr_dX5_pebblesBy_144.1
noncomputable def zr_dX5_pebblesBy_146 := zo_172 (q := 147) zr_dX5_pebblesBy_144.2 rfl
noncomputable def dX5_pebblesBy_146 := zr_dX5_pebblesBy_146.1
theorem zs_dX5_taken_0 : zsuf cX5_taken 0 cX5_taken.data.toList := rfl
noncomputable def zr_dX5_taken_0 := zo_28 (q := 1) zs_dX5_taken_0 rfl
noncomputable def dX5_taken_0 := zr_dX5_taken_0.1
noncomputable def zr_dX5_taken_1 := zo_16 (k := 6)  (q := 3) zr_dX5_taken_0.2 (by decide +kernel) rfl
noncomputable def dX5_taken_1 := zr_dX5_taken_1.1
noncomputable def zr_dX5_taken_3 := zo_184 (k := 86)  (q := 6) zr_dX5_taken_1.2 rfl rfl
noncomputable def dX5_taken_3 := zr_dX5_taken_3.1
noncomputable def zr_dX5_taken_6 := zo_154 (k := 7)  (q := 9) zr_dX5_taken_3.2 (by decide +kernel) rfl
noncomputable def dX5_taken_6 := zr_dX5_taken_6.1
noncomputable def zr_dX5_taken_9 := zo_20 (k := 248)  (q := 12) zr_dX5_taken_6.2 rfl rfl
noncomputable def dX5_taken_9 := zr_dX5_taken_9.1
noncomputable def zr_dX5_taken_12 := zo_173 (q := 13) zr_dX5_taken_9.2 rfl
noncomputable def dX5_taken_12 := zr_dX5_taken_12.1
noncomputable def zr_dX5_taken_13 := zo_27 (q := 14) zr_dX5_taken_12.2 rfl
noncomputable def dX5_taken_13 := zr_dX5_taken_13.1
noncomputable def zr_dX5_taken_14 := zo_16 (k := 9)  (q := 16) zr_dX5_taken_13.2 (by decide +kernel) rfl
noncomputable def dX5_taken_14 := zr_dX5_taken_14.1
noncomputable def zr_dX5_taken_16 := zo_184 (k := 86)  (q := 19) zr_dX5_taken_14.2 rfl rfl
noncomputable def dX5_taken_16 := zr_dX5_taken_16.1
noncomputable def zr_dX5_taken_19 := zo_154 (k := 7)  (q := 22) zr_dX5_taken_16.2 (by decide +kernel) rfl
noncomputable def dX5_taken_19 := zr_dX5_taken_19.1
noncomputable def zr_dX5_taken_22 := zo_20 (k := 250)  (q := 25) zr_dX5_taken_19.2 rfl rfl
noncomputable def dX5_taken_22 := zr_dX5_taken_22.1
noncomputable def zr_dX5_taken_25 := zo_173 (q := 26) zr_dX5_taken_22.2 rfl
noncomputable def dX5_taken_25 := zr_dX5_taken_25.1
noncomputable def zr_dX5_taken_26 := zo_27 (q := 27) zr_dX5_taken_25.2 rfl
noncomputable def dX5_taken_26 := zr_dX5_taken_26.1
noncomputable def zr_dX5_taken_27 := zo_16 (k := 6)  (q := 29) zr_dX5_taken_26.2 (by decide +kernel) rfl
noncomputable def dX5_taken_27 := zr_dX5_taken_27.1
noncomputable def zr_dX5_taken_29 := zo_161 (k := 46)  (q := 32) zr_dX5_taken_27.2 (by decide +kernel) rfl
noncomputable def dX5_taken_29 := zr_dX5_taken_29.1
noncomputable def zr_dX5_taken_32 := zo_27 (q := 33) zr_dX5_taken_29.2 rfl
noncomputable def dX5_taken_32 := zr_dX5_taken_32.1
noncomputable def zr_dX5_taken_33 := zo_16 (k := 6)  (q := 35) zr_dX5_taken_32.2 (by decide +kernel) rfl
noncomputable def dX5_taken_33 := zr_dX5_taken_33.1
noncomputable def zr_dX5_taken_35 := zo_100 (q := 36) zr_dX5_taken_33.2 rfl
noncomputable def dX5_taken_35 := zr_dX5_taken_35.1
noncomputable def zr_dX5_taken_36 := zo_62 (q := 37) zr_dX5_taken_35.2 rfl
noncomputable def dX5_taken_36 := zr_dX5_taken_36.1
noncomputable def zr_dX5_taken_37 := zo_42 (q := 38) zr_dX5_taken_36.2 rfl
noncomputable def dX5_taken_37 := zr_dX5_taken_37.1
noncomputable def zr_dX5_taken_38 := zo_180 (k := 28)  (q := 41) zr_dX5_taken_37.2 rfl rfl
noncomputable def dX5_taken_38 := zr_dX5_taken_38.1
noncomputable def zr_dX5_taken_41 := zo_29 (q := 42) zr_dX5_taken_38.2 rfl
noncomputable def dX5_taken_41 := zr_dX5_taken_41.1
noncomputable def zr_dX5_taken_42 := zo_182 (k := 94)  (q := 45) zr_dX5_taken_41.2 rfl rfl
noncomputable def dX5_taken_42 := zr_dX5_taken_42.1
noncomputable def zr_dX5_taken_45 := zo_154 (k := 7)  (q := 48) zr_dX5_taken_42.2 (by decide +kernel) rfl
noncomputable def dX5_taken_45 := zr_dX5_taken_45.1
noncomputable def zr_dX5_taken_48 := zo_20 (k := 252)  (q := 51) zr_dX5_taken_45.2 rfl rfl
noncomputable def dX5_taken_48 := zr_dX5_taken_48.1
noncomputable def zr_dX5_taken_51 := zo_173 (q := 52) zr_dX5_taken_48.2 rfl
noncomputable def dX5_taken_51 := zr_dX5_taken_51.1
noncomputable def zr_dX5_taken_52 := zo_28 (q := 53) zr_dX5_taken_51.2 rfl
noncomputable def dX5_taken_52 := zr_dX5_taken_52.1
noncomputable def zr_dX5_taken_53 := zo_16 (k := 6)  (q := 55) zr_dX5_taken_52.2 (by decide +kernel) rfl
noncomputable def dX5_taken_53 := zr_dX5_taken_53.1
noncomputable def zr_dX5_taken_55 := zo_160 (k := 16)  (q := 58) zr_dX5_taken_53.2 (by decide +kernel) rfl
noncomputable def dX5_taken_55 := zr_dX5_taken_55.1
noncomputable def zr_dX5_taken_58 := zo_42 (q := 59) zr_dX5_taken_55.2 rfl
noncomputable def dX5_taken_58 := zr_dX5_taken_58.1
noncomputable def zr_dX5_taken_59 := zo_180 (k := 28)  (q := 62) zr_dX5_taken_58.2 rfl rfl
noncomputable def dX5_taken_59 := zr_dX5_taken_59.1
noncomputable def zr_dX5_taken_62 := zo_180 (k := 105)  (q := 65) zr_dX5_taken_59.2 rfl rfl
noncomputable def dX5_taken_62 := zr_dX5_taken_62.1
noncomputable def zr_dX5_taken_65 := zo_29 (q := 66) zr_dX5_taken_62.2 rfl
noncomputable def dX5_taken_65 := zr_dX5_taken_65.1
noncomputable def zr_dX5_taken_66 := zo_46 (q := 67) zr_dX5_taken_65.2 rfl
noncomputable def dX5_taken_66 := zr_dX5_taken_66.1
noncomputable def zr_dX5_taken_67 := zo_133 (q := 68) zr_dX5_taken_66.2 rfl
noncomputable def dX5_taken_67 := zr_dX5_taken_67.1
noncomputable def zr_dX5_taken_68 := zo_167 (k := 6)  (q := 71) zr_dX5_taken_67.2 (by decide +kernel) rfl
noncomputable def dX5_taken_68 := zr_dX5_taken_68.1
noncomputable def zr_dX5_taken_71 := zo_20 (k := 254)  (q := 74) zr_dX5_taken_68.2 rfl rfl
noncomputable def dX5_taken_71 := zr_dX5_taken_71.1
noncomputable def zr_dX5_taken_74 := zo_173 (q := 75) zr_dX5_taken_71.2 rfl
noncomputable def dX5_taken_74 := zr_dX5_taken_74.1
noncomputable def zr_dX5_taken_75 := zo_42 (q := 76) zr_dX5_taken_74.2 rfl
noncomputable def dX5_taken_75 := zr_dX5_taken_75.1
noncomputable def zr_dX5_taken_76 := zo_180 (k := 28)  (q := 79) zr_dX5_taken_75.2 rfl rfl
noncomputable def dX5_taken_76 := zr_dX5_taken_76.1
noncomputable def zr_dX5_taken_79 := zo_27 (q := 80) zr_dX5_taken_76.2 rfl
noncomputable def dX5_taken_79 := zr_dX5_taken_79.1
noncomputable def zr_dX5_taken_80 := zo_182 (k := 111)  (q := 83) zr_dX5_taken_79.2 rfl rfl
noncomputable def dX5_taken_80 := zr_dX5_taken_80.1
noncomputable def zr_dX5_taken_83 := zo_154 (k := 7)  (q := 86) zr_dX5_taken_80.2 (by decide +kernel) rfl
noncomputable def dX5_taken_83 := zr_dX5_taken_83.1
noncomputable def zr_dX5_taken_86 := zo_20 (k := 252)  (q := 89) zr_dX5_taken_83.2 rfl rfl
noncomputable def dX5_taken_86 := zr_dX5_taken_86.1
noncomputable def zr_dX5_taken_89 := zo_173 (q := 90) zr_dX5_taken_86.2 rfl
noncomputable def dX5_taken_89 := zr_dX5_taken_89.1
noncomputable def zr_dX5_taken_90 := zo_42 (q := 91) zr_dX5_taken_89.2 rfl
noncomputable def dX5_taken_90 := zr_dX5_taken_90.1
noncomputable def zr_dX5_taken_91 := zo_180 (k := 28)  (q := 94) zr_dX5_taken_90.2 rfl rfl
noncomputable def dX5_taken_91 := zr_dX5_taken_91.1
noncomputable def zr_dX5_taken_94 := zo_180 (k := 128)  (q := 97) zr_dX5_taken_91.2 rfl rfl
noncomputable def dX5_taken_94 := zr_dX5_taken_94.1
noncomputable def zr_dX5_taken_97 := zo_27 (q := 98) zr_dX5_taken_94.2 rfl
noncomputable def dX5_taken_97 := zr_dX5_taken_97.1
noncomputable def zr_dX5_taken_98 := zo_46 (q := 99) zr_dX5_taken_97.2 rfl
noncomputable def dX5_taken_98 := zr_dX5_taken_98.1
noncomputable def zr_dX5_taken_99 := zo_28 (q := 100) zr_dX5_taken_98.2 rfl
noncomputable def dX5_taken_99 := zr_dX5_taken_99.1
noncomputable def zr_dX5_taken_100 := zo_184 (k := 256)  (q := 103) zr_dX5_taken_99.2 rfl rfl
noncomputable def dX5_taken_100 := zr_dX5_taken_100.1
noncomputable def zr_dX5_taken_103 := zo_153 (k := 8)  (q := 106) zr_dX5_taken_100.2 (by decide +kernel) rfl
noncomputable def dX5_taken_103 := zr_dX5_taken_103.1
noncomputable def zr_dX5_taken_106 := zo_27 (q := 107) zr_dX5_taken_103.2 rfl
noncomputable def dX5_taken_106 := zr_dX5_taken_106.1
noncomputable def zr_dX5_taken_107 := zo_133 (q := 108) zr_dX5_taken_106.2 rfl
noncomputable def dX5_taken_107 := zr_dX5_taken_107.1
noncomputable def zr_dX5_taken_108 := zo_167 (k := 6)  (q := 111) zr_dX5_taken_107.2 (by decide +kernel) rfl
noncomputable def dX5_taken_108 := zr_dX5_taken_108.1
noncomputable def zr_dX5_taken_111 := zo_20 (k := 254)  (q := 114) zr_dX5_taken_108.2 rfl rfl
noncomputable def dX5_taken_111 := zr_dX5_taken_111.1
noncomputable def zr_dX5_taken_114 := zo_173 (q := 115) zr_dX5_taken_111.2 rfl
noncomputable def dX5_taken_114 := zr_dX5_taken_114.1
theorem zs_dX5_within_0 : zsuf cX5_within 0 cX5_within.data.toList := rfl
noncomputable def zr_dX5_within_0 := zo_26 (q := 1) zs_dX5_within_0 rfl
noncomputable def dX5_within_0 := zr_dX5_within_0.1
noncomputable def zr_dX5_within_1 := zo_155 (k := 12)  (q := 4) zr_dX5_within_0.2 (by decide +kernel) rfl
noncomputable def dX5_within_1 := zr_dX5_within_1.1
noncomputable def zr_dX5_within_4 := zo_26 (q := 5) zr_dX5_within_1.2 rfl
noncomputable def dX5_within_4 := zr_dX5_within_4.1
noncomputable def zr_dX5_within_5 := zo_27 (q := 6) zr_dX5_within_4.2 rfl
noncomputable def dX5_within_5 := zr_dX5_within_5.1
noncomputable def zr_dX5_within_6 := zo_163 (k := 7)  (q := 9) zr_dX5_within_5.2 (by decide +kernel) rfl
noncomputable def dX5_within_6 := zr_dX5_within_6.1
noncomputable def zr_dX5_within_9 := zo_4 (q := 10) zr_dX5_within_6.2 rfl
noncomputable def dX5_within_9 := zr_dX5_within_9.1
noncomputable def zr_dX5_within_10 := zo_167 (k := 4)  (q := 13) zr_dX5_within_9.2 (by decide +kernel) rfl
noncomputable def dX5_within_10 := zr_dX5_within_10.1
noncomputable def zr_dX5_within_13 := zo_3 (q := 14) zr_dX5_within_10.2 rfl
noncomputable def dX5_within_13 := zr_dX5_within_13.1
noncomputable def zr_dX5_within_14 := zo_172 (q := 15) zr_dX5_within_13.2 rfl
noncomputable def dX5_within_14 := zr_dX5_within_14.1
theorem zs_dX5_isByte_0 : zsuf cX5_isByte 0 cX5_isByte.data.toList := rfl
noncomputable def zr_dX5_isByte_0 := zo_26 (q := 1) zs_dX5_isByte_0 rfl
noncomputable def dX5_isByte_0 := zr_dX5_isByte_0.1
noncomputable def zr_dX5_isByte_1 := zo_17 (k := 255)  (q := 4) zr_dX5_isByte_0.2 (by decide +kernel) rfl
noncomputable def dX5_isByte_1 := zr_dX5_isByte_1.1
noncomputable def zr_dX5_isByte_4 := zo_184 (k := 86)  (q := 7) zr_dX5_isByte_1.2 rfl rfl
noncomputable def dX5_isByte_4 := zr_dX5_isByte_4.1
noncomputable def zr_dX5_isByte_7 := zo_172 (q := 8) zr_dX5_isByte_4.2 rfl
noncomputable def dX5_isByte_7 := zr_dX5_isByte_7.1
theorem zs_dX5_isPairOfBits_0 : zsuf cX5_isPairOfBits 0 cX5_isPairOfBits.data.toList := rfl
noncomputable def zr_dX5_isPairOfBits_0 := zo_26 (q := 1) zs_dX5_isPairOfBits_0 rfl
noncomputable def dX5_isPairOfBits_0 := zr_dX5_isPairOfBits_0.1
noncomputable def zr_dX5_isPairOfBits_1 := zo_16 (k := 11)  (q := 3) zr_dX5_isPairOfBits_0.2 (by decide +kernel) rfl
noncomputable def dX5_isPairOfBits_1 := zr_dX5_isPairOfBits_1.1
noncomputable def zr_dX5_isPairOfBits_3 := zo_184 (k := 86)  (q := 6) zr_dX5_isPairOfBits_1.2 rfl rfl
noncomputable def dX5_isPairOfBits_3 := zr_dX5_isPairOfBits_3.1
noncomputable def zr_dX5_isPairOfBits_6 := zo_153 (k := 15)  (q := 9) zr_dX5_isPairOfBits_3.2 (by decide +kernel) rfl
noncomputable def dX5_isPairOfBits_6 := zr_dX5_isPairOfBits_6.1
noncomputable def zr_dX5_isPairOfBits_9 := zo_26 (q := 10) zr_dX5_isPairOfBits_6.2 rfl
noncomputable def dX5_isPairOfBits_9 := zr_dX5_isPairOfBits_9.1
noncomputable def zr_dX5_isPairOfBits_10 := zo_16 (k := 10)  (q := 12) zr_dX5_isPairOfBits_9.2 (by decide +kernel) rfl
noncomputable def dX5_isPairOfBits_10 := zr_dX5_isPairOfBits_10.1
noncomputable def zr_dX5_isPairOfBits_12 := zo_112 (q := 13) zr_dX5_isPairOfBits_10.2 rfl
noncomputable def dX5_isPairOfBits_12 := zr_dX5_isPairOfBits_12.1
noncomputable def zr_dX5_isPairOfBits_13 := zo_4 (q := 14) zr_dX5_isPairOfBits_12.2 rfl
noncomputable def dX5_isPairOfBits_13 := zr_dX5_isPairOfBits_13.1
noncomputable def zr_dX5_isPairOfBits_14 := zo_163 (k := 7)  (q := 17) zr_dX5_isPairOfBits_13.2 (by decide +kernel) rfl
noncomputable def dX5_isPairOfBits_14 := zr_dX5_isPairOfBits_14.1
noncomputable def zr_dX5_isPairOfBits_17 := zo_4 (q := 18) zr_dX5_isPairOfBits_14.2 rfl
noncomputable def dX5_isPairOfBits_17 := zr_dX5_isPairOfBits_17.1
noncomputable def zr_dX5_isPairOfBits_18 := zo_167 (k := 4)  (q := 21) zr_dX5_isPairOfBits_17.2 (by decide +kernel) rfl
noncomputable def dX5_isPairOfBits_18 := zr_dX5_isPairOfBits_18.1
noncomputable def zr_dX5_isPairOfBits_21 := zo_3 (q := 22) zr_dX5_isPairOfBits_18.2 rfl
noncomputable def dX5_isPairOfBits_21 := zr_dX5_isPairOfBits_21.1
noncomputable def zr_dX5_isPairOfBits_22 := zo_172 (q := 23) zr_dX5_isPairOfBits_21.2 rfl
noncomputable def dX5_isPairOfBits_22 := zr_dX5_isPairOfBits_22.1
theorem zs_dX5_isMoreMiles_0 : zsuf cX5_isMoreMiles 0 cX5_isMoreMiles.data.toList := rfl
noncomputable def zr_dX5_isMoreMiles_0 := zo_26 (q := 1) zs_dX5_isMoreMiles_0 rfl
noncomputable def dX5_isMoreMiles_0 := zr_dX5_isMoreMiles_0.1
noncomputable def zr_dX5_isMoreMiles_1 := zo_17 (k := 960)  (q := 4) zr_dX5_isMoreMiles_0.2 (by decide +kernel) rfl
noncomputable def dX5_isMoreMiles_1 := zr_dX5_isMoreMiles_1.1
noncomputable def zr_dX5_isMoreMiles_4 := zo_184 (k := 86)  (q := 7) zr_dX5_isMoreMiles_1.2 rfl rfl
noncomputable def dX5_isMoreMiles_4 := zr_dX5_isMoreMiles_4.1
noncomputable def zr_dX5_isMoreMiles_7 := zo_153 (k := 16)  (q := 10) zr_dX5_isMoreMiles_4.2 (by decide +kernel) rfl
noncomputable def dX5_isMoreMiles_7 := zr_dX5_isMoreMiles_7.1
noncomputable def zr_dX5_isMoreMiles_10 := zo_26 (q := 11) zr_dX5_isMoreMiles_7.2 rfl
noncomputable def dX5_isMoreMiles_10 := zr_dX5_isMoreMiles_10.1
noncomputable def zr_dX5_isMoreMiles_11 := zo_16 (k := 100)  (q := 13) zr_dX5_isMoreMiles_10.2 (by decide +kernel) rfl
noncomputable def dX5_isMoreMiles_11 := zr_dX5_isMoreMiles_11.1
noncomputable def zr_dX5_isMoreMiles_13 := zo_112 (q := 14) zr_dX5_isMoreMiles_11.2 rfl
noncomputable def dX5_isMoreMiles_13 := zr_dX5_isMoreMiles_13.1
noncomputable def zr_dX5_isMoreMiles_14 := zo_16 (k := 60)  (q := 16) zr_dX5_isMoreMiles_13.2 (by decide +kernel) rfl
noncomputable def dX5_isMoreMiles_14 := zr_dX5_isMoreMiles_14.1
noncomputable def zr_dX5_isMoreMiles_16 := zo_163 (k := 7)  (q := 19) zr_dX5_isMoreMiles_14.2 (by decide +kernel) rfl
noncomputable def dX5_isMoreMiles_16 := zr_dX5_isMoreMiles_16.1
noncomputable def zr_dX5_isMoreMiles_19 := zo_4 (q := 20) zr_dX5_isMoreMiles_16.2 rfl
noncomputable def dX5_isMoreMiles_19 := zr_dX5_isMoreMiles_19.1
noncomputable def zr_dX5_isMoreMiles_20 := zo_167 (k := 4)  (q := 23) zr_dX5_isMoreMiles_19.2 (by decide +kernel) rfl
noncomputable def dX5_isMoreMiles_20 := zr_dX5_isMoreMiles_20.1
noncomputable def zr_dX5_isMoreMiles_23 := zo_3 (q := 24) zr_dX5_isMoreMiles_20.2 rfl
noncomputable def dX5_isMoreMiles_23 := zr_dX5_isMoreMiles_23.1
noncomputable def zr_dX5_isMoreMiles_24 := zo_172 (q := 25) zr_dX5_isMoreMiles_23.2 rfl
noncomputable def dX5_isMoreMiles_24 := zr_dX5_isMoreMiles_24.1
theorem zs_dX5_isOfKind_0 : zsuf cX5_isOfKind 0 cX5_isOfKind.data.toList := rfl
noncomputable def zr_dX5_isOfKind_0 := zo_26 (q := 1) zs_dX5_isOfKind_0 rfl
noncomputable def dX5_isOfKind_0 := zr_dX5_isOfKind_0.1
noncomputable def zr_dX5_isOfKind_1 := zo_27 (q := 2) zr_dX5_isOfKind_0.2 rfl
noncomputable def dX5_isOfKind_1 := zr_dX5_isOfKind_1.1
noncomputable def zr_dX5_isOfKind_2 := zo_159 (k := 27)  (q := 5) zr_dX5_isOfKind_1.2 (by decide +kernel) rfl
noncomputable def dX5_isOfKind_2 := zr_dX5_isOfKind_2.1
noncomputable def zr_dX5_isOfKind_5 := zo_27 (q := 6) zr_dX5_isOfKind_2.2 rfl
noncomputable def dX5_isOfKind_5 := zr_dX5_isOfKind_5.1
noncomputable def zr_dX5_isOfKind_6 := zo_153 (k := 23)  (q := 9) zr_dX5_isOfKind_5.2 (by decide +kernel) rfl
noncomputable def dX5_isOfKind_6 := zr_dX5_isOfKind_6.1
noncomputable def zr_dX5_isOfKind_9 := zo_26 (q := 10) zr_dX5_isOfKind_6.2 rfl
noncomputable def dX5_isOfKind_9 := zr_dX5_isOfKind_9.1
noncomputable def zr_dX5_isOfKind_10 := zo_6 (q := 11) zr_dX5_isOfKind_9.2 rfl
noncomputable def dX5_isOfKind_10 := zr_dX5_isOfKind_10.1
noncomputable def zr_dX5_isOfKind_11 := zo_160 (k := 8)  (q := 14) zr_dX5_isOfKind_10.2 (by decide +kernel) rfl
noncomputable def dX5_isOfKind_11 := zr_dX5_isOfKind_11.1
noncomputable def zr_dX5_isOfKind_14 := zo_27 (q := 15) zr_dX5_isOfKind_11.2 rfl
noncomputable def dX5_isOfKind_14 := zr_dX5_isOfKind_14.1
noncomputable def zr_dX5_isOfKind_15 := zo_4 (q := 16) zr_dX5_isOfKind_14.2 rfl
noncomputable def dX5_isOfKind_15 := zr_dX5_isOfKind_15.1
noncomputable def zr_dX5_isOfKind_16 := zo_159 (k := 13)  (q := 19) zr_dX5_isOfKind_15.2 (by decide +kernel) rfl
noncomputable def dX5_isOfKind_16 := zr_dX5_isOfKind_16.1
noncomputable def zr_dX5_isOfKind_19 := zo_26 (q := 20) zr_dX5_isOfKind_16.2 rfl
noncomputable def dX5_isOfKind_19 := zr_dX5_isOfKind_19.1
noncomputable def zr_dX5_isOfKind_20 := zo_7 (q := 21) zr_dX5_isOfKind_19.2 rfl
noncomputable def dX5_isOfKind_20 := zr_dX5_isOfKind_20.1
noncomputable def zr_dX5_isOfKind_21 := zo_160 (k := 12)  (q := 24) zr_dX5_isOfKind_20.2 (by decide +kernel) rfl
noncomputable def dX5_isOfKind_21 := zr_dX5_isOfKind_21.1
noncomputable def zr_dX5_isOfKind_24 := zo_27 (q := 25) zr_dX5_isOfKind_21.2 rfl
noncomputable def dX5_isOfKind_24 := zr_dX5_isOfKind_24.1
noncomputable def zr_dX5_isOfKind_25 := zo_5 (q := 26) zr_dX5_isOfKind_24.2 rfl
noncomputable def dX5_isOfKind_25 := zr_dX5_isOfKind_25.1
noncomputable def zr_dX5_isOfKind_26 := zo_160 (k := 7)  (q := 29) zr_dX5_isOfKind_25.2 (by decide +kernel) rfl
noncomputable def dX5_isOfKind_26 := zr_dX5_isOfKind_26.1
noncomputable def zr_dX5_isOfKind_29 := zo_4 (q := 30) zr_dX5_isOfKind_26.2 rfl
noncomputable def dX5_isOfKind_29 := zr_dX5_isOfKind_29.1
noncomputable def zr_dX5_isOfKind_30 := zo_167 (k := 4)  (q := 33) zr_dX5_isOfKind_29.2 (by decide +kernel) rfl
noncomputable def dX5_isOfKind_30 := zr_dX5_isOfKind_30.1
noncomputable def zr_dX5_isOfKind_33 := zo_3 (q := 34) zr_dX5_isOfKind_30.2 rfl
noncomputable def dX5_isOfKind_33 := zr_dX5_isOfKind_33.1
noncomputable def zr_dX5_isOfKind_34 := zo_172 (q := 35) zr_dX5_isOfKind_33.2 rfl
noncomputable def dX5_isOfKind_34 := zr_dX5_isOfKind_34.1
theorem zs_dX5_commonDivisor_0 : zsuf cX5_commonDivisor 0 cX5_commonDivisor.data.toList := rfl
noncomputable def zr_dX5_commonDivisor_0 := zo_26 (q := 1) zs_dX5_commonDivisor_0 rfl
noncomputable def dX5_commonDivisor_0 := zr_dX5_commonDivisor_0.1
noncomputable def zr_dX5_commonDivisor_1 := zo_61 (q := 2) zr_dX5_commonDivisor_0.2 rfl
noncomputable def dX5_commonDivisor_1 := zr_dX5_commonDivisor_1.1
noncomputable def zr_dX5_commonDivisor_2 := zo_27 (q := 3) zr_dX5_commonDivisor_1.2 rfl
noncomputable def dX5_commonDivisor_2 := zr_dX5_commonDivisor_2.1
noncomputable def zr_dX5_commonDivisor_3 := zo_62 (q := 4) zr_dX5_commonDivisor_2.2 rfl
noncomputable def dX5_commonDivisor_3 := zr_dX5_commonDivisor_3.1
noncomputable def zr_dX5_commonDivisor_4 := zo_3 (q := 5) zr_dX5_commonDivisor_3.2 rfl
noncomputable def dX5_commonDivisor_4 := zr_dX5_commonDivisor_4.1
noncomputable def zr_dX5_commonDivisor_5 := zo_54 (k := 4)  (q := 7) zr_dX5_commonDivisor_4.2 rfl rfl
noncomputable def dX5_commonDivisor_5 := zr_dX5_commonDivisor_5.1
noncomputable def zr_dX5_commonDivisor_7 := zo_21 (k := 4)  (q := 9) zr_dX5_commonDivisor_5.2 rfl rfl
noncomputable def dX5_commonDivisor_7 := zr_dX5_commonDivisor_7.1
noncomputable def zr_dX5_commonDivisor_9 := zo_16 (k := 64)  (q := 11) zr_dX5_commonDivisor_7.2 (by decide +kernel) rfl
noncomputable def dX5_commonDivisor_9 := zr_dX5_commonDivisor_9.1
noncomputable def zr_dX5_commonDivisor_11 := zo_162 (k := 23)  (q := 14) zr_dX5_commonDivisor_9.2 (by decide +kernel) rfl
noncomputable def dX5_commonDivisor_11 := zr_dX5_commonDivisor_11.1
noncomputable def zr_dX5_commonDivisor_14 := zo_29 (q := 15) zr_dX5_commonDivisor_11.2 rfl
noncomputable def dX5_commonDivisor_14 := zr_dX5_commonDivisor_14.1
noncomputable def zr_dX5_commonDivisor_15 := zo_153 (k := 19)  (q := 18) zr_dX5_commonDivisor_14.2 (by decide +kernel) rfl
noncomputable def dX5_commonDivisor_15 := zr_dX5_commonDivisor_15.1
noncomputable def zr_dX5_commonDivisor_18 := zo_28 (q := 19) zr_dX5_commonDivisor_15.2 rfl
noncomputable def dX5_commonDivisor_18 := zr_dX5_commonDivisor_18.1
noncomputable def zr_dX5_commonDivisor_19 := zo_29 (q := 20) zr_dX5_commonDivisor_18.2 rfl
noncomputable def dX5_commonDivisor_19 := zr_dX5_commonDivisor_19.1
noncomputable def zr_dX5_commonDivisor_20 := zo_112 (q := 21) zr_dX5_commonDivisor_19.2 rfl
noncomputable def dX5_commonDivisor_20 := zr_dX5_commonDivisor_20.1
noncomputable def zr_dX5_commonDivisor_21 := zo_54 (k := 5)  (q := 23) zr_dX5_commonDivisor_20.2 rfl rfl
noncomputable def dX5_commonDivisor_21 := zr_dX5_commonDivisor_21.1
noncomputable def zr_dX5_commonDivisor_23 := zo_29 (q := 24) zr_dX5_commonDivisor_21.2 rfl
noncomputable def dX5_commonDivisor_23 := zr_dX5_commonDivisor_23.1
noncomputable def zr_dX5_commonDivisor_24 := zo_61 (q := 25) zr_dX5_commonDivisor_23.2 rfl
noncomputable def dX5_commonDivisor_24 := zr_dX5_commonDivisor_24.1
noncomputable def zr_dX5_commonDivisor_25 := zo_21 (k := 5)  (q := 27) zr_dX5_commonDivisor_24.2 rfl rfl
noncomputable def dX5_commonDivisor_25 := zr_dX5_commonDivisor_25.1
noncomputable def zr_dX5_commonDivisor_27 := zo_62 (q := 28) zr_dX5_commonDivisor_25.2 rfl
noncomputable def dX5_commonDivisor_27 := zr_dX5_commonDivisor_27.1
noncomputable def zr_dX5_commonDivisor_28 := zo_132 (k := 4) (o := 1)  (q := 31) zr_dX5_commonDivisor_27.2 rfl (by decide +kernel) rfl
noncomputable def dX5_commonDivisor_28 := zr_dX5_commonDivisor_28.1
noncomputable def zr_dX5_commonDivisor_31 := zo_167 (k := -24)  (q := 34) zr_dX5_commonDivisor_28.2 (by decide +kernel) rfl
noncomputable def dX5_commonDivisor_31 := zr_dX5_commonDivisor_31.1
noncomputable def zr_dX5_commonDivisor_34 := zo_4 (q := 35) zr_dX5_commonDivisor_31.2 rfl
noncomputable def dX5_commonDivisor_34 := zr_dX5_commonDivisor_34.1
noncomputable def zr_dX5_commonDivisor_35 := zo_28 (q := 36) zr_dX5_commonDivisor_34.2 rfl
noncomputable def dX5_commonDivisor_35 := zr_dX5_commonDivisor_35.1
noncomputable def zr_dX5_commonDivisor_36 := zo_184 (k := 259)  (q := 39) zr_dX5_commonDivisor_35.2 rfl rfl
noncomputable def dX5_commonDivisor_36 := zr_dX5_commonDivisor_36.1
noncomputable def zr_dX5_commonDivisor_39 := zo_172 (q := 40) zr_dX5_commonDivisor_36.2 rfl
noncomputable def dX5_commonDivisor_39 := zr_dX5_commonDivisor_39.1
theorem zs_dX5_leastBit_0 : zsuf cX5_leastBit 0 cX5_leastBit.data.toList := rfl
noncomputable def zr_dX5_leastBit_0 := zo_3 (q := 1) zs_dX5_leastBit_0 rfl
noncomputable def dX5_leastBit_0 := zr_dX5_leastBit_0.1
noncomputable def zr_dX5_leastBit_1 := zo_61 (q := 2) zr_dX5_leastBit_0.2 rfl
noncomputable def dX5_leastBit_1 := zr_dX5_leastBit_1.1
noncomputable def zr_dX5_leastBit_2 := zo_28 (q := 3) zr_dX5_leastBit_1.2 rfl
noncomputable def dX5_leastBit_2 := zr_dX5_leastBit_2.1
noncomputable def zr_dX5_leastBit_3 := zo_16 (k := 60)  (q := 5) zr_dX5_leastBit_2.2 (by decide +kernel) rfl
noncomputable def dX5_leastBit_3 := zr_dX5_leastBit_3.1
noncomputable def zr_dX5_leastBit_5 := zo_163 (k := 21)  (q := 8) zr_dX5_leastBit_3.2 (by decide +kernel) rfl
noncomputable def dX5_leastBit_5 := zr_dX5_leastBit_5.1
theorem zo_30 {c : ByteArray} {p q : Nat} {L : List UInt8} (h : zsuf c p (30 :: L)) (hq : p + 1 = q) : zD c p (.lload_n 0) 1 ∧ zsuf c q L := zfin hq (Eq.trans (zbd (zu1 (v := 30) h rfl)) rfl) (zsuf_tl h)
noncomputable def zr_dX5_leastBit_8 := zo_30 (q := 9) zr_dX5_leastBit_5.2 rfl
noncomputable def dX5_leastBit_8 := zr_dX5_leastBit_8.1
noncomputable def zr_dX5_leastBit_9 := zo_28 (q := 10) zr_dX5_leastBit_8.2 rfl
noncomputable def dX5_leastBit_9 := zr_dX5_leastBit_9.1
theorem zo_123 {c : ByteArray} {p q : Nat} {L : List UInt8} (h : zsuf c p (123 :: L)) (hq : p + 1 = q) : zD c p .lshr 1 ∧ zsuf c q L := zfin hq (Eq.trans (zbd (zu1 (v := 123) h rfl)) rfl) (zsuf_tl h)
noncomputable def zr_dX5_leastBit_10 := zo_123 (q := 11) zr_dX5_leastBit_9.2 rfl
noncomputable def dX5_leastBit_10 := zr_dX5_leastBit_10.1
noncomputable def zr_dX5_leastBit_11 := zo_10 (q := 12) zr_dX5_leastBit_10.2 rfl
noncomputable def dX5_leastBit_11 := zr_dX5_leastBit_11.1
theorem zo_127 {c : ByteArray} {p q : Nat} {L : List UInt8} (h : zsuf c p (127 :: L)) (hq : p + 1 = q) : zD c p .land 1 ∧ zsuf c q L := zfin hq (Eq.trans (zbd (zu1 (v := 127) h rfl)) rfl) (zsuf_tl h)
noncomputable def zr_dX5_leastBit_12 := zo_127 (q := 13) zr_dX5_leastBit_11.2 rfl
noncomputable def dX5_leastBit_12 := zr_dX5_leastBit_12.1
noncomputable def zr_dX5_leastBit_13 := zo_10 (q := 14) zr_dX5_leastBit_12.2 rfl
noncomputable def dX5_leastBit_13 := zr_dX5_leastBit_13.1
theorem zo_148 {c : ByteArray} {p q : Nat} {L : List UInt8} (h : zsuf c p (148 :: L)) (hq : p + 1 = q) : zD c p .lcmp 1 ∧ zsuf c q L := zfin hq (Eq.trans (zbd (zu1 (v := 148) h rfl)) rfl) (zsuf_tl h)
noncomputable def zr_dX5_leastBit_14 := zo_148 (q := 15) zr_dX5_leastBit_13.2 rfl
noncomputable def dX5_leastBit_14 := zr_dX5_leastBit_14.1
noncomputable def zr_dX5_leastBit_15 := zo_154 (k := 5)  (q := 18) zr_dX5_leastBit_14.2 (by decide +kernel) rfl
noncomputable def dX5_leastBit_15 := zr_dX5_leastBit_15.1
noncomputable def zr_dX5_leastBit_18 := zo_28 (q := 19) zr_dX5_leastBit_15.2 rfl
noncomputable def dX5_leastBit_18 := zr_dX5_leastBit_18.1
noncomputable def zr_dX5_leastBit_19 := zo_172 (q := 20) zr_dX5_leastBit_18.2 rfl
noncomputable def dX5_leastBit_19 := zr_dX5_leastBit_19.1
noncomputable def zr_dX5_leastBit_20 := zo_132 (k := 2) (o := 1)  (q := 23) zr_dX5_leastBit_19.2 rfl (by decide +kernel) rfl
noncomputable def dX5_leastBit_20 := zr_dX5_leastBit_20.1
noncomputable def zr_dX5_leastBit_23 := zo_167 (k := -21)  (q := 26) zr_dX5_leastBit_20.2 (by decide +kernel) rfl
noncomputable def dX5_leastBit_23 := zr_dX5_leastBit_23.1
noncomputable def zr_dX5_leastBit_26 := zo_2 (q := 27) zr_dX5_leastBit_23.2 rfl
noncomputable def dX5_leastBit_26 := zr_dX5_leastBit_26.1
noncomputable def zr_dX5_leastBit_27 := zo_172 (q := 28) zr_dX5_leastBit_26.2 rfl
noncomputable def dX5_leastBit_27 := zr_dX5_leastBit_27.1
theorem zs_dX5_think_0 : zsuf cX5_think 0 cX5_think.data.toList := rfl
noncomputable def zr_dX5_think_0 := zo_42 (q := 1) zs_dX5_think_0 rfl
noncomputable def dX5_think_0 := zr_dX5_think_0.1
noncomputable def zr_dX5_think_1 := zo_180 (k := 32)  (q := 4) zr_dX5_think_0.2 rfl rfl
noncomputable def dX5_think_1 := zr_dX5_think_1.1
noncomputable def zr_dX5_think_4 := zo_42 (q := 5) zr_dX5_think_1.2 rfl
noncomputable def dX5_think_4 := zr_dX5_think_4.1
noncomputable def zr_dX5_think_5 := zo_180 (k := 28)  (q := 8) zr_dX5_think_4.2 rfl rfl
noncomputable def dX5_think_5 := zr_dX5_think_5.1
noncomputable def zr_dX5_think_8 := zo_182 (k := 218)  (q := 11) zr_dX5_think_5.2 rfl rfl
noncomputable def dX5_think_8 := zr_dX5_think_8.1
noncomputable def zr_dX5_think_11 := zo_177 (q := 12) zr_dX5_think_8.2 rfl
noncomputable def dX5_think_11 := zr_dX5_think_11.1
theorem zs_dX5_outcome_0 : zsuf cX5_outcome 0 cX5_outcome.data.toList := rfl
noncomputable def zr_dX5_outcome_0 := zo_21 (k := 4)  (q := 2) zs_dX5_outcome_0 rfl rfl
noncomputable def dX5_outcome_0 := zr_dX5_outcome_0.1
theorem dX5_outcome_2 : zD cX5_outcome 2 (.lookupswitch 38 #[(0, 26), (1, 28)]) 26 := by decide +kernel
noncomputable def zr_dX5_outcome_2 := zskip zr_dX5_outcome_0.2 26 (q := 28) rfl
noncomputable def zr_dX5_outcome_28 := zo_29 (q := 29) zr_dX5_outcome_2 rfl
noncomputable def dX5_outcome_28 := zr_dX5_outcome_28.1
noncomputable def zr_dX5_outcome_29 := zo_172 (q := 30) zr_dX5_outcome_28.2 rfl
noncomputable def dX5_outcome_29 := zr_dX5_outcome_29.1
noncomputable def zr_dX5_outcome_30 := zo_42 (q := 31) zr_dX5_outcome_29.2 rfl
noncomputable def dX5_outcome_30 := zr_dX5_outcome_30.1
noncomputable def zr_dX5_outcome_31 := zo_180 (k := 32)  (q := 34) zr_dX5_outcome_30.2 rfl rfl
noncomputable def dX5_outcome_31 := zr_dX5_outcome_31.1
noncomputable def zr_dX5_outcome_34 := zo_180 (k := 122)  (q := 37) zr_dX5_outcome_31.2 rfl rfl
noncomputable def dX5_outcome_34 := zr_dX5_outcome_34.1
noncomputable def zr_dX5_outcome_37 := zo_28 (q := 38) zr_dX5_outcome_34.2 rfl
noncomputable def dX5_outcome_37 := zr_dX5_outcome_37.1
noncomputable def zr_dX5_outcome_38 := zo_46 (q := 39) zr_dX5_outcome_37.2 rfl
noncomputable def dX5_outcome_38 := zr_dX5_outcome_38.1
noncomputable def zr_dX5_outcome_39 := zo_172 (q := 40) zr_dX5_outcome_38.2 rfl
noncomputable def dX5_outcome_39 := zr_dX5_outcome_39.1
noncomputable def zr_dX5_outcome_40 := zo_42 (q := 41) zr_dX5_outcome_39.2 rfl
noncomputable def dX5_outcome_40 := zr_dX5_outcome_40.1
noncomputable def zr_dX5_outcome_41 := zo_180 (k := 32)  (q := 44) zr_dX5_outcome_40.2 rfl rfl
noncomputable def dX5_outcome_41 := zr_dX5_outcome_41.1
noncomputable def zr_dX5_outcome_44 := zo_27 (q := 45) zr_dX5_outcome_41.2 rfl
noncomputable def dX5_outcome_44 := zr_dX5_outcome_44.1
noncomputable def zr_dX5_outcome_45 := zo_28 (q := 46) zr_dX5_outcome_44.2 rfl
noncomputable def dX5_outcome_45 := zr_dX5_outcome_45.1
noncomputable def zr_dX5_outcome_46 := zo_29 (q := 47) zr_dX5_outcome_45.2 rfl
noncomputable def dX5_outcome_46 := zr_dX5_outcome_46.1
noncomputable def zr_dX5_outcome_47 := zo_182 (k := 164)  (q := 50) zr_dX5_outcome_46.2 rfl rfl
noncomputable def dX5_outcome_47 := zr_dX5_outcome_47.1
noncomputable def zr_dX5_outcome_50 := zo_172 (q := 51) zr_dX5_outcome_47.2 rfl
noncomputable def dX5_outcome_50 := zr_dX5_outcome_50.1
theorem zs_dX5_guiltyBits_0 : zsuf cX5_guiltyBits 0 cX5_guiltyBits.data.toList := rfl
noncomputable def zr_dX5_guiltyBits_0 := zo_42 (q := 1) zs_dX5_guiltyBits_0 rfl
noncomputable def dX5_guiltyBits_0 := zr_dX5_guiltyBits_0.1
noncomputable def zr_dX5_guiltyBits_1 := zo_182 (k := 143)  (q := 4) zr_dX5_guiltyBits_0.2 rfl rfl
noncomputable def dX5_guiltyBits_1 := zr_dX5_guiltyBits_1.1
theorem zo_9 {c : ByteArray} {p q : Nat} {L : List UInt8} (h : zsuf c p (9 :: L)) (hq : p + 1 = q) : zD c p (.lconst 0) 1 ∧ zsuf c q L := zfin hq (Eq.trans (zbd (zu1 (v := 9) h rfl)) rfl) (zsuf_tl h)
noncomputable def zr_dX5_guiltyBits_4 := zo_9 (q := 5) zr_dX5_guiltyBits_1.2 rfl
noncomputable def dX5_guiltyBits_4 := zr_dX5_guiltyBits_4.1
theorem zo_66 {c : ByteArray} {p q : Nat} {L : List UInt8} (h : zsuf c p (66 :: L)) (hq : p + 1 = q) : zD c p (.lstore_n 3) 1 ∧ zsuf c q L := zfin hq (Eq.trans (zbd (zu1 (v := 66) h rfl)) rfl) (zsuf_tl h)
noncomputable def zr_dX5_guiltyBits_5 := zo_66 (q := 6) zr_dX5_guiltyBits_4.2 rfl
noncomputable def dX5_guiltyBits_5 := zr_dX5_guiltyBits_5.1
noncomputable def zr_dX5_guiltyBits_6 := zo_3 (q := 7) zr_dX5_guiltyBits_5.2 rfl
noncomputable def dX5_guiltyBits_6 := zr_dX5_guiltyBits_6.1
noncomputable def zr_dX5_guiltyBits_7 := zo_54 (k := 5)  (q := 9) zr_dX5_guiltyBits_6.2 rfl rfl
noncomputable def dX5_guiltyBits_7 := zr_dX5_guiltyBits_7.1
noncomputable def zr_dX5_guiltyBits_9 := zo_3 (q := 10) zr_dX5_guiltyBits_7.2 rfl
noncomputable def dX5_guiltyBits_9 := zr_dX5_guiltyBits_9.1
noncomputable def zr_dX5_guiltyBits_10 := zo_54 (k := 6)  (q := 12) zr_dX5_guiltyBits_9.2 rfl rfl
noncomputable def dX5_guiltyBits_10 := zr_dX5_guiltyBits_10.1
noncomputable def zr_dX5_guiltyBits_12 := zo_21 (k := 6)  (q := 14) zr_dX5_guiltyBits_10.2 rfl rfl
noncomputable def dX5_guiltyBits_12 := zr_dX5_guiltyBits_12.1
noncomputable def zr_dX5_guiltyBits_14 := zo_16 (k := 60)  (q := 16) zr_dX5_guiltyBits_12.2 (by decide +kernel) rfl
noncomputable def dX5_guiltyBits_14 := zr_dX5_guiltyBits_14.1
noncomputable def zr_dX5_guiltyBits_16 := zo_163 (k := 42)  (q := 19) zr_dX5_guiltyBits_14.2 (by decide +kernel) rfl
noncomputable def dX5_guiltyBits_16 := zr_dX5_guiltyBits_16.1
theorem zo_33 {c : ByteArray} {p q : Nat} {L : List UInt8} (h : zsuf c p (33 :: L)) (hq : p + 1 = q) : zD c p (.lload_n 3) 1 ∧ zsuf c q L := zfin hq (Eq.trans (zbd (zu1 (v := 33) h rfl)) rfl) (zsuf_tl h)
noncomputable def zr_dX5_guiltyBits_19 := zo_33 (q := 20) zr_dX5_guiltyBits_16.2 rfl
noncomputable def dX5_guiltyBits_19 := zr_dX5_guiltyBits_19.1
noncomputable def zr_dX5_guiltyBits_20 := zo_42 (q := 21) zr_dX5_guiltyBits_19.2 rfl
noncomputable def dX5_guiltyBits_20 := zr_dX5_guiltyBits_20.1
noncomputable def zr_dX5_guiltyBits_21 := zo_180 (k := 32)  (q := 24) zr_dX5_guiltyBits_20.2 rfl rfl
noncomputable def dX5_guiltyBits_21 := zr_dX5_guiltyBits_21.1
noncomputable def zr_dX5_guiltyBits_24 := zo_27 (q := 25) zr_dX5_guiltyBits_21.2 rfl
noncomputable def dX5_guiltyBits_24 := zr_dX5_guiltyBits_24.1
noncomputable def zr_dX5_guiltyBits_25 := zo_28 (q := 26) zr_dX5_guiltyBits_24.2 rfl
noncomputable def dX5_guiltyBits_25 := zr_dX5_guiltyBits_25.1
noncomputable def zr_dX5_guiltyBits_26 := zo_21 (k := 5)  (q := 28) zr_dX5_guiltyBits_25.2 rfl rfl
noncomputable def dX5_guiltyBits_26 := zr_dX5_guiltyBits_26.1
noncomputable def zr_dX5_guiltyBits_28 := zo_182 (k := 164)  (q := 31) zr_dX5_guiltyBits_26.2 rfl rfl
noncomputable def dX5_guiltyBits_28 := zr_dX5_guiltyBits_28.1
noncomputable def zr_dX5_guiltyBits_31 := zo_133 (q := 32) zr_dX5_guiltyBits_28.2 rfl
noncomputable def dX5_guiltyBits_31 := zr_dX5_guiltyBits_31.1
noncomputable def zr_dX5_guiltyBits_32 := zo_21 (k := 6)  (q := 34) zr_dX5_guiltyBits_31.2 rfl rfl
noncomputable def dX5_guiltyBits_32 := zr_dX5_guiltyBits_32.1
theorem zo_121 {c : ByteArray} {p q : Nat} {L : List UInt8} (h : zsuf c p (121 :: L)) (hq : p + 1 = q) : zD c p .lshl 1 ∧ zsuf c q L := zfin hq (Eq.trans (zbd (zu1 (v := 121) h rfl)) rfl) (zsuf_tl h)
noncomputable def zr_dX5_guiltyBits_34 := zo_121 (q := 35) zr_dX5_guiltyBits_32.2 rfl
noncomputable def dX5_guiltyBits_34 := zr_dX5_guiltyBits_34.1
theorem zo_129 {c : ByteArray} {p q : Nat} {L : List UInt8} (h : zsuf c p (129 :: L)) (hq : p + 1 = q) : zD c p .lor 1 ∧ zsuf c q L := zfin hq (Eq.trans (zbd (zu1 (v := 129) h rfl)) rfl) (zsuf_tl h)
noncomputable def zr_dX5_guiltyBits_35 := zo_129 (q := 36) zr_dX5_guiltyBits_34.2 rfl
noncomputable def dX5_guiltyBits_35 := zr_dX5_guiltyBits_35.1
noncomputable def zr_dX5_guiltyBits_36 := zo_66 (q := 37) zr_dX5_guiltyBits_35.2 rfl
noncomputable def dX5_guiltyBits_36 := zr_dX5_guiltyBits_36.1
noncomputable def zr_dX5_guiltyBits_37 := zo_21 (k := 5)  (q := 39) zr_dX5_guiltyBits_36.2 rfl rfl
noncomputable def dX5_guiltyBits_37 := zr_dX5_guiltyBits_37.1
noncomputable def zr_dX5_guiltyBits_39 := zo_42 (q := 40) zr_dX5_guiltyBits_37.2 rfl
noncomputable def dX5_guiltyBits_39 := zr_dX5_guiltyBits_39.1
noncomputable def zr_dX5_guiltyBits_40 := zo_180 (k := 32)  (q := 43) zr_dX5_guiltyBits_39.2 rfl rfl
noncomputable def dX5_guiltyBits_40 := zr_dX5_guiltyBits_40.1
noncomputable def zr_dX5_guiltyBits_43 := zo_27 (q := 44) zr_dX5_guiltyBits_40.2 rfl
noncomputable def dX5_guiltyBits_43 := zr_dX5_guiltyBits_43.1
noncomputable def zr_dX5_guiltyBits_44 := zo_28 (q := 45) zr_dX5_guiltyBits_43.2 rfl
noncomputable def dX5_guiltyBits_44 := zr_dX5_guiltyBits_44.1
noncomputable def zr_dX5_guiltyBits_45 := zo_3 (q := 46) zr_dX5_guiltyBits_44.2 rfl
noncomputable def dX5_guiltyBits_45 := zr_dX5_guiltyBits_45.1
noncomputable def zr_dX5_guiltyBits_46 := zo_182 (k := 158)  (q := 49) zr_dX5_guiltyBits_45.2 rfl rfl
noncomputable def dX5_guiltyBits_46 := zr_dX5_guiltyBits_46.1
noncomputable def zr_dX5_guiltyBits_49 := zo_96 (q := 50) zr_dX5_guiltyBits_46.2 rfl
noncomputable def dX5_guiltyBits_49 := zr_dX5_guiltyBits_49.1
noncomputable def zr_dX5_guiltyBits_50 := zo_54 (k := 5)  (q := 52) zr_dX5_guiltyBits_49.2 rfl rfl
noncomputable def dX5_guiltyBits_50 := zr_dX5_guiltyBits_50.1
noncomputable def zr_dX5_guiltyBits_52 := zo_132 (k := 6) (o := 1)  (q := 55) zr_dX5_guiltyBits_50.2 rfl (by decide +kernel) rfl
noncomputable def dX5_guiltyBits_52 := zr_dX5_guiltyBits_52.1
noncomputable def zr_dX5_guiltyBits_55 := zo_167 (k := -43)  (q := 58) zr_dX5_guiltyBits_52.2 (by decide +kernel) rfl
noncomputable def dX5_guiltyBits_55 := zr_dX5_guiltyBits_55.1
noncomputable def zr_dX5_guiltyBits_58 := zo_33 (q := 59) zr_dX5_guiltyBits_55.2 rfl
noncomputable def dX5_guiltyBits_58 := zr_dX5_guiltyBits_58.1
noncomputable def zr_dX5_guiltyBits_59 := zo_173 (q := 60) zr_dX5_guiltyBits_58.2 rfl
noncomputable def dX5_guiltyBits_59 := zr_dX5_guiltyBits_59.1
theorem zs_dX5_guiltyOfAll_0 : zsuf cX5_guiltyOfAll 0 cX5_guiltyOfAll.data.toList := rfl
noncomputable def zr_dX5_guiltyOfAll_0 := zo_3 (q := 1) zs_dX5_guiltyOfAll_0 rfl
noncomputable def dX5_guiltyOfAll_0 := zr_dX5_guiltyOfAll_0.1
noncomputable def zr_dX5_guiltyOfAll_1 := zo_62 (q := 2) zr_dX5_guiltyOfAll_0.2 rfl
noncomputable def dX5_guiltyOfAll_1 := zr_dX5_guiltyOfAll_1.1
noncomputable def zr_dX5_guiltyOfAll_2 := zo_3 (q := 3) zr_dX5_guiltyOfAll_1.2 rfl
noncomputable def dX5_guiltyOfAll_2 := zr_dX5_guiltyOfAll_2.1
noncomputable def zr_dX5_guiltyOfAll_3 := zo_54 (k := 4)  (q := 5) zr_dX5_guiltyOfAll_2.2 rfl rfl
noncomputable def dX5_guiltyOfAll_3 := zr_dX5_guiltyOfAll_3.1
noncomputable def zr_dX5_guiltyOfAll_5 := zo_21 (k := 4)  (q := 7) zr_dX5_guiltyOfAll_3.2 rfl rfl
noncomputable def dX5_guiltyOfAll_5 := zr_dX5_guiltyOfAll_5.1
noncomputable def zr_dX5_guiltyOfAll_7 := zo_42 (q := 8) zr_dX5_guiltyOfAll_5.2 rfl
noncomputable def dX5_guiltyOfAll_7 := zr_dX5_guiltyOfAll_7.1
noncomputable def zr_dX5_guiltyOfAll_8 := zo_180 (k := 28)  (q := 11) zr_dX5_guiltyOfAll_7.2 rfl rfl
noncomputable def dX5_guiltyOfAll_8 := zr_dX5_guiltyOfAll_8.1
noncomputable def zr_dX5_guiltyOfAll_11 := zo_180 (k := 71)  (q := 14) zr_dX5_guiltyOfAll_8.2 rfl rfl
noncomputable def dX5_guiltyOfAll_11 := zr_dX5_guiltyOfAll_11.1
noncomputable def zr_dX5_guiltyOfAll_14 := zo_162 (k := 37)  (q := 17) zr_dX5_guiltyOfAll_11.2 (by decide +kernel) rfl
noncomputable def dX5_guiltyOfAll_14 := zr_dX5_guiltyOfAll_14.1
noncomputable def zr_dX5_guiltyOfAll_17 := zo_42 (q := 18) zr_dX5_guiltyOfAll_14.2 rfl
noncomputable def dX5_guiltyOfAll_17 := zr_dX5_guiltyOfAll_17.1
noncomputable def zr_dX5_guiltyOfAll_18 := zo_182 (k := 143)  (q := 21) zr_dX5_guiltyOfAll_17.2 rfl rfl
noncomputable def dX5_guiltyOfAll_18 := zr_dX5_guiltyOfAll_18.1
noncomputable def zr_dX5_guiltyOfAll_21 := zo_29 (q := 22) zr_dX5_guiltyOfAll_18.2 rfl
noncomputable def dX5_guiltyOfAll_21 := zr_dX5_guiltyOfAll_21.1
noncomputable def zr_dX5_guiltyOfAll_22 := zo_42 (q := 23) zr_dX5_guiltyOfAll_21.2 rfl
noncomputable def dX5_guiltyOfAll_22 := zr_dX5_guiltyOfAll_22.1
noncomputable def zr_dX5_guiltyOfAll_23 := zo_180 (k := 32)  (q := 26) zr_dX5_guiltyOfAll_22.2 rfl rfl
noncomputable def dX5_guiltyOfAll_23 := zr_dX5_guiltyOfAll_23.1
noncomputable def zr_dX5_guiltyOfAll_26 := zo_27 (q := 27) zr_dX5_guiltyOfAll_23.2 rfl
noncomputable def dX5_guiltyOfAll_26 := zr_dX5_guiltyOfAll_26.1
noncomputable def zr_dX5_guiltyOfAll_27 := zo_21 (k := 4)  (q := 29) zr_dX5_guiltyOfAll_26.2 rfl rfl
noncomputable def dX5_guiltyOfAll_27 := zr_dX5_guiltyOfAll_27.1
noncomputable def zr_dX5_guiltyOfAll_29 := zo_42 (q := 30) zr_dX5_guiltyOfAll_27.2 rfl
noncomputable def dX5_guiltyOfAll_29 := zr_dX5_guiltyOfAll_29.1
noncomputable def zr_dX5_guiltyOfAll_30 := zo_180 (k := 32)  (q := 33) zr_dX5_guiltyOfAll_29.2 rfl rfl
noncomputable def dX5_guiltyOfAll_30 := zr_dX5_guiltyOfAll_30.1
noncomputable def zr_dX5_guiltyOfAll_33 := zo_27 (q := 34) zr_dX5_guiltyOfAll_30.2 rfl
noncomputable def dX5_guiltyOfAll_33 := zr_dX5_guiltyOfAll_33.1
noncomputable def zr_dX5_guiltyOfAll_34 := zo_21 (k := 4)  (q := 36) zr_dX5_guiltyOfAll_33.2 rfl rfl
noncomputable def dX5_guiltyOfAll_34 := zr_dX5_guiltyOfAll_34.1
noncomputable def zr_dX5_guiltyOfAll_36 := zo_28 (q := 37) zr_dX5_guiltyOfAll_34.2 rfl
noncomputable def dX5_guiltyOfAll_36 := zr_dX5_guiltyOfAll_36.1
noncomputable def zr_dX5_guiltyOfAll_37 := zo_182 (k := 140)  (q := 40) zr_dX5_guiltyOfAll_36.2 rfl rfl
noncomputable def dX5_guiltyOfAll_37 := zr_dX5_guiltyOfAll_37.1
noncomputable def zr_dX5_guiltyOfAll_40 := zo_182 (k := 164)  (q := 43) zr_dX5_guiltyOfAll_37.2 rfl rfl
noncomputable def dX5_guiltyOfAll_40 := zr_dX5_guiltyOfAll_40.1
noncomputable def zr_dX5_guiltyOfAll_43 := zo_96 (q := 44) zr_dX5_guiltyOfAll_40.2 rfl
noncomputable def dX5_guiltyOfAll_43 := zr_dX5_guiltyOfAll_43.1
noncomputable def zr_dX5_guiltyOfAll_44 := zo_62 (q := 45) zr_dX5_guiltyOfAll_43.2 rfl
noncomputable def dX5_guiltyOfAll_44 := zr_dX5_guiltyOfAll_44.1
noncomputable def zr_dX5_guiltyOfAll_45 := zo_132 (k := 4) (o := 1)  (q := 48) zr_dX5_guiltyOfAll_44.2 rfl (by decide +kernel) rfl
noncomputable def dX5_guiltyOfAll_45 := zr_dX5_guiltyOfAll_45.1
noncomputable def zr_dX5_guiltyOfAll_48 := zo_167 (k := -43)  (q := 51) zr_dX5_guiltyOfAll_45.2 (by decide +kernel) rfl
noncomputable def dX5_guiltyOfAll_48 := zr_dX5_guiltyOfAll_48.1
noncomputable def zr_dX5_guiltyOfAll_51 := zo_29 (q := 52) zr_dX5_guiltyOfAll_48.2 rfl
noncomputable def dX5_guiltyOfAll_51 := zr_dX5_guiltyOfAll_51.1
noncomputable def zr_dX5_guiltyOfAll_52 := zo_172 (q := 53) zr_dX5_guiltyOfAll_51.2 rfl
noncomputable def dX5_guiltyOfAll_52 := zr_dX5_guiltyOfAll_52.1
theorem zs_dX5_weighCases_0 : zsuf cX5_weighCases 0 cX5_weighCases.data.toList := rfl
noncomputable def zr_dX5_weighCases_0 := zo_3 (q := 1) zs_dX5_weighCases_0 rfl
noncomputable def dX5_weighCases_0 := zr_dX5_weighCases_0.1
noncomputable def zr_dX5_weighCases_1 := zo_54 (k := 4)  (q := 3) zr_dX5_weighCases_0.2 rfl rfl
noncomputable def dX5_weighCases_1 := zr_dX5_weighCases_1.1
noncomputable def zr_dX5_weighCases_3 := zo_21 (k := 4)  (q := 5) zr_dX5_weighCases_1.2 rfl rfl
noncomputable def dX5_weighCases_3 := zr_dX5_weighCases_3.1
noncomputable def zr_dX5_weighCases_5 := zo_42 (q := 6) zr_dX5_weighCases_3.2 rfl
noncomputable def dX5_weighCases_5 := zr_dX5_weighCases_5.1
noncomputable def zr_dX5_weighCases_6 := zo_180 (k := 28)  (q := 9) zr_dX5_weighCases_5.2 rfl rfl
noncomputable def dX5_weighCases_6 := zr_dX5_weighCases_6.1
noncomputable def zr_dX5_weighCases_9 := zo_180 (k := 71)  (q := 12) zr_dX5_weighCases_6.2 rfl rfl
noncomputable def dX5_weighCases_9 := zr_dX5_weighCases_9.1
noncomputable def zr_dX5_weighCases_12 := zo_162 (k := 107)  (q := 15) zr_dX5_weighCases_9.2 (by decide +kernel) rfl
noncomputable def dX5_weighCases_12 := zr_dX5_weighCases_12.1
noncomputable def zr_dX5_weighCases_15 := zo_3 (q := 16) zr_dX5_weighCases_12.2 rfl
noncomputable def dX5_weighCases_15 := zr_dX5_weighCases_15.1
noncomputable def zr_dX5_weighCases_16 := zo_54 (k := 5)  (q := 18) zr_dX5_weighCases_15.2 rfl rfl
noncomputable def dX5_weighCases_16 := zr_dX5_weighCases_16.1
noncomputable def zr_dX5_weighCases_18 := zo_21 (k := 5)  (q := 20) zr_dX5_weighCases_16.2 rfl rfl
noncomputable def dX5_weighCases_18 := zr_dX5_weighCases_18.1
noncomputable def zr_dX5_weighCases_20 := zo_42 (q := 21) zr_dX5_weighCases_18.2 rfl
noncomputable def dX5_weighCases_20 := zr_dX5_weighCases_20.1
noncomputable def zr_dX5_weighCases_21 := zo_180 (k := 28)  (q := 24) zr_dX5_weighCases_20.2 rfl rfl
noncomputable def dX5_weighCases_21 := zr_dX5_weighCases_21.1
noncomputable def zr_dX5_weighCases_24 := zo_180 (k := 71)  (q := 27) zr_dX5_weighCases_21.2 rfl rfl
noncomputable def dX5_weighCases_24 := zr_dX5_weighCases_24.1
noncomputable def zr_dX5_weighCases_27 := zo_162 (k := 86)  (q := 30) zr_dX5_weighCases_24.2 (by decide +kernel) rfl
noncomputable def dX5_weighCases_27 := zr_dX5_weighCases_27.1
noncomputable def zr_dX5_weighCases_30 := zo_42 (q := 31) zr_dX5_weighCases_27.2 rfl
noncomputable def dX5_weighCases_30 := zr_dX5_weighCases_30.1
noncomputable def zr_dX5_weighCases_31 := zo_182 (k := 143)  (q := 34) zr_dX5_weighCases_30.2 rfl rfl
noncomputable def dX5_weighCases_31 := zr_dX5_weighCases_31.1
noncomputable def zr_dX5_weighCases_34 := zo_3 (q := 35) zr_dX5_weighCases_31.2 rfl
noncomputable def dX5_weighCases_34 := zr_dX5_weighCases_34.1
noncomputable def zr_dX5_weighCases_35 := zo_54 (k := 6)  (q := 37) zr_dX5_weighCases_34.2 rfl rfl
noncomputable def dX5_weighCases_35 := zr_dX5_weighCases_35.1
noncomputable def zr_dX5_weighCases_37 := zo_21 (k := 6)  (q := 39) zr_dX5_weighCases_35.2 rfl rfl
noncomputable def dX5_weighCases_37 := zr_dX5_weighCases_37.1
noncomputable def zr_dX5_weighCases_39 := zo_21 (k := 4)  (q := 41) zr_dX5_weighCases_37.2 rfl rfl
noncomputable def dX5_weighCases_39 := zr_dX5_weighCases_39.1
noncomputable def zr_dX5_weighCases_41 := zo_28 (q := 42) zr_dX5_weighCases_39.2 rfl
noncomputable def dX5_weighCases_41 := zr_dX5_weighCases_41.1
noncomputable def zr_dX5_weighCases_42 := zo_104 (q := 43) zr_dX5_weighCases_41.2 rfl
noncomputable def dX5_weighCases_42 := zr_dX5_weighCases_42.1
noncomputable def zr_dX5_weighCases_43 := zo_162 (k := 17)  (q := 46) zr_dX5_weighCases_42.2 (by decide +kernel) rfl
noncomputable def dX5_weighCases_43 := zr_dX5_weighCases_43.1
noncomputable def zr_dX5_weighCases_46 := zo_42 (q := 47) zr_dX5_weighCases_43.2 rfl
noncomputable def dX5_weighCases_46 := zr_dX5_weighCases_46.1
noncomputable def zr_dX5_weighCases_47 := zo_180 (k := 32)  (q := 50) zr_dX5_weighCases_46.2 rfl rfl
noncomputable def dX5_weighCases_47 := zr_dX5_weighCases_47.1
noncomputable def zr_dX5_weighCases_50 := zo_27 (q := 51) zr_dX5_weighCases_47.2 rfl
noncomputable def dX5_weighCases_50 := zr_dX5_weighCases_50.1
noncomputable def zr_dX5_weighCases_51 := zo_182 (k := 264)  (q := 54) zr_dX5_weighCases_50.2 rfl rfl
noncomputable def dX5_weighCases_51 := zr_dX5_weighCases_51.1
noncomputable def zr_dX5_weighCases_54 := zo_132 (k := 6) (o := 1)  (q := 57) zr_dX5_weighCases_51.2 rfl (by decide +kernel) rfl
noncomputable def dX5_weighCases_54 := zr_dX5_weighCases_54.1
noncomputable def zr_dX5_weighCases_57 := zo_167 (k := -20)  (q := 60) zr_dX5_weighCases_54.2 (by decide +kernel) rfl
noncomputable def dX5_weighCases_57 := zr_dX5_weighCases_57.1
noncomputable def zr_dX5_weighCases_60 := zo_42 (q := 61) zr_dX5_weighCases_57.2 rfl
noncomputable def dX5_weighCases_60 := zr_dX5_weighCases_60.1
noncomputable def zr_dX5_weighCases_61 := zo_180 (k := 32)  (q := 64) zr_dX5_weighCases_60.2 rfl rfl
noncomputable def dX5_weighCases_61 := zr_dX5_weighCases_61.1
noncomputable def zr_dX5_weighCases_64 := zo_27 (q := 65) zr_dX5_weighCases_61.2 rfl
noncomputable def dX5_weighCases_64 := zr_dX5_weighCases_64.1
noncomputable def zr_dX5_weighCases_65 := zo_21 (k := 5)  (q := 67) zr_dX5_weighCases_64.2 rfl rfl
noncomputable def dX5_weighCases_65 := zr_dX5_weighCases_65.1
noncomputable def zr_dX5_weighCases_67 := zo_28 (q := 68) zr_dX5_weighCases_65.2 rfl
noncomputable def dX5_weighCases_67 := zr_dX5_weighCases_67.1
noncomputable def zr_dX5_weighCases_68 := zo_182 (k := 140)  (q := 71) zr_dX5_weighCases_67.2 rfl rfl
noncomputable def dX5_weighCases_68 := zr_dX5_weighCases_68.1
noncomputable def zr_dX5_weighCases_71 := zo_54 (k := 6)  (q := 73) zr_dX5_weighCases_68.2 rfl rfl
noncomputable def dX5_weighCases_71 := zr_dX5_weighCases_71.1
noncomputable def zr_dX5_weighCases_73 := zo_42 (q := 74) zr_dX5_weighCases_71.2 rfl
noncomputable def dX5_weighCases_73 := zr_dX5_weighCases_73.1
noncomputable def zr_dX5_weighCases_74 := zo_180 (k := 48)  (q := 77) zr_dX5_weighCases_73.2 rfl rfl
noncomputable def dX5_weighCases_74 := zr_dX5_weighCases_74.1
noncomputable def zr_dX5_weighCases_77 := zo_180 (k := 267)  (q := 80) zr_dX5_weighCases_74.2 rfl rfl
noncomputable def dX5_weighCases_77 := zr_dX5_weighCases_77.1
noncomputable def zr_dX5_weighCases_80 := zo_21 (k := 4)  (q := 82) zr_dX5_weighCases_77.2 rfl rfl
noncomputable def dX5_weighCases_80 := zr_dX5_weighCases_80.1
noncomputable def zr_dX5_weighCases_82 := zo_50 (q := 83) zr_dX5_weighCases_80.2 rfl
noncomputable def dX5_weighCases_82 := zr_dX5_weighCases_82.1
noncomputable def zr_dX5_weighCases_83 := zo_21 (k := 5)  (q := 85) zr_dX5_weighCases_82.2 rfl rfl
noncomputable def dX5_weighCases_83 := zr_dX5_weighCases_83.1
noncomputable def zr_dX5_weighCases_85 := zo_29 (q := 86) zr_dX5_weighCases_83.2 rfl
noncomputable def dX5_weighCases_85 := zr_dX5_weighCases_85.1
noncomputable def zr_dX5_weighCases_86 := zo_153 (k := 18)  (q := 89) zr_dX5_weighCases_85.2 (by decide +kernel) rfl
noncomputable def dX5_weighCases_86 := zr_dX5_weighCases_86.1
noncomputable def zr_dX5_weighCases_89 := zo_42 (q := 90) zr_dX5_weighCases_86.2 rfl
noncomputable def dX5_weighCases_89 := zr_dX5_weighCases_89.1
noncomputable def zr_dX5_weighCases_90 := zo_180 (k := 32)  (q := 93) zr_dX5_weighCases_89.2 rfl rfl
noncomputable def dX5_weighCases_90 := zr_dX5_weighCases_90.1
noncomputable def zr_dX5_weighCases_93 := zo_27 (q := 94) zr_dX5_weighCases_90.2 rfl
noncomputable def dX5_weighCases_93 := zr_dX5_weighCases_93.1
noncomputable def zr_dX5_weighCases_94 := zo_21 (k := 5)  (q := 96) zr_dX5_weighCases_93.2 rfl rfl
noncomputable def dX5_weighCases_94 := zr_dX5_weighCases_94.1
noncomputable def zr_dX5_weighCases_96 := zo_21 (k := 6)  (q := 98) zr_dX5_weighCases_94.2 rfl rfl
noncomputable def dX5_weighCases_96 := zr_dX5_weighCases_96.1
noncomputable def zr_dX5_weighCases_98 := zo_182 (k := 164)  (q := 101) zr_dX5_weighCases_96.2 rfl rfl
noncomputable def dX5_weighCases_98 := zr_dX5_weighCases_98.1
noncomputable def zr_dX5_weighCases_101 := zo_167 (k := 5)  (q := 104) zr_dX5_weighCases_98.2 (by decide +kernel) rfl
noncomputable def dX5_weighCases_101 := zr_dX5_weighCases_101.1
noncomputable def zr_dX5_weighCases_104 := zo_21 (k := 6)  (q := 106) zr_dX5_weighCases_101.2 rfl rfl
noncomputable def dX5_weighCases_104 := zr_dX5_weighCases_104.1
noncomputable def zr_dX5_weighCases_106 := zo_79 (q := 107) zr_dX5_weighCases_104.2 rfl
noncomputable def dX5_weighCases_106 := zr_dX5_weighCases_106.1
noncomputable def zr_dX5_weighCases_107 := zo_132 (k := 5) (o := 1)  (q := 110) zr_dX5_weighCases_106.2 rfl (by decide +kernel) rfl
noncomputable def dX5_weighCases_107 := zr_dX5_weighCases_107.1
noncomputable def zr_dX5_weighCases_110 := zo_167 (k := -92)  (q := 113) zr_dX5_weighCases_107.2 (by decide +kernel) rfl
noncomputable def dX5_weighCases_110 := zr_dX5_weighCases_110.1
noncomputable def zr_dX5_weighCases_113 := zo_132 (k := 4) (o := 1)  (q := 116) zr_dX5_weighCases_110.2 rfl (by decide +kernel) rfl
noncomputable def dX5_weighCases_113 := zr_dX5_weighCases_113.1
noncomputable def zr_dX5_weighCases_116 := zo_167 (k := -113)  (q := 119) zr_dX5_weighCases_113.2 (by decide +kernel) rfl
noncomputable def dX5_weighCases_116 := zr_dX5_weighCases_116.1
noncomputable def zr_dX5_weighCases_119 := zo_177 (q := 120) zr_dX5_weighCases_116.2 rfl
noncomputable def dX5_weighCases_119 := zr_dX5_weighCases_119.1
theorem zs_dX5_refusalOfSheet_0 : zsuf cX5_refusalOfSheet 0 cX5_refusalOfSheet.data.toList := rfl
noncomputable def zr_dX5_refusalOfSheet_0 := zo_42 (q := 1) zs_dX5_refusalOfSheet_0 rfl
noncomputable def dX5_refusalOfSheet_0 := zr_dX5_refusalOfSheet_0.1
noncomputable def zr_dX5_refusalOfSheet_1 := zo_180 (k := 41)  (q := 4) zr_dX5_refusalOfSheet_0.2 rfl rfl
noncomputable def dX5_refusalOfSheet_1 := zr_dX5_refusalOfSheet_1.1
noncomputable def zr_dX5_refusalOfSheet_4 := zo_27 (q := 5) zr_dX5_refusalOfSheet_1.2 rfl
noncomputable def dX5_refusalOfSheet_4 := zr_dX5_refusalOfSheet_4.1
noncomputable def zr_dX5_refusalOfSheet_5 := zo_182 (k := 196)  (q := 8) zr_dX5_refusalOfSheet_4.2 rfl rfl
noncomputable def dX5_refusalOfSheet_5 := zr_dX5_refusalOfSheet_5.1
noncomputable def zr_dX5_refusalOfSheet_8 := zo_154 (k := 6)  (q := 11) zr_dX5_refusalOfSheet_5.2 (by decide +kernel) rfl
noncomputable def dX5_refusalOfSheet_8 := zr_dX5_refusalOfSheet_8.1
noncomputable def zr_dX5_refusalOfSheet_11 := zo_16 (k := -2)  (q := 13) zr_dX5_refusalOfSheet_8.2 (by decide +kernel) rfl
noncomputable def dX5_refusalOfSheet_11 := zr_dX5_refusalOfSheet_11.1
noncomputable def zr_dX5_refusalOfSheet_13 := zo_172 (q := 14) zr_dX5_refusalOfSheet_11.2 rfl
noncomputable def dX5_refusalOfSheet_13 := zr_dX5_refusalOfSheet_13.1
noncomputable def zr_dX5_refusalOfSheet_14 := zo_42 (q := 15) zr_dX5_refusalOfSheet_13.2 rfl
noncomputable def dX5_refusalOfSheet_14 := zr_dX5_refusalOfSheet_14.1
noncomputable def zr_dX5_refusalOfSheet_15 := zo_180 (k := 41)  (q := 18) zr_dX5_refusalOfSheet_14.2 rfl rfl
noncomputable def dX5_refusalOfSheet_15 := zr_dX5_refusalOfSheet_15.1
noncomputable def zr_dX5_refusalOfSheet_18 := zo_180 (k := 225)  (q := 21) zr_dX5_refusalOfSheet_15.2 rfl rfl
noncomputable def dX5_refusalOfSheet_18 := zr_dX5_refusalOfSheet_18.1
noncomputable def zr_dX5_refusalOfSheet_21 := zo_27 (q := 22) zr_dX5_refusalOfSheet_18.2 rfl
noncomputable def dX5_refusalOfSheet_21 := zr_dX5_refusalOfSheet_21.1
noncomputable def zr_dX5_refusalOfSheet_22 := zo_46 (q := 23) zr_dX5_refusalOfSheet_21.2 rfl
noncomputable def dX5_refusalOfSheet_22 := zr_dX5_refusalOfSheet_22.1
noncomputable def zr_dX5_refusalOfSheet_23 := zo_2 (q := 24) zr_dX5_refusalOfSheet_22.2 rfl
noncomputable def dX5_refusalOfSheet_23 := zr_dX5_refusalOfSheet_23.1
noncomputable def zr_dX5_refusalOfSheet_24 := zo_160 (k := 6)  (q := 27) zr_dX5_refusalOfSheet_23.2 (by decide +kernel) rfl
noncomputable def dX5_refusalOfSheet_24 := zr_dX5_refusalOfSheet_24.1
noncomputable def zr_dX5_refusalOfSheet_27 := zo_16 (k := -11)  (q := 29) zr_dX5_refusalOfSheet_24.2 (by decide +kernel) rfl
noncomputable def dX5_refusalOfSheet_27 := zr_dX5_refusalOfSheet_27.1
noncomputable def zr_dX5_refusalOfSheet_29 := zo_172 (q := 30) zr_dX5_refusalOfSheet_27.2 rfl
noncomputable def dX5_refusalOfSheet_29 := zr_dX5_refusalOfSheet_29.1
noncomputable def zr_dX5_refusalOfSheet_30 := zo_42 (q := 31) zr_dX5_refusalOfSheet_29.2 rfl
noncomputable def dX5_refusalOfSheet_30 := zr_dX5_refusalOfSheet_30.1
noncomputable def zr_dX5_refusalOfSheet_31 := zo_180 (k := 41)  (q := 34) zr_dX5_refusalOfSheet_30.2 rfl rfl
noncomputable def dX5_refusalOfSheet_31 := zr_dX5_refusalOfSheet_31.1
noncomputable def zr_dX5_refusalOfSheet_34 := zo_180 (k := 228)  (q := 37) zr_dX5_refusalOfSheet_31.2 rfl rfl
noncomputable def dX5_refusalOfSheet_34 := zr_dX5_refusalOfSheet_34.1
noncomputable def zr_dX5_refusalOfSheet_37 := zo_27 (q := 38) zr_dX5_refusalOfSheet_34.2 rfl
noncomputable def dX5_refusalOfSheet_37 := zr_dX5_refusalOfSheet_37.1
noncomputable def zr_dX5_refusalOfSheet_38 := zo_46 (q := 39) zr_dX5_refusalOfSheet_37.2 rfl
noncomputable def dX5_refusalOfSheet_38 := zr_dX5_refusalOfSheet_38.1
noncomputable def zr_dX5_refusalOfSheet_39 := zo_61 (q := 40) zr_dX5_refusalOfSheet_38.2 rfl
noncomputable def dX5_refusalOfSheet_39 := zr_dX5_refusalOfSheet_39.1
noncomputable def zr_dX5_refusalOfSheet_40 := zo_28 (q := 41) zr_dX5_refusalOfSheet_39.2 rfl
noncomputable def dX5_refusalOfSheet_40 := zr_dX5_refusalOfSheet_40.1
noncomputable def zr_dX5_refusalOfSheet_41 := zo_6 (q := 42) zr_dX5_refusalOfSheet_40.2 rfl
noncomputable def dX5_refusalOfSheet_41 := zr_dX5_refusalOfSheet_41.1
noncomputable def zr_dX5_refusalOfSheet_42 := zo_112 (q := 43) zr_dX5_refusalOfSheet_41.2 rfl
noncomputable def dX5_refusalOfSheet_42 := zr_dX5_refusalOfSheet_42.1
noncomputable def zr_dX5_refusalOfSheet_43 := zo_153 (k := 6)  (q := 46) zr_dX5_refusalOfSheet_42.2 (by decide +kernel) rfl
noncomputable def dX5_refusalOfSheet_43 := zr_dX5_refusalOfSheet_43.1
noncomputable def zr_dX5_refusalOfSheet_46 := zo_16 (k := -2)  (q := 48) zr_dX5_refusalOfSheet_43.2 (by decide +kernel) rfl
noncomputable def dX5_refusalOfSheet_46 := zr_dX5_refusalOfSheet_46.1
noncomputable def zr_dX5_refusalOfSheet_48 := zo_172 (q := 49) zr_dX5_refusalOfSheet_46.2 rfl
noncomputable def dX5_refusalOfSheet_48 := zr_dX5_refusalOfSheet_48.1
noncomputable def zr_dX5_refusalOfSheet_49 := zo_42 (q := 50) zr_dX5_refusalOfSheet_48.2 rfl
noncomputable def dX5_refusalOfSheet_49 := zr_dX5_refusalOfSheet_49.1
noncomputable def zr_dX5_refusalOfSheet_50 := zo_180 (k := 41)  (q := 53) zr_dX5_refusalOfSheet_49.2 rfl rfl
noncomputable def dX5_refusalOfSheet_50 := zr_dX5_refusalOfSheet_50.1
noncomputable def zr_dX5_refusalOfSheet_53 := zo_180 (k := 235)  (q := 56) zr_dX5_refusalOfSheet_50.2 rfl rfl
noncomputable def dX5_refusalOfSheet_53 := zr_dX5_refusalOfSheet_53.1
noncomputable def zr_dX5_refusalOfSheet_56 := zo_27 (q := 57) zr_dX5_refusalOfSheet_53.2 rfl
noncomputable def dX5_refusalOfSheet_56 := zr_dX5_refusalOfSheet_56.1
noncomputable def zr_dX5_refusalOfSheet_57 := zo_50 (q := 58) zr_dX5_refusalOfSheet_56.2 rfl
noncomputable def dX5_refusalOfSheet_57 := zr_dX5_refusalOfSheet_57.1
theorem zo_78 {c : ByteArray} {p q : Nat} {L : List UInt8} (h : zsuf c p (78 :: L)) (hq : p + 1 = q) : zD c p (.astore_n 3) 1 ∧ zsuf c q L := zfin hq (Eq.trans (zbd (zu1 (v := 78) h rfl)) rfl) (zsuf_tl h)
noncomputable def zr_dX5_refusalOfSheet_58 := zo_78 (q := 59) zr_dX5_refusalOfSheet_57.2 rfl
noncomputable def dX5_refusalOfSheet_58 := zr_dX5_refusalOfSheet_58.1
noncomputable def zr_dX5_refusalOfSheet_59 := zo_3 (q := 60) zr_dX5_refusalOfSheet_58.2 rfl
noncomputable def dX5_refusalOfSheet_59 := zr_dX5_refusalOfSheet_59.1
noncomputable def zr_dX5_refusalOfSheet_60 := zo_54 (k := 4)  (q := 62) zr_dX5_refusalOfSheet_59.2 rfl rfl
noncomputable def dX5_refusalOfSheet_60 := zr_dX5_refusalOfSheet_60.1
noncomputable def zr_dX5_refusalOfSheet_62 := zo_21 (k := 4)  (q := 64) zr_dX5_refusalOfSheet_60.2 rfl rfl
noncomputable def dX5_refusalOfSheet_62 := zr_dX5_refusalOfSheet_62.1
noncomputable def zr_dX5_refusalOfSheet_64 := zo_5 (q := 65) zr_dX5_refusalOfSheet_62.2 rfl
noncomputable def dX5_refusalOfSheet_64 := zr_dX5_refusalOfSheet_64.1
noncomputable def zr_dX5_refusalOfSheet_65 := zo_96 (q := 66) zr_dX5_refusalOfSheet_64.2 rfl
noncomputable def dX5_refusalOfSheet_65 := zr_dX5_refusalOfSheet_65.1
noncomputable def zr_dX5_refusalOfSheet_66 := zo_28 (q := 67) zr_dX5_refusalOfSheet_65.2 rfl
noncomputable def dX5_refusalOfSheet_66 := zr_dX5_refusalOfSheet_66.1
noncomputable def zr_dX5_refusalOfSheet_67 := zo_162 (k := 53)  (q := 70) zr_dX5_refusalOfSheet_66.2 (by decide +kernel) rfl
noncomputable def dX5_refusalOfSheet_67 := zr_dX5_refusalOfSheet_67.1
noncomputable def zr_dX5_refusalOfSheet_70 := zo_42 (q := 71) zr_dX5_refusalOfSheet_67.2 rfl
noncomputable def dX5_refusalOfSheet_70 := zr_dX5_refusalOfSheet_70.1
noncomputable def zr_dX5_refusalOfSheet_71 := zo_180 (k := 28)  (q := 74) zr_dX5_refusalOfSheet_70.2 rfl rfl
noncomputable def dX5_refusalOfSheet_71 := zr_dX5_refusalOfSheet_71.1
noncomputable def zr_dX5_refusalOfSheet_74 := zo_45 (q := 75) zr_dX5_refusalOfSheet_71.2 rfl
noncomputable def dX5_refusalOfSheet_74 := zr_dX5_refusalOfSheet_74.1
noncomputable def zr_dX5_refusalOfSheet_75 := zo_21 (k := 4)  (q := 77) zr_dX5_refusalOfSheet_74.2 rfl rfl
noncomputable def dX5_refusalOfSheet_75 := zr_dX5_refusalOfSheet_75.1
noncomputable def zr_dX5_refusalOfSheet_77 := zo_46 (q := 78) zr_dX5_refusalOfSheet_75.2 rfl
noncomputable def dX5_refusalOfSheet_77 := zr_dX5_refusalOfSheet_77.1
noncomputable def zr_dX5_refusalOfSheet_78 := zo_182 (k := 111)  (q := 81) zr_dX5_refusalOfSheet_77.2 rfl rfl
noncomputable def dX5_refusalOfSheet_78 := zr_dX5_refusalOfSheet_78.1
noncomputable def zr_dX5_refusalOfSheet_81 := zo_153 (k := 30)  (q := 84) zr_dX5_refusalOfSheet_78.2 (by decide +kernel) rfl
noncomputable def dX5_refusalOfSheet_81 := zr_dX5_refusalOfSheet_81.1
noncomputable def zr_dX5_refusalOfSheet_84 := zo_45 (q := 85) zr_dX5_refusalOfSheet_81.2 rfl
noncomputable def dX5_refusalOfSheet_84 := zr_dX5_refusalOfSheet_84.1
noncomputable def zr_dX5_refusalOfSheet_85 := zo_21 (k := 4)  (q := 87) zr_dX5_refusalOfSheet_84.2 rfl rfl
noncomputable def dX5_refusalOfSheet_85 := zr_dX5_refusalOfSheet_85.1
noncomputable def zr_dX5_refusalOfSheet_87 := zo_4 (q := 88) zr_dX5_refusalOfSheet_85.2 rfl
noncomputable def dX5_refusalOfSheet_87 := zr_dX5_refusalOfSheet_87.1
noncomputable def zr_dX5_refusalOfSheet_88 := zo_96 (q := 89) zr_dX5_refusalOfSheet_87.2 rfl
noncomputable def dX5_refusalOfSheet_88 := zr_dX5_refusalOfSheet_88.1
noncomputable def zr_dX5_refusalOfSheet_89 := zo_46 (q := 90) zr_dX5_refusalOfSheet_88.2 rfl
noncomputable def dX5_refusalOfSheet_89 := zr_dX5_refusalOfSheet_89.1
noncomputable def zr_dX5_refusalOfSheet_90 := zo_16 (k := 60)  (q := 92) zr_dX5_refusalOfSheet_89.2 (by decide +kernel) rfl
noncomputable def dX5_refusalOfSheet_90 := zr_dX5_refusalOfSheet_90.1
noncomputable def zr_dX5_refusalOfSheet_92 := zo_184 (k := 86)  (q := 95) zr_dX5_refusalOfSheet_90.2 rfl rfl
noncomputable def dX5_refusalOfSheet_92 := zr_dX5_refusalOfSheet_92.1
noncomputable def zr_dX5_refusalOfSheet_95 := zo_153 (k := 16)  (q := 98) zr_dX5_refusalOfSheet_92.2 (by decide +kernel) rfl
noncomputable def dX5_refusalOfSheet_95 := zr_dX5_refusalOfSheet_95.1
noncomputable def zr_dX5_refusalOfSheet_98 := zo_45 (q := 99) zr_dX5_refusalOfSheet_95.2 rfl
noncomputable def dX5_refusalOfSheet_98 := zr_dX5_refusalOfSheet_98.1
noncomputable def zr_dX5_refusalOfSheet_99 := zo_21 (k := 4)  (q := 101) zr_dX5_refusalOfSheet_98.2 rfl rfl
noncomputable def dX5_refusalOfSheet_99 := zr_dX5_refusalOfSheet_99.1
noncomputable def zr_dX5_refusalOfSheet_101 := zo_5 (q := 102) zr_dX5_refusalOfSheet_99.2 rfl
noncomputable def dX5_refusalOfSheet_101 := zr_dX5_refusalOfSheet_101.1
noncomputable def zr_dX5_refusalOfSheet_102 := zo_96 (q := 103) zr_dX5_refusalOfSheet_101.2 rfl
noncomputable def dX5_refusalOfSheet_102 := zr_dX5_refusalOfSheet_102.1
noncomputable def zr_dX5_refusalOfSheet_103 := zo_46 (q := 104) zr_dX5_refusalOfSheet_102.2 rfl
noncomputable def dX5_refusalOfSheet_103 := zr_dX5_refusalOfSheet_103.1
noncomputable def zr_dX5_refusalOfSheet_104 := zo_4 (q := 105) zr_dX5_refusalOfSheet_103.2 rfl
noncomputable def dX5_refusalOfSheet_104 := zr_dX5_refusalOfSheet_104.1
noncomputable def zr_dX5_refusalOfSheet_105 := zo_184 (k := 86)  (q := 108) zr_dX5_refusalOfSheet_104.2 rfl rfl
noncomputable def dX5_refusalOfSheet_105 := zr_dX5_refusalOfSheet_105.1
noncomputable def zr_dX5_refusalOfSheet_108 := zo_154 (k := 6)  (q := 111) zr_dX5_refusalOfSheet_105.2 (by decide +kernel) rfl
noncomputable def dX5_refusalOfSheet_108 := zr_dX5_refusalOfSheet_108.1
noncomputable def zr_dX5_refusalOfSheet_111 := zo_16 (k := -2)  (q := 113) zr_dX5_refusalOfSheet_108.2 (by decide +kernel) rfl
noncomputable def dX5_refusalOfSheet_111 := zr_dX5_refusalOfSheet_111.1
noncomputable def zr_dX5_refusalOfSheet_113 := zo_172 (q := 114) zr_dX5_refusalOfSheet_111.2 rfl
noncomputable def dX5_refusalOfSheet_113 := zr_dX5_refusalOfSheet_113.1
noncomputable def zr_dX5_refusalOfSheet_114 := zo_132 (k := 4) (o := 3)  (q := 117) zr_dX5_refusalOfSheet_113.2 rfl (by decide +kernel) rfl
noncomputable def dX5_refusalOfSheet_114 := zr_dX5_refusalOfSheet_114.1
noncomputable def zr_dX5_refusalOfSheet_117 := zo_167 (k := -55)  (q := 120) zr_dX5_refusalOfSheet_114.2 (by decide +kernel) rfl
noncomputable def dX5_refusalOfSheet_117 := zr_dX5_refusalOfSheet_117.1
noncomputable def zr_dX5_refusalOfSheet_120 := zo_3 (q := 121) zr_dX5_refusalOfSheet_117.2 rfl
noncomputable def dX5_refusalOfSheet_120 := zr_dX5_refusalOfSheet_120.1
noncomputable def zr_dX5_refusalOfSheet_121 := zo_172 (q := 122) zr_dX5_refusalOfSheet_120.2 rfl
noncomputable def dX5_refusalOfSheet_121 := zr_dX5_refusalOfSheet_121.1
theorem zs_dX5_refusalOf_0 : zsuf cX5_refusalOf 0 cX5_refusalOf.data.toList := rfl
noncomputable def zr_dX5_refusalOf_0 := zo_42 (q := 1) zs_dX5_refusalOf_0 rfl
noncomputable def dX5_refusalOf_0 := zr_dX5_refusalOf_0.1
noncomputable def zr_dX5_refusalOf_1 := zo_27 (q := 2) zr_dX5_refusalOf_0.2 rfl
noncomputable def dX5_refusalOf_1 := zr_dX5_refusalOf_1.1
noncomputable def zr_dX5_refusalOf_2 := zo_182 (k := 193)  (q := 5) zr_dX5_refusalOf_1.2 rfl rfl
noncomputable def dX5_refusalOf_2 := zr_dX5_refusalOf_2.1
noncomputable def zr_dX5_refusalOf_5 := zo_62 (q := 6) zr_dX5_refusalOf_2.2 rfl
noncomputable def dX5_refusalOf_5 := zr_dX5_refusalOf_5.1
noncomputable def zr_dX5_refusalOf_6 := zo_29 (q := 7) zr_dX5_refusalOf_5.2 rfl
noncomputable def dX5_refusalOf_6 := zr_dX5_refusalOf_6.1
noncomputable def zr_dX5_refusalOf_7 := zo_153 (k := 5)  (q := 10) zr_dX5_refusalOf_6.2 (by decide +kernel) rfl
noncomputable def dX5_refusalOf_7 := zr_dX5_refusalOf_7.1
noncomputable def zr_dX5_refusalOf_10 := zo_29 (q := 11) zr_dX5_refusalOf_7.2 rfl
noncomputable def dX5_refusalOf_10 := zr_dX5_refusalOf_10.1
noncomputable def zr_dX5_refusalOf_11 := zo_172 (q := 12) zr_dX5_refusalOf_10.2 rfl
noncomputable def dX5_refusalOf_11 := zr_dX5_refusalOf_11.1
noncomputable def zr_dX5_refusalOf_12 := zo_42 (q := 13) zr_dX5_refusalOf_11.2 rfl
noncomputable def dX5_refusalOf_12 := zr_dX5_refusalOf_12.1
noncomputable def zr_dX5_refusalOf_13 := zo_180 (k := 28)  (q := 16) zr_dX5_refusalOf_12.2 rfl rfl
noncomputable def dX5_refusalOf_13 := zr_dX5_refusalOf_13.1
noncomputable def zr_dX5_refusalOf_16 := zo_28 (q := 17) zr_dX5_refusalOf_13.2 rfl
noncomputable def dX5_refusalOf_16 := zr_dX5_refusalOf_16.1
noncomputable def zr_dX5_refusalOf_17 := zo_182 (k := 94)  (q := 20) zr_dX5_refusalOf_16.2 rfl rfl
noncomputable def dX5_refusalOf_17 := zr_dX5_refusalOf_17.1
noncomputable def zr_dX5_refusalOf_20 := zo_153 (k := 7)  (q := 23) zr_dX5_refusalOf_17.2 (by decide +kernel) rfl
noncomputable def dX5_refusalOf_20 := zr_dX5_refusalOf_20.1
noncomputable def zr_dX5_refusalOf_23 := zo_3 (q := 24) zr_dX5_refusalOf_20.2 rfl
noncomputable def dX5_refusalOf_23 := zr_dX5_refusalOf_23.1
noncomputable def zr_dX5_refusalOf_24 := zo_167 (k := 5)  (q := 27) zr_dX5_refusalOf_23.2 (by decide +kernel) rfl
noncomputable def dX5_refusalOf_24 := zr_dX5_refusalOf_24.1
noncomputable def zr_dX5_refusalOf_27 := zo_16 (k := -5)  (q := 29) zr_dX5_refusalOf_24.2 (by decide +kernel) rfl
noncomputable def dX5_refusalOf_27 := zr_dX5_refusalOf_27.1
noncomputable def zr_dX5_refusalOf_29 := zo_172 (q := 30) zr_dX5_refusalOf_27.2 rfl
noncomputable def dX5_refusalOf_29 := zr_dX5_refusalOf_29.1
theorem zs_dX5_firstOtherwise_0 : zsuf cX5_firstOtherwise 0 cX5_firstOtherwise.data.toList := rfl
noncomputable def zr_dX5_firstOtherwise_0 := zo_42 (q := 1) zs_dX5_firstOtherwise_0 rfl
noncomputable def dX5_firstOtherwise_0 := zr_dX5_firstOtherwise_0.1
noncomputable def zr_dX5_firstOtherwise_1 := zo_180 (k := 41)  (q := 4) zr_dX5_firstOtherwise_0.2 rfl rfl
noncomputable def dX5_firstOtherwise_1 := zr_dX5_firstOtherwise_1.1
noncomputable def zr_dX5_firstOtherwise_4 := zo_180 (k := 235)  (q := 7) zr_dX5_firstOtherwise_1.2 rfl rfl
noncomputable def dX5_firstOtherwise_4 := zr_dX5_firstOtherwise_4.1
noncomputable def zr_dX5_firstOtherwise_7 := zo_27 (q := 8) zr_dX5_firstOtherwise_4.2 rfl
noncomputable def dX5_firstOtherwise_7 := zr_dX5_firstOtherwise_7.1
noncomputable def zr_dX5_firstOtherwise_8 := zo_50 (q := 9) zr_dX5_firstOtherwise_7.2 rfl
noncomputable def dX5_firstOtherwise_8 := zr_dX5_firstOtherwise_8.1
noncomputable def zr_dX5_firstOtherwise_9 := zo_78 (q := 10) zr_dX5_firstOtherwise_8.2 rfl
noncomputable def dX5_firstOtherwise_9 := zr_dX5_firstOtherwise_9.1
noncomputable def zr_dX5_firstOtherwise_10 := zo_3 (q := 11) zr_dX5_firstOtherwise_9.2 rfl
noncomputable def dX5_firstOtherwise_10 := zr_dX5_firstOtherwise_10.1
noncomputable def zr_dX5_firstOtherwise_11 := zo_54 (k := 4)  (q := 13) zr_dX5_firstOtherwise_10.2 rfl rfl
noncomputable def dX5_firstOtherwise_11 := zr_dX5_firstOtherwise_11.1
noncomputable def zr_dX5_firstOtherwise_13 := zo_21 (k := 4)  (q := 15) zr_dX5_firstOtherwise_11.2 rfl rfl
noncomputable def dX5_firstOtherwise_13 := zr_dX5_firstOtherwise_13.1
noncomputable def zr_dX5_firstOtherwise_15 := zo_5 (q := 16) zr_dX5_firstOtherwise_13.2 rfl
noncomputable def dX5_firstOtherwise_15 := zr_dX5_firstOtherwise_15.1
noncomputable def zr_dX5_firstOtherwise_16 := zo_96 (q := 17) zr_dX5_firstOtherwise_15.2 rfl
noncomputable def dX5_firstOtherwise_16 := zr_dX5_firstOtherwise_16.1
noncomputable def zr_dX5_firstOtherwise_17 := zo_42 (q := 18) zr_dX5_firstOtherwise_16.2 rfl
noncomputable def dX5_firstOtherwise_17 := zr_dX5_firstOtherwise_17.1
noncomputable def zr_dX5_firstOtherwise_18 := zo_180 (k := 41)  (q := 21) zr_dX5_firstOtherwise_17.2 rfl rfl
noncomputable def dX5_firstOtherwise_18 := zr_dX5_firstOtherwise_18.1
noncomputable def zr_dX5_firstOtherwise_21 := zo_180 (k := 228)  (q := 24) zr_dX5_firstOtherwise_18.2 rfl rfl
noncomputable def dX5_firstOtherwise_21 := zr_dX5_firstOtherwise_21.1
noncomputable def zr_dX5_firstOtherwise_24 := zo_27 (q := 25) zr_dX5_firstOtherwise_21.2 rfl
noncomputable def dX5_firstOtherwise_24 := zr_dX5_firstOtherwise_24.1
noncomputable def zr_dX5_firstOtherwise_25 := zo_46 (q := 26) zr_dX5_firstOtherwise_24.2 rfl
noncomputable def dX5_firstOtherwise_25 := zr_dX5_firstOtherwise_25.1
noncomputable def zr_dX5_firstOtherwise_26 := zo_162 (k := 57)  (q := 29) zr_dX5_firstOtherwise_25.2 (by decide +kernel) rfl
noncomputable def dX5_firstOtherwise_26 := zr_dX5_firstOtherwise_26.1
noncomputable def zr_dX5_firstOtherwise_29 := zo_42 (q := 30) zr_dX5_firstOtherwise_26.2 rfl
noncomputable def dX5_firstOtherwise_29 := zr_dX5_firstOtherwise_29.1
noncomputable def zr_dX5_firstOtherwise_30 := zo_180 (k := 32)  (q := 33) zr_dX5_firstOtherwise_29.2 rfl rfl
noncomputable def dX5_firstOtherwise_30 := zr_dX5_firstOtherwise_30.1
noncomputable def zr_dX5_firstOtherwise_33 := zo_28 (q := 34) zr_dX5_firstOtherwise_30.2 rfl
noncomputable def dX5_firstOtherwise_33 := zr_dX5_firstOtherwise_33.1
noncomputable def zr_dX5_firstOtherwise_34 := zo_45 (q := 35) zr_dX5_firstOtherwise_33.2 rfl
noncomputable def dX5_firstOtherwise_34 := zr_dX5_firstOtherwise_34.1
noncomputable def zr_dX5_firstOtherwise_35 := zo_21 (k := 4)  (q := 37) zr_dX5_firstOtherwise_34.2 rfl rfl
noncomputable def dX5_firstOtherwise_35 := zr_dX5_firstOtherwise_35.1
noncomputable def zr_dX5_firstOtherwise_37 := zo_46 (q := 38) zr_dX5_firstOtherwise_35.2 rfl
noncomputable def dX5_firstOtherwise_37 := zr_dX5_firstOtherwise_37.1
noncomputable def zr_dX5_firstOtherwise_38 := zo_45 (q := 39) zr_dX5_firstOtherwise_37.2 rfl
noncomputable def dX5_firstOtherwise_38 := zr_dX5_firstOtherwise_38.1
noncomputable def zr_dX5_firstOtherwise_39 := zo_21 (k := 4)  (q := 41) zr_dX5_firstOtherwise_38.2 rfl rfl
noncomputable def dX5_firstOtherwise_39 := zr_dX5_firstOtherwise_39.1
noncomputable def zr_dX5_firstOtherwise_41 := zo_4 (q := 42) zr_dX5_firstOtherwise_39.2 rfl
noncomputable def dX5_firstOtherwise_41 := zr_dX5_firstOtherwise_41.1
noncomputable def zr_dX5_firstOtherwise_42 := zo_96 (q := 43) zr_dX5_firstOtherwise_41.2 rfl
noncomputable def dX5_firstOtherwise_42 := zr_dX5_firstOtherwise_42.1
noncomputable def zr_dX5_firstOtherwise_43 := zo_46 (q := 44) zr_dX5_firstOtherwise_42.2 rfl
noncomputable def dX5_firstOtherwise_43 := zr_dX5_firstOtherwise_43.1
noncomputable def zr_dX5_firstOtherwise_44 := zo_182 (k := 140)  (q := 47) zr_dX5_firstOtherwise_43.2 rfl rfl
noncomputable def dX5_firstOtherwise_44 := zr_dX5_firstOtherwise_44.1
noncomputable def zr_dX5_firstOtherwise_47 := zo_54 (k := 5)  (q := 49) zr_dX5_firstOtherwise_44.2 rfl rfl
noncomputable def dX5_firstOtherwise_47 := zr_dX5_firstOtherwise_47.1
noncomputable def zr_dX5_firstOtherwise_49 := zo_42 (q := 50) zr_dX5_firstOtherwise_47.2 rfl
noncomputable def dX5_firstOtherwise_49 := zr_dX5_firstOtherwise_49.1
noncomputable def zr_dX5_firstOtherwise_50 := zo_180 (k := 32)  (q := 53) zr_dX5_firstOtherwise_49.2 rfl rfl
noncomputable def dX5_firstOtherwise_50 := zr_dX5_firstOtherwise_50.1
noncomputable def zr_dX5_firstOtherwise_53 := zo_28 (q := 54) zr_dX5_firstOtherwise_50.2 rfl
noncomputable def dX5_firstOtherwise_53 := zr_dX5_firstOtherwise_53.1
noncomputable def zr_dX5_firstOtherwise_54 := zo_45 (q := 55) zr_dX5_firstOtherwise_53.2 rfl
noncomputable def dX5_firstOtherwise_54 := zr_dX5_firstOtherwise_54.1
noncomputable def zr_dX5_firstOtherwise_55 := zo_21 (k := 4)  (q := 57) zr_dX5_firstOtherwise_54.2 rfl rfl
noncomputable def dX5_firstOtherwise_55 := zr_dX5_firstOtherwise_55.1
noncomputable def zr_dX5_firstOtherwise_57 := zo_46 (q := 58) zr_dX5_firstOtherwise_55.2 rfl
noncomputable def dX5_firstOtherwise_57 := zr_dX5_firstOtherwise_57.1
noncomputable def zr_dX5_firstOtherwise_58 := zo_21 (k := 5)  (q := 60) zr_dX5_firstOtherwise_57.2 rfl rfl
noncomputable def dX5_firstOtherwise_58 := zr_dX5_firstOtherwise_58.1
noncomputable def zr_dX5_firstOtherwise_60 := zo_182 (k := 164)  (q := 63) zr_dX5_firstOtherwise_58.2 rfl rfl
noncomputable def dX5_firstOtherwise_60 := zr_dX5_firstOtherwise_60.1
noncomputable def zr_dX5_firstOtherwise_63 := zo_45 (q := 64) zr_dX5_firstOtherwise_60.2 rfl
noncomputable def dX5_firstOtherwise_63 := zr_dX5_firstOtherwise_63.1
noncomputable def zr_dX5_firstOtherwise_64 := zo_21 (k := 4)  (q := 66) zr_dX5_firstOtherwise_63.2 rfl rfl
noncomputable def dX5_firstOtherwise_64 := zr_dX5_firstOtherwise_64.1
noncomputable def zr_dX5_firstOtherwise_66 := zo_5 (q := 67) zr_dX5_firstOtherwise_64.2 rfl
noncomputable def dX5_firstOtherwise_66 := zr_dX5_firstOtherwise_66.1
noncomputable def zr_dX5_firstOtherwise_67 := zo_96 (q := 68) zr_dX5_firstOtherwise_66.2 rfl
noncomputable def dX5_firstOtherwise_67 := zr_dX5_firstOtherwise_67.1
noncomputable def zr_dX5_firstOtherwise_68 := zo_46 (q := 69) zr_dX5_firstOtherwise_67.2 rfl
noncomputable def dX5_firstOtherwise_68 := zr_dX5_firstOtherwise_68.1
noncomputable def zr_dX5_firstOtherwise_69 := zo_159 (k := 8)  (q := 72) zr_dX5_firstOtherwise_68.2 (by decide +kernel) rfl
noncomputable def dX5_firstOtherwise_69 := zr_dX5_firstOtherwise_69.1
noncomputable def zr_dX5_firstOtherwise_72 := zo_21 (k := 4)  (q := 74) zr_dX5_firstOtherwise_69.2 rfl rfl
noncomputable def dX5_firstOtherwise_72 := zr_dX5_firstOtherwise_72.1
noncomputable def zr_dX5_firstOtherwise_74 := zo_6 (q := 75) zr_dX5_firstOtherwise_72.2 rfl
noncomputable def dX5_firstOtherwise_74 := zr_dX5_firstOtherwise_74.1
noncomputable def zr_dX5_firstOtherwise_75 := zo_108 (q := 76) zr_dX5_firstOtherwise_74.2 rfl
noncomputable def dX5_firstOtherwise_75 := zr_dX5_firstOtherwise_75.1
noncomputable def zr_dX5_firstOtherwise_76 := zo_172 (q := 77) zr_dX5_firstOtherwise_75.2 rfl
noncomputable def dX5_firstOtherwise_76 := zr_dX5_firstOtherwise_76.1
noncomputable def zr_dX5_firstOtherwise_77 := zo_132 (k := 4) (o := 3)  (q := 80) zr_dX5_firstOtherwise_76.2 rfl (by decide +kernel) rfl
noncomputable def dX5_firstOtherwise_77 := zr_dX5_firstOtherwise_77.1
noncomputable def zr_dX5_firstOtherwise_80 := zo_167 (k := -67)  (q := 83) zr_dX5_firstOtherwise_77.2 (by decide +kernel) rfl
noncomputable def dX5_firstOtherwise_80 := zr_dX5_firstOtherwise_80.1
noncomputable def zr_dX5_firstOtherwise_83 := zo_2 (q := 84) zr_dX5_firstOtherwise_80.2 rfl
noncomputable def dX5_firstOtherwise_83 := zr_dX5_firstOtherwise_83.1
noncomputable def zr_dX5_firstOtherwise_84 := zo_172 (q := 85) zr_dX5_firstOtherwise_83.2 rfl
noncomputable def dX5_firstOtherwise_84 := zr_dX5_firstOtherwise_84.1
theorem zs_dX6_init_0 : zsuf cX6_init 0 cX6_init.data.toList := rfl
noncomputable def zr_dX6_init_0 := zo_42 (q := 1) zs_dX6_init_0 rfl
noncomputable def dX6_init_0 := zr_dX6_init_0.1
noncomputable def zr_dX6_init_1 := zo_183 (k := 1)  (q := 4) zr_dX6_init_0.2 rfl rfl
noncomputable def dX6_init_1 := zr_dX6_init_1.1
noncomputable def zr_dX6_init_4 := zo_42 (q := 5) zr_dX6_init_1.2 rfl
noncomputable def dX6_init_4 := zr_dX6_init_4.1
noncomputable def zr_dX6_init_5 := zo_16 (k := 6)  (q := 7) zr_dX6_init_4.2 (by decide +kernel) rfl
noncomputable def dX6_init_5 := zr_dX6_init_5.1
theorem dX6_init_7 : zD cX6_init 7 (.newarray .int) 2 := by decide +kernel
noncomputable def zr_dX6_init_7 := zskip zr_dX6_init_5.2 2 (q := 9) rfl
noncomputable def zr_dX6_init_9 := zo_181 (k := 7)  (q := 12) zr_dX6_init_7 rfl rfl
noncomputable def dX6_init_9 := zr_dX6_init_9.1
noncomputable def zr_dX6_init_12 := zo_42 (q := 13) zr_dX6_init_9.2 rfl
noncomputable def dX6_init_12 := zr_dX6_init_12.1
noncomputable def zr_dX6_init_13 := zo_16 (k := 6)  (q := 15) zr_dX6_init_12.2 (by decide +kernel) rfl
noncomputable def dX6_init_13 := zr_dX6_init_13.1
theorem dX6_init_15 : zD cX6_init 15 (.newarray .int) 2 := by decide +kernel
noncomputable def zr_dX6_init_15 := zskip zr_dX6_init_13.2 2 (q := 17) rfl
noncomputable def zr_dX6_init_17 := zo_181 (k := 13)  (q := 20) zr_dX6_init_15 rfl rfl
noncomputable def dX6_init_17 := zr_dX6_init_17.1
noncomputable def zr_dX6_init_20 := zo_42 (q := 21) zr_dX6_init_17.2 rfl
noncomputable def dX6_init_20 := zr_dX6_init_20.1
noncomputable def zr_dX6_init_21 := zo_16 (k := 12)  (q := 23) zr_dX6_init_20.2 (by decide +kernel) rfl
noncomputable def dX6_init_21 := zr_dX6_init_21.1
theorem dX6_init_23 : zD cX6_init 23 (.newarray .int) 2 := by decide +kernel
noncomputable def zr_dX6_init_23 := zskip zr_dX6_init_21.2 2 (q := 25) rfl
noncomputable def zr_dX6_init_25 := zo_181 (k := 16)  (q := 28) zr_dX6_init_23 rfl rfl
noncomputable def dX6_init_25 := zr_dX6_init_25.1
noncomputable def zr_dX6_init_28 := zo_42 (q := 29) zr_dX6_init_25.2 rfl
noncomputable def dX6_init_28 := zr_dX6_init_28.1
noncomputable def zr_dX6_init_29 := zo_16 (k := 12)  (q := 31) zr_dX6_init_28.2 (by decide +kernel) rfl
noncomputable def dX6_init_29 := zr_dX6_init_29.1
theorem dX6_init_31 : zD cX6_init 31 (.newarray .int) 2 := by decide +kernel
noncomputable def zr_dX6_init_31 := zskip zr_dX6_init_29.2 2 (q := 33) rfl
noncomputable def zr_dX6_init_33 := zo_181 (k := 19)  (q := 36) zr_dX6_init_31 rfl rfl
noncomputable def dX6_init_33 := zr_dX6_init_33.1
noncomputable def zr_dX6_init_36 := zo_42 (q := 37) zr_dX6_init_33.2 rfl
noncomputable def dX6_init_36 := zr_dX6_init_36.1
noncomputable def zr_dX6_init_37 := zo_17 (k := 160)  (q := 40) zr_dX6_init_36.2 (by decide +kernel) rfl
noncomputable def dX6_init_37 := zr_dX6_init_37.1
theorem dX6_init_40 : zD cX6_init 40 (.newarray .int) 2 := by decide +kernel
noncomputable def zr_dX6_init_40 := zskip zr_dX6_init_37.2 2 (q := 42) rfl
noncomputable def zr_dX6_init_42 := zo_181 (k := 22)  (q := 45) zr_dX6_init_40 rfl rfl
noncomputable def dX6_init_42 := zr_dX6_init_42.1
noncomputable def zr_dX6_init_45 := zo_42 (q := 46) zr_dX6_init_42.2 rfl
noncomputable def dX6_init_45 := zr_dX6_init_45.1
noncomputable def zr_dX6_init_46 := zo_17 (k := 1200)  (q := 49) zr_dX6_init_45.2 (by decide +kernel) rfl
noncomputable def dX6_init_46 := zr_dX6_init_46.1
theorem dX6_init_49 : zD cX6_init 49 (.newarray .int) 2 := by decide +kernel
noncomputable def zr_dX6_init_49 := zskip zr_dX6_init_46.2 2 (q := 51) rfl
noncomputable def zr_dX6_init_51 := zo_181 (k := 25)  (q := 54) zr_dX6_init_49 rfl rfl
noncomputable def dX6_init_51 := zr_dX6_init_51.1
noncomputable def zr_dX6_init_54 := zo_42 (q := 55) zr_dX6_init_51.2 rfl
noncomputable def dX6_init_54 := zr_dX6_init_54.1
noncomputable def zr_dX6_init_55 := zo_16 (k := 24)  (q := 57) zr_dX6_init_54.2 (by decide +kernel) rfl
noncomputable def dX6_init_55 := zr_dX6_init_55.1
theorem dX6_init_57 : zD cX6_init 57 (.newarray .int) 2 := by decide +kernel
noncomputable def zr_dX6_init_57 := zskip zr_dX6_init_55.2 2 (q := 59) rfl
noncomputable def zr_dX6_init_59 := zo_181 (k := 28)  (q := 62) zr_dX6_init_57 rfl rfl
noncomputable def dX6_init_59 := zr_dX6_init_59.1
noncomputable def zr_dX6_init_62 := zo_42 (q := 63) zr_dX6_init_59.2 rfl
noncomputable def dX6_init_62 := zr_dX6_init_62.1
noncomputable def zr_dX6_init_63 := zo_16 (k := 24)  (q := 65) zr_dX6_init_62.2 (by decide +kernel) rfl
noncomputable def dX6_init_63 := zr_dX6_init_63.1
theorem dX6_init_65 : zD cX6_init 65 (.newarray .int) 2 := by decide +kernel
noncomputable def zr_dX6_init_65 := zskip zr_dX6_init_63.2 2 (q := 67) rfl
noncomputable def zr_dX6_init_67 := zo_181 (k := 31)  (q := 70) zr_dX6_init_65 rfl rfl
noncomputable def dX6_init_67 := zr_dX6_init_67.1
noncomputable def zr_dX6_init_70 := zo_42 (q := 71) zr_dX6_init_67.2 rfl
noncomputable def dX6_init_70 := zr_dX6_init_70.1
noncomputable def zr_dX6_init_71 := zo_6 (q := 72) zr_dX6_init_70.2 rfl
noncomputable def dX6_init_71 := zr_dX6_init_71.1
theorem dX6_init_72 : zD cX6_init 72 (.newarray .int) 2 := by decide +kernel
noncomputable def zr_dX6_init_72 := zskip zr_dX6_init_71.2 2 (q := 74) rfl
noncomputable def zr_dX6_init_74 := zo_181 (k := 34)  (q := 77) zr_dX6_init_72 rfl rfl
noncomputable def dX6_init_74 := zr_dX6_init_74.1
noncomputable def zr_dX6_init_77 := zo_42 (q := 78) zr_dX6_init_74.2 rfl
noncomputable def dX6_init_77 := zr_dX6_init_77.1
noncomputable def zr_dX6_init_78 := zo_7 (q := 79) zr_dX6_init_77.2 rfl
noncomputable def dX6_init_78 := zr_dX6_init_78.1
theorem dX6_init_79 : zD cX6_init 79 (.newarray .int) 2 := by decide +kernel
noncomputable def zr_dX6_init_79 := zskip zr_dX6_init_78.2 2 (q := 81) rfl
noncomputable def zr_dX6_init_81 := zo_89 (q := 82) zr_dX6_init_79 rfl
noncomputable def dX6_init_81 := zr_dX6_init_81.1
noncomputable def zr_dX6_init_82 := zo_3 (q := 83) zr_dX6_init_81.2 rfl
noncomputable def dX6_init_82 := zr_dX6_init_82.1
noncomputable def zr_dX6_init_83 := zo_2 (q := 84) zr_dX6_init_82.2 rfl
noncomputable def dX6_init_83 := zr_dX6_init_83.1
noncomputable def zr_dX6_init_84 := zo_79 (q := 85) zr_dX6_init_83.2 rfl
noncomputable def dX6_init_84 := zr_dX6_init_84.1
noncomputable def zr_dX6_init_85 := zo_89 (q := 86) zr_dX6_init_84.2 rfl
noncomputable def dX6_init_85 := zr_dX6_init_85.1
noncomputable def zr_dX6_init_86 := zo_4 (q := 87) zr_dX6_init_85.2 rfl
noncomputable def dX6_init_86 := zr_dX6_init_86.1
noncomputable def zr_dX6_init_87 := zo_2 (q := 88) zr_dX6_init_86.2 rfl
noncomputable def dX6_init_87 := zr_dX6_init_87.1
noncomputable def zr_dX6_init_88 := zo_79 (q := 89) zr_dX6_init_87.2 rfl
noncomputable def dX6_init_88 := zr_dX6_init_88.1
noncomputable def zr_dX6_init_89 := zo_89 (q := 90) zr_dX6_init_88.2 rfl
noncomputable def dX6_init_89 := zr_dX6_init_89.1
noncomputable def zr_dX6_init_90 := zo_5 (q := 91) zr_dX6_init_89.2 rfl
noncomputable def dX6_init_90 := zr_dX6_init_90.1
noncomputable def zr_dX6_init_91 := zo_2 (q := 92) zr_dX6_init_90.2 rfl
noncomputable def dX6_init_91 := zr_dX6_init_91.1
noncomputable def zr_dX6_init_92 := zo_79 (q := 93) zr_dX6_init_91.2 rfl
noncomputable def dX6_init_92 := zr_dX6_init_92.1
noncomputable def zr_dX6_init_93 := zo_89 (q := 94) zr_dX6_init_92.2 rfl
noncomputable def dX6_init_93 := zr_dX6_init_93.1
noncomputable def zr_dX6_init_94 := zo_6 (q := 95) zr_dX6_init_93.2 rfl
noncomputable def dX6_init_94 := zr_dX6_init_94.1
noncomputable def zr_dX6_init_95 := zo_2 (q := 96) zr_dX6_init_94.2 rfl
noncomputable def dX6_init_95 := zr_dX6_init_95.1
noncomputable def zr_dX6_init_96 := zo_79 (q := 97) zr_dX6_init_95.2 rfl
noncomputable def dX6_init_96 := zr_dX6_init_96.1
noncomputable def zr_dX6_init_97 := zo_181 (k := 37)  (q := 100) zr_dX6_init_96.2 rfl rfl
noncomputable def dX6_init_97 := zr_dX6_init_97.1
noncomputable def zr_dX6_init_100 := zo_42 (q := 101) zr_dX6_init_97.2 rfl
noncomputable def dX6_init_100 := zr_dX6_init_100.1
noncomputable def zr_dX6_init_101 := zo_7 (q := 102) zr_dX6_init_100.2 rfl
noncomputable def dX6_init_101 := zr_dX6_init_101.1
theorem dX6_init_102 : zD cX6_init 102 (.newarray .int) 2 := by decide +kernel
noncomputable def zr_dX6_init_102 := zskip zr_dX6_init_101.2 2 (q := 104) rfl
noncomputable def zr_dX6_init_104 := zo_181 (k := 40)  (q := 107) zr_dX6_init_102 rfl rfl
noncomputable def dX6_init_104 := zr_dX6_init_104.1
noncomputable def zr_dX6_init_107 := zo_42 (q := 108) zr_dX6_init_104.2 rfl
noncomputable def dX6_init_107 := zr_dX6_init_107.1
noncomputable def zr_dX6_init_108 := zo_17 (k := 160)  (q := 111) zr_dX6_init_107.2 (by decide +kernel) rfl
noncomputable def dX6_init_108 := zr_dX6_init_108.1
theorem dX6_init_111 : zD cX6_init 111 (.newarray .int) 2 := by decide +kernel
noncomputable def zr_dX6_init_111 := zskip zr_dX6_init_108.2 2 (q := 113) rfl
noncomputable def zr_dX6_init_113 := zo_181 (k := 43)  (q := 116) zr_dX6_init_111 rfl rfl
noncomputable def dX6_init_113 := zr_dX6_init_113.1
noncomputable def zr_dX6_init_116 := zo_42 (q := 117) zr_dX6_init_113.2 rfl
noncomputable def dX6_init_116 := zr_dX6_init_116.1
noncomputable def zr_dX6_init_117 := zo_16 (k := 40)  (q := 119) zr_dX6_init_116.2 (by decide +kernel) rfl
noncomputable def dX6_init_117 := zr_dX6_init_117.1
theorem dX6_init_119 : zD cX6_init 119 (.newarray .int) 2 := by decide +kernel
noncomputable def zr_dX6_init_119 := zskip zr_dX6_init_117.2 2 (q := 121) rfl
noncomputable def zr_dX6_init_121 := zo_89 (q := 122) zr_dX6_init_119 rfl
noncomputable def dX6_init_121 := zr_dX6_init_121.1
noncomputable def zr_dX6_init_122 := zo_3 (q := 123) zr_dX6_init_121.2 rfl
noncomputable def dX6_init_122 := zr_dX6_init_122.1
noncomputable def zr_dX6_init_123 := zo_16 (k := 102)  (q := 125) zr_dX6_init_122.2 (by decide +kernel) rfl
noncomputable def dX6_init_123 := zr_dX6_init_123.1
noncomputable def zr_dX6_init_125 := zo_79 (q := 126) zr_dX6_init_123.2 rfl
noncomputable def dX6_init_125 := zr_dX6_init_125.1
noncomputable def zr_dX6_init_126 := zo_89 (q := 127) zr_dX6_init_125.2 rfl
noncomputable def dX6_init_126 := zr_dX6_init_126.1
noncomputable def zr_dX6_init_127 := zo_4 (q := 128) zr_dX6_init_126.2 rfl
noncomputable def dX6_init_127 := zr_dX6_init_127.1
noncomputable def zr_dX6_init_128 := zo_16 (k := 101)  (q := 130) zr_dX6_init_127.2 (by decide +kernel) rfl
noncomputable def dX6_init_128 := zr_dX6_init_128.1
noncomputable def zr_dX6_init_130 := zo_79 (q := 131) zr_dX6_init_128.2 rfl
noncomputable def dX6_init_130 := zr_dX6_init_130.1
noncomputable def zr_dX6_init_131 := zo_89 (q := 132) zr_dX6_init_130.2 rfl
noncomputable def dX6_init_131 := zr_dX6_init_131.1
noncomputable def zr_dX6_init_132 := zo_5 (q := 133) zr_dX6_init_131.2 rfl
noncomputable def dX6_init_132 := zr_dX6_init_132.1
noncomputable def zr_dX6_init_133 := zo_16 (k := 101)  (q := 135) zr_dX6_init_132.2 (by decide +kernel) rfl
noncomputable def dX6_init_133 := zr_dX6_init_133.1
noncomputable def zr_dX6_init_135 := zo_79 (q := 136) zr_dX6_init_133.2 rfl
noncomputable def dX6_init_135 := zr_dX6_init_135.1
noncomputable def zr_dX6_init_136 := zo_89 (q := 137) zr_dX6_init_135.2 rfl
noncomputable def dX6_init_136 := zr_dX6_init_136.1
noncomputable def zr_dX6_init_137 := zo_6 (q := 138) zr_dX6_init_136.2 rfl
noncomputable def dX6_init_137 := zr_dX6_init_137.1
noncomputable def zr_dX6_init_138 := zo_16 (k := 108)  (q := 140) zr_dX6_init_137.2 (by decide +kernel) rfl
noncomputable def dX6_init_138 := zr_dX6_init_138.1
noncomputable def zr_dX6_init_140 := zo_79 (q := 141) zr_dX6_init_138.2 rfl
noncomputable def dX6_init_140 := zr_dX6_init_140.1
noncomputable def zr_dX6_init_141 := zo_89 (q := 142) zr_dX6_init_140.2 rfl
noncomputable def dX6_init_141 := zr_dX6_init_141.1
noncomputable def zr_dX6_init_142 := zo_7 (q := 143) zr_dX6_init_141.2 rfl
noncomputable def dX6_init_142 := zr_dX6_init_142.1
noncomputable def zr_dX6_init_143 := zo_16 (k := 115)  (q := 145) zr_dX6_init_142.2 (by decide +kernel) rfl
noncomputable def dX6_init_143 := zr_dX6_init_143.1
noncomputable def zr_dX6_init_145 := zo_79 (q := 146) zr_dX6_init_143.2 rfl
noncomputable def dX6_init_145 := zr_dX6_init_145.1
noncomputable def zr_dX6_init_146 := zo_89 (q := 147) zr_dX6_init_145.2 rfl
noncomputable def dX6_init_146 := zr_dX6_init_146.1
noncomputable def zr_dX6_init_147 := zo_8 (q := 148) zr_dX6_init_146.2 rfl
noncomputable def dX6_init_147 := zr_dX6_init_147.1
noncomputable def zr_dX6_init_148 := zo_16 (k := 32)  (q := 150) zr_dX6_init_147.2 (by decide +kernel) rfl
noncomputable def dX6_init_148 := zr_dX6_init_148.1
noncomputable def zr_dX6_init_150 := zo_79 (q := 151) zr_dX6_init_148.2 rfl
noncomputable def dX6_init_150 := zr_dX6_init_150.1
noncomputable def zr_dX6_init_151 := zo_89 (q := 152) zr_dX6_init_150.2 rfl
noncomputable def dX6_init_151 := zr_dX6_init_151.1
noncomputable def zr_dX6_init_152 := zo_16 (k := 6)  (q := 154) zr_dX6_init_151.2 (by decide +kernel) rfl
noncomputable def dX6_init_152 := zr_dX6_init_152.1
noncomputable def zr_dX6_init_154 := zo_16 (k := 115)  (q := 156) zr_dX6_init_152.2 (by decide +kernel) rfl
noncomputable def dX6_init_154 := zr_dX6_init_154.1
noncomputable def zr_dX6_init_156 := zo_79 (q := 157) zr_dX6_init_154.2 rfl
noncomputable def dX6_init_156 := zr_dX6_init_156.1
noncomputable def zr_dX6_init_157 := zo_89 (q := 158) zr_dX6_init_156.2 rfl
noncomputable def dX6_init_157 := zr_dX6_init_157.1
noncomputable def zr_dX6_init_158 := zo_16 (k := 7)  (q := 160) zr_dX6_init_157.2 (by decide +kernel) rfl
noncomputable def dX6_init_158 := zr_dX6_init_158.1
noncomputable def zr_dX6_init_160 := zo_16 (k := 105)  (q := 162) zr_dX6_init_158.2 (by decide +kernel) rfl
noncomputable def dX6_init_160 := zr_dX6_init_160.1
noncomputable def zr_dX6_init_162 := zo_79 (q := 163) zr_dX6_init_160.2 rfl
noncomputable def dX6_init_162 := zr_dX6_init_162.1
noncomputable def zr_dX6_init_163 := zo_89 (q := 164) zr_dX6_init_162.2 rfl
noncomputable def dX6_init_163 := zr_dX6_init_163.1
noncomputable def zr_dX6_init_164 := zo_16 (k := 8)  (q := 166) zr_dX6_init_163.2 (by decide +kernel) rfl
noncomputable def dX6_init_164 := zr_dX6_init_164.1
noncomputable def zr_dX6_init_166 := zo_16 (k := 122)  (q := 168) zr_dX6_init_164.2 (by decide +kernel) rfl
noncomputable def dX6_init_166 := zr_dX6_init_166.1
noncomputable def zr_dX6_init_168 := zo_79 (q := 169) zr_dX6_init_166.2 rfl
noncomputable def dX6_init_168 := zr_dX6_init_168.1
noncomputable def zr_dX6_init_169 := zo_89 (q := 170) zr_dX6_init_168.2 rfl
noncomputable def dX6_init_169 := zr_dX6_init_169.1
noncomputable def zr_dX6_init_170 := zo_16 (k := 9)  (q := 172) zr_dX6_init_169.2 (by decide +kernel) rfl
noncomputable def dX6_init_170 := zr_dX6_init_170.1
noncomputable def zr_dX6_init_172 := zo_16 (k := 101)  (q := 174) zr_dX6_init_170.2 (by decide +kernel) rfl
noncomputable def dX6_init_172 := zr_dX6_init_172.1
noncomputable def zr_dX6_init_174 := zo_79 (q := 175) zr_dX6_init_172.2 rfl
noncomputable def dX6_init_174 := zr_dX6_init_174.1
noncomputable def zr_dX6_init_175 := zo_89 (q := 176) zr_dX6_init_174.2 rfl
noncomputable def dX6_init_175 := zr_dX6_init_175.1
noncomputable def zr_dX6_init_176 := zo_16 (k := 10)  (q := 178) zr_dX6_init_175.2 (by decide +kernel) rfl
noncomputable def dX6_init_176 := zr_dX6_init_176.1
noncomputable def zr_dX6_init_178 := zo_16 (k := 32)  (q := 180) zr_dX6_init_176.2 (by decide +kernel) rfl
noncomputable def dX6_init_178 := zr_dX6_init_178.1
noncomputable def zr_dX6_init_180 := zo_79 (q := 181) zr_dX6_init_178.2 rfl
noncomputable def dX6_init_180 := zr_dX6_init_180.1
noncomputable def zr_dX6_init_181 := zo_89 (q := 182) zr_dX6_init_180.2 rfl
noncomputable def dX6_init_181 := zr_dX6_init_181.1
noncomputable def zr_dX6_init_182 := zo_16 (k := 11)  (q := 184) zr_dX6_init_181.2 (by decide +kernel) rfl
noncomputable def dX6_init_182 := zr_dX6_init_182.1
noncomputable def zr_dX6_init_184 := zo_16 (k := 45)  (q := 186) zr_dX6_init_182.2 (by decide +kernel) rfl
noncomputable def dX6_init_184 := zr_dX6_init_184.1
noncomputable def zr_dX6_init_186 := zo_79 (q := 187) zr_dX6_init_184.2 rfl
noncomputable def dX6_init_186 := zr_dX6_init_186.1
noncomputable def zr_dX6_init_187 := zo_89 (q := 188) zr_dX6_init_186.2 rfl
noncomputable def dX6_init_187 := zr_dX6_init_187.1
noncomputable def zr_dX6_init_188 := zo_16 (k := 12)  (q := 190) zr_dX6_init_187.2 (by decide +kernel) rfl
noncomputable def dX6_init_188 := zr_dX6_init_188.1
noncomputable def zr_dX6_init_190 := zo_16 (k := 32)  (q := 192) zr_dX6_init_188.2 (by decide +kernel) rfl
noncomputable def dX6_init_190 := zr_dX6_init_190.1
noncomputable def zr_dX6_init_192 := zo_79 (q := 193) zr_dX6_init_190.2 rfl
noncomputable def dX6_init_192 := zr_dX6_init_192.1
noncomputable def zr_dX6_init_193 := zo_89 (q := 194) zr_dX6_init_192.2 rfl
noncomputable def dX6_init_193 := zr_dX6_init_193.1
noncomputable def zr_dX6_init_194 := zo_16 (k := 13)  (q := 196) zr_dX6_init_193.2 (by decide +kernel) rfl
noncomputable def dX6_init_194 := zr_dX6_init_194.1
noncomputable def zr_dX6_init_196 := zo_16 (k := 114)  (q := 198) zr_dX6_init_194.2 (by decide +kernel) rfl
noncomputable def dX6_init_196 := zr_dX6_init_196.1
noncomputable def zr_dX6_init_198 := zo_79 (q := 199) zr_dX6_init_196.2 rfl
noncomputable def dX6_init_198 := zr_dX6_init_198.1
noncomputable def zr_dX6_init_199 := zo_89 (q := 200) zr_dX6_init_198.2 rfl
noncomputable def dX6_init_199 := zr_dX6_init_199.1
noncomputable def zr_dX6_init_200 := zo_16 (k := 14)  (q := 202) zr_dX6_init_199.2 (by decide +kernel) rfl
noncomputable def dX6_init_200 := zr_dX6_init_200.1
noncomputable def zr_dX6_init_202 := zo_16 (k := 111)  (q := 204) zr_dX6_init_200.2 (by decide +kernel) rfl
noncomputable def dX6_init_202 := zr_dX6_init_202.1
noncomputable def zr_dX6_init_204 := zo_79 (q := 205) zr_dX6_init_202.2 rfl
noncomputable def dX6_init_204 := zr_dX6_init_204.1
noncomputable def zr_dX6_init_205 := zo_89 (q := 206) zr_dX6_init_204.2 rfl
noncomputable def dX6_init_205 := zr_dX6_init_205.1
noncomputable def zr_dX6_init_206 := zo_16 (k := 15)  (q := 208) zr_dX6_init_205.2 (by decide +kernel) rfl
noncomputable def dX6_init_206 := zr_dX6_init_206.1
noncomputable def zr_dX6_init_208 := zo_16 (k := 117)  (q := 210) zr_dX6_init_206.2 (by decide +kernel) rfl
noncomputable def dX6_init_208 := zr_dX6_init_208.1
noncomputable def zr_dX6_init_210 := zo_79 (q := 211) zr_dX6_init_208.2 rfl
noncomputable def dX6_init_210 := zr_dX6_init_210.1
noncomputable def zr_dX6_init_211 := zo_89 (q := 212) zr_dX6_init_210.2 rfl
noncomputable def dX6_init_211 := zr_dX6_init_211.1
noncomputable def zr_dX6_init_212 := zo_16 (k := 16)  (q := 214) zr_dX6_init_211.2 (by decide +kernel) rfl
noncomputable def dX6_init_212 := zr_dX6_init_212.1
noncomputable def zr_dX6_init_214 := zo_16 (k := 110)  (q := 216) zr_dX6_init_212.2 (by decide +kernel) rfl
noncomputable def dX6_init_214 := zr_dX6_init_214.1
noncomputable def zr_dX6_init_216 := zo_79 (q := 217) zr_dX6_init_214.2 rfl
noncomputable def dX6_init_216 := zr_dX6_init_216.1
noncomputable def zr_dX6_init_217 := zo_89 (q := 218) zr_dX6_init_216.2 rfl
noncomputable def dX6_init_217 := zr_dX6_init_217.1
noncomputable def zr_dX6_init_218 := zo_16 (k := 17)  (q := 220) zr_dX6_init_217.2 (by decide +kernel) rfl
noncomputable def dX6_init_218 := zr_dX6_init_218.1
noncomputable def zr_dX6_init_220 := zo_16 (k := 100)  (q := 222) zr_dX6_init_218.2 (by decide +kernel) rfl
noncomputable def dX6_init_220 := zr_dX6_init_220.1
noncomputable def zr_dX6_init_222 := zo_79 (q := 223) zr_dX6_init_220.2 rfl
noncomputable def dX6_init_222 := zr_dX6_init_222.1
noncomputable def zr_dX6_init_223 := zo_89 (q := 224) zr_dX6_init_222.2 rfl
noncomputable def dX6_init_223 := zr_dX6_init_223.1
noncomputable def zr_dX6_init_224 := zo_16 (k := 18)  (q := 226) zr_dX6_init_223.2 (by decide +kernel) rfl
noncomputable def dX6_init_224 := zr_dX6_init_224.1
noncomputable def zr_dX6_init_226 := zo_16 (k := 32)  (q := 228) zr_dX6_init_224.2 (by decide +kernel) rfl
noncomputable def dX6_init_226 := zr_dX6_init_226.1
noncomputable def zr_dX6_init_228 := zo_79 (q := 229) zr_dX6_init_226.2 rfl
noncomputable def dX6_init_228 := zr_dX6_init_228.1
noncomputable def zr_dX6_init_229 := zo_89 (q := 230) zr_dX6_init_228.2 rfl
noncomputable def dX6_init_229 := zr_dX6_init_229.1
noncomputable def zr_dX6_init_230 := zo_16 (k := 19)  (q := 232) zr_dX6_init_229.2 (by decide +kernel) rfl
noncomputable def dX6_init_230 := zr_dX6_init_230.1
noncomputable def zr_dX6_init_232 := zo_16 (k := 59)  (q := 234) zr_dX6_init_230.2 (by decide +kernel) rfl
noncomputable def dX6_init_232 := zr_dX6_init_232.1
noncomputable def zr_dX6_init_234 := zo_79 (q := 235) zr_dX6_init_232.2 rfl
noncomputable def dX6_init_234 := zr_dX6_init_234.1
noncomputable def zr_dX6_init_235 := zo_89 (q := 236) zr_dX6_init_234.2 rfl
noncomputable def dX6_init_235 := zr_dX6_init_235.1
noncomputable def zr_dX6_init_236 := zo_16 (k := 20)  (q := 238) zr_dX6_init_235.2 (by decide +kernel) rfl
noncomputable def dX6_init_236 := zr_dX6_init_236.1
noncomputable def zr_dX6_init_238 := zo_16 (k := 32)  (q := 240) zr_dX6_init_236.2 (by decide +kernel) rfl
noncomputable def dX6_init_238 := zr_dX6_init_238.1
noncomputable def zr_dX6_init_240 := zo_79 (q := 241) zr_dX6_init_238.2 rfl
noncomputable def dX6_init_240 := zr_dX6_init_240.1
noncomputable def zr_dX6_init_241 := zo_89 (q := 242) zr_dX6_init_240.2 rfl
noncomputable def dX6_init_241 := zr_dX6_init_241.1
noncomputable def zr_dX6_init_242 := zo_16 (k := 21)  (q := 244) zr_dX6_init_241.2 (by decide +kernel) rfl
noncomputable def dX6_init_242 := zr_dX6_init_242.1
noncomputable def zr_dX6_init_244 := zo_16 (k := 119)  (q := 246) zr_dX6_init_242.2 (by decide +kernel) rfl
noncomputable def dX6_init_244 := zr_dX6_init_244.1
noncomputable def zr_dX6_init_246 := zo_79 (q := 247) zr_dX6_init_244.2 rfl
noncomputable def dX6_init_246 := zr_dX6_init_246.1
noncomputable def zr_dX6_init_247 := zo_89 (q := 248) zr_dX6_init_246.2 rfl
noncomputable def dX6_init_247 := zr_dX6_init_247.1
noncomputable def zr_dX6_init_248 := zo_16 (k := 22)  (q := 250) zr_dX6_init_247.2 (by decide +kernel) rfl
noncomputable def dX6_init_248 := zr_dX6_init_248.1
noncomputable def zr_dX6_init_250 := zo_16 (k := 101)  (q := 252) zr_dX6_init_248.2 (by decide +kernel) rfl
noncomputable def dX6_init_250 := zr_dX6_init_250.1
noncomputable def zr_dX6_init_252 := zo_79 (q := 253) zr_dX6_init_250.2 rfl
noncomputable def dX6_init_252 := zr_dX6_init_252.1
noncomputable def zr_dX6_init_253 := zo_89 (q := 254) zr_dX6_init_252.2 rfl
noncomputable def dX6_init_253 := zr_dX6_init_253.1
noncomputable def zr_dX6_init_254 := zo_16 (k := 23)  (q := 256) zr_dX6_init_253.2 (by decide +kernel) rfl
noncomputable def dX6_init_254 := zr_dX6_init_254.1
noncomputable def zr_dX6_init_256 := zo_16 (k := 97)  (q := 258) zr_dX6_init_254.2 (by decide +kernel) rfl
noncomputable def dX6_init_256 := zr_dX6_init_256.1
noncomputable def zr_dX6_init_258 := zo_79 (q := 259) zr_dX6_init_256.2 rfl
noncomputable def dX6_init_258 := zr_dX6_init_258.1
noncomputable def zr_dX6_init_259 := zo_89 (q := 260) zr_dX6_init_258.2 rfl
noncomputable def dX6_init_259 := zr_dX6_init_259.1
noncomputable def zr_dX6_init_260 := zo_16 (k := 24)  (q := 262) zr_dX6_init_259.2 (by decide +kernel) rfl
noncomputable def dX6_init_260 := zr_dX6_init_260.1
noncomputable def zr_dX6_init_262 := zo_16 (k := 114)  (q := 264) zr_dX6_init_260.2 (by decide +kernel) rfl
noncomputable def dX6_init_262 := zr_dX6_init_262.1
noncomputable def zr_dX6_init_264 := zo_79 (q := 265) zr_dX6_init_262.2 rfl
noncomputable def dX6_init_264 := zr_dX6_init_264.1
noncomputable def zr_dX6_init_265 := zo_89 (q := 266) zr_dX6_init_264.2 rfl
noncomputable def dX6_init_265 := zr_dX6_init_265.1
noncomputable def zr_dX6_init_266 := zo_16 (k := 25)  (q := 268) zr_dX6_init_265.2 (by decide +kernel) rfl
noncomputable def dX6_init_266 := zr_dX6_init_266.1
noncomputable def zr_dX6_init_268 := zo_16 (k := 115)  (q := 270) zr_dX6_init_266.2 (by decide +kernel) rfl
noncomputable def dX6_init_268 := zr_dX6_init_268.1
noncomputable def zr_dX6_init_270 := zo_79 (q := 271) zr_dX6_init_268.2 rfl
noncomputable def dX6_init_270 := zr_dX6_init_270.1
noncomputable def zr_dX6_init_271 := zo_89 (q := 272) zr_dX6_init_270.2 rfl
noncomputable def dX6_init_271 := zr_dX6_init_271.1
noncomputable def zr_dX6_init_272 := zo_16 (k := 26)  (q := 274) zr_dX6_init_271.2 (by decide +kernel) rfl
noncomputable def dX6_init_272 := zr_dX6_init_272.1
noncomputable def zr_dX6_init_274 := zo_16 (k := 32)  (q := 276) zr_dX6_init_272.2 (by decide +kernel) rfl
noncomputable def dX6_init_274 := zr_dX6_init_274.1
noncomputable def zr_dX6_init_276 := zo_79 (q := 277) zr_dX6_init_274.2 rfl
noncomputable def dX6_init_276 := zr_dX6_init_276.1
noncomputable def zr_dX6_init_277 := zo_89 (q := 278) zr_dX6_init_276.2 rfl
noncomputable def dX6_init_277 := zr_dX6_init_277.1
noncomputable def zr_dX6_init_278 := zo_16 (k := 27)  (q := 280) zr_dX6_init_277.2 (by decide +kernel) rfl
noncomputable def dX6_init_278 := zr_dX6_init_278.1
noncomputable def zr_dX6_init_280 := zo_16 (k := 49)  (q := 282) zr_dX6_init_278.2 (by decide +kernel) rfl
noncomputable def dX6_init_280 := zr_dX6_init_280.1
noncomputable def zr_dX6_init_282 := zo_79 (q := 283) zr_dX6_init_280.2 rfl
noncomputable def dX6_init_282 := zr_dX6_init_282.1
noncomputable def zr_dX6_init_283 := zo_89 (q := 284) zr_dX6_init_282.2 rfl
noncomputable def dX6_init_283 := zr_dX6_init_283.1
noncomputable def zr_dX6_init_284 := zo_16 (k := 28)  (q := 286) zr_dX6_init_283.2 (by decide +kernel) rfl
noncomputable def dX6_init_284 := zr_dX6_init_284.1
noncomputable def zr_dX6_init_286 := zo_16 (k := 32)  (q := 288) zr_dX6_init_284.2 (by decide +kernel) rfl
noncomputable def dX6_init_286 := zr_dX6_init_286.1
noncomputable def zr_dX6_init_288 := zo_79 (q := 289) zr_dX6_init_286.2 rfl
noncomputable def dX6_init_288 := zr_dX6_init_288.1
noncomputable def zr_dX6_init_289 := zo_89 (q := 290) zr_dX6_init_288.2 rfl
noncomputable def dX6_init_289 := zr_dX6_init_289.1
noncomputable def zr_dX6_init_290 := zo_16 (k := 29)  (q := 292) zr_dX6_init_289.2 (by decide +kernel) rfl
noncomputable def dX6_init_290 := zr_dX6_init_290.1
noncomputable def zr_dX6_init_292 := zo_16 (k := 59)  (q := 294) zr_dX6_init_290.2 (by decide +kernel) rfl
noncomputable def dX6_init_292 := zr_dX6_init_292.1
noncomputable def zr_dX6_init_294 := zo_79 (q := 295) zr_dX6_init_292.2 rfl
noncomputable def dX6_init_294 := zr_dX6_init_294.1
noncomputable def zr_dX6_init_295 := zo_89 (q := 296) zr_dX6_init_294.2 rfl
noncomputable def dX6_init_295 := zr_dX6_init_295.1
noncomputable def zr_dX6_init_296 := zo_16 (k := 30)  (q := 298) zr_dX6_init_295.2 (by decide +kernel) rfl
noncomputable def dX6_init_296 := zr_dX6_init_296.1
noncomputable def zr_dX6_init_298 := zo_16 (k := 32)  (q := 300) zr_dX6_init_296.2 (by decide +kernel) rfl
noncomputable def dX6_init_298 := zr_dX6_init_298.1
noncomputable def zr_dX6_init_300 := zo_79 (q := 301) zr_dX6_init_298.2 rfl
noncomputable def dX6_init_300 := zr_dX6_init_300.1
noncomputable def zr_dX6_init_301 := zo_89 (q := 302) zr_dX6_init_300.2 rfl
noncomputable def dX6_init_301 := zr_dX6_init_301.1
noncomputable def zr_dX6_init_302 := zo_16 (k := 31)  (q := 304) zr_dX6_init_301.2 (by decide +kernel) rfl
noncomputable def dX6_init_302 := zr_dX6_init_302.1
noncomputable def zr_dX6_init_304 := zo_16 (k := 98)  (q := 306) zr_dX6_init_302.2 (by decide +kernel) rfl
noncomputable def dX6_init_304 := zr_dX6_init_304.1
noncomputable def zr_dX6_init_306 := zo_79 (q := 307) zr_dX6_init_304.2 rfl
noncomputable def dX6_init_306 := zr_dX6_init_306.1
noncomputable def zr_dX6_init_307 := zo_89 (q := 308) zr_dX6_init_306.2 rfl
noncomputable def dX6_init_307 := zr_dX6_init_307.1
noncomputable def zr_dX6_init_308 := zo_16 (k := 32)  (q := 310) zr_dX6_init_307.2 (by decide +kernel) rfl
noncomputable def dX6_init_308 := zr_dX6_init_308.1
noncomputable def zr_dX6_init_310 := zo_16 (k := 97)  (q := 312) zr_dX6_init_308.2 (by decide +kernel) rfl
noncomputable def dX6_init_310 := zr_dX6_init_310.1
noncomputable def zr_dX6_init_312 := zo_79 (q := 313) zr_dX6_init_310.2 rfl
noncomputable def dX6_init_312 := zr_dX6_init_312.1
noncomputable def zr_dX6_init_313 := zo_89 (q := 314) zr_dX6_init_312.2 rfl
noncomputable def dX6_init_313 := zr_dX6_init_313.1
noncomputable def zr_dX6_init_314 := zo_16 (k := 33)  (q := 316) zr_dX6_init_313.2 (by decide +kernel) rfl
noncomputable def dX6_init_314 := zr_dX6_init_314.1
noncomputable def zr_dX6_init_316 := zo_16 (k := 114)  (q := 318) zr_dX6_init_314.2 (by decide +kernel) rfl
noncomputable def dX6_init_316 := zr_dX6_init_316.1
noncomputable def zr_dX6_init_318 := zo_79 (q := 319) zr_dX6_init_316.2 rfl
noncomputable def dX6_init_318 := zr_dX6_init_318.1
noncomputable def zr_dX6_init_319 := zo_89 (q := 320) zr_dX6_init_318.2 rfl
noncomputable def dX6_init_319 := zr_dX6_init_319.1
noncomputable def zr_dX6_init_320 := zo_16 (k := 34)  (q := 322) zr_dX6_init_319.2 (by decide +kernel) rfl
noncomputable def dX6_init_320 := zr_dX6_init_320.1
noncomputable def zr_dX6_init_322 := zo_16 (k := 115)  (q := 324) zr_dX6_init_320.2 (by decide +kernel) rfl
noncomputable def dX6_init_322 := zr_dX6_init_322.1
noncomputable def zr_dX6_init_324 := zo_79 (q := 325) zr_dX6_init_322.2 rfl
noncomputable def dX6_init_324 := zr_dX6_init_324.1
noncomputable def zr_dX6_init_325 := zo_89 (q := 326) zr_dX6_init_324.2 rfl
noncomputable def dX6_init_325 := zr_dX6_init_325.1
noncomputable def zr_dX6_init_326 := zo_16 (k := 35)  (q := 328) zr_dX6_init_325.2 (by decide +kernel) rfl
noncomputable def dX6_init_326 := zr_dX6_init_326.1
noncomputable def zr_dX6_init_328 := zo_16 (k := 32)  (q := 330) zr_dX6_init_326.2 (by decide +kernel) rfl
noncomputable def dX6_init_328 := zr_dX6_init_328.1
noncomputable def zr_dX6_init_330 := zo_79 (q := 331) zr_dX6_init_328.2 rfl
noncomputable def dX6_init_330 := zr_dX6_init_330.1
noncomputable def zr_dX6_init_331 := zo_89 (q := 332) zr_dX6_init_330.2 rfl
noncomputable def dX6_init_331 := zr_dX6_init_331.1
noncomputable def zr_dX6_init_332 := zo_16 (k := 36)  (q := 334) zr_dX6_init_331.2 (by decide +kernel) rfl
noncomputable def dX6_init_332 := zr_dX6_init_332.1
noncomputable def zr_dX6_init_334 := zo_16 (k := 51)  (q := 336) zr_dX6_init_332.2 (by decide +kernel) rfl
noncomputable def dX6_init_334 := zr_dX6_init_334.1
noncomputable def zr_dX6_init_336 := zo_79 (q := 337) zr_dX6_init_334.2 rfl
noncomputable def dX6_init_336 := zr_dX6_init_336.1
noncomputable def zr_dX6_init_337 := zo_89 (q := 338) zr_dX6_init_336.2 rfl
noncomputable def dX6_init_337 := zr_dX6_init_337.1
noncomputable def zr_dX6_init_338 := zo_16 (k := 37)  (q := 340) zr_dX6_init_337.2 (by decide +kernel) rfl
noncomputable def dX6_init_338 := zr_dX6_init_338.1
noncomputable def zr_dX6_init_340 := zo_16 (k := 48)  (q := 342) zr_dX6_init_338.2 (by decide +kernel) rfl
noncomputable def dX6_init_340 := zr_dX6_init_340.1
noncomputable def zr_dX6_init_342 := zo_79 (q := 343) zr_dX6_init_340.2 rfl
noncomputable def dX6_init_342 := zr_dX6_init_342.1
noncomputable def zr_dX6_init_343 := zo_89 (q := 344) zr_dX6_init_342.2 rfl
noncomputable def dX6_init_343 := zr_dX6_init_343.1
noncomputable def zr_dX6_init_344 := zo_16 (k := 38)  (q := 346) zr_dX6_init_343.2 (by decide +kernel) rfl
noncomputable def dX6_init_344 := zr_dX6_init_344.1
noncomputable def zr_dX6_init_346 := zo_16 (k := 32)  (q := 348) zr_dX6_init_344.2 (by decide +kernel) rfl
noncomputable def dX6_init_346 := zr_dX6_init_346.1
noncomputable def zr_dX6_init_348 := zo_79 (q := 349) zr_dX6_init_346.2 rfl
noncomputable def dX6_init_348 := zr_dX6_init_348.1
noncomputable def zr_dX6_init_349 := zo_89 (q := 350) zr_dX6_init_348.2 rfl
noncomputable def dX6_init_349 := zr_dX6_init_349.1
noncomputable def zr_dX6_init_350 := zo_16 (k := 39)  (q := 352) zr_dX6_init_349.2 (by decide +kernel) rfl
noncomputable def dX6_init_350 := zr_dX6_init_350.1
noncomputable def zr_dX6_init_352 := zo_16 (k := 59)  (q := 354) zr_dX6_init_350.2 (by decide +kernel) rfl
noncomputable def dX6_init_352 := zr_dX6_init_352.1
noncomputable def zr_dX6_init_354 := zo_79 (q := 355) zr_dX6_init_352.2 rfl
noncomputable def dX6_init_354 := zr_dX6_init_354.1
noncomputable def zr_dX6_init_355 := zo_181 (k := 46)  (q := 358) zr_dX6_init_354.2 rfl rfl
noncomputable def dX6_init_355 := zr_dX6_init_355.1
noncomputable def zr_dX6_init_358 := zo_42 (q := 359) zr_dX6_init_355.2 rfl
noncomputable def dX6_init_358 := zr_dX6_init_358.1
noncomputable def zr_dX6_init_359 := zo_16 (k := 96)  (q := 361) zr_dX6_init_358.2 (by decide +kernel) rfl
noncomputable def dX6_init_359 := zr_dX6_init_359.1
theorem dX6_init_361 : zD cX6_init 361 (.newarray .int) 2 := by decide +kernel
noncomputable def zr_dX6_init_361 := zskip zr_dX6_init_359.2 2 (q := 363) rfl
noncomputable def zr_dX6_init_363 := zo_89 (q := 364) zr_dX6_init_361 rfl
noncomputable def dX6_init_363 := zr_dX6_init_363.1
noncomputable def zr_dX6_init_364 := zo_3 (q := 365) zr_dX6_init_363.2 rfl
noncomputable def dX6_init_364 := zr_dX6_init_364.1
noncomputable def zr_dX6_init_365 := zo_16 (k := 102)  (q := 367) zr_dX6_init_364.2 (by decide +kernel) rfl
noncomputable def dX6_init_365 := zr_dX6_init_365.1
noncomputable def zr_dX6_init_367 := zo_79 (q := 368) zr_dX6_init_365.2 rfl
noncomputable def dX6_init_367 := zr_dX6_init_367.1
noncomputable def zr_dX6_init_368 := zo_89 (q := 369) zr_dX6_init_367.2 rfl
noncomputable def dX6_init_368 := zr_dX6_init_368.1
noncomputable def zr_dX6_init_369 := zo_4 (q := 370) zr_dX6_init_368.2 rfl
noncomputable def dX6_init_369 := zr_dX6_init_369.1
noncomputable def zr_dX6_init_370 := zo_16 (k := 101)  (q := 372) zr_dX6_init_369.2 (by decide +kernel) rfl
noncomputable def dX6_init_370 := zr_dX6_init_370.1
noncomputable def zr_dX6_init_372 := zo_79 (q := 373) zr_dX6_init_370.2 rfl
noncomputable def dX6_init_372 := zr_dX6_init_372.1
noncomputable def zr_dX6_init_373 := zo_89 (q := 374) zr_dX6_init_372.2 rfl
noncomputable def dX6_init_373 := zr_dX6_init_373.1
noncomputable def zr_dX6_init_374 := zo_5 (q := 375) zr_dX6_init_373.2 rfl
noncomputable def dX6_init_374 := zr_dX6_init_374.1
noncomputable def zr_dX6_init_375 := zo_16 (k := 101)  (q := 377) zr_dX6_init_374.2 (by decide +kernel) rfl
noncomputable def dX6_init_375 := zr_dX6_init_375.1
noncomputable def zr_dX6_init_377 := zo_79 (q := 378) zr_dX6_init_375.2 rfl
noncomputable def dX6_init_377 := zr_dX6_init_377.1
noncomputable def zr_dX6_init_378 := zo_89 (q := 379) zr_dX6_init_377.2 rfl
noncomputable def dX6_init_378 := zr_dX6_init_378.1
noncomputable def zr_dX6_init_379 := zo_6 (q := 380) zr_dX6_init_378.2 rfl
noncomputable def dX6_init_379 := zr_dX6_init_379.1
noncomputable def zr_dX6_init_380 := zo_16 (k := 108)  (q := 382) zr_dX6_init_379.2 (by decide +kernel) rfl
noncomputable def dX6_init_380 := zr_dX6_init_380.1
noncomputable def zr_dX6_init_382 := zo_79 (q := 383) zr_dX6_init_380.2 rfl
noncomputable def dX6_init_382 := zr_dX6_init_382.1
noncomputable def zr_dX6_init_383 := zo_89 (q := 384) zr_dX6_init_382.2 rfl
noncomputable def dX6_init_383 := zr_dX6_init_383.1
noncomputable def zr_dX6_init_384 := zo_7 (q := 385) zr_dX6_init_383.2 rfl
noncomputable def dX6_init_384 := zr_dX6_init_384.1
noncomputable def zr_dX6_init_385 := zo_16 (k := 115)  (q := 387) zr_dX6_init_384.2 (by decide +kernel) rfl
noncomputable def dX6_init_385 := zr_dX6_init_385.1
noncomputable def zr_dX6_init_387 := zo_79 (q := 388) zr_dX6_init_385.2 rfl
noncomputable def dX6_init_387 := zr_dX6_init_387.1
noncomputable def zr_dX6_init_388 := zo_89 (q := 389) zr_dX6_init_387.2 rfl
noncomputable def dX6_init_388 := zr_dX6_init_388.1
noncomputable def zr_dX6_init_389 := zo_8 (q := 390) zr_dX6_init_388.2 rfl
noncomputable def dX6_init_389 := zr_dX6_init_389.1
noncomputable def zr_dX6_init_390 := zo_16 (k := 32)  (q := 392) zr_dX6_init_389.2 (by decide +kernel) rfl
noncomputable def dX6_init_390 := zr_dX6_init_390.1
noncomputable def zr_dX6_init_392 := zo_79 (q := 393) zr_dX6_init_390.2 rfl
noncomputable def dX6_init_392 := zr_dX6_init_392.1
noncomputable def zr_dX6_init_393 := zo_89 (q := 394) zr_dX6_init_392.2 rfl
noncomputable def dX6_init_393 := zr_dX6_init_393.1
noncomputable def zr_dX6_init_394 := zo_16 (k := 6)  (q := 396) zr_dX6_init_393.2 (by decide +kernel) rfl
noncomputable def dX6_init_394 := zr_dX6_init_394.1
noncomputable def zr_dX6_init_396 := zo_16 (k := 32)  (q := 398) zr_dX6_init_394.2 (by decide +kernel) rfl
noncomputable def dX6_init_396 := zr_dX6_init_396.1
noncomputable def zr_dX6_init_398 := zo_79 (q := 399) zr_dX6_init_396.2 rfl
noncomputable def dX6_init_398 := zr_dX6_init_398.1
noncomputable def zr_dX6_init_399 := zo_89 (q := 400) zr_dX6_init_398.2 rfl
noncomputable def dX6_init_399 := zr_dX6_init_399.1
noncomputable def zr_dX6_init_400 := zo_16 (k := 7)  (q := 402) zr_dX6_init_399.2 (by decide +kernel) rfl
noncomputable def dX6_init_400 := zr_dX6_init_400.1
noncomputable def zr_dX6_init_402 := zo_16 (k := 32)  (q := 404) zr_dX6_init_400.2 (by decide +kernel) rfl
noncomputable def dX6_init_402 := zr_dX6_init_402.1
noncomputable def zr_dX6_init_404 := zo_79 (q := 405) zr_dX6_init_402.2 rfl
noncomputable def dX6_init_404 := zr_dX6_init_404.1
noncomputable def zr_dX6_init_405 := zo_89 (q := 406) zr_dX6_init_404.2 rfl
noncomputable def dX6_init_405 := zr_dX6_init_405.1
noncomputable def zr_dX6_init_406 := zo_16 (k := 8)  (q := 408) zr_dX6_init_405.2 (by decide +kernel) rfl
noncomputable def dX6_init_406 := zr_dX6_init_406.1
noncomputable def zr_dX6_init_408 := zo_16 (k := 119)  (q := 410) zr_dX6_init_406.2 (by decide +kernel) rfl
noncomputable def dX6_init_408 := zr_dX6_init_408.1
noncomputable def zr_dX6_init_410 := zo_79 (q := 411) zr_dX6_init_408.2 rfl
noncomputable def dX6_init_410 := zr_dX6_init_410.1
noncomputable def zr_dX6_init_411 := zo_89 (q := 412) zr_dX6_init_410.2 rfl
noncomputable def dX6_init_411 := zr_dX6_init_411.1
noncomputable def zr_dX6_init_412 := zo_16 (k := 9)  (q := 414) zr_dX6_init_411.2 (by decide +kernel) rfl
noncomputable def dX6_init_412 := zr_dX6_init_412.1
noncomputable def zr_dX6_init_414 := zo_16 (k := 101)  (q := 416) zr_dX6_init_412.2 (by decide +kernel) rfl
noncomputable def dX6_init_414 := zr_dX6_init_414.1
noncomputable def zr_dX6_init_416 := zo_79 (q := 417) zr_dX6_init_414.2 rfl
noncomputable def dX6_init_416 := zr_dX6_init_416.1
noncomputable def zr_dX6_init_417 := zo_89 (q := 418) zr_dX6_init_416.2 rfl
noncomputable def dX6_init_417 := zr_dX6_init_417.1
noncomputable def zr_dX6_init_418 := zo_16 (k := 10)  (q := 420) zr_dX6_init_417.2 (by decide +kernel) rfl
noncomputable def dX6_init_418 := zr_dX6_init_418.1
noncomputable def zr_dX6_init_420 := zo_16 (k := 97)  (q := 422) zr_dX6_init_418.2 (by decide +kernel) rfl
noncomputable def dX6_init_420 := zr_dX6_init_420.1
noncomputable def zr_dX6_init_422 := zo_79 (q := 423) zr_dX6_init_420.2 rfl
noncomputable def dX6_init_422 := zr_dX6_init_422.1
noncomputable def zr_dX6_init_423 := zo_89 (q := 424) zr_dX6_init_422.2 rfl
noncomputable def dX6_init_423 := zr_dX6_init_423.1
noncomputable def zr_dX6_init_424 := zo_16 (k := 11)  (q := 426) zr_dX6_init_423.2 (by decide +kernel) rfl
noncomputable def dX6_init_424 := zr_dX6_init_424.1
noncomputable def zr_dX6_init_426 := zo_16 (k := 114)  (q := 428) zr_dX6_init_424.2 (by decide +kernel) rfl
noncomputable def dX6_init_426 := zr_dX6_init_426.1
noncomputable def zr_dX6_init_428 := zo_79 (q := 429) zr_dX6_init_426.2 rfl
noncomputable def dX6_init_428 := zr_dX6_init_428.1
noncomputable def zr_dX6_init_429 := zo_89 (q := 430) zr_dX6_init_428.2 rfl
noncomputable def dX6_init_429 := zr_dX6_init_429.1
noncomputable def zr_dX6_init_430 := zo_16 (k := 12)  (q := 432) zr_dX6_init_429.2 (by decide +kernel) rfl
noncomputable def dX6_init_430 := zr_dX6_init_430.1
noncomputable def zr_dX6_init_432 := zo_16 (k := 115)  (q := 434) zr_dX6_init_430.2 (by decide +kernel) rfl
noncomputable def dX6_init_432 := zr_dX6_init_432.1
noncomputable def zr_dX6_init_434 := zo_79 (q := 435) zr_dX6_init_432.2 rfl
noncomputable def dX6_init_434 := zr_dX6_init_434.1
noncomputable def zr_dX6_init_435 := zo_89 (q := 436) zr_dX6_init_434.2 rfl
noncomputable def dX6_init_435 := zr_dX6_init_435.1
noncomputable def zr_dX6_init_436 := zo_16 (k := 13)  (q := 438) zr_dX6_init_435.2 (by decide +kernel) rfl
noncomputable def dX6_init_436 := zr_dX6_init_436.1
noncomputable def zr_dX6_init_438 := zo_16 (k := 32)  (q := 440) zr_dX6_init_436.2 (by decide +kernel) rfl
noncomputable def dX6_init_438 := zr_dX6_init_438.1
noncomputable def zr_dX6_init_440 := zo_79 (q := 441) zr_dX6_init_438.2 rfl
noncomputable def dX6_init_440 := zr_dX6_init_440.1
noncomputable def zr_dX6_init_441 := zo_89 (q := 442) zr_dX6_init_440.2 rfl
noncomputable def dX6_init_441 := zr_dX6_init_441.1
noncomputable def zr_dX6_init_442 := zo_16 (k := 14)  (q := 444) zr_dX6_init_441.2 (by decide +kernel) rfl
noncomputable def dX6_init_442 := zr_dX6_init_442.1
noncomputable def zr_dX6_init_444 := zo_16 (k := 32)  (q := 446) zr_dX6_init_442.2 (by decide +kernel) rfl
noncomputable def dX6_init_444 := zr_dX6_init_444.1
noncomputable def zr_dX6_init_446 := zo_79 (q := 447) zr_dX6_init_444.2 rfl
noncomputable def dX6_init_446 := zr_dX6_init_446.1
noncomputable def zr_dX6_init_447 := zo_89 (q := 448) zr_dX6_init_446.2 rfl
noncomputable def dX6_init_447 := zr_dX6_init_447.1
noncomputable def zr_dX6_init_448 := zo_16 (k := 15)  (q := 450) zr_dX6_init_447.2 (by decide +kernel) rfl
noncomputable def dX6_init_448 := zr_dX6_init_448.1
noncomputable def zr_dX6_init_450 := zo_16 (k := 32)  (q := 452) zr_dX6_init_448.2 (by decide +kernel) rfl
noncomputable def dX6_init_450 := zr_dX6_init_450.1
noncomputable def zr_dX6_init_452 := zo_79 (q := 453) zr_dX6_init_450.2 rfl
noncomputable def dX6_init_452 := zr_dX6_init_452.1
noncomputable def zr_dX6_init_453 := zo_89 (q := 454) zr_dX6_init_452.2 rfl
noncomputable def dX6_init_453 := zr_dX6_init_453.1
noncomputable def zr_dX6_init_454 := zo_16 (k := 16)  (q := 456) zr_dX6_init_453.2 (by decide +kernel) rfl
noncomputable def dX6_init_454 := zr_dX6_init_454.1
noncomputable def zr_dX6_init_456 := zo_16 (k := 98)  (q := 458) zr_dX6_init_454.2 (by decide +kernel) rfl
noncomputable def dX6_init_456 := zr_dX6_init_456.1
noncomputable def zr_dX6_init_458 := zo_79 (q := 459) zr_dX6_init_456.2 rfl
noncomputable def dX6_init_458 := zr_dX6_init_458.1
noncomputable def zr_dX6_init_459 := zo_89 (q := 460) zr_dX6_init_458.2 rfl
noncomputable def dX6_init_459 := zr_dX6_init_459.1
noncomputable def zr_dX6_init_460 := zo_16 (k := 17)  (q := 462) zr_dX6_init_459.2 (by decide +kernel) rfl
noncomputable def dX6_init_460 := zr_dX6_init_460.1
noncomputable def zr_dX6_init_462 := zo_16 (k := 97)  (q := 464) zr_dX6_init_460.2 (by decide +kernel) rfl
noncomputable def dX6_init_462 := zr_dX6_init_462.1
noncomputable def zr_dX6_init_464 := zo_79 (q := 465) zr_dX6_init_462.2 rfl
noncomputable def dX6_init_464 := zr_dX6_init_464.1
noncomputable def zr_dX6_init_465 := zo_89 (q := 466) zr_dX6_init_464.2 rfl
noncomputable def dX6_init_465 := zr_dX6_init_465.1
noncomputable def zr_dX6_init_466 := zo_16 (k := 18)  (q := 468) zr_dX6_init_465.2 (by decide +kernel) rfl
noncomputable def dX6_init_466 := zr_dX6_init_466.1
noncomputable def zr_dX6_init_468 := zo_16 (k := 114)  (q := 470) zr_dX6_init_466.2 (by decide +kernel) rfl
noncomputable def dX6_init_468 := zr_dX6_init_468.1
noncomputable def zr_dX6_init_470 := zo_79 (q := 471) zr_dX6_init_468.2 rfl
noncomputable def dX6_init_470 := zr_dX6_init_470.1
noncomputable def zr_dX6_init_471 := zo_89 (q := 472) zr_dX6_init_470.2 rfl
noncomputable def dX6_init_471 := zr_dX6_init_471.1
noncomputable def zr_dX6_init_472 := zo_16 (k := 19)  (q := 474) zr_dX6_init_471.2 (by decide +kernel) rfl
noncomputable def dX6_init_472 := zr_dX6_init_472.1
noncomputable def zr_dX6_init_474 := zo_16 (k := 115)  (q := 476) zr_dX6_init_472.2 (by decide +kernel) rfl
noncomputable def dX6_init_474 := zr_dX6_init_474.1
noncomputable def zr_dX6_init_476 := zo_79 (q := 477) zr_dX6_init_474.2 rfl
noncomputable def dX6_init_476 := zr_dX6_init_476.1
noncomputable def zr_dX6_init_477 := zo_89 (q := 478) zr_dX6_init_476.2 rfl
noncomputable def dX6_init_477 := zr_dX6_init_477.1
noncomputable def zr_dX6_init_478 := zo_16 (k := 20)  (q := 480) zr_dX6_init_477.2 (by decide +kernel) rfl
noncomputable def dX6_init_478 := zr_dX6_init_478.1
noncomputable def zr_dX6_init_480 := zo_16 (k := 32)  (q := 482) zr_dX6_init_478.2 (by decide +kernel) rfl
noncomputable def dX6_init_480 := zr_dX6_init_480.1
noncomputable def zr_dX6_init_482 := zo_79 (q := 483) zr_dX6_init_480.2 rfl
noncomputable def dX6_init_482 := zr_dX6_init_482.1
noncomputable def zr_dX6_init_483 := zo_89 (q := 484) zr_dX6_init_482.2 rfl
noncomputable def dX6_init_483 := zr_dX6_init_483.1
noncomputable def zr_dX6_init_484 := zo_16 (k := 21)  (q := 486) zr_dX6_init_483.2 (by decide +kernel) rfl
noncomputable def dX6_init_484 := zr_dX6_init_484.1
noncomputable def zr_dX6_init_486 := zo_16 (k := 32)  (q := 488) zr_dX6_init_484.2 (by decide +kernel) rfl
noncomputable def dX6_init_486 := zr_dX6_init_486.1
noncomputable def zr_dX6_init_488 := zo_79 (q := 489) zr_dX6_init_486.2 rfl
noncomputable def dX6_init_488 := zr_dX6_init_488.1
noncomputable def zr_dX6_init_489 := zo_89 (q := 490) zr_dX6_init_488.2 rfl
noncomputable def dX6_init_489 := zr_dX6_init_489.1
noncomputable def zr_dX6_init_490 := zo_16 (k := 22)  (q := 492) zr_dX6_init_489.2 (by decide +kernel) rfl
noncomputable def dX6_init_490 := zr_dX6_init_490.1
noncomputable def zr_dX6_init_492 := zo_16 (k := 32)  (q := 494) zr_dX6_init_490.2 (by decide +kernel) rfl
noncomputable def dX6_init_492 := zr_dX6_init_492.1
noncomputable def zr_dX6_init_494 := zo_79 (q := 495) zr_dX6_init_492.2 rfl
noncomputable def dX6_init_494 := zr_dX6_init_494.1
noncomputable def zr_dX6_init_495 := zo_89 (q := 496) zr_dX6_init_494.2 rfl
noncomputable def dX6_init_495 := zr_dX6_init_495.1
noncomputable def zr_dX6_init_496 := zo_16 (k := 23)  (q := 498) zr_dX6_init_495.2 (by decide +kernel) rfl
noncomputable def dX6_init_496 := zr_dX6_init_496.1
noncomputable def zr_dX6_init_498 := zo_16 (k := 32)  (q := 500) zr_dX6_init_496.2 (by decide +kernel) rfl
noncomputable def dX6_init_498 := zr_dX6_init_498.1
noncomputable def zr_dX6_init_500 := zo_79 (q := 501) zr_dX6_init_498.2 rfl
noncomputable def dX6_init_500 := zr_dX6_init_500.1
noncomputable def zr_dX6_init_501 := zo_89 (q := 502) zr_dX6_init_500.2 rfl
noncomputable def dX6_init_501 := zr_dX6_init_501.1
noncomputable def zr_dX6_init_502 := zo_16 (k := 24)  (q := 504) zr_dX6_init_501.2 (by decide +kernel) rfl
noncomputable def dX6_init_502 := zr_dX6_init_502.1
noncomputable def zr_dX6_init_504 := zo_16 (k := 115)  (q := 506) zr_dX6_init_502.2 (by decide +kernel) rfl
noncomputable def dX6_init_504 := zr_dX6_init_504.1
noncomputable def zr_dX6_init_506 := zo_79 (q := 507) zr_dX6_init_504.2 rfl
noncomputable def dX6_init_506 := zr_dX6_init_506.1
noncomputable def zr_dX6_init_507 := zo_89 (q := 508) zr_dX6_init_506.2 rfl
noncomputable def dX6_init_507 := zr_dX6_init_507.1
noncomputable def zr_dX6_init_508 := zo_16 (k := 25)  (q := 510) zr_dX6_init_507.2 (by decide +kernel) rfl
noncomputable def dX6_init_508 := zr_dX6_init_508.1
noncomputable def zr_dX6_init_510 := zo_16 (k := 105)  (q := 512) zr_dX6_init_508.2 (by decide +kernel) rfl
noncomputable def dX6_init_510 := zr_dX6_init_510.1
noncomputable def zr_dX6_init_512 := zo_79 (q := 513) zr_dX6_init_510.2 rfl
noncomputable def dX6_init_512 := zr_dX6_init_512.1
noncomputable def zr_dX6_init_513 := zo_89 (q := 514) zr_dX6_init_512.2 rfl
noncomputable def dX6_init_513 := zr_dX6_init_513.1
noncomputable def zr_dX6_init_514 := zo_16 (k := 26)  (q := 516) zr_dX6_init_513.2 (by decide +kernel) rfl
noncomputable def dX6_init_514 := zr_dX6_init_514.1
noncomputable def zr_dX6_init_516 := zo_16 (k := 122)  (q := 518) zr_dX6_init_514.2 (by decide +kernel) rfl
noncomputable def dX6_init_516 := zr_dX6_init_516.1
noncomputable def zr_dX6_init_518 := zo_79 (q := 519) zr_dX6_init_516.2 rfl
noncomputable def dX6_init_518 := zr_dX6_init_518.1
noncomputable def zr_dX6_init_519 := zo_89 (q := 520) zr_dX6_init_518.2 rfl
noncomputable def dX6_init_519 := zr_dX6_init_519.1
noncomputable def zr_dX6_init_520 := zo_16 (k := 27)  (q := 522) zr_dX6_init_519.2 (by decide +kernel) rfl
noncomputable def dX6_init_520 := zr_dX6_init_520.1
noncomputable def zr_dX6_init_522 := zo_16 (k := 101)  (q := 524) zr_dX6_init_520.2 (by decide +kernel) rfl
noncomputable def dX6_init_522 := zr_dX6_init_522.1
noncomputable def zr_dX6_init_524 := zo_79 (q := 525) zr_dX6_init_522.2 rfl
noncomputable def dX6_init_524 := zr_dX6_init_524.1
noncomputable def zr_dX6_init_525 := zo_89 (q := 526) zr_dX6_init_524.2 rfl
noncomputable def dX6_init_525 := zr_dX6_init_525.1
noncomputable def zr_dX6_init_526 := zo_16 (k := 28)  (q := 528) zr_dX6_init_525.2 (by decide +kernel) rfl
noncomputable def dX6_init_526 := zr_dX6_init_526.1
noncomputable def zr_dX6_init_528 := zo_16 (k := 32)  (q := 530) zr_dX6_init_526.2 (by decide +kernel) rfl
noncomputable def dX6_init_528 := zr_dX6_init_528.1
noncomputable def zr_dX6_init_530 := zo_79 (q := 531) zr_dX6_init_528.2 rfl
noncomputable def dX6_init_530 := zr_dX6_init_530.1
noncomputable def zr_dX6_init_531 := zo_89 (q := 532) zr_dX6_init_530.2 rfl
noncomputable def dX6_init_531 := zr_dX6_init_531.1
noncomputable def zr_dX6_init_532 := zo_16 (k := 29)  (q := 534) zr_dX6_init_531.2 (by decide +kernel) rfl
noncomputable def dX6_init_532 := zr_dX6_init_532.1
noncomputable def zr_dX6_init_534 := zo_16 (k := 32)  (q := 536) zr_dX6_init_532.2 (by decide +kernel) rfl
noncomputable def dX6_init_534 := zr_dX6_init_534.1
noncomputable def zr_dX6_init_536 := zo_79 (q := 537) zr_dX6_init_534.2 rfl
noncomputable def dX6_init_536 := zr_dX6_init_536.1
noncomputable def zr_dX6_init_537 := zo_89 (q := 538) zr_dX6_init_536.2 rfl
noncomputable def dX6_init_537 := zr_dX6_init_537.1
noncomputable def zr_dX6_init_538 := zo_16 (k := 30)  (q := 540) zr_dX6_init_537.2 (by decide +kernel) rfl
noncomputable def dX6_init_538 := zr_dX6_init_538.1
noncomputable def zr_dX6_init_540 := zo_16 (k := 32)  (q := 542) zr_dX6_init_538.2 (by decide +kernel) rfl
noncomputable def dX6_init_540 := zr_dX6_init_540.1
noncomputable def zr_dX6_init_542 := zo_79 (q := 543) zr_dX6_init_540.2 rfl
noncomputable def dX6_init_542 := zr_dX6_init_542.1
noncomputable def zr_dX6_init_543 := zo_89 (q := 544) zr_dX6_init_542.2 rfl
noncomputable def dX6_init_543 := zr_dX6_init_543.1
noncomputable def zr_dX6_init_544 := zo_16 (k := 31)  (q := 546) zr_dX6_init_543.2 (by decide +kernel) rfl
noncomputable def dX6_init_544 := zr_dX6_init_544.1
noncomputable def zr_dX6_init_546 := zo_16 (k := 32)  (q := 548) zr_dX6_init_544.2 (by decide +kernel) rfl
noncomputable def dX6_init_546 := zr_dX6_init_546.1
noncomputable def zr_dX6_init_548 := zo_79 (q := 549) zr_dX6_init_546.2 rfl
noncomputable def dX6_init_548 := zr_dX6_init_548.1
noncomputable def zr_dX6_init_549 := zo_89 (q := 550) zr_dX6_init_548.2 rfl
noncomputable def dX6_init_549 := zr_dX6_init_549.1
noncomputable def zr_dX6_init_550 := zo_16 (k := 32)  (q := 552) zr_dX6_init_549.2 (by decide +kernel) rfl
noncomputable def dX6_init_550 := zr_dX6_init_550.1
noncomputable def zr_dX6_init_552 := zo_16 (k := 114)  (q := 554) zr_dX6_init_550.2 (by decide +kernel) rfl
noncomputable def dX6_init_552 := zr_dX6_init_552.1
noncomputable def zr_dX6_init_554 := zo_79 (q := 555) zr_dX6_init_552.2 rfl
noncomputable def dX6_init_554 := zr_dX6_init_554.1
noncomputable def zr_dX6_init_555 := zo_89 (q := 556) zr_dX6_init_554.2 rfl
noncomputable def dX6_init_555 := zr_dX6_init_555.1
noncomputable def zr_dX6_init_556 := zo_16 (k := 33)  (q := 558) zr_dX6_init_555.2 (by decide +kernel) rfl
noncomputable def dX6_init_556 := zr_dX6_init_556.1
noncomputable def zr_dX6_init_558 := zo_16 (k := 111)  (q := 560) zr_dX6_init_556.2 (by decide +kernel) rfl
noncomputable def dX6_init_558 := zr_dX6_init_558.1
noncomputable def zr_dX6_init_560 := zo_79 (q := 561) zr_dX6_init_558.2 rfl
noncomputable def dX6_init_560 := zr_dX6_init_560.1
noncomputable def zr_dX6_init_561 := zo_89 (q := 562) zr_dX6_init_560.2 rfl
noncomputable def dX6_init_561 := zr_dX6_init_561.1
noncomputable def zr_dX6_init_562 := zo_16 (k := 34)  (q := 564) zr_dX6_init_561.2 (by decide +kernel) rfl
noncomputable def dX6_init_562 := zr_dX6_init_562.1
noncomputable def zr_dX6_init_564 := zo_16 (k := 117)  (q := 566) zr_dX6_init_562.2 (by decide +kernel) rfl
noncomputable def dX6_init_564 := zr_dX6_init_564.1
noncomputable def zr_dX6_init_566 := zo_79 (q := 567) zr_dX6_init_564.2 rfl
noncomputable def dX6_init_566 := zr_dX6_init_566.1
noncomputable def zr_dX6_init_567 := zo_89 (q := 568) zr_dX6_init_566.2 rfl
noncomputable def dX6_init_567 := zr_dX6_init_567.1
noncomputable def zr_dX6_init_568 := zo_16 (k := 35)  (q := 570) zr_dX6_init_567.2 (by decide +kernel) rfl
noncomputable def dX6_init_568 := zr_dX6_init_568.1
noncomputable def zr_dX6_init_570 := zo_16 (k := 110)  (q := 572) zr_dX6_init_568.2 (by decide +kernel) rfl
noncomputable def dX6_init_570 := zr_dX6_init_570.1
noncomputable def zr_dX6_init_572 := zo_79 (q := 573) zr_dX6_init_570.2 rfl
noncomputable def dX6_init_572 := zr_dX6_init_572.1
noncomputable def zr_dX6_init_573 := zo_89 (q := 574) zr_dX6_init_572.2 rfl
noncomputable def dX6_init_573 := zr_dX6_init_573.1
noncomputable def zr_dX6_init_574 := zo_16 (k := 36)  (q := 576) zr_dX6_init_573.2 (by decide +kernel) rfl
noncomputable def dX6_init_574 := zr_dX6_init_574.1
noncomputable def zr_dX6_init_576 := zo_16 (k := 100)  (q := 578) zr_dX6_init_574.2 (by decide +kernel) rfl
noncomputable def dX6_init_576 := zr_dX6_init_576.1
noncomputable def zr_dX6_init_578 := zo_79 (q := 579) zr_dX6_init_576.2 rfl
noncomputable def dX6_init_578 := zr_dX6_init_578.1
noncomputable def zr_dX6_init_579 := zo_89 (q := 580) zr_dX6_init_578.2 rfl
noncomputable def dX6_init_579 := zr_dX6_init_579.1
noncomputable def zr_dX6_init_580 := zo_16 (k := 37)  (q := 582) zr_dX6_init_579.2 (by decide +kernel) rfl
noncomputable def dX6_init_580 := zr_dX6_init_580.1
noncomputable def zr_dX6_init_582 := zo_16 (k := 32)  (q := 584) zr_dX6_init_580.2 (by decide +kernel) rfl
noncomputable def dX6_init_582 := zr_dX6_init_582.1
noncomputable def zr_dX6_init_584 := zo_79 (q := 585) zr_dX6_init_582.2 rfl
noncomputable def dX6_init_584 := zr_dX6_init_584.1
noncomputable def zr_dX6_init_585 := zo_89 (q := 586) zr_dX6_init_584.2 rfl
noncomputable def dX6_init_585 := zr_dX6_init_585.1
noncomputable def zr_dX6_init_586 := zo_16 (k := 38)  (q := 588) zr_dX6_init_585.2 (by decide +kernel) rfl
noncomputable def dX6_init_586 := zr_dX6_init_586.1
noncomputable def zr_dX6_init_588 := zo_16 (k := 32)  (q := 590) zr_dX6_init_586.2 (by decide +kernel) rfl
noncomputable def dX6_init_588 := zr_dX6_init_588.1
noncomputable def zr_dX6_init_590 := zo_79 (q := 591) zr_dX6_init_588.2 rfl
noncomputable def dX6_init_590 := zr_dX6_init_590.1
noncomputable def zr_dX6_init_591 := zo_89 (q := 592) zr_dX6_init_590.2 rfl
noncomputable def dX6_init_591 := zr_dX6_init_591.1
noncomputable def zr_dX6_init_592 := zo_16 (k := 39)  (q := 594) zr_dX6_init_591.2 (by decide +kernel) rfl
noncomputable def dX6_init_592 := zr_dX6_init_592.1
noncomputable def zr_dX6_init_594 := zo_16 (k := 32)  (q := 596) zr_dX6_init_592.2 (by decide +kernel) rfl
noncomputable def dX6_init_594 := zr_dX6_init_594.1
noncomputable def zr_dX6_init_596 := zo_79 (q := 597) zr_dX6_init_594.2 rfl
noncomputable def dX6_init_596 := zr_dX6_init_596.1
noncomputable def zr_dX6_init_597 := zo_89 (q := 598) zr_dX6_init_596.2 rfl
noncomputable def dX6_init_597 := zr_dX6_init_597.1
noncomputable def zr_dX6_init_598 := zo_16 (k := 40)  (q := 600) zr_dX6_init_597.2 (by decide +kernel) rfl
noncomputable def dX6_init_598 := zr_dX6_init_598.1
noncomputable def zr_dX6_init_600 := zo_16 (k := 115)  (q := 602) zr_dX6_init_598.2 (by decide +kernel) rfl
noncomputable def dX6_init_600 := zr_dX6_init_600.1
noncomputable def zr_dX6_init_602 := zo_79 (q := 603) zr_dX6_init_600.2 rfl
noncomputable def dX6_init_602 := zr_dX6_init_602.1
noncomputable def zr_dX6_init_603 := zo_89 (q := 604) zr_dX6_init_602.2 rfl
noncomputable def dX6_init_603 := zr_dX6_init_603.1
noncomputable def zr_dX6_init_604 := zo_16 (k := 41)  (q := 606) zr_dX6_init_603.2 (by decide +kernel) rfl
noncomputable def dX6_init_604 := zr_dX6_init_604.1
noncomputable def zr_dX6_init_606 := zo_16 (k := 111)  (q := 608) zr_dX6_init_604.2 (by decide +kernel) rfl
noncomputable def dX6_init_606 := zr_dX6_init_606.1
noncomputable def zr_dX6_init_608 := zo_79 (q := 609) zr_dX6_init_606.2 rfl
noncomputable def dX6_init_608 := zr_dX6_init_608.1
noncomputable def zr_dX6_init_609 := zo_89 (q := 610) zr_dX6_init_608.2 rfl
noncomputable def dX6_init_609 := zr_dX6_init_609.1
noncomputable def zr_dX6_init_610 := zo_16 (k := 42)  (q := 612) zr_dX6_init_609.2 (by decide +kernel) rfl
noncomputable def dX6_init_610 := zr_dX6_init_610.1
noncomputable def zr_dX6_init_612 := zo_16 (k := 108)  (q := 614) zr_dX6_init_610.2 (by decide +kernel) rfl
noncomputable def dX6_init_612 := zr_dX6_init_612.1
noncomputable def zr_dX6_init_614 := zo_79 (q := 615) zr_dX6_init_612.2 rfl
noncomputable def dX6_init_614 := zr_dX6_init_614.1
noncomputable def zr_dX6_init_615 := zo_89 (q := 616) zr_dX6_init_614.2 rfl
noncomputable def dX6_init_615 := zr_dX6_init_615.1
noncomputable def zr_dX6_init_616 := zo_16 (k := 43)  (q := 618) zr_dX6_init_615.2 (by decide +kernel) rfl
noncomputable def dX6_init_616 := zr_dX6_init_616.1
noncomputable def zr_dX6_init_618 := zo_16 (k := 101)  (q := 620) zr_dX6_init_616.2 (by decide +kernel) rfl
noncomputable def dX6_init_618 := zr_dX6_init_618.1
noncomputable def zr_dX6_init_620 := zo_79 (q := 621) zr_dX6_init_618.2 rfl
noncomputable def dX6_init_620 := zr_dX6_init_620.1
noncomputable def zr_dX6_init_621 := zo_89 (q := 622) zr_dX6_init_620.2 rfl
noncomputable def dX6_init_621 := zr_dX6_init_621.1
noncomputable def zr_dX6_init_622 := zo_16 (k := 44)  (q := 624) zr_dX6_init_621.2 (by decide +kernel) rfl
noncomputable def dX6_init_622 := zr_dX6_init_622.1
noncomputable def zr_dX6_init_624 := zo_16 (k := 115)  (q := 626) zr_dX6_init_622.2 (by decide +kernel) rfl
noncomputable def dX6_init_624 := zr_dX6_init_624.1
noncomputable def zr_dX6_init_626 := zo_79 (q := 627) zr_dX6_init_624.2 rfl
noncomputable def dX6_init_626 := zr_dX6_init_626.1
noncomputable def zr_dX6_init_627 := zo_89 (q := 628) zr_dX6_init_626.2 rfl
noncomputable def dX6_init_627 := zr_dX6_init_627.1
noncomputable def zr_dX6_init_628 := zo_16 (k := 45)  (q := 630) zr_dX6_init_627.2 (by decide +kernel) rfl
noncomputable def dX6_init_628 := zr_dX6_init_628.1
noncomputable def zr_dX6_init_630 := zo_16 (k := 32)  (q := 632) zr_dX6_init_628.2 (by decide +kernel) rfl
noncomputable def dX6_init_630 := zr_dX6_init_630.1
noncomputable def zr_dX6_init_632 := zo_79 (q := 633) zr_dX6_init_630.2 rfl
noncomputable def dX6_init_632 := zr_dX6_init_632.1
noncomputable def zr_dX6_init_633 := zo_89 (q := 634) zr_dX6_init_632.2 rfl
noncomputable def dX6_init_633 := zr_dX6_init_633.1
noncomputable def zr_dX6_init_634 := zo_16 (k := 46)  (q := 636) zr_dX6_init_633.2 (by decide +kernel) rfl
noncomputable def dX6_init_634 := zr_dX6_init_634.1
noncomputable def zr_dX6_init_636 := zo_16 (k := 32)  (q := 638) zr_dX6_init_634.2 (by decide +kernel) rfl
noncomputable def dX6_init_636 := zr_dX6_init_636.1
noncomputable def zr_dX6_init_638 := zo_79 (q := 639) zr_dX6_init_636.2 rfl
noncomputable def dX6_init_638 := zr_dX6_init_638.1
noncomputable def zr_dX6_init_639 := zo_89 (q := 640) zr_dX6_init_638.2 rfl
noncomputable def dX6_init_639 := zr_dX6_init_639.1
noncomputable def zr_dX6_init_640 := zo_16 (k := 47)  (q := 642) zr_dX6_init_639.2 (by decide +kernel) rfl
noncomputable def dX6_init_640 := zr_dX6_init_640.1
noncomputable def zr_dX6_init_642 := zo_16 (k := 32)  (q := 644) zr_dX6_init_640.2 (by decide +kernel) rfl
noncomputable def dX6_init_642 := zr_dX6_init_642.1
noncomputable def zr_dX6_init_644 := zo_79 (q := 645) zr_dX6_init_642.2 rfl
noncomputable def dX6_init_644 := zr_dX6_init_644.1
noncomputable def zr_dX6_init_645 := zo_89 (q := 646) zr_dX6_init_644.2 rfl
noncomputable def dX6_init_645 := zr_dX6_init_645.1
noncomputable def zr_dX6_init_646 := zo_16 (k := 48)  (q := 648) zr_dX6_init_645.2 (by decide +kernel) rfl
noncomputable def dX6_init_646 := zr_dX6_init_646.1
noncomputable def zr_dX6_init_648 := zo_16 (k := 109)  (q := 650) zr_dX6_init_646.2 (by decide +kernel) rfl
noncomputable def dX6_init_648 := zr_dX6_init_648.1
noncomputable def zr_dX6_init_650 := zo_79 (q := 651) zr_dX6_init_648.2 rfl
noncomputable def dX6_init_650 := zr_dX6_init_650.1
noncomputable def zr_dX6_init_651 := zo_89 (q := 652) zr_dX6_init_650.2 rfl
noncomputable def dX6_init_651 := zr_dX6_init_651.1
noncomputable def zr_dX6_init_652 := zo_16 (k := 49)  (q := 654) zr_dX6_init_651.2 (by decide +kernel) rfl
noncomputable def dX6_init_652 := zr_dX6_init_652.1
noncomputable def zr_dX6_init_654 := zo_16 (k := 105)  (q := 656) zr_dX6_init_652.2 (by decide +kernel) rfl
noncomputable def dX6_init_654 := zr_dX6_init_654.1
noncomputable def zr_dX6_init_656 := zo_79 (q := 657) zr_dX6_init_654.2 rfl
noncomputable def dX6_init_656 := zr_dX6_init_656.1
noncomputable def zr_dX6_init_657 := zo_89 (q := 658) zr_dX6_init_656.2 rfl
noncomputable def dX6_init_657 := zr_dX6_init_657.1
noncomputable def zr_dX6_init_658 := zo_16 (k := 50)  (q := 660) zr_dX6_init_657.2 (by decide +kernel) rfl
noncomputable def dX6_init_658 := zr_dX6_init_658.1
noncomputable def zr_dX6_init_660 := zo_16 (k := 108)  (q := 662) zr_dX6_init_658.2 (by decide +kernel) rfl
noncomputable def dX6_init_660 := zr_dX6_init_660.1
noncomputable def zr_dX6_init_662 := zo_79 (q := 663) zr_dX6_init_660.2 rfl
noncomputable def dX6_init_662 := zr_dX6_init_662.1
noncomputable def zr_dX6_init_663 := zo_89 (q := 664) zr_dX6_init_662.2 rfl
noncomputable def dX6_init_663 := zr_dX6_init_663.1
noncomputable def zr_dX6_init_664 := zo_16 (k := 51)  (q := 666) zr_dX6_init_663.2 (by decide +kernel) rfl
noncomputable def dX6_init_664 := zr_dX6_init_664.1
noncomputable def zr_dX6_init_666 := zo_16 (k := 101)  (q := 668) zr_dX6_init_664.2 (by decide +kernel) rfl
noncomputable def dX6_init_666 := zr_dX6_init_666.1
noncomputable def zr_dX6_init_668 := zo_79 (q := 669) zr_dX6_init_666.2 rfl
noncomputable def dX6_init_668 := zr_dX6_init_668.1
noncomputable def zr_dX6_init_669 := zo_89 (q := 670) zr_dX6_init_668.2 rfl
noncomputable def dX6_init_669 := zr_dX6_init_669.1
noncomputable def zr_dX6_init_670 := zo_16 (k := 52)  (q := 672) zr_dX6_init_669.2 (by decide +kernel) rfl
noncomputable def dX6_init_670 := zr_dX6_init_670.1
noncomputable def zr_dX6_init_672 := zo_16 (k := 115)  (q := 674) zr_dX6_init_670.2 (by decide +kernel) rfl
noncomputable def dX6_init_672 := zr_dX6_init_672.1
noncomputable def zr_dX6_init_674 := zo_79 (q := 675) zr_dX6_init_672.2 rfl
noncomputable def dX6_init_674 := zr_dX6_init_674.1
noncomputable def zr_dX6_init_675 := zo_89 (q := 676) zr_dX6_init_674.2 rfl
noncomputable def dX6_init_675 := zr_dX6_init_675.1
noncomputable def zr_dX6_init_676 := zo_16 (k := 53)  (q := 678) zr_dX6_init_675.2 (by decide +kernel) rfl
noncomputable def dX6_init_676 := zr_dX6_init_676.1
noncomputable def zr_dX6_init_678 := zo_16 (k := 32)  (q := 680) zr_dX6_init_676.2 (by decide +kernel) rfl
noncomputable def dX6_init_678 := zr_dX6_init_678.1
noncomputable def zr_dX6_init_680 := zo_79 (q := 681) zr_dX6_init_678.2 rfl
noncomputable def dX6_init_680 := zr_dX6_init_680.1
noncomputable def zr_dX6_init_681 := zo_89 (q := 682) zr_dX6_init_680.2 rfl
noncomputable def dX6_init_681 := zr_dX6_init_681.1
noncomputable def zr_dX6_init_682 := zo_16 (k := 54)  (q := 684) zr_dX6_init_681.2 (by decide +kernel) rfl
noncomputable def dX6_init_682 := zr_dX6_init_682.1
noncomputable def zr_dX6_init_684 := zo_16 (k := 32)  (q := 686) zr_dX6_init_682.2 (by decide +kernel) rfl
noncomputable def dX6_init_684 := zr_dX6_init_684.1
noncomputable def zr_dX6_init_686 := zo_79 (q := 687) zr_dX6_init_684.2 rfl
noncomputable def dX6_init_686 := zr_dX6_init_686.1
noncomputable def zr_dX6_init_687 := zo_89 (q := 688) zr_dX6_init_686.2 rfl
noncomputable def dX6_init_687 := zr_dX6_init_687.1
noncomputable def zr_dX6_init_688 := zo_16 (k := 55)  (q := 690) zr_dX6_init_687.2 (by decide +kernel) rfl
noncomputable def dX6_init_688 := zr_dX6_init_688.1
noncomputable def zr_dX6_init_690 := zo_16 (k := 32)  (q := 692) zr_dX6_init_688.2 (by decide +kernel) rfl
noncomputable def dX6_init_690 := zr_dX6_init_690.1
noncomputable def zr_dX6_init_692 := zo_79 (q := 693) zr_dX6_init_690.2 rfl
noncomputable def dX6_init_692 := zr_dX6_init_692.1
noncomputable def zr_dX6_init_693 := zo_89 (q := 694) zr_dX6_init_692.2 rfl
noncomputable def dX6_init_693 := zr_dX6_init_693.1
noncomputable def zr_dX6_init_694 := zo_16 (k := 56)  (q := 696) zr_dX6_init_693.2 (by decide +kernel) rfl
noncomputable def dX6_init_694 := zr_dX6_init_694.1
noncomputable def zr_dX6_init_696 := zo_16 (k := 109)  (q := 698) zr_dX6_init_694.2 (by decide +kernel) rfl
noncomputable def dX6_init_696 := zr_dX6_init_696.1
noncomputable def zr_dX6_init_698 := zo_79 (q := 699) zr_dX6_init_696.2 rfl
noncomputable def dX6_init_698 := zr_dX6_init_698.1
noncomputable def zr_dX6_init_699 := zo_89 (q := 700) zr_dX6_init_698.2 rfl
noncomputable def dX6_init_699 := zr_dX6_init_699.1
noncomputable def zr_dX6_init_700 := zo_16 (k := 57)  (q := 702) zr_dX6_init_699.2 (by decide +kernel) rfl
noncomputable def dX6_init_700 := zr_dX6_init_700.1
noncomputable def zr_dX6_init_702 := zo_16 (k := 111)  (q := 704) zr_dX6_init_700.2 (by decide +kernel) rfl
noncomputable def dX6_init_702 := zr_dX6_init_702.1
noncomputable def zr_dX6_init_704 := zo_79 (q := 705) zr_dX6_init_702.2 rfl
noncomputable def dX6_init_704 := zr_dX6_init_704.1
noncomputable def zr_dX6_init_705 := zo_89 (q := 706) zr_dX6_init_704.2 rfl
noncomputable def dX6_init_705 := zr_dX6_init_705.1
noncomputable def zr_dX6_init_706 := zo_16 (k := 58)  (q := 708) zr_dX6_init_705.2 (by decide +kernel) rfl
noncomputable def dX6_init_706 := zr_dX6_init_706.1
noncomputable def zr_dX6_init_708 := zo_16 (k := 114)  (q := 710) zr_dX6_init_706.2 (by decide +kernel) rfl
noncomputable def dX6_init_708 := zr_dX6_init_708.1
noncomputable def zr_dX6_init_710 := zo_79 (q := 711) zr_dX6_init_708.2 rfl
noncomputable def dX6_init_710 := zr_dX6_init_710.1
noncomputable def zr_dX6_init_711 := zo_89 (q := 712) zr_dX6_init_710.2 rfl
noncomputable def dX6_init_711 := zr_dX6_init_711.1
noncomputable def zr_dX6_init_712 := zo_16 (k := 59)  (q := 714) zr_dX6_init_711.2 (by decide +kernel) rfl
noncomputable def dX6_init_712 := zr_dX6_init_712.1
noncomputable def zr_dX6_init_714 := zo_16 (k := 101)  (q := 716) zr_dX6_init_712.2 (by decide +kernel) rfl
noncomputable def dX6_init_714 := zr_dX6_init_714.1
noncomputable def zr_dX6_init_716 := zo_79 (q := 717) zr_dX6_init_714.2 rfl
noncomputable def dX6_init_716 := zr_dX6_init_716.1
noncomputable def zr_dX6_init_717 := zo_89 (q := 718) zr_dX6_init_716.2 rfl
noncomputable def dX6_init_717 := zr_dX6_init_717.1
noncomputable def zr_dX6_init_718 := zo_16 (k := 60)  (q := 720) zr_dX6_init_717.2 (by decide +kernel) rfl
noncomputable def dX6_init_718 := zr_dX6_init_718.1
noncomputable def zr_dX6_init_720 := zo_16 (k := 32)  (q := 722) zr_dX6_init_718.2 (by decide +kernel) rfl
noncomputable def dX6_init_720 := zr_dX6_init_720.1
noncomputable def zr_dX6_init_722 := zo_79 (q := 723) zr_dX6_init_720.2 rfl
noncomputable def dX6_init_722 := zr_dX6_init_722.1
noncomputable def zr_dX6_init_723 := zo_89 (q := 724) zr_dX6_init_722.2 rfl
noncomputable def dX6_init_723 := zr_dX6_init_723.1
noncomputable def zr_dX6_init_724 := zo_16 (k := 61)  (q := 726) zr_dX6_init_723.2 (by decide +kernel) rfl
noncomputable def dX6_init_724 := zr_dX6_init_724.1
noncomputable def zr_dX6_init_726 := zo_16 (k := 32)  (q := 728) zr_dX6_init_724.2 (by decide +kernel) rfl
noncomputable def dX6_init_726 := zr_dX6_init_726.1
noncomputable def zr_dX6_init_728 := zo_79 (q := 729) zr_dX6_init_726.2 rfl
noncomputable def dX6_init_728 := zr_dX6_init_728.1
noncomputable def zr_dX6_init_729 := zo_89 (q := 730) zr_dX6_init_728.2 rfl
noncomputable def dX6_init_729 := zr_dX6_init_729.1
noncomputable def zr_dX6_init_730 := zo_16 (k := 62)  (q := 732) zr_dX6_init_729.2 (by decide +kernel) rfl
noncomputable def dX6_init_730 := zr_dX6_init_730.1
noncomputable def zr_dX6_init_732 := zo_16 (k := 32)  (q := 734) zr_dX6_init_730.2 (by decide +kernel) rfl
noncomputable def dX6_init_732 := zr_dX6_init_732.1
noncomputable def zr_dX6_init_734 := zo_79 (q := 735) zr_dX6_init_732.2 rfl
noncomputable def dX6_init_734 := zr_dX6_init_734.1
noncomputable def zr_dX6_init_735 := zo_89 (q := 736) zr_dX6_init_734.2 rfl
noncomputable def dX6_init_735 := zr_dX6_init_735.1
noncomputable def zr_dX6_init_736 := zo_16 (k := 63)  (q := 738) zr_dX6_init_735.2 (by decide +kernel) rfl
noncomputable def dX6_init_736 := zr_dX6_init_736.1
noncomputable def zr_dX6_init_738 := zo_16 (k := 32)  (q := 740) zr_dX6_init_736.2 (by decide +kernel) rfl
noncomputable def dX6_init_738 := zr_dX6_init_738.1
noncomputable def zr_dX6_init_740 := zo_79 (q := 741) zr_dX6_init_738.2 rfl
noncomputable def dX6_init_740 := zr_dX6_init_740.1
noncomputable def zr_dX6_init_741 := zo_89 (q := 742) zr_dX6_init_740.2 rfl
noncomputable def dX6_init_741 := zr_dX6_init_741.1
noncomputable def zr_dX6_init_742 := zo_16 (k := 64)  (q := 744) zr_dX6_init_741.2 (by decide +kernel) rfl
noncomputable def dX6_init_742 := zr_dX6_init_742.1
noncomputable def zr_dX6_init_744 := zo_16 (k := 106)  (q := 746) zr_dX6_init_742.2 (by decide +kernel) rfl
noncomputable def dX6_init_744 := zr_dX6_init_744.1
noncomputable def zr_dX6_init_746 := zo_79 (q := 747) zr_dX6_init_744.2 rfl
noncomputable def dX6_init_746 := zr_dX6_init_746.1
noncomputable def zr_dX6_init_747 := zo_89 (q := 748) zr_dX6_init_746.2 rfl
noncomputable def dX6_init_747 := zr_dX6_init_747.1
noncomputable def zr_dX6_init_748 := zo_16 (k := 65)  (q := 750) zr_dX6_init_747.2 (by decide +kernel) rfl
noncomputable def dX6_init_748 := zr_dX6_init_748.1
noncomputable def zr_dX6_init_750 := zo_16 (k := 117)  (q := 752) zr_dX6_init_748.2 (by decide +kernel) rfl
noncomputable def dX6_init_750 := zr_dX6_init_750.1
noncomputable def zr_dX6_init_752 := zo_79 (q := 753) zr_dX6_init_750.2 rfl
noncomputable def dX6_init_752 := zr_dX6_init_752.1
noncomputable def zr_dX6_init_753 := zo_89 (q := 754) zr_dX6_init_752.2 rfl
noncomputable def dX6_init_753 := zr_dX6_init_753.1
noncomputable def zr_dX6_init_754 := zo_16 (k := 66)  (q := 756) zr_dX6_init_753.2 (by decide +kernel) rfl
noncomputable def dX6_init_754 := zr_dX6_init_754.1
noncomputable def zr_dX6_init_756 := zo_16 (k := 100)  (q := 758) zr_dX6_init_754.2 (by decide +kernel) rfl
noncomputable def dX6_init_756 := zr_dX6_init_756.1
noncomputable def zr_dX6_init_758 := zo_79 (q := 759) zr_dX6_init_756.2 rfl
noncomputable def dX6_init_758 := zr_dX6_init_758.1
noncomputable def zr_dX6_init_759 := zo_89 (q := 760) zr_dX6_init_758.2 rfl
noncomputable def dX6_init_759 := zr_dX6_init_759.1
noncomputable def zr_dX6_init_760 := zo_16 (k := 67)  (q := 762) zr_dX6_init_759.2 (by decide +kernel) rfl
noncomputable def dX6_init_760 := zr_dX6_init_760.1
noncomputable def zr_dX6_init_762 := zo_16 (k := 103)  (q := 764) zr_dX6_init_760.2 (by decide +kernel) rfl
noncomputable def dX6_init_762 := zr_dX6_init_762.1
noncomputable def zr_dX6_init_764 := zo_79 (q := 765) zr_dX6_init_762.2 rfl
noncomputable def dX6_init_764 := zr_dX6_init_764.1
noncomputable def zr_dX6_init_765 := zo_89 (q := 766) zr_dX6_init_764.2 rfl
noncomputable def dX6_init_765 := zr_dX6_init_765.1
noncomputable def zr_dX6_init_766 := zo_16 (k := 68)  (q := 768) zr_dX6_init_765.2 (by decide +kernel) rfl
noncomputable def dX6_init_766 := zr_dX6_init_766.1
noncomputable def zr_dX6_init_768 := zo_16 (k := 101)  (q := 770) zr_dX6_init_766.2 (by decide +kernel) rfl
noncomputable def dX6_init_768 := zr_dX6_init_768.1
noncomputable def zr_dX6_init_770 := zo_79 (q := 771) zr_dX6_init_768.2 rfl
noncomputable def dX6_init_770 := zr_dX6_init_770.1
noncomputable def zr_dX6_init_771 := zo_89 (q := 772) zr_dX6_init_770.2 rfl
noncomputable def dX6_init_771 := zr_dX6_init_771.1
noncomputable def zr_dX6_init_772 := zo_16 (k := 69)  (q := 774) zr_dX6_init_771.2 (by decide +kernel) rfl
noncomputable def dX6_init_772 := zr_dX6_init_772.1
noncomputable def zr_dX6_init_774 := zo_16 (k := 32)  (q := 776) zr_dX6_init_772.2 (by decide +kernel) rfl
noncomputable def dX6_init_774 := zr_dX6_init_774.1
noncomputable def zr_dX6_init_776 := zo_79 (q := 777) zr_dX6_init_774.2 rfl
noncomputable def dX6_init_776 := zr_dX6_init_776.1
noncomputable def zr_dX6_init_777 := zo_89 (q := 778) zr_dX6_init_776.2 rfl
noncomputable def dX6_init_777 := zr_dX6_init_777.1
noncomputable def zr_dX6_init_778 := zo_16 (k := 70)  (q := 780) zr_dX6_init_777.2 (by decide +kernel) rfl
noncomputable def dX6_init_778 := zr_dX6_init_778.1
noncomputable def zr_dX6_init_780 := zo_16 (k := 32)  (q := 782) zr_dX6_init_778.2 (by decide +kernel) rfl
noncomputable def dX6_init_780 := zr_dX6_init_780.1
noncomputable def zr_dX6_init_782 := zo_79 (q := 783) zr_dX6_init_780.2 rfl
noncomputable def dX6_init_782 := zr_dX6_init_782.1
noncomputable def zr_dX6_init_783 := zo_89 (q := 784) zr_dX6_init_782.2 rfl
noncomputable def dX6_init_783 := zr_dX6_init_783.1
noncomputable def zr_dX6_init_784 := zo_16 (k := 71)  (q := 786) zr_dX6_init_783.2 (by decide +kernel) rfl
noncomputable def dX6_init_784 := zr_dX6_init_784.1
noncomputable def zr_dX6_init_786 := zo_16 (k := 32)  (q := 788) zr_dX6_init_784.2 (by decide +kernel) rfl
noncomputable def dX6_init_786 := zr_dX6_init_786.1
noncomputable def zr_dX6_init_788 := zo_79 (q := 789) zr_dX6_init_786.2 rfl
noncomputable def dX6_init_788 := zr_dX6_init_788.1
noncomputable def zr_dX6_init_789 := zo_89 (q := 790) zr_dX6_init_788.2 rfl
noncomputable def dX6_init_789 := zr_dX6_init_789.1
noncomputable def zr_dX6_init_790 := zo_16 (k := 72)  (q := 792) zr_dX6_init_789.2 (by decide +kernel) rfl
noncomputable def dX6_init_790 := zr_dX6_init_790.1
noncomputable def zr_dX6_init_792 := zo_16 (k := 111)  (q := 794) zr_dX6_init_790.2 (by decide +kernel) rfl
noncomputable def dX6_init_792 := zr_dX6_init_792.1
noncomputable def zr_dX6_init_794 := zo_79 (q := 795) zr_dX6_init_792.2 rfl
noncomputable def dX6_init_794 := zr_dX6_init_794.1
noncomputable def zr_dX6_init_795 := zo_89 (q := 796) zr_dX6_init_794.2 rfl
noncomputable def dX6_init_795 := zr_dX6_init_795.1
noncomputable def zr_dX6_init_796 := zo_16 (k := 73)  (q := 798) zr_dX6_init_795.2 (by decide +kernel) rfl
noncomputable def dX6_init_796 := zr_dX6_init_796.1
noncomputable def zr_dX6_init_798 := zo_16 (k := 114)  (q := 800) zr_dX6_init_796.2 (by decide +kernel) rfl
noncomputable def dX6_init_798 := zr_dX6_init_798.1
noncomputable def zr_dX6_init_800 := zo_79 (q := 801) zr_dX6_init_798.2 rfl
noncomputable def dX6_init_800 := zr_dX6_init_800.1
noncomputable def zr_dX6_init_801 := zo_89 (q := 802) zr_dX6_init_800.2 rfl
noncomputable def dX6_init_801 := zr_dX6_init_801.1
noncomputable def zr_dX6_init_802 := zo_16 (k := 74)  (q := 804) zr_dX6_init_801.2 (by decide +kernel) rfl
noncomputable def dX6_init_802 := zr_dX6_init_802.1
noncomputable def zr_dX6_init_804 := zo_16 (k := 32)  (q := 806) zr_dX6_init_802.2 (by decide +kernel) rfl
noncomputable def dX6_init_804 := zr_dX6_init_804.1
noncomputable def zr_dX6_init_806 := zo_79 (q := 807) zr_dX6_init_804.2 rfl
noncomputable def dX6_init_806 := zr_dX6_init_806.1
noncomputable def zr_dX6_init_807 := zo_89 (q := 808) zr_dX6_init_806.2 rfl
noncomputable def dX6_init_807 := zr_dX6_init_807.1
noncomputable def zr_dX6_init_808 := zo_16 (k := 75)  (q := 810) zr_dX6_init_807.2 (by decide +kernel) rfl
noncomputable def dX6_init_808 := zr_dX6_init_808.1
noncomputable def zr_dX6_init_810 := zo_16 (k := 32)  (q := 812) zr_dX6_init_808.2 (by decide +kernel) rfl
noncomputable def dX6_init_810 := zr_dX6_init_810.1
noncomputable def zr_dX6_init_812 := zo_79 (q := 813) zr_dX6_init_810.2 rfl
noncomputable def dX6_init_812 := zr_dX6_init_812.1
noncomputable def zr_dX6_init_813 := zo_89 (q := 814) zr_dX6_init_812.2 rfl
noncomputable def dX6_init_813 := zr_dX6_init_813.1
noncomputable def zr_dX6_init_814 := zo_16 (k := 76)  (q := 816) zr_dX6_init_813.2 (by decide +kernel) rfl
noncomputable def dX6_init_814 := zr_dX6_init_814.1
noncomputable def zr_dX6_init_816 := zo_16 (k := 32)  (q := 818) zr_dX6_init_814.2 (by decide +kernel) rfl
noncomputable def dX6_init_816 := zr_dX6_init_816.1
noncomputable def zr_dX6_init_818 := zo_79 (q := 819) zr_dX6_init_816.2 rfl
noncomputable def dX6_init_818 := zr_dX6_init_818.1
noncomputable def zr_dX6_init_819 := zo_89 (q := 820) zr_dX6_init_818.2 rfl
noncomputable def dX6_init_819 := zr_dX6_init_819.1
noncomputable def zr_dX6_init_820 := zo_16 (k := 77)  (q := 822) zr_dX6_init_819.2 (by decide +kernel) rfl
noncomputable def dX6_init_820 := zr_dX6_init_820.1
noncomputable def zr_dX6_init_822 := zo_16 (k := 32)  (q := 824) zr_dX6_init_820.2 (by decide +kernel) rfl
noncomputable def dX6_init_822 := zr_dX6_init_822.1
noncomputable def zr_dX6_init_824 := zo_79 (q := 825) zr_dX6_init_822.2 rfl
noncomputable def dX6_init_824 := zr_dX6_init_824.1
noncomputable def zr_dX6_init_825 := zo_89 (q := 826) zr_dX6_init_824.2 rfl
noncomputable def dX6_init_825 := zr_dX6_init_825.1
noncomputable def zr_dX6_init_826 := zo_16 (k := 78)  (q := 828) zr_dX6_init_825.2 (by decide +kernel) rfl
noncomputable def dX6_init_826 := zr_dX6_init_826.1
noncomputable def zr_dX6_init_828 := zo_16 (k := 32)  (q := 830) zr_dX6_init_826.2 (by decide +kernel) rfl
noncomputable def dX6_init_828 := zr_dX6_init_828.1
noncomputable def zr_dX6_init_830 := zo_79 (q := 831) zr_dX6_init_828.2 rfl
noncomputable def dX6_init_830 := zr_dX6_init_830.1
noncomputable def zr_dX6_init_831 := zo_89 (q := 832) zr_dX6_init_830.2 rfl
noncomputable def dX6_init_831 := zr_dX6_init_831.1
noncomputable def zr_dX6_init_832 := zo_16 (k := 79)  (q := 834) zr_dX6_init_831.2 (by decide +kernel) rfl
noncomputable def dX6_init_832 := zr_dX6_init_832.1
noncomputable def zr_dX6_init_834 := zo_16 (k := 32)  (q := 836) zr_dX6_init_832.2 (by decide +kernel) rfl
noncomputable def dX6_init_834 := zr_dX6_init_834.1
noncomputable def zr_dX6_init_836 := zo_79 (q := 837) zr_dX6_init_834.2 rfl
noncomputable def dX6_init_836 := zr_dX6_init_836.1
noncomputable def zr_dX6_init_837 := zo_89 (q := 838) zr_dX6_init_836.2 rfl
noncomputable def dX6_init_837 := zr_dX6_init_837.1
noncomputable def zr_dX6_init_838 := zo_16 (k := 80)  (q := 840) zr_dX6_init_837.2 (by decide +kernel) rfl
noncomputable def dX6_init_838 := zr_dX6_init_838.1
noncomputable def zr_dX6_init_840 := zo_16 (k := 97)  (q := 842) zr_dX6_init_838.2 (by decide +kernel) rfl
noncomputable def dX6_init_840 := zr_dX6_init_840.1
noncomputable def zr_dX6_init_842 := zo_79 (q := 843) zr_dX6_init_840.2 rfl
noncomputable def dX6_init_842 := zr_dX6_init_842.1
noncomputable def zr_dX6_init_843 := zo_89 (q := 844) zr_dX6_init_842.2 rfl
noncomputable def dX6_init_843 := zr_dX6_init_843.1
noncomputable def zr_dX6_init_844 := zo_16 (k := 81)  (q := 846) zr_dX6_init_843.2 (by decide +kernel) rfl
noncomputable def dX6_init_844 := zr_dX6_init_844.1
noncomputable def zr_dX6_init_846 := zo_16 (k := 110)  (q := 848) zr_dX6_init_844.2 (by decide +kernel) rfl
noncomputable def dX6_init_846 := zr_dX6_init_846.1
noncomputable def zr_dX6_init_848 := zo_79 (q := 849) zr_dX6_init_846.2 rfl
noncomputable def dX6_init_848 := zr_dX6_init_848.1
noncomputable def zr_dX6_init_849 := zo_89 (q := 850) zr_dX6_init_848.2 rfl
noncomputable def dX6_init_849 := zr_dX6_init_849.1
noncomputable def zr_dX6_init_850 := zo_16 (k := 82)  (q := 852) zr_dX6_init_849.2 (by decide +kernel) rfl
noncomputable def dX6_init_850 := zr_dX6_init_850.1
noncomputable def zr_dX6_init_852 := zo_16 (k := 100)  (q := 854) zr_dX6_init_850.2 (by decide +kernel) rfl
noncomputable def dX6_init_852 := zr_dX6_init_852.1
noncomputable def zr_dX6_init_854 := zo_79 (q := 855) zr_dX6_init_852.2 rfl
noncomputable def dX6_init_854 := zr_dX6_init_854.1
noncomputable def zr_dX6_init_855 := zo_89 (q := 856) zr_dX6_init_854.2 rfl
noncomputable def dX6_init_855 := zr_dX6_init_855.1
noncomputable def zr_dX6_init_856 := zo_16 (k := 83)  (q := 858) zr_dX6_init_855.2 (by decide +kernel) rfl
noncomputable def dX6_init_856 := zr_dX6_init_856.1
noncomputable def zr_dX6_init_858 := zo_16 (k := 32)  (q := 860) zr_dX6_init_856.2 (by decide +kernel) rfl
noncomputable def dX6_init_858 := zr_dX6_init_858.1
noncomputable def zr_dX6_init_860 := zo_79 (q := 861) zr_dX6_init_858.2 rfl
noncomputable def dX6_init_860 := zr_dX6_init_860.1
noncomputable def zr_dX6_init_861 := zo_89 (q := 862) zr_dX6_init_860.2 rfl
noncomputable def dX6_init_861 := zr_dX6_init_861.1
noncomputable def zr_dX6_init_862 := zo_16 (k := 84)  (q := 864) zr_dX6_init_861.2 (by decide +kernel) rfl
noncomputable def dX6_init_862 := zr_dX6_init_862.1
noncomputable def zr_dX6_init_864 := zo_16 (k := 32)  (q := 866) zr_dX6_init_862.2 (by decide +kernel) rfl
noncomputable def dX6_init_864 := zr_dX6_init_864.1
noncomputable def zr_dX6_init_866 := zo_79 (q := 867) zr_dX6_init_864.2 rfl
noncomputable def dX6_init_866 := zr_dX6_init_866.1
noncomputable def zr_dX6_init_867 := zo_89 (q := 868) zr_dX6_init_866.2 rfl
noncomputable def dX6_init_867 := zr_dX6_init_867.1
noncomputable def zr_dX6_init_868 := zo_16 (k := 85)  (q := 870) zr_dX6_init_867.2 (by decide +kernel) rfl
noncomputable def dX6_init_868 := zr_dX6_init_868.1
noncomputable def zr_dX6_init_870 := zo_16 (k := 32)  (q := 872) zr_dX6_init_868.2 (by decide +kernel) rfl
noncomputable def dX6_init_870 := zr_dX6_init_870.1
noncomputable def zr_dX6_init_872 := zo_79 (q := 873) zr_dX6_init_870.2 rfl
noncomputable def dX6_init_872 := zr_dX6_init_872.1
noncomputable def zr_dX6_init_873 := zo_89 (q := 874) zr_dX6_init_872.2 rfl
noncomputable def dX6_init_873 := zr_dX6_init_873.1
noncomputable def zr_dX6_init_874 := zo_16 (k := 86)  (q := 876) zr_dX6_init_873.2 (by decide +kernel) rfl
noncomputable def dX6_init_874 := zr_dX6_init_874.1
noncomputable def zr_dX6_init_876 := zo_16 (k := 32)  (q := 878) zr_dX6_init_874.2 (by decide +kernel) rfl
noncomputable def dX6_init_876 := zr_dX6_init_876.1
noncomputable def zr_dX6_init_878 := zo_79 (q := 879) zr_dX6_init_876.2 rfl
noncomputable def dX6_init_878 := zr_dX6_init_878.1
noncomputable def zr_dX6_init_879 := zo_89 (q := 880) zr_dX6_init_878.2 rfl
noncomputable def dX6_init_879 := zr_dX6_init_879.1
noncomputable def zr_dX6_init_880 := zo_16 (k := 87)  (q := 882) zr_dX6_init_879.2 (by decide +kernel) rfl
noncomputable def dX6_init_880 := zr_dX6_init_880.1
noncomputable def zr_dX6_init_882 := zo_16 (k := 32)  (q := 884) zr_dX6_init_880.2 (by decide +kernel) rfl
noncomputable def dX6_init_882 := zr_dX6_init_882.1
noncomputable def zr_dX6_init_884 := zo_79 (q := 885) zr_dX6_init_882.2 rfl
noncomputable def dX6_init_884 := zr_dX6_init_884.1
noncomputable def zr_dX6_init_885 := zo_89 (q := 886) zr_dX6_init_884.2 rfl
noncomputable def dX6_init_885 := zr_dX6_init_885.1
noncomputable def zr_dX6_init_886 := zo_16 (k := 88)  (q := 888) zr_dX6_init_885.2 (by decide +kernel) rfl
noncomputable def dX6_init_886 := zr_dX6_init_886.1
noncomputable def zr_dX6_init_888 := zo_16 (k := 110)  (q := 890) zr_dX6_init_886.2 (by decide +kernel) rfl
noncomputable def dX6_init_888 := zr_dX6_init_888.1
noncomputable def zr_dX6_init_890 := zo_79 (q := 891) zr_dX6_init_888.2 rfl
noncomputable def dX6_init_890 := zr_dX6_init_890.1
noncomputable def zr_dX6_init_891 := zo_89 (q := 892) zr_dX6_init_890.2 rfl
noncomputable def dX6_init_891 := zr_dX6_init_891.1
noncomputable def zr_dX6_init_892 := zo_16 (k := 89)  (q := 894) zr_dX6_init_891.2 (by decide +kernel) rfl
noncomputable def dX6_init_892 := zr_dX6_init_892.1
noncomputable def zr_dX6_init_894 := zo_16 (k := 111)  (q := 896) zr_dX6_init_892.2 (by decide +kernel) rfl
noncomputable def dX6_init_894 := zr_dX6_init_894.1
noncomputable def zr_dX6_init_896 := zo_79 (q := 897) zr_dX6_init_894.2 rfl
noncomputable def dX6_init_896 := zr_dX6_init_896.1
noncomputable def zr_dX6_init_897 := zo_89 (q := 898) zr_dX6_init_896.2 rfl
noncomputable def dX6_init_897 := zr_dX6_init_897.1
noncomputable def zr_dX6_init_898 := zo_16 (k := 90)  (q := 900) zr_dX6_init_897.2 (by decide +kernel) rfl
noncomputable def dX6_init_898 := zr_dX6_init_898.1
noncomputable def zr_dX6_init_900 := zo_16 (k := 116)  (q := 902) zr_dX6_init_898.2 (by decide +kernel) rfl
noncomputable def dX6_init_900 := zr_dX6_init_900.1
noncomputable def zr_dX6_init_902 := zo_79 (q := 903) zr_dX6_init_900.2 rfl
noncomputable def dX6_init_902 := zr_dX6_init_902.1
noncomputable def zr_dX6_init_903 := zo_89 (q := 904) zr_dX6_init_902.2 rfl
noncomputable def dX6_init_903 := zr_dX6_init_903.1
noncomputable def zr_dX6_init_904 := zo_16 (k := 91)  (q := 906) zr_dX6_init_903.2 (by decide +kernel) rfl
noncomputable def dX6_init_904 := zr_dX6_init_904.1
noncomputable def zr_dX6_init_906 := zo_16 (k := 32)  (q := 908) zr_dX6_init_904.2 (by decide +kernel) rfl
noncomputable def dX6_init_906 := zr_dX6_init_906.1
noncomputable def zr_dX6_init_908 := zo_79 (q := 909) zr_dX6_init_906.2 rfl
noncomputable def dX6_init_908 := zr_dX6_init_908.1
noncomputable def zr_dX6_init_909 := zo_89 (q := 910) zr_dX6_init_908.2 rfl
noncomputable def dX6_init_909 := zr_dX6_init_909.1
noncomputable def zr_dX6_init_910 := zo_16 (k := 92)  (q := 912) zr_dX6_init_909.2 (by decide +kernel) rfl
noncomputable def dX6_init_910 := zr_dX6_init_910.1
noncomputable def zr_dX6_init_912 := zo_16 (k := 32)  (q := 914) zr_dX6_init_910.2 (by decide +kernel) rfl
noncomputable def dX6_init_912 := zr_dX6_init_912.1
noncomputable def zr_dX6_init_914 := zo_79 (q := 915) zr_dX6_init_912.2 rfl
noncomputable def dX6_init_914 := zr_dX6_init_914.1
noncomputable def zr_dX6_init_915 := zo_89 (q := 916) zr_dX6_init_914.2 rfl
noncomputable def dX6_init_915 := zr_dX6_init_915.1
noncomputable def zr_dX6_init_916 := zo_16 (k := 93)  (q := 918) zr_dX6_init_915.2 (by decide +kernel) rfl
noncomputable def dX6_init_916 := zr_dX6_init_916.1
noncomputable def zr_dX6_init_918 := zo_16 (k := 32)  (q := 920) zr_dX6_init_916.2 (by decide +kernel) rfl
noncomputable def dX6_init_918 := zr_dX6_init_918.1
noncomputable def zr_dX6_init_920 := zo_79 (q := 921) zr_dX6_init_918.2 rfl
noncomputable def dX6_init_920 := zr_dX6_init_920.1
noncomputable def zr_dX6_init_921 := zo_89 (q := 922) zr_dX6_init_920.2 rfl
noncomputable def dX6_init_921 := zr_dX6_init_921.1
noncomputable def zr_dX6_init_922 := zo_16 (k := 94)  (q := 924) zr_dX6_init_921.2 (by decide +kernel) rfl
noncomputable def dX6_init_922 := zr_dX6_init_922.1
noncomputable def zr_dX6_init_924 := zo_16 (k := 32)  (q := 926) zr_dX6_init_922.2 (by decide +kernel) rfl
noncomputable def dX6_init_924 := zr_dX6_init_924.1
noncomputable def zr_dX6_init_926 := zo_79 (q := 927) zr_dX6_init_924.2 rfl
noncomputable def dX6_init_926 := zr_dX6_init_926.1
noncomputable def zr_dX6_init_927 := zo_89 (q := 928) zr_dX6_init_926.2 rfl
noncomputable def dX6_init_927 := zr_dX6_init_927.1
noncomputable def zr_dX6_init_928 := zo_16 (k := 95)  (q := 930) zr_dX6_init_927.2 (by decide +kernel) rfl
noncomputable def dX6_init_928 := zr_dX6_init_928.1
noncomputable def zr_dX6_init_930 := zo_16 (k := 32)  (q := 932) zr_dX6_init_928.2 (by decide +kernel) rfl
noncomputable def dX6_init_930 := zr_dX6_init_930.1
noncomputable def zr_dX6_init_932 := zo_79 (q := 933) zr_dX6_init_930.2 rfl
noncomputable def dX6_init_932 := zr_dX6_init_932.1
noncomputable def zr_dX6_init_933 := zo_181 (k := 49)  (q := 936) zr_dX6_init_932.2 rfl rfl
noncomputable def dX6_init_933 := zr_dX6_init_933.1
noncomputable def zr_dX6_init_936 := zo_42 (q := 937) zr_dX6_init_933.2 rfl
noncomputable def dX6_init_936 := zr_dX6_init_936.1
noncomputable def zr_dX6_init_937 := zo_17 (k := 200)  (q := 940) zr_dX6_init_936.2 (by decide +kernel) rfl
noncomputable def dX6_init_937 := zr_dX6_init_937.1
theorem dX6_init_940 : zD cX6_init 940 (.newarray .int) 2 := by decide +kernel
noncomputable def zr_dX6_init_940 := zskip zr_dX6_init_937.2 2 (q := 942) rfl
noncomputable def zr_dX6_init_942 := zo_181 (k := 52)  (q := 945) zr_dX6_init_940 rfl rfl
noncomputable def dX6_init_942 := zr_dX6_init_942.1
noncomputable def zr_dX6_init_945 := zo_42 (q := 946) zr_dX6_init_942.2 rfl
noncomputable def dX6_init_945 := zr_dX6_init_945.1
noncomputable def zr_dX6_init_946 := zo_17 (k := 200)  (q := 949) zr_dX6_init_945.2 (by decide +kernel) rfl
noncomputable def dX6_init_946 := zr_dX6_init_946.1
theorem dX6_init_949 : zD cX6_init 949 (.newarray .int) 2 := by decide +kernel
noncomputable def zr_dX6_init_949 := zskip zr_dX6_init_946.2 2 (q := 951) rfl
noncomputable def zr_dX6_init_951 := zo_181 (k := 55)  (q := 954) zr_dX6_init_949 rfl rfl
noncomputable def dX6_init_951 := zr_dX6_init_951.1
noncomputable def zr_dX6_init_954 := zo_42 (q := 955) zr_dX6_init_951.2 rfl
noncomputable def dX6_init_954 := zr_dX6_init_954.1
noncomputable def zr_dX6_init_955 := zo_16 (k := 6)  (q := 957) zr_dX6_init_954.2 (by decide +kernel) rfl
noncomputable def dX6_init_955 := zr_dX6_init_955.1
theorem dX6_init_957 : zD cX6_init 957 (.newarray .int) 2 := by decide +kernel
noncomputable def zr_dX6_init_957 := zskip zr_dX6_init_955.2 2 (q := 959) rfl
noncomputable def zr_dX6_init_959 := zo_181 (k := 58)  (q := 962) zr_dX6_init_957 rfl rfl
noncomputable def dX6_init_959 := zr_dX6_init_959.1
noncomputable def zr_dX6_init_962 := zo_42 (q := 963) zr_dX6_init_959.2 rfl
noncomputable def dX6_init_962 := zr_dX6_init_962.1
noncomputable def zr_dX6_init_963 := zo_16 (k := 24)  (q := 965) zr_dX6_init_962.2 (by decide +kernel) rfl
noncomputable def dX6_init_963 := zr_dX6_init_963.1
theorem dX6_init_965 : zD cX6_init 965 (.newarray .int) 2 := by decide +kernel
noncomputable def zr_dX6_init_965 := zskip zr_dX6_init_963.2 2 (q := 967) rfl
noncomputable def zr_dX6_init_967 := zo_181 (k := 61)  (q := 970) zr_dX6_init_965 rfl rfl
noncomputable def dX6_init_967 := zr_dX6_init_967.1
noncomputable def zr_dX6_init_970 := zo_42 (q := 971) zr_dX6_init_967.2 rfl
noncomputable def dX6_init_970 := zr_dX6_init_970.1
noncomputable def zr_dX6_init_971 := zo_16 (k := 61)  (q := 973) zr_dX6_init_970.2 (by decide +kernel) rfl
noncomputable def dX6_init_971 := zr_dX6_init_971.1
theorem dX6_init_973 : zD cX6_init 973 (.newarray .boolean) 2 := by decide +kernel
noncomputable def zr_dX6_init_973 := zskip zr_dX6_init_971.2 2 (q := 975) rfl
noncomputable def zr_dX6_init_975 := zo_181 (k := 64)  (q := 978) zr_dX6_init_973 rfl rfl
noncomputable def dX6_init_975 := zr_dX6_init_975.1
noncomputable def zr_dX6_init_978 := zo_42 (q := 979) zr_dX6_init_975.2 rfl
noncomputable def dX6_init_978 := zr_dX6_init_978.1
noncomputable def zr_dX6_init_979 := zo_16 (k := 61)  (q := 981) zr_dX6_init_978.2 (by decide +kernel) rfl
noncomputable def dX6_init_979 := zr_dX6_init_979.1
theorem dX6_init_981 : zD cX6_init 981 (.newarray .boolean) 2 := by decide +kernel
noncomputable def zr_dX6_init_981 := zskip zr_dX6_init_979.2 2 (q := 983) rfl
noncomputable def zr_dX6_init_983 := zo_181 (k := 68)  (q := 986) zr_dX6_init_981 rfl rfl
noncomputable def dX6_init_983 := zr_dX6_init_983.1
noncomputable def zr_dX6_init_986 := zo_42 (q := 987) zr_dX6_init_983.2 rfl
noncomputable def dX6_init_986 := zr_dX6_init_986.1
noncomputable def zr_dX6_init_987 := zo_16 (k := 36)  (q := 989) zr_dX6_init_986.2 (by decide +kernel) rfl
noncomputable def dX6_init_987 := zr_dX6_init_987.1
theorem dX6_init_989 : zD cX6_init 989 (.newarray .int) 2 := by decide +kernel
noncomputable def zr_dX6_init_989 := zskip zr_dX6_init_987.2 2 (q := 991) rfl
noncomputable def zr_dX6_init_991 := zo_181 (k := 71)  (q := 994) zr_dX6_init_989 rfl rfl
noncomputable def dX6_init_991 := zr_dX6_init_991.1
noncomputable def zr_dX6_init_994 := zo_42 (q := 995) zr_dX6_init_991.2 rfl
noncomputable def dX6_init_994 := zr_dX6_init_994.1
noncomputable def zr_dX6_init_995 := zo_16 (k := 36)  (q := 997) zr_dX6_init_994.2 (by decide +kernel) rfl
noncomputable def dX6_init_995 := zr_dX6_init_995.1
theorem dX6_init_997 : zD cX6_init 997 (.newarray .int) 2 := by decide +kernel
noncomputable def zr_dX6_init_997 := zskip zr_dX6_init_995.2 2 (q := 999) rfl
noncomputable def zr_dX6_init_999 := zo_181 (k := 74)  (q := 1002) zr_dX6_init_997 rfl rfl
noncomputable def dX6_init_999 := zr_dX6_init_999.1
noncomputable def zr_dX6_init_1002 := zo_42 (q := 1003) zr_dX6_init_999.2 rfl
noncomputable def dX6_init_1002 := zr_dX6_init_1002.1
noncomputable def zr_dX6_init_1003 := zo_16 (k := 64)  (q := 1005) zr_dX6_init_1002.2 (by decide +kernel) rfl
noncomputable def dX6_init_1003 := zr_dX6_init_1003.1
theorem dX6_init_1005 : zD cX6_init 1005 (.newarray .int) 2 := by decide +kernel
noncomputable def zr_dX6_init_1005 := zskip zr_dX6_init_1003.2 2 (q := 1007) rfl
noncomputable def zr_dX6_init_1007 := zo_181 (k := 77)  (q := 1010) zr_dX6_init_1005 rfl rfl
noncomputable def dX6_init_1007 := zr_dX6_init_1007.1
noncomputable def zr_dX6_init_1010 := zo_3 (q := 1011) zr_dX6_init_1007.2 rfl
noncomputable def dX6_init_1010 := zr_dX6_init_1010.1
noncomputable def zr_dX6_init_1011 := zo_60 (q := 1012) zr_dX6_init_1010.2 rfl
noncomputable def dX6_init_1011 := zr_dX6_init_1011.1
noncomputable def zr_dX6_init_1012 := zo_27 (q := 1013) zr_dX6_init_1011.2 rfl
noncomputable def dX6_init_1012 := zr_dX6_init_1012.1
noncomputable def zr_dX6_init_1013 := zo_16 (k := 40)  (q := 1015) zr_dX6_init_1012.2 (by decide +kernel) rfl
noncomputable def dX6_init_1013 := zr_dX6_init_1013.1
noncomputable def zr_dX6_init_1015 := zo_162 (k := 21)  (q := 1018) zr_dX6_init_1013.2 (by decide +kernel) rfl
noncomputable def dX6_init_1015 := zr_dX6_init_1015.1
noncomputable def zr_dX6_init_1018 := zo_42 (q := 1019) zr_dX6_init_1015.2 rfl
noncomputable def dX6_init_1018 := zr_dX6_init_1018.1
noncomputable def zr_dX6_init_1019 := zo_180 (k := 22)  (q := 1022) zr_dX6_init_1018.2 rfl rfl
noncomputable def dX6_init_1019 := zr_dX6_init_1019.1
noncomputable def zr_dX6_init_1022 := zo_27 (q := 1023) zr_dX6_init_1019.2 rfl
noncomputable def dX6_init_1022 := zr_dX6_init_1022.1
noncomputable def zr_dX6_init_1023 := zo_42 (q := 1024) zr_dX6_init_1022.2 rfl
noncomputable def dX6_init_1023 := zr_dX6_init_1023.1
noncomputable def zr_dX6_init_1024 := zo_180 (k := 46)  (q := 1027) zr_dX6_init_1023.2 rfl rfl
noncomputable def dX6_init_1024 := zr_dX6_init_1024.1
noncomputable def zr_dX6_init_1027 := zo_27 (q := 1028) zr_dX6_init_1024.2 rfl
noncomputable def dX6_init_1027 := zr_dX6_init_1027.1
noncomputable def zr_dX6_init_1028 := zo_46 (q := 1029) zr_dX6_init_1027.2 rfl
noncomputable def dX6_init_1028 := zr_dX6_init_1028.1
noncomputable def zr_dX6_init_1029 := zo_79 (q := 1030) zr_dX6_init_1028.2 rfl
noncomputable def dX6_init_1029 := zr_dX6_init_1029.1
noncomputable def zr_dX6_init_1030 := zo_132 (k := 1) (o := 1)  (q := 1033) zr_dX6_init_1029.2 rfl (by decide +kernel) rfl
noncomputable def dX6_init_1030 := zr_dX6_init_1030.1
noncomputable def zr_dX6_init_1033 := zo_167 (k := -21)  (q := 1036) zr_dX6_init_1030.2 (by decide +kernel) rfl
noncomputable def dX6_init_1033 := zr_dX6_init_1033.1
noncomputable def zr_dX6_init_1036 := zo_42 (q := 1037) zr_dX6_init_1033.2 rfl
noncomputable def dX6_init_1036 := zr_dX6_init_1036.1
noncomputable def zr_dX6_init_1037 := zo_16 (k := 40)  (q := 1039) zr_dX6_init_1036.2 (by decide +kernel) rfl
noncomputable def dX6_init_1037 := zr_dX6_init_1037.1
noncomputable def zr_dX6_init_1039 := zo_181 (k := 80)  (q := 1042) zr_dX6_init_1037.2 rfl rfl
noncomputable def dX6_init_1039 := zr_dX6_init_1039.1
noncomputable def zr_dX6_init_1042 := zo_42 (q := 1043) zr_dX6_init_1039.2 rfl
noncomputable def dX6_init_1042 := zr_dX6_init_1042.1
noncomputable def zr_dX6_init_1043 := zo_182 (k := 84)  (q := 1046) zr_dX6_init_1042.2 rfl rfl
noncomputable def dX6_init_1043 := zr_dX6_init_1043.1
noncomputable def zr_dX6_init_1046 := zo_87 (q := 1047) zr_dX6_init_1043.2 rfl
noncomputable def dX6_init_1046 := zr_dX6_init_1046.1
noncomputable def zr_dX6_init_1047 := zo_177 (q := 1048) zr_dX6_init_1046.2 rfl
noncomputable def dX6_init_1047 := zr_dX6_init_1047.1
theorem zs_dX6_in_0 : zsuf cX6_in 0 cX6_in.data.toList := rfl
noncomputable def zr_dX6_in_0 := zo_26 (q := 1) zs_dX6_in_0 rfl
noncomputable def dX6_in_0 := zr_dX6_in_0.1
noncomputable def zr_dX6_in_1 := zo_27 (q := 2) zr_dX6_in_0.2 rfl
noncomputable def dX6_in_1 := zr_dX6_in_1.1
noncomputable def zr_dX6_in_2 := zo_161 (k := 12)  (q := 5) zr_dX6_in_1.2 (by decide +kernel) rfl
noncomputable def dX6_in_2 := zr_dX6_in_2.1
noncomputable def zr_dX6_in_5 := zo_26 (q := 6) zr_dX6_in_2.2 rfl
noncomputable def dX6_in_5 := zr_dX6_in_5.1
noncomputable def zr_dX6_in_6 := zo_28 (q := 7) zr_dX6_in_5.2 rfl
noncomputable def dX6_in_6 := zr_dX6_in_6.1
noncomputable def zr_dX6_in_7 := zo_163 (k := 7)  (q := 10) zr_dX6_in_6.2 (by decide +kernel) rfl
noncomputable def dX6_in_7 := zr_dX6_in_7.1
noncomputable def zr_dX6_in_10 := zo_4 (q := 11) zr_dX6_in_7.2 rfl
noncomputable def dX6_in_10 := zr_dX6_in_10.1
noncomputable def zr_dX6_in_11 := zo_167 (k := 4)  (q := 14) zr_dX6_in_10.2 (by decide +kernel) rfl
noncomputable def dX6_in_11 := zr_dX6_in_11.1
noncomputable def zr_dX6_in_14 := zo_3 (q := 15) zr_dX6_in_11.2 rfl
noncomputable def dX6_in_14 := zr_dX6_in_14.1
noncomputable def zr_dX6_in_15 := zo_172 (q := 16) zr_dX6_in_14.2 rfl
noncomputable def dX6_in_15 := zr_dX6_in_15.1
theorem zs_dX6_within_0 : zsuf cX6_within 0 cX6_within.data.toList := rfl
noncomputable def zr_dX6_within_0 := zo_26 (q := 1) zs_dX6_within_0 rfl
noncomputable def dX6_within_0 := zr_dX6_within_0.1
noncomputable def zr_dX6_within_1 := zo_27 (q := 2) zr_dX6_within_0.2 rfl
noncomputable def dX6_within_1 := zr_dX6_within_1.1
noncomputable def zr_dX6_within_2 := zo_162 (k := 7)  (q := 5) zr_dX6_within_1.2 (by decide +kernel) rfl
noncomputable def dX6_within_2 := zr_dX6_within_2.1
noncomputable def zr_dX6_within_5 := zo_27 (q := 6) zr_dX6_within_2.2 rfl
noncomputable def dX6_within_5 := zr_dX6_within_5.1
noncomputable def zr_dX6_within_6 := zo_167 (k := 13)  (q := 9) zr_dX6_within_5.2 (by decide +kernel) rfl
noncomputable def dX6_within_6 := zr_dX6_within_6.1
noncomputable def zr_dX6_within_9 := zo_26 (q := 10) zr_dX6_within_6.2 rfl
noncomputable def dX6_within_9 := zr_dX6_within_9.1
noncomputable def zr_dX6_within_10 := zo_28 (q := 11) zr_dX6_within_9.2 rfl
noncomputable def dX6_within_10 := zr_dX6_within_10.1
noncomputable def zr_dX6_within_11 := zo_164 (k := 7)  (q := 14) zr_dX6_within_10.2 (by decide +kernel) rfl
noncomputable def dX6_within_11 := zr_dX6_within_11.1
noncomputable def zr_dX6_within_14 := zo_28 (q := 15) zr_dX6_within_11.2 rfl
noncomputable def dX6_within_14 := zr_dX6_within_14.1
noncomputable def zr_dX6_within_15 := zo_167 (k := 4)  (q := 18) zr_dX6_within_14.2 (by decide +kernel) rfl
noncomputable def dX6_within_15 := zr_dX6_within_15.1
noncomputable def zr_dX6_within_18 := zo_26 (q := 19) zr_dX6_within_15.2 rfl
noncomputable def dX6_within_18 := zr_dX6_within_18.1
noncomputable def zr_dX6_within_19 := zo_172 (q := 20) zr_dX6_within_18.2 rfl
noncomputable def dX6_within_19 := zr_dX6_within_19.1
theorem zs_dX6_isPebble_0 : zsuf cX6_isPebble 0 cX6_isPebble.data.toList := rfl
noncomputable def zr_dX6_isPebble_0 := zo_27 (q := 1) zs_dX6_isPebble_0 rfl
noncomputable def dX6_isPebble_0 := zr_dX6_isPebble_0.1
noncomputable def zr_dX6_isPebble_1 := zo_3 (q := 2) zr_dX6_isPebble_0.2 rfl
noncomputable def dX6_isPebble_1 := zr_dX6_isPebble_1.1
noncomputable def zr_dX6_isPebble_2 := zo_42 (q := 3) zr_dX6_isPebble_1.2 rfl
noncomputable def dX6_isPebble_2 := zr_dX6_isPebble_2.1
noncomputable def zr_dX6_isPebble_3 := zo_180 (k := 88)  (q := 6) zr_dX6_isPebble_2.2 rfl rfl
noncomputable def dX6_isPebble_3 := zr_dX6_isPebble_3.1
noncomputable def zr_dX6_isPebble_6 := zo_4 (q := 7) zr_dX6_isPebble_3.2 rfl
noncomputable def dX6_isPebble_6 := zr_dX6_isPebble_6.1
noncomputable def zr_dX6_isPebble_7 := zo_100 (q := 8) zr_dX6_isPebble_6.2 rfl
noncomputable def dX6_isPebble_7 := zr_dX6_isPebble_7.1
noncomputable def zr_dX6_isPebble_8 := zo_184 (k := 91)  (q := 11) zr_dX6_isPebble_7.2 rfl rfl
noncomputable def dX6_isPebble_8 := zr_dX6_isPebble_8.1
noncomputable def zr_dX6_isPebble_11 := zo_172 (q := 12) zr_dX6_isPebble_8.2 rfl
noncomputable def dX6_isPebble_11 := zr_dX6_isPebble_11.1
theorem zs_dX6_isJudge_0 : zsuf cX6_isJudge 0 cX6_isJudge.data.toList := rfl
noncomputable def zr_dX6_isJudge_0 := zo_27 (q := 1) zs_dX6_isJudge_0 rfl
noncomputable def dX6_isJudge_0 := zr_dX6_isJudge_0.1
noncomputable def zr_dX6_isJudge_1 := zo_3 (q := 2) zr_dX6_isJudge_0.2 rfl
noncomputable def dX6_isJudge_1 := zr_dX6_isJudge_1.1
noncomputable def zr_dX6_isJudge_2 := zo_42 (q := 3) zr_dX6_isJudge_1.2 rfl
noncomputable def dX6_isJudge_2 := zr_dX6_isJudge_2.1
noncomputable def zr_dX6_isJudge_3 := zo_180 (k := 95)  (q := 6) zr_dX6_isJudge_2.2 rfl rfl
noncomputable def dX6_isJudge_3 := zr_dX6_isJudge_3.1
noncomputable def zr_dX6_isJudge_6 := zo_4 (q := 7) zr_dX6_isJudge_3.2 rfl
noncomputable def dX6_isJudge_6 := zr_dX6_isJudge_6.1
noncomputable def zr_dX6_isJudge_7 := zo_100 (q := 8) zr_dX6_isJudge_6.2 rfl
noncomputable def dX6_isJudge_7 := zr_dX6_isJudge_7.1
noncomputable def zr_dX6_isJudge_8 := zo_184 (k := 91)  (q := 11) zr_dX6_isJudge_7.2 rfl rfl
noncomputable def dX6_isJudge_8 := zr_dX6_isJudge_8.1
noncomputable def zr_dX6_isJudge_11 := zo_172 (q := 12) zr_dX6_isJudge_8.2 rfl
noncomputable def dX6_isJudge_11 := zr_dX6_isJudge_11.1
theorem zs_dX6_isCase_0 : zsuf cX6_isCase 0 cX6_isCase.data.toList := rfl
noncomputable def zr_dX6_isCase_0 := zo_26 (q := 1) zs_dX6_isCase_0 rfl
noncomputable def dX6_isCase_0 := zr_dX6_isCase_0.1
noncomputable def zr_dX6_isCase_1 := zo_3 (q := 2) zr_dX6_isCase_0.2 rfl
noncomputable def dX6_isCase_1 := zr_dX6_isCase_1.1
noncomputable def zr_dX6_isCase_2 := zo_16 (k := 60)  (q := 4) zr_dX6_isCase_1.2 (by decide +kernel) rfl
noncomputable def dX6_isCase_2 := zr_dX6_isCase_2.1
noncomputable def zr_dX6_isCase_4 := zo_184 (k := 91)  (q := 7) zr_dX6_isCase_2.2 rfl rfl
noncomputable def dX6_isCase_4 := zr_dX6_isCase_4.1
noncomputable def zr_dX6_isCase_7 := zo_172 (q := 8) zr_dX6_isCase_4.2 rfl
noncomputable def dX6_isCase_7 := zr_dX6_isCase_7.1
