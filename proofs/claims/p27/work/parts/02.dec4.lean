theorem zs_dX6_tellsPlaces_102 : zsuf cX6_tellsPlaces 0 cX6_tellsPlaces.data.toList := rfl
noncomputable def zr_dX6_tellsPlaces_102 := zo_54 (k := 6)  (q := 104) (zskip zs_dX6_tellsPlaces_102 102 (q := 102) rfl) rfl rfl
noncomputable def dX6_tellsPlaces_102 := zr_dX6_tellsPlaces_102.1
noncomputable def zr_dX6_tellsPlaces_104 := zo_21 (k := 6)  (q := 106) zr_dX6_tellsPlaces_102.2 rfl rfl
noncomputable def dX6_tellsPlaces_104 := zr_dX6_tellsPlaces_104.1
noncomputable def zr_dX6_tellsPlaces_106 := zo_28 (q := 107) zr_dX6_tellsPlaces_104.2 rfl
noncomputable def dX6_tellsPlaces_106 := zr_dX6_tellsPlaces_106.1
noncomputable def zr_dX6_tellsPlaces_107 := zo_162 (k := 74)  (q := 110) zr_dX6_tellsPlaces_106.2 (by decide +kernel) rfl
noncomputable def dX6_tellsPlaces_107 := zr_dX6_tellsPlaces_107.1
noncomputable def zr_dX6_tellsPlaces_110 := zo_42 (q := 111) zr_dX6_tellsPlaces_107.2 rfl
noncomputable def dX6_tellsPlaces_110 := zr_dX6_tellsPlaces_110.1
noncomputable def zr_dX6_tellsPlaces_111 := zo_180 (k := 19)  (q := 114) zr_dX6_tellsPlaces_110.2 rfl rfl
noncomputable def dX6_tellsPlaces_111 := zr_dX6_tellsPlaces_111.1
noncomputable def zr_dX6_tellsPlaces_114 := zo_6 (q := 115) zr_dX6_tellsPlaces_111.2 rfl
noncomputable def dX6_tellsPlaces_114 := zr_dX6_tellsPlaces_114.1
noncomputable def zr_dX6_tellsPlaces_115 := zo_27 (q := 116) zr_dX6_tellsPlaces_114.2 rfl
noncomputable def dX6_tellsPlaces_115 := zr_dX6_tellsPlaces_115.1
noncomputable def zr_dX6_tellsPlaces_116 := zo_104 (q := 117) zr_dX6_tellsPlaces_115.2 rfl
noncomputable def dX6_tellsPlaces_116 := zr_dX6_tellsPlaces_116.1
noncomputable def zr_dX6_tellsPlaces_117 := zo_4 (q := 118) zr_dX6_tellsPlaces_116.2 rfl
noncomputable def dX6_tellsPlaces_117 := zr_dX6_tellsPlaces_117.1
noncomputable def zr_dX6_tellsPlaces_118 := zo_96 (q := 119) zr_dX6_tellsPlaces_117.2 rfl
noncomputable def dX6_tellsPlaces_118 := zr_dX6_tellsPlaces_118.1
noncomputable def zr_dX6_tellsPlaces_119 := zo_92 (q := 120) zr_dX6_tellsPlaces_118.2 rfl
noncomputable def dX6_tellsPlaces_119 := zr_dX6_tellsPlaces_119.1
noncomputable def zr_dX6_tellsPlaces_120 := zo_46 (q := 121) zr_dX6_tellsPlaces_119.2 rfl
noncomputable def dX6_tellsPlaces_120 := zr_dX6_tellsPlaces_120.1
noncomputable def zr_dX6_tellsPlaces_121 := zo_4 (q := 122) zr_dX6_tellsPlaces_120.2 rfl
noncomputable def dX6_tellsPlaces_121 := zr_dX6_tellsPlaces_121.1
noncomputable def zr_dX6_tellsPlaces_122 := zo_96 (q := 123) zr_dX6_tellsPlaces_121.2 rfl
noncomputable def dX6_tellsPlaces_122 := zr_dX6_tellsPlaces_122.1
noncomputable def zr_dX6_tellsPlaces_123 := zo_79 (q := 124) zr_dX6_tellsPlaces_122.2 rfl
noncomputable def dX6_tellsPlaces_123 := zr_dX6_tellsPlaces_123.1
noncomputable def zr_dX6_tellsPlaces_124 := zo_42 (q := 125) zr_dX6_tellsPlaces_123.2 rfl
noncomputable def dX6_tellsPlaces_124 := zr_dX6_tellsPlaces_124.1
noncomputable def zr_dX6_tellsPlaces_125 := zo_180 (k := 19)  (q := 128) zr_dX6_tellsPlaces_124.2 rfl rfl
noncomputable def dX6_tellsPlaces_125 := zr_dX6_tellsPlaces_125.1
noncomputable def zr_dX6_tellsPlaces_128 := zo_6 (q := 129) zr_dX6_tellsPlaces_125.2 rfl
noncomputable def dX6_tellsPlaces_128 := zr_dX6_tellsPlaces_128.1
noncomputable def zr_dX6_tellsPlaces_129 := zo_27 (q := 130) zr_dX6_tellsPlaces_128.2 rfl
noncomputable def dX6_tellsPlaces_129 := zr_dX6_tellsPlaces_129.1
noncomputable def zr_dX6_tellsPlaces_130 := zo_104 (q := 131) zr_dX6_tellsPlaces_129.2 rfl
noncomputable def dX6_tellsPlaces_130 := zr_dX6_tellsPlaces_130.1
noncomputable def zr_dX6_tellsPlaces_131 := zo_42 (q := 132) zr_dX6_tellsPlaces_130.2 rfl
noncomputable def dX6_tellsPlaces_131 := zr_dX6_tellsPlaces_131.1
noncomputable def zr_dX6_tellsPlaces_132 := zo_180 (k := 19)  (q := 135) zr_dX6_tellsPlaces_131.2 rfl rfl
noncomputable def dX6_tellsPlaces_132 := zr_dX6_tellsPlaces_132.1
noncomputable def zr_dX6_tellsPlaces_135 := zo_6 (q := 136) zr_dX6_tellsPlaces_132.2 rfl
noncomputable def dX6_tellsPlaces_135 := zr_dX6_tellsPlaces_135.1
noncomputable def zr_dX6_tellsPlaces_136 := zo_27 (q := 137) zr_dX6_tellsPlaces_135.2 rfl
noncomputable def dX6_tellsPlaces_136 := zr_dX6_tellsPlaces_136.1
noncomputable def zr_dX6_tellsPlaces_137 := zo_104 (q := 138) zr_dX6_tellsPlaces_136.2 rfl
noncomputable def dX6_tellsPlaces_137 := zr_dX6_tellsPlaces_137.1
noncomputable def zr_dX6_tellsPlaces_138 := zo_4 (q := 139) zr_dX6_tellsPlaces_137.2 rfl
noncomputable def dX6_tellsPlaces_138 := zr_dX6_tellsPlaces_138.1
noncomputable def zr_dX6_tellsPlaces_139 := zo_96 (q := 140) zr_dX6_tellsPlaces_138.2 rfl
noncomputable def dX6_tellsPlaces_139 := zr_dX6_tellsPlaces_139.1
noncomputable def zr_dX6_tellsPlaces_140 := zo_46 (q := 141) zr_dX6_tellsPlaces_139.2 rfl
noncomputable def dX6_tellsPlaces_140 := zr_dX6_tellsPlaces_140.1
noncomputable def zr_dX6_tellsPlaces_141 := zo_16 (k := 10)  (q := 143) zr_dX6_tellsPlaces_140.2 (by decide +kernel) rfl
noncomputable def dX6_tellsPlaces_141 := zr_dX6_tellsPlaces_141.1
noncomputable def zr_dX6_tellsPlaces_143 := zo_112 (q := 144) zr_dX6_tellsPlaces_141.2 rfl
noncomputable def dX6_tellsPlaces_143 := zr_dX6_tellsPlaces_143.1
noncomputable def zr_dX6_tellsPlaces_144 := zo_154 (k := 22)  (q := 147) zr_dX6_tellsPlaces_143.2 (by decide +kernel) rfl
noncomputable def dX6_tellsPlaces_144 := zr_dX6_tellsPlaces_144.1
noncomputable def zr_dX6_tellsPlaces_147 := zo_42 (q := 148) zr_dX6_tellsPlaces_144.2 rfl
noncomputable def dX6_tellsPlaces_147 := zr_dX6_tellsPlaces_147.1
noncomputable def zr_dX6_tellsPlaces_148 := zo_180 (k := 19)  (q := 151) zr_dX6_tellsPlaces_147.2 rfl rfl
noncomputable def dX6_tellsPlaces_148 := zr_dX6_tellsPlaces_148.1
noncomputable def zr_dX6_tellsPlaces_151 := zo_6 (q := 152) zr_dX6_tellsPlaces_148.2 rfl
noncomputable def dX6_tellsPlaces_151 := zr_dX6_tellsPlaces_151.1
noncomputable def zr_dX6_tellsPlaces_152 := zo_27 (q := 153) zr_dX6_tellsPlaces_151.2 rfl
noncomputable def dX6_tellsPlaces_152 := zr_dX6_tellsPlaces_152.1
noncomputable def zr_dX6_tellsPlaces_153 := zo_104 (q := 154) zr_dX6_tellsPlaces_152.2 rfl
noncomputable def dX6_tellsPlaces_153 := zr_dX6_tellsPlaces_153.1
noncomputable def zr_dX6_tellsPlaces_154 := zo_46 (q := 155) zr_dX6_tellsPlaces_153.2 rfl
noncomputable def dX6_tellsPlaces_154 := zr_dX6_tellsPlaces_154.1
noncomputable def zr_dX6_tellsPlaces_155 := zo_4 (q := 156) zr_dX6_tellsPlaces_154.2 rfl
noncomputable def dX6_tellsPlaces_155 := zr_dX6_tellsPlaces_155.1
noncomputable def zr_dX6_tellsPlaces_156 := zo_96 (q := 157) zr_dX6_tellsPlaces_155.2 rfl
noncomputable def dX6_tellsPlaces_156 := zr_dX6_tellsPlaces_156.1
noncomputable def zr_dX6_tellsPlaces_157 := zo_3 (q := 158) zr_dX6_tellsPlaces_156.2 rfl
noncomputable def dX6_tellsPlaces_157 := zr_dX6_tellsPlaces_157.1
noncomputable def zr_dX6_tellsPlaces_158 := zo_16 (k := 20)  (q := 160) zr_dX6_tellsPlaces_157.2 (by decide +kernel) rfl
noncomputable def dX6_tellsPlaces_158 := zr_dX6_tellsPlaces_158.1
noncomputable def zr_dX6_tellsPlaces_160 := zo_184 (k := 174)  (q := 163) zr_dX6_tellsPlaces_158.2 rfl rfl
noncomputable def dX6_tellsPlaces_160 := zr_dX6_tellsPlaces_160.1
noncomputable def zr_dX6_tellsPlaces_163 := zo_167 (k := 11)  (q := 166) zr_dX6_tellsPlaces_160.2 (by decide +kernel) rfl
noncomputable def dX6_tellsPlaces_163 := zr_dX6_tellsPlaces_163.1
noncomputable def zr_dX6_tellsPlaces_166 := zo_42 (q := 167) zr_dX6_tellsPlaces_163.2 rfl
noncomputable def dX6_tellsPlaces_166 := zr_dX6_tellsPlaces_166.1
noncomputable def zr_dX6_tellsPlaces_167 := zo_180 (k := 19)  (q := 170) zr_dX6_tellsPlaces_166.2 rfl rfl
noncomputable def dX6_tellsPlaces_167 := zr_dX6_tellsPlaces_167.1
noncomputable def zr_dX6_tellsPlaces_170 := zo_6 (q := 171) zr_dX6_tellsPlaces_167.2 rfl
noncomputable def dX6_tellsPlaces_170 := zr_dX6_tellsPlaces_170.1
noncomputable def zr_dX6_tellsPlaces_171 := zo_27 (q := 172) zr_dX6_tellsPlaces_170.2 rfl
noncomputable def dX6_tellsPlaces_171 := zr_dX6_tellsPlaces_171.1
noncomputable def zr_dX6_tellsPlaces_172 := zo_104 (q := 173) zr_dX6_tellsPlaces_171.2 rfl
noncomputable def dX6_tellsPlaces_172 := zr_dX6_tellsPlaces_172.1
noncomputable def zr_dX6_tellsPlaces_173 := zo_46 (q := 174) zr_dX6_tellsPlaces_172.2 rfl
noncomputable def dX6_tellsPlaces_173 := zr_dX6_tellsPlaces_173.1
noncomputable def zr_dX6_tellsPlaces_174 := zo_79 (q := 175) zr_dX6_tellsPlaces_173.2 rfl
noncomputable def dX6_tellsPlaces_174 := zr_dX6_tellsPlaces_174.1
noncomputable def zr_dX6_tellsPlaces_175 := zo_132 (k := 6) (o := 1)  (q := 178) zr_dX6_tellsPlaces_174.2 rfl (by decide +kernel) rfl
noncomputable def dX6_tellsPlaces_175 := zr_dX6_tellsPlaces_175.1
noncomputable def zr_dX6_tellsPlaces_178 := zo_167 (k := -74)  (q := 181) zr_dX6_tellsPlaces_175.2 (by decide +kernel) rfl
noncomputable def dX6_tellsPlaces_178 := zr_dX6_tellsPlaces_178.1
noncomputable def zr_dX6_tellsPlaces_181 := zo_132 (k := 5) (o := 1)  (q := 184) zr_dX6_tellsPlaces_178.2 rfl (by decide +kernel) rfl
noncomputable def dX6_tellsPlaces_181 := zr_dX6_tellsPlaces_181.1
noncomputable def zr_dX6_tellsPlaces_184 := zo_167 (k := -160)  (q := 187) zr_dX6_tellsPlaces_181.2 (by decide +kernel) rfl
noncomputable def dX6_tellsPlaces_184 := zr_dX6_tellsPlaces_184.1
noncomputable def zr_dX6_tellsPlaces_187 := zo_42 (q := 188) zr_dX6_tellsPlaces_184.2 rfl
noncomputable def dX6_tellsPlaces_187 := zr_dX6_tellsPlaces_187.1
noncomputable def zr_dX6_tellsPlaces_188 := zo_180 (k := 19)  (q := 191) zr_dX6_tellsPlaces_187.2 rfl rfl
noncomputable def dX6_tellsPlaces_188 := zr_dX6_tellsPlaces_188.1
noncomputable def zr_dX6_tellsPlaces_191 := zo_6 (q := 192) zr_dX6_tellsPlaces_188.2 rfl
noncomputable def dX6_tellsPlaces_191 := zr_dX6_tellsPlaces_191.1
noncomputable def zr_dX6_tellsPlaces_192 := zo_27 (q := 193) zr_dX6_tellsPlaces_191.2 rfl
noncomputable def dX6_tellsPlaces_192 := zr_dX6_tellsPlaces_192.1
noncomputable def zr_dX6_tellsPlaces_193 := zo_104 (q := 194) zr_dX6_tellsPlaces_192.2 rfl
noncomputable def dX6_tellsPlaces_193 := zr_dX6_tellsPlaces_193.1
noncomputable def zr_dX6_tellsPlaces_194 := zo_29 (q := 195) zr_dX6_tellsPlaces_193.2 rfl
noncomputable def dX6_tellsPlaces_194 := zr_dX6_tellsPlaces_194.1
noncomputable def zr_dX6_tellsPlaces_195 := zo_79 (q := 196) zr_dX6_tellsPlaces_194.2 rfl
noncomputable def dX6_tellsPlaces_195 := zr_dX6_tellsPlaces_195.1
noncomputable def zr_dX6_tellsPlaces_196 := zo_42 (q := 197) zr_dX6_tellsPlaces_195.2 rfl
noncomputable def dX6_tellsPlaces_196 := zr_dX6_tellsPlaces_196.1
noncomputable def zr_dX6_tellsPlaces_197 := zo_180 (k := 19)  (q := 200) zr_dX6_tellsPlaces_196.2 rfl rfl
noncomputable def dX6_tellsPlaces_197 := zr_dX6_tellsPlaces_197.1
noncomputable def zr_dX6_tellsPlaces_200 := zo_6 (q := 201) zr_dX6_tellsPlaces_197.2 rfl
noncomputable def dX6_tellsPlaces_200 := zr_dX6_tellsPlaces_200.1
noncomputable def zr_dX6_tellsPlaces_201 := zo_27 (q := 202) zr_dX6_tellsPlaces_200.2 rfl
noncomputable def dX6_tellsPlaces_201 := zr_dX6_tellsPlaces_201.1
noncomputable def zr_dX6_tellsPlaces_202 := zo_104 (q := 203) zr_dX6_tellsPlaces_201.2 rfl
noncomputable def dX6_tellsPlaces_202 := zr_dX6_tellsPlaces_202.1
noncomputable def zr_dX6_tellsPlaces_203 := zo_4 (q := 204) zr_dX6_tellsPlaces_202.2 rfl
noncomputable def dX6_tellsPlaces_203 := zr_dX6_tellsPlaces_203.1
noncomputable def zr_dX6_tellsPlaces_204 := zo_96 (q := 205) zr_dX6_tellsPlaces_203.2 rfl
noncomputable def dX6_tellsPlaces_204 := zr_dX6_tellsPlaces_204.1
noncomputable def zr_dX6_tellsPlaces_205 := zo_21 (k := 4)  (q := 207) zr_dX6_tellsPlaces_204.2 rfl rfl
noncomputable def dX6_tellsPlaces_205 := zr_dX6_tellsPlaces_205.1
noncomputable def zr_dX6_tellsPlaces_207 := zo_79 (q := 208) zr_dX6_tellsPlaces_205.2 rfl
noncomputable def dX6_tellsPlaces_207 := zr_dX6_tellsPlaces_207.1
noncomputable def zr_dX6_tellsPlaces_208 := zo_177 (q := 209) zr_dX6_tellsPlaces_207.2 rfl
noncomputable def dX6_tellsPlaces_208 := zr_dX6_tellsPlaces_208.1
theorem zs_dX6_tells_0 : zsuf cX6_tells 0 cX6_tells.data.toList := rfl
noncomputable def zr_dX6_tells_0 := zo_27 (q := 1) zs_dX6_tells_0 rfl
noncomputable def dX6_tells_0 := zr_dX6_tells_0.1
noncomputable def zr_dX6_tells_1 := zo_62 (q := 2) zr_dX6_tells_0.2 rfl
noncomputable def dX6_tells_1 := zr_dX6_tells_1.1
noncomputable def zr_dX6_tells_2 := zo_3 (q := 3) zr_dX6_tells_1.2 rfl
noncomputable def dX6_tells_2 := zr_dX6_tells_2.1
noncomputable def zr_dX6_tells_3 := zo_54 (k := 4)  (q := 5) zr_dX6_tells_2.2 rfl rfl
noncomputable def dX6_tells_3 := zr_dX6_tells_3.1
noncomputable def zr_dX6_tells_5 := zo_4 (q := 6) zr_dX6_tells_3.2 rfl
noncomputable def dX6_tells_5 := zr_dX6_tells_5.1
noncomputable def zr_dX6_tells_6 := zo_54 (k := 5)  (q := 8) zr_dX6_tells_5.2 rfl rfl
noncomputable def dX6_tells_6 := zr_dX6_tells_6.1
noncomputable def zr_dX6_tells_8 := zo_42 (q := 9) zr_dX6_tells_6.2 rfl
noncomputable def dX6_tells_8 := zr_dX6_tells_8.1
noncomputable def zr_dX6_tells_9 := zo_3 (q := 10) zr_dX6_tells_8.2 rfl
noncomputable def dX6_tells_9 := zr_dX6_tells_9.1
noncomputable def zr_dX6_tells_10 := zo_181 (k := 231)  (q := 13) zr_dX6_tells_9.2 rfl rfl
noncomputable def dX6_tells_10 := zr_dX6_tells_10.1
noncomputable def zr_dX6_tells_13 := zo_42 (q := 14) zr_dX6_tells_10.2 rfl
noncomputable def dX6_tells_13 := zr_dX6_tells_13.1
noncomputable def zr_dX6_tells_14 := zo_3 (q := 15) zr_dX6_tells_13.2 rfl
noncomputable def dX6_tells_14 := zr_dX6_tells_14.1
noncomputable def zr_dX6_tells_15 := zo_181 (k := 234)  (q := 18) zr_dX6_tells_14.2 rfl rfl
noncomputable def dX6_tells_15 := zr_dX6_tells_15.1
noncomputable def zr_dX6_tells_18 := zo_42 (q := 19) zr_dX6_tells_15.2 rfl
noncomputable def dX6_tells_18 := zr_dX6_tells_18.1
noncomputable def zr_dX6_tells_19 := zo_180 (k := 88)  (q := 22) zr_dX6_tells_18.2 rfl rfl
noncomputable def dX6_tells_19 := zr_dX6_tells_19.1
noncomputable def zr_dX6_tells_22 := zo_4 (q := 23) zr_dX6_tells_19.2 rfl
noncomputable def dX6_tells_22 := zr_dX6_tells_22.1
noncomputable def zr_dX6_tells_23 := zo_100 (q := 24) zr_dX6_tells_22.2 rfl
noncomputable def dX6_tells_23 := zr_dX6_tells_23.1
noncomputable def zr_dX6_tells_24 := zo_54 (k := 6)  (q := 26) zr_dX6_tells_23.2 rfl rfl
noncomputable def dX6_tells_24 := zr_dX6_tells_24.1
noncomputable def zr_dX6_tells_26 := zo_21 (k := 6)  (q := 28) zr_dX6_tells_24.2 rfl rfl
noncomputable def dX6_tells_26 := zr_dX6_tells_26.1
noncomputable def zr_dX6_tells_28 := zo_155 (k := 98)  (q := 31) zr_dX6_tells_26.2 (by decide +kernel) rfl
noncomputable def dX6_tells_28 := zr_dX6_tells_28.1
noncomputable def zr_dX6_tells_31 := zo_29 (q := 32) zr_dX6_tells_28.2 rfl
noncomputable def dX6_tells_31 := zr_dX6_tells_31.1
noncomputable def zr_dX6_tells_32 := zo_42 (q := 33) zr_dX6_tells_31.2 rfl
noncomputable def dX6_tells_32 := zr_dX6_tells_32.1
noncomputable def zr_dX6_tells_33 := zo_180 (k := 88)  (q := 36) zr_dX6_tells_32.2 rfl rfl
noncomputable def dX6_tells_33 := zr_dX6_tells_33.1
noncomputable def zr_dX6_tells_36 := zo_112 (q := 37) zr_dX6_tells_33.2 rfl
noncomputable def dX6_tells_36 := zr_dX6_tells_36.1
noncomputable def zr_dX6_tells_37 := zo_54 (k := 7)  (q := 39) zr_dX6_tells_36.2 rfl rfl
noncomputable def dX6_tells_37 := zr_dX6_tells_37.1
noncomputable def zr_dX6_tells_39 := zo_29 (q := 40) zr_dX6_tells_37.2 rfl
noncomputable def dX6_tells_39 := zr_dX6_tells_39.1
noncomputable def zr_dX6_tells_40 := zo_42 (q := 41) zr_dX6_tells_39.2 rfl
noncomputable def dX6_tells_40 := zr_dX6_tells_40.1
noncomputable def zr_dX6_tells_41 := zo_180 (k := 88)  (q := 44) zr_dX6_tells_40.2 rfl rfl
noncomputable def dX6_tells_41 := zr_dX6_tells_41.1
noncomputable def zr_dX6_tells_44 := zo_108 (q := 45) zr_dX6_tells_41.2 rfl
noncomputable def dX6_tells_44 := zr_dX6_tells_44.1
noncomputable def zr_dX6_tells_45 := zo_62 (q := 46) zr_dX6_tells_44.2 rfl
noncomputable def dX6_tells_45 := zr_dX6_tells_45.1
noncomputable def zr_dX6_tells_46 := zo_21 (k := 4)  (q := 48) zr_dX6_tells_45.2 rfl rfl
noncomputable def dX6_tells_46 := zr_dX6_tells_46.1
noncomputable def zr_dX6_tells_48 := zo_4 (q := 49) zr_dX6_tells_46.2 rfl
noncomputable def dX6_tells_48 := zr_dX6_tells_48.1
noncomputable def zr_dX6_tells_49 := zo_21 (k := 7)  (q := 51) zr_dX6_tells_48.2 rfl rfl
noncomputable def dX6_tells_49 := zr_dX6_tells_49.1
noncomputable def zr_dX6_tells_51 := zo_120 (q := 52) zr_dX6_tells_49.2 rfl
noncomputable def dX6_tells_51 := zr_dX6_tells_51.1
noncomputable def zr_dX6_tells_52 := zo_128 (q := 53) zr_dX6_tells_51.2 rfl
noncomputable def dX6_tells_52 := zr_dX6_tells_52.1
noncomputable def zr_dX6_tells_53 := zo_54 (k := 4)  (q := 55) zr_dX6_tells_52.2 rfl rfl
noncomputable def dX6_tells_53 := zr_dX6_tells_53.1
noncomputable def zr_dX6_tells_55 := zo_42 (q := 56) zr_dX6_tells_53.2 rfl
noncomputable def dX6_tells_55 := zr_dX6_tells_55.1
noncomputable def zr_dX6_tells_56 := zo_89 (q := 57) zr_dX6_tells_55.2 rfl
noncomputable def dX6_tells_56 := zr_dX6_tells_56.1
noncomputable def zr_dX6_tells_57 := zo_180 (k := 234)  (q := 60) zr_dX6_tells_56.2 rfl rfl
noncomputable def dX6_tells_57 := zr_dX6_tells_57.1
noncomputable def zr_dX6_tells_60 := zo_21 (k := 5)  (q := 62) zr_dX6_tells_57.2 rfl rfl
noncomputable def dX6_tells_60 := zr_dX6_tells_60.1
noncomputable def zr_dX6_tells_62 := zo_21 (k := 7)  (q := 64) zr_dX6_tells_60.2 rfl rfl
noncomputable def dX6_tells_62 := zr_dX6_tells_62.1
noncomputable def zr_dX6_tells_64 := zo_4 (q := 65) zr_dX6_tells_62.2 rfl
noncomputable def dX6_tells_64 := zr_dX6_tells_64.1
noncomputable def zr_dX6_tells_65 := zo_96 (q := 66) zr_dX6_tells_64.2 rfl
noncomputable def dX6_tells_65 := zr_dX6_tells_65.1
noncomputable def zr_dX6_tells_66 := zo_104 (q := 67) zr_dX6_tells_65.2 rfl
noncomputable def dX6_tells_66 := zr_dX6_tells_66.1
noncomputable def zr_dX6_tells_67 := zo_96 (q := 68) zr_dX6_tells_66.2 rfl
noncomputable def dX6_tells_67 := zr_dX6_tells_67.1
noncomputable def zr_dX6_tells_68 := zo_181 (k := 234)  (q := 71) zr_dX6_tells_67.2 rfl rfl
noncomputable def dX6_tells_68 := zr_dX6_tells_68.1
noncomputable def zr_dX6_tells_71 := zo_21 (k := 5)  (q := 73) zr_dX6_tells_68.2 rfl rfl
noncomputable def dX6_tells_71 := zr_dX6_tells_71.1
noncomputable def zr_dX6_tells_73 := zo_16 (k := 10)  (q := 75) zr_dX6_tells_71.2 (by decide +kernel) rfl
noncomputable def dX6_tells_73 := zr_dX6_tells_73.1
noncomputable def zr_dX6_tells_75 := zo_104 (q := 76) zr_dX6_tells_73.2 rfl
noncomputable def dX6_tells_75 := zr_dX6_tells_75.1
noncomputable def zr_dX6_tells_76 := zo_54 (k := 5)  (q := 78) zr_dX6_tells_75.2 rfl rfl
noncomputable def dX6_tells_76 := zr_dX6_tells_76.1
noncomputable def zr_dX6_tells_78 := zo_42 (q := 79) zr_dX6_tells_76.2 rfl
noncomputable def dX6_tells_78 := zr_dX6_tells_78.1
noncomputable def zr_dX6_tells_79 := zo_89 (q := 80) zr_dX6_tells_78.2 rfl
noncomputable def dX6_tells_79 := zr_dX6_tells_79.1
noncomputable def zr_dX6_tells_80 := zo_180 (k := 231)  (q := 83) zr_dX6_tells_79.2 rfl rfl
noncomputable def dX6_tells_80 := zr_dX6_tells_80.1
noncomputable def zr_dX6_tells_83 := zo_28 (q := 84) zr_dX6_tells_80.2 rfl
noncomputable def dX6_tells_83 := zr_dX6_tells_83.1
noncomputable def zr_dX6_tells_84 := zo_154 (k := 19)  (q := 87) zr_dX6_tells_83.2 (by decide +kernel) rfl
noncomputable def dX6_tells_84 := zr_dX6_tells_84.1
noncomputable def zr_dX6_tells_87 := zo_42 (q := 88) zr_dX6_tells_84.2 rfl
noncomputable def dX6_tells_87 := zr_dX6_tells_87.1
noncomputable def zr_dX6_tells_88 := zo_180 (k := 71)  (q := 91) zr_dX6_tells_87.2 rfl rfl
noncomputable def dX6_tells_88 := zr_dX6_tells_88.1
noncomputable def zr_dX6_tells_91 := zo_16 (k := 6)  (q := 93) zr_dX6_tells_88.2 (by decide +kernel) rfl
noncomputable def dX6_tells_91 := zr_dX6_tells_91.1
noncomputable def zr_dX6_tells_93 := zo_21 (k := 6)  (q := 95) zr_dX6_tells_91.2 rfl rfl
noncomputable def dX6_tells_93 := zr_dX6_tells_93.1
noncomputable def zr_dX6_tells_95 := zo_104 (q := 96) zr_dX6_tells_93.2 rfl
noncomputable def dX6_tells_95 := zr_dX6_tells_95.1
noncomputable def zr_dX6_tells_96 := zo_21 (k := 7)  (q := 98) zr_dX6_tells_95.2 rfl rfl
noncomputable def dX6_tells_96 := zr_dX6_tells_96.1
noncomputable def zr_dX6_tells_98 := zo_96 (q := 99) zr_dX6_tells_96.2 rfl
noncomputable def dX6_tells_98 := zr_dX6_tells_98.1
noncomputable def zr_dX6_tells_99 := zo_46 (q := 100) zr_dX6_tells_98.2 rfl
noncomputable def dX6_tells_99 := zr_dX6_tells_99.1
noncomputable def zr_dX6_tells_100 := zo_167 (k := 16)  (q := 103) zr_dX6_tells_99.2 (by decide +kernel) rfl
noncomputable def dX6_tells_100 := zr_dX6_tells_100.1
noncomputable def zr_dX6_tells_103 := zo_42 (q := 104) zr_dX6_tells_100.2 rfl
noncomputable def dX6_tells_103 := zr_dX6_tells_103.1
noncomputable def zr_dX6_tells_104 := zo_180 (k := 74)  (q := 107) zr_dX6_tells_103.2 rfl rfl
noncomputable def dX6_tells_104 := zr_dX6_tells_104.1
noncomputable def zr_dX6_tells_107 := zo_16 (k := 6)  (q := 109) zr_dX6_tells_104.2 (by decide +kernel) rfl
noncomputable def dX6_tells_107 := zr_dX6_tells_107.1
noncomputable def zr_dX6_tells_109 := zo_21 (k := 6)  (q := 111) zr_dX6_tells_107.2 rfl rfl
noncomputable def dX6_tells_109 := zr_dX6_tells_109.1
noncomputable def zr_dX6_tells_111 := zo_104 (q := 112) zr_dX6_tells_109.2 rfl
noncomputable def dX6_tells_111 := zr_dX6_tells_111.1
noncomputable def zr_dX6_tells_112 := zo_21 (k := 7)  (q := 114) zr_dX6_tells_111.2 rfl rfl
noncomputable def dX6_tells_112 := zr_dX6_tells_112.1
noncomputable def zr_dX6_tells_114 := zo_96 (q := 115) zr_dX6_tells_112.2 rfl
noncomputable def dX6_tells_114 := zr_dX6_tells_114.1
noncomputable def zr_dX6_tells_115 := zo_46 (q := 116) zr_dX6_tells_114.2 rfl
noncomputable def dX6_tells_115 := zr_dX6_tells_115.1
noncomputable def zr_dX6_tells_116 := zo_96 (q := 117) zr_dX6_tells_115.2 rfl
noncomputable def dX6_tells_116 := zr_dX6_tells_116.1
noncomputable def zr_dX6_tells_117 := zo_181 (k := 231)  (q := 120) zr_dX6_tells_116.2 rfl rfl
noncomputable def dX6_tells_117 := zr_dX6_tells_117.1
noncomputable def zr_dX6_tells_120 := zo_132 (k := 6) (o := (-1))  (q := 123) zr_dX6_tells_117.2 rfl (by decide +kernel) rfl
noncomputable def dX6_tells_120 := zr_dX6_tells_120.1
noncomputable def zr_dX6_tells_123 := zo_167 (k := -97)  (q := 126) zr_dX6_tells_120.2 (by decide +kernel) rfl
noncomputable def dX6_tells_123 := zr_dX6_tells_123.1
noncomputable def zr_dX6_tells_126 := zo_21 (k := 4)  (q := 128) zr_dX6_tells_123.2 rfl rfl
noncomputable def dX6_tells_126 := zr_dX6_tells_126.1
noncomputable def zr_dX6_tells_128 := zo_4 (q := 129) zr_dX6_tells_126.2 rfl
noncomputable def dX6_tells_128 := zr_dX6_tells_128.1
noncomputable def zr_dX6_tells_129 := zo_42 (q := 130) zr_dX6_tells_128.2 rfl
noncomputable def dX6_tells_129 := zr_dX6_tells_129.1
noncomputable def zr_dX6_tells_130 := zo_180 (k := 88)  (q := 133) zr_dX6_tells_129.2 rfl rfl
noncomputable def dX6_tells_130 := zr_dX6_tells_130.1
noncomputable def zr_dX6_tells_133 := zo_120 (q := 134) zr_dX6_tells_130.2 rfl
noncomputable def dX6_tells_133 := zr_dX6_tells_133.1
noncomputable def zr_dX6_tells_134 := zo_4 (q := 135) zr_dX6_tells_133.2 rfl
noncomputable def dX6_tells_134 := zr_dX6_tells_134.1
noncomputable def zr_dX6_tells_135 := zo_100 (q := 136) zr_dX6_tells_134.2 rfl
noncomputable def dX6_tells_135 := zr_dX6_tells_135.1
noncomputable def zr_dX6_tells_136 := zo_160 (k := 7)  (q := 139) zr_dX6_tells_135.2 (by decide +kernel) rfl
noncomputable def dX6_tells_136 := zr_dX6_tells_136.1
noncomputable def zr_dX6_tells_139 := zo_4 (q := 140) zr_dX6_tells_136.2 rfl
noncomputable def dX6_tells_139 := zr_dX6_tells_139.1
noncomputable def zr_dX6_tells_140 := zo_167 (k := 4)  (q := 143) zr_dX6_tells_139.2 (by decide +kernel) rfl
noncomputable def dX6_tells_140 := zr_dX6_tells_140.1
noncomputable def zr_dX6_tells_143 := zo_3 (q := 144) zr_dX6_tells_140.2 rfl
noncomputable def dX6_tells_143 := zr_dX6_tells_143.1
noncomputable def zr_dX6_tells_144 := zo_172 (q := 145) zr_dX6_tells_143.2 rfl
noncomputable def dX6_tells_144 := zr_dX6_tells_144.1
theorem zs_dX6_order_0 : zsuf cX6_order 0 cX6_order.data.toList := rfl
noncomputable def zr_dX6_order_0 := zo_42 (q := 1) zs_dX6_order_0 rfl
noncomputable def dX6_order_0 := zr_dX6_order_0.1
noncomputable def zr_dX6_order_1 := zo_27 (q := 2) zr_dX6_order_0.2 rfl
noncomputable def dX6_order_1 := zr_dX6_order_1.1
noncomputable def zr_dX6_order_2 := zo_182 (k := 104)  (q := 5) zr_dX6_order_1.2 rfl rfl
noncomputable def dX6_order_2 := zr_dX6_order_2.1
noncomputable def zr_dX6_order_5 := zo_154 (k := 6)  (q := 8) zr_dX6_order_2.2 (by decide +kernel) rfl
noncomputable def dX6_order_5 := zr_dX6_order_5.1
noncomputable def zr_dX6_order_8 := zo_16 (k := -5)  (q := 10) zr_dX6_order_5.2 (by decide +kernel) rfl
noncomputable def dX6_order_8 := zr_dX6_order_8.1
noncomputable def zr_dX6_order_10 := zo_172 (q := 11) zr_dX6_order_8.2 rfl
noncomputable def dX6_order_10 := zr_dX6_order_10.1
noncomputable def zr_dX6_order_11 := zo_28 (q := 12) zr_dX6_order_10.2 rfl
noncomputable def dX6_order_11 := zr_dX6_order_11.1
noncomputable def zr_dX6_order_12 := zo_184 (k := 196)  (q := 15) zr_dX6_order_11.2 rfl rfl
noncomputable def dX6_order_12 := zr_dX6_order_12.1
noncomputable def zr_dX6_order_15 := zo_153 (k := 21)  (q := 18) zr_dX6_order_12.2 (by decide +kernel) rfl
noncomputable def dX6_order_15 := zr_dX6_order_15.1
noncomputable def zr_dX6_order_18 := zo_29 (q := 19) zr_dX6_order_15.2 rfl
noncomputable def dX6_order_18 := zr_dX6_order_18.1
noncomputable def zr_dX6_order_19 := zo_3 (q := 20) zr_dX6_order_18.2 rfl
noncomputable def dX6_order_19 := zr_dX6_order_19.1
noncomputable def zr_dX6_order_20 := zo_16 (k := 11)  (q := 22) zr_dX6_order_19.2 (by decide +kernel) rfl
noncomputable def dX6_order_20 := zr_dX6_order_20.1
noncomputable def zr_dX6_order_22 := zo_184 (k := 91)  (q := 25) zr_dX6_order_20.2 rfl rfl
noncomputable def dX6_order_22 := zr_dX6_order_22.1
noncomputable def zr_dX6_order_25 := zo_153 (k := 11)  (q := 28) zr_dX6_order_22.2 (by decide +kernel) rfl
noncomputable def dX6_order_25 := zr_dX6_order_25.1
noncomputable def zr_dX6_order_28 := zo_29 (q := 29) zr_dX6_order_25.2 rfl
noncomputable def dX6_order_28 := zr_dX6_order_28.1
noncomputable def zr_dX6_order_29 := zo_16 (k := 10)  (q := 31) zr_dX6_order_28.2 (by decide +kernel) rfl
noncomputable def dX6_order_29 := zr_dX6_order_29.1
noncomputable def zr_dX6_order_31 := zo_112 (q := 32) zr_dX6_order_29.2 rfl
noncomputable def dX6_order_31 := zr_dX6_order_31.1
noncomputable def zr_dX6_order_32 := zo_4 (q := 33) zr_dX6_order_31.2 rfl
noncomputable def dX6_order_32 := zr_dX6_order_32.1
noncomputable def zr_dX6_order_33 := zo_164 (k := 6)  (q := 36) zr_dX6_order_32.2 (by decide +kernel) rfl
noncomputable def dX6_order_33 := zr_dX6_order_33.1
noncomputable def zr_dX6_order_36 := zo_16 (k := -7)  (q := 38) zr_dX6_order_33.2 (by decide +kernel) rfl
noncomputable def dX6_order_36 := zr_dX6_order_36.1
noncomputable def zr_dX6_order_38 := zo_172 (q := 39) zr_dX6_order_36.2 rfl
noncomputable def dX6_order_38 := zr_dX6_order_38.1
noncomputable def zr_dX6_order_39 := zo_2 (q := 40) zr_dX6_order_38.2 rfl
noncomputable def dX6_order_39 := zr_dX6_order_39.1
noncomputable def zr_dX6_order_40 := zo_54 (k := 4)  (q := 42) zr_dX6_order_39.2 rfl rfl
noncomputable def dX6_order_40 := zr_dX6_order_40.1
noncomputable def zr_dX6_order_42 := zo_3 (q := 43) zr_dX6_order_40.2 rfl
noncomputable def dX6_order_42 := zr_dX6_order_42.1
noncomputable def zr_dX6_order_43 := zo_54 (k := 5)  (q := 45) zr_dX6_order_42.2 rfl rfl
noncomputable def dX6_order_43 := zr_dX6_order_43.1
noncomputable def zr_dX6_order_45 := zo_42 (q := 46) zr_dX6_order_43.2 rfl
noncomputable def dX6_order_45 := zr_dX6_order_45.1
noncomputable def zr_dX6_order_46 := zo_180 (k := 88)  (q := 49) zr_dX6_order_45.2 rfl rfl
noncomputable def dX6_order_46 := zr_dX6_order_46.1
noncomputable def zr_dX6_order_49 := zo_154 (k := 7)  (q := 52) zr_dX6_order_46.2 (by decide +kernel) rfl
noncomputable def dX6_order_49 := zr_dX6_order_49.1
noncomputable def zr_dX6_order_52 := zo_3 (q := 53) zr_dX6_order_49.2 rfl
noncomputable def dX6_order_52 := zr_dX6_order_52.1
noncomputable def zr_dX6_order_53 := zo_167 (k := 4)  (q := 56) zr_dX6_order_52.2 (by decide +kernel) rfl
noncomputable def dX6_order_53 := zr_dX6_order_53.1
noncomputable def zr_dX6_order_56 := zo_4 (q := 57) zr_dX6_order_53.2 rfl
noncomputable def dX6_order_56 := zr_dX6_order_56.1
noncomputable def zr_dX6_order_57 := zo_54 (k := 6)  (q := 59) zr_dX6_order_56.2 rfl rfl
noncomputable def dX6_order_57 := zr_dX6_order_57.1
noncomputable def zr_dX6_order_59 := zo_3 (q := 60) zr_dX6_order_57.2 rfl
noncomputable def dX6_order_59 := zr_dX6_order_59.1
noncomputable def zr_dX6_order_60 := zo_54 (k := 7)  (q := 62) zr_dX6_order_59.2 rfl rfl
noncomputable def dX6_order_60 := zr_dX6_order_60.1
noncomputable def zr_dX6_order_62 := zo_21 (k := 7)  (q := 64) zr_dX6_order_60.2 rfl rfl
noncomputable def dX6_order_62 := zr_dX6_order_62.1
noncomputable def zr_dX6_order_64 := zo_42 (q := 65) zr_dX6_order_62.2 rfl
noncomputable def dX6_order_64 := zr_dX6_order_64.1
noncomputable def zr_dX6_order_65 := zo_180 (k := 88)  (q := 68) zr_dX6_order_64.2 rfl rfl
noncomputable def dX6_order_65 := zr_dX6_order_65.1
noncomputable def zr_dX6_order_68 := zo_162 (k := 18)  (q := 71) zr_dX6_order_65.2 (by decide +kernel) rfl
noncomputable def dX6_order_68 := zr_dX6_order_68.1
noncomputable def zr_dX6_order_71 := zo_21 (k := 6)  (q := 73) zr_dX6_order_68.2 rfl rfl
noncomputable def dX6_order_71 := zr_dX6_order_71.1
noncomputable def zr_dX6_order_73 := zo_42 (q := 74) zr_dX6_order_71.2 rfl
noncomputable def dX6_order_73 := zr_dX6_order_73.1
noncomputable def zr_dX6_order_74 := zo_180 (k := 88)  (q := 77) zr_dX6_order_73.2 rfl rfl
noncomputable def dX6_order_74 := zr_dX6_order_74.1
noncomputable def zr_dX6_order_77 := zo_104 (q := 78) zr_dX6_order_74.2 rfl
noncomputable def dX6_order_77 := zr_dX6_order_77.1
noncomputable def zr_dX6_order_78 := zo_54 (k := 6)  (q := 80) zr_dX6_order_77.2 rfl rfl
noncomputable def dX6_order_78 := zr_dX6_order_78.1
noncomputable def zr_dX6_order_80 := zo_132 (k := 7) (o := 1)  (q := 83) zr_dX6_order_78.2 rfl (by decide +kernel) rfl
noncomputable def dX6_order_80 := zr_dX6_order_80.1
noncomputable def zr_dX6_order_83 := zo_167 (k := -21)  (q := 86) zr_dX6_order_80.2 (by decide +kernel) rfl
noncomputable def dX6_order_83 := zr_dX6_order_83.1
noncomputable def zr_dX6_order_86 := zo_42 (q := 87) zr_dX6_order_83.2 rfl
noncomputable def dX6_order_86 := zr_dX6_order_86.1
noncomputable def zr_dX6_order_87 := zo_27 (q := 88) zr_dX6_order_86.2 rfl
noncomputable def dX6_order_87 := zr_dX6_order_87.1
noncomputable def zr_dX6_order_88 := zo_28 (q := 89) zr_dX6_order_87.2 rfl
noncomputable def dX6_order_88 := zr_dX6_order_88.1
noncomputable def zr_dX6_order_89 := zo_182 (k := 237)  (q := 92) zr_dX6_order_88.2 rfl rfl
noncomputable def dX6_order_89 := zr_dX6_order_89.1
noncomputable def zr_dX6_order_92 := zo_3 (q := 93) zr_dX6_order_89.2 rfl
noncomputable def dX6_order_92 := zr_dX6_order_92.1
noncomputable def zr_dX6_order_93 := zo_54 (k := 7)  (q := 95) zr_dX6_order_92.2 rfl rfl
noncomputable def dX6_order_93 := zr_dX6_order_93.1
noncomputable def zr_dX6_order_95 := zo_21 (k := 7)  (q := 97) zr_dX6_order_93.2 rfl rfl
noncomputable def dX6_order_95 := zr_dX6_order_95.1
noncomputable def zr_dX6_order_97 := zo_21 (k := 6)  (q := 99) zr_dX6_order_95.2 rfl rfl
noncomputable def dX6_order_97 := zr_dX6_order_97.1
noncomputable def zr_dX6_order_99 := zo_162 (k := 49)  (q := 102) zr_dX6_order_97.2 (by decide +kernel) rfl
noncomputable def dX6_order_99 := zr_dX6_order_99.1
noncomputable def zr_dX6_order_102 := zo_42 (q := 103) zr_dX6_order_99.2 rfl
noncomputable def dX6_order_102 := zr_dX6_order_102.1
noncomputable def zr_dX6_order_103 := zo_21 (k := 7)  (q := 105) zr_dX6_order_102.2 rfl rfl
noncomputable def dX6_order_103 := zr_dX6_order_103.1
noncomputable def zr_dX6_order_105 := zo_29 (q := 106) zr_dX6_order_103.2 rfl
noncomputable def dX6_order_105 := zr_dX6_order_105.1
noncomputable def zr_dX6_order_106 := zo_16 (k := 10)  (q := 108) zr_dX6_order_105.2 (by decide +kernel) rfl
noncomputable def dX6_order_106 := zr_dX6_order_106.1
noncomputable def zr_dX6_order_108 := zo_108 (q := 109) zr_dX6_order_106.2 rfl
noncomputable def dX6_order_108 := zr_dX6_order_108.1
noncomputable def zr_dX6_order_109 := zo_182 (k := 241)  (q := 112) zr_dX6_order_108.2 rfl rfl
noncomputable def dX6_order_109 := zr_dX6_order_109.1
noncomputable def zr_dX6_order_112 := zo_153 (k := 30)  (q := 115) zr_dX6_order_109.2 (by decide +kernel) rfl
noncomputable def dX6_order_112 := zr_dX6_order_112.1
noncomputable def zr_dX6_order_115 := zo_21 (k := 4)  (q := 117) zr_dX6_order_112.2 rfl rfl
noncomputable def dX6_order_115 := zr_dX6_order_115.1
noncomputable def zr_dX6_order_117 := zo_2 (q := 118) zr_dX6_order_115.2 rfl
noncomputable def dX6_order_117 := zr_dX6_order_117.1
noncomputable def zr_dX6_order_118 := zo_159 (k := 12)  (q := 121) zr_dX6_order_117.2 (by decide +kernel) rfl
noncomputable def dX6_order_118 := zr_dX6_order_118.1
noncomputable def zr_dX6_order_121 := zo_42 (q := 122) zr_dX6_order_118.2 rfl
noncomputable def dX6_order_121 := zr_dX6_order_121.1
noncomputable def zr_dX6_order_122 := zo_180 (k := 231)  (q := 125) zr_dX6_order_121.2 rfl rfl
noncomputable def dX6_order_122 := zr_dX6_order_122.1
noncomputable def zr_dX6_order_125 := zo_21 (k := 5)  (q := 127) zr_dX6_order_122.2 rfl rfl
noncomputable def dX6_order_125 := zr_dX6_order_125.1
noncomputable def zr_dX6_order_127 := zo_162 (k := 15)  (q := 130) zr_dX6_order_125.2 (by decide +kernel) rfl
noncomputable def dX6_order_127 := zr_dX6_order_127.1
noncomputable def zr_dX6_order_130 := zo_42 (q := 131) zr_dX6_order_127.2 rfl
noncomputable def dX6_order_130 := zr_dX6_order_130.1
noncomputable def zr_dX6_order_131 := zo_180 (k := 234)  (q := 134) zr_dX6_order_130.2 rfl rfl
noncomputable def dX6_order_131 := zr_dX6_order_131.1
noncomputable def zr_dX6_order_134 := zo_54 (k := 4)  (q := 136) zr_dX6_order_131.2 rfl rfl
noncomputable def dX6_order_134 := zr_dX6_order_134.1
noncomputable def zr_dX6_order_136 := zo_42 (q := 137) zr_dX6_order_134.2 rfl
noncomputable def dX6_order_136 := zr_dX6_order_136.1
noncomputable def zr_dX6_order_137 := zo_180 (k := 231)  (q := 140) zr_dX6_order_136.2 rfl rfl
noncomputable def dX6_order_137 := zr_dX6_order_137.1
noncomputable def zr_dX6_order_140 := zo_54 (k := 5)  (q := 142) zr_dX6_order_137.2 rfl rfl
noncomputable def dX6_order_140 := zr_dX6_order_140.1
noncomputable def zr_dX6_order_142 := zo_132 (k := 7) (o := 1)  (q := 145) zr_dX6_order_140.2 rfl (by decide +kernel) rfl
noncomputable def dX6_order_142 := zr_dX6_order_142.1
noncomputable def zr_dX6_order_145 := zo_167 (k := -50)  (q := 148) zr_dX6_order_142.2 (by decide +kernel) rfl
noncomputable def dX6_order_145 := zr_dX6_order_145.1
noncomputable def zr_dX6_order_148 := zo_29 (q := 149) zr_dX6_order_145.2 rfl
noncomputable def dX6_order_148 := zr_dX6_order_148.1
noncomputable def zr_dX6_order_149 := zo_16 (k := 10)  (q := 151) zr_dX6_order_148.2 (by decide +kernel) rfl
noncomputable def dX6_order_149 := zr_dX6_order_149.1
noncomputable def zr_dX6_order_151 := zo_112 (q := 152) zr_dX6_order_149.2 rfl
noncomputable def dX6_order_151 := zr_dX6_order_151.1
noncomputable def zr_dX6_order_152 := zo_154 (k := 8)  (q := 155) zr_dX6_order_151.2 (by decide +kernel) rfl
noncomputable def dX6_order_152 := zr_dX6_order_152.1
noncomputable def zr_dX6_order_155 := zo_21 (k := 4)  (q := 157) zr_dX6_order_152.2 rfl rfl
noncomputable def dX6_order_155 := zr_dX6_order_155.1
noncomputable def zr_dX6_order_157 := zo_167 (k := 5)  (q := 160) zr_dX6_order_155.2 (by decide +kernel) rfl
noncomputable def dX6_order_157 := zr_dX6_order_157.1
noncomputable def zr_dX6_order_160 := zo_21 (k := 5)  (q := 162) zr_dX6_order_157.2 rfl rfl
noncomputable def dX6_order_160 := zr_dX6_order_160.1
noncomputable def zr_dX6_order_162 := zo_172 (q := 163) zr_dX6_order_160.2 rfl
noncomputable def dX6_order_162 := zr_dX6_order_162.1
theorem zs_dX6_ones_0 : zsuf cX6_ones 0 cX6_ones.data.toList := rfl
noncomputable def zr_dX6_ones_0 := zo_3 (q := 1) zs_dX6_ones_0 rfl
noncomputable def dX6_ones_0 := zr_dX6_ones_0.1
noncomputable def zr_dX6_ones_1 := zo_60 (q := 2) zr_dX6_ones_0.2 rfl
noncomputable def dX6_ones_1 := zr_dX6_ones_1.1
noncomputable def zr_dX6_ones_2 := zo_3 (q := 3) zr_dX6_ones_1.2 rfl
noncomputable def dX6_ones_2 := zr_dX6_ones_2.1
noncomputable def zr_dX6_ones_3 := zo_61 (q := 4) zr_dX6_ones_2.2 rfl
noncomputable def dX6_ones_3 := zr_dX6_ones_3.1
noncomputable def zr_dX6_ones_4 := zo_28 (q := 5) zr_dX6_ones_3.2 rfl
noncomputable def dX6_ones_4 := zr_dX6_ones_4.1
noncomputable def zr_dX6_ones_5 := zo_16 (k := 6)  (q := 7) zr_dX6_ones_4.2 (by decide +kernel) rfl
noncomputable def dX6_ones_5 := zr_dX6_ones_5.1
noncomputable def zr_dX6_ones_7 := zo_162 (k := 17)  (q := 10) zr_dX6_ones_5.2 (by decide +kernel) rfl
noncomputable def dX6_ones_7 := zr_dX6_ones_7.1
noncomputable def zr_dX6_ones_10 := zo_27 (q := 11) zr_dX6_ones_7.2 rfl
noncomputable def dX6_ones_10 := zr_dX6_ones_10.1
noncomputable def zr_dX6_ones_11 := zo_26 (q := 12) zr_dX6_ones_10.2 rfl
noncomputable def dX6_ones_11 := zr_dX6_ones_11.1
noncomputable def zr_dX6_ones_12 := zo_28 (q := 13) zr_dX6_ones_11.2 rfl
noncomputable def dX6_ones_12 := zr_dX6_ones_12.1
noncomputable def zr_dX6_ones_13 := zo_122 (q := 14) zr_dX6_ones_12.2 rfl
noncomputable def dX6_ones_13 := zr_dX6_ones_13.1
noncomputable def zr_dX6_ones_14 := zo_4 (q := 15) zr_dX6_ones_13.2 rfl
noncomputable def dX6_ones_14 := zr_dX6_ones_14.1
noncomputable def zr_dX6_ones_15 := zo_126 (q := 16) zr_dX6_ones_14.2 rfl
noncomputable def dX6_ones_15 := zr_dX6_ones_15.1
noncomputable def zr_dX6_ones_16 := zo_96 (q := 17) zr_dX6_ones_15.2 rfl
noncomputable def dX6_ones_16 := zr_dX6_ones_16.1
noncomputable def zr_dX6_ones_17 := zo_60 (q := 18) zr_dX6_ones_16.2 rfl
noncomputable def dX6_ones_17 := zr_dX6_ones_17.1
noncomputable def zr_dX6_ones_18 := zo_132 (k := 2) (o := 1)  (q := 21) zr_dX6_ones_17.2 rfl (by decide +kernel) rfl
noncomputable def dX6_ones_18 := zr_dX6_ones_18.1
noncomputable def zr_dX6_ones_21 := zo_167 (k := -17)  (q := 24) zr_dX6_ones_18.2 (by decide +kernel) rfl
noncomputable def dX6_ones_21 := zr_dX6_ones_21.1
noncomputable def zr_dX6_ones_24 := zo_27 (q := 25) zr_dX6_ones_21.2 rfl
noncomputable def dX6_ones_24 := zr_dX6_ones_24.1
noncomputable def zr_dX6_ones_25 := zo_172 (q := 26) zr_dX6_ones_24.2 rfl
noncomputable def dX6_ones_25 := zr_dX6_ones_25.1
theorem zs_dX6_counsel_0 : zsuf cX6_counsel 0 cX6_counsel.data.toList := rfl
noncomputable def zr_dX6_counsel_0 := zo_42 (q := 1) zs_dX6_counsel_0 rfl
noncomputable def dX6_counsel_0 := zr_dX6_counsel_0.1
noncomputable def zr_dX6_counsel_1 := zo_27 (q := 2) zr_dX6_counsel_0.2 rfl
noncomputable def dX6_counsel_1 := zr_dX6_counsel_1.1
noncomputable def zr_dX6_counsel_2 := zo_182 (k := 104)  (q := 5) zr_dX6_counsel_1.2 rfl rfl
noncomputable def dX6_counsel_2 := zr_dX6_counsel_2.1
noncomputable def zr_dX6_counsel_5 := zo_154 (k := 6)  (q := 8) zr_dX6_counsel_2.2 (by decide +kernel) rfl
noncomputable def dX6_counsel_5 := zr_dX6_counsel_5.1
noncomputable def zr_dX6_counsel_8 := zo_16 (k := -5)  (q := 10) zr_dX6_counsel_5.2 (by decide +kernel) rfl
noncomputable def dX6_counsel_8 := zr_dX6_counsel_8.1
noncomputable def zr_dX6_counsel_10 := zo_172 (q := 11) zr_dX6_counsel_8.2 rfl
noncomputable def dX6_counsel_10 := zr_dX6_counsel_10.1
noncomputable def zr_dX6_counsel_11 := zo_28 (q := 12) zr_dX6_counsel_10.2 rfl
noncomputable def dX6_counsel_11 := zr_dX6_counsel_11.1
noncomputable def zr_dX6_counsel_12 := zo_184 (k := 196)  (q := 15) zr_dX6_counsel_11.2 rfl rfl
noncomputable def dX6_counsel_12 := zr_dX6_counsel_12.1
noncomputable def zr_dX6_counsel_15 := zo_153 (k := 12)  (q := 18) zr_dX6_counsel_12.2 (by decide +kernel) rfl
noncomputable def dX6_counsel_15 := zr_dX6_counsel_15.1
noncomputable def zr_dX6_counsel_18 := zo_29 (q := 19) zr_dX6_counsel_15.2 rfl
noncomputable def dX6_counsel_18 := zr_dX6_counsel_18.1
noncomputable def zr_dX6_counsel_19 := zo_3 (q := 20) zr_dX6_counsel_18.2 rfl
noncomputable def dX6_counsel_19 := zr_dX6_counsel_19.1
noncomputable def zr_dX6_counsel_20 := zo_4 (q := 21) zr_dX6_counsel_19.2 rfl
noncomputable def dX6_counsel_20 := zr_dX6_counsel_20.1
noncomputable def zr_dX6_counsel_21 := zo_184 (k := 91)  (q := 24) zr_dX6_counsel_20.2 rfl rfl
noncomputable def dX6_counsel_21 := zr_dX6_counsel_21.1
noncomputable def zr_dX6_counsel_24 := zo_154 (k := 6)  (q := 27) zr_dX6_counsel_21.2 (by decide +kernel) rfl
noncomputable def dX6_counsel_24 := zr_dX6_counsel_24.1
noncomputable def zr_dX6_counsel_27 := zo_16 (k := -7)  (q := 29) zr_dX6_counsel_24.2 (by decide +kernel) rfl
noncomputable def dX6_counsel_27 := zr_dX6_counsel_27.1
noncomputable def zr_dX6_counsel_29 := zo_172 (q := 30) zr_dX6_counsel_27.2 rfl
noncomputable def dX6_counsel_29 := zr_dX6_counsel_29.1
noncomputable def zr_dX6_counsel_30 := zo_42 (q := 31) zr_dX6_counsel_29.2 rfl
noncomputable def dX6_counsel_30 := zr_dX6_counsel_30.1
noncomputable def zr_dX6_counsel_31 := zo_27 (q := 32) zr_dX6_counsel_30.2 rfl
noncomputable def dX6_counsel_31 := zr_dX6_counsel_31.1
noncomputable def zr_dX6_counsel_32 := zo_28 (q := 33) zr_dX6_counsel_31.2 rfl
noncomputable def dX6_counsel_32 := zr_dX6_counsel_32.1
noncomputable def zr_dX6_counsel_33 := zo_182 (k := 237)  (q := 36) zr_dX6_counsel_32.2 rfl rfl
noncomputable def dX6_counsel_33 := zr_dX6_counsel_33.1
noncomputable def zr_dX6_counsel_36 := zo_2 (q := 37) zr_dX6_counsel_33.2 rfl
noncomputable def dX6_counsel_36 := zr_dX6_counsel_36.1
noncomputable def zr_dX6_counsel_37 := zo_54 (k := 4)  (q := 39) zr_dX6_counsel_36.2 rfl rfl
noncomputable def dX6_counsel_37 := zr_dX6_counsel_37.1
noncomputable def zr_dX6_counsel_39 := zo_4 (q := 40) zr_dX6_counsel_37.2 rfl
noncomputable def dX6_counsel_39 := zr_dX6_counsel_39.1
noncomputable def zr_dX6_counsel_40 := zo_42 (q := 41) zr_dX6_counsel_39.2 rfl
noncomputable def dX6_counsel_40 := zr_dX6_counsel_40.1
noncomputable def zr_dX6_counsel_41 := zo_180 (k := 88)  (q := 44) zr_dX6_counsel_40.2 rfl rfl
noncomputable def dX6_counsel_41 := zr_dX6_counsel_41.1
noncomputable def zr_dX6_counsel_44 := zo_120 (q := 45) zr_dX6_counsel_41.2 rfl
noncomputable def dX6_counsel_44 := zr_dX6_counsel_44.1
noncomputable def zr_dX6_counsel_45 := zo_4 (q := 46) zr_dX6_counsel_44.2 rfl
noncomputable def dX6_counsel_45 := zr_dX6_counsel_45.1
noncomputable def zr_dX6_counsel_46 := zo_100 (q := 47) zr_dX6_counsel_45.2 rfl
noncomputable def dX6_counsel_46 := zr_dX6_counsel_46.1
noncomputable def zr_dX6_counsel_47 := zo_54 (k := 5)  (q := 49) zr_dX6_counsel_46.2 rfl rfl
noncomputable def dX6_counsel_47 := zr_dX6_counsel_47.1
noncomputable def zr_dX6_counsel_49 := zo_42 (q := 50) zr_dX6_counsel_47.2 rfl
noncomputable def dX6_counsel_49 := zr_dX6_counsel_49.1
noncomputable def zr_dX6_counsel_50 := zo_180 (k := 77)  (q := 53) zr_dX6_counsel_49.2 rfl rfl
noncomputable def dX6_counsel_50 := zr_dX6_counsel_50.1
noncomputable def zr_dX6_counsel_53 := zo_21 (k := 5)  (q := 55) zr_dX6_counsel_50.2 rfl rfl
noncomputable def dX6_counsel_53 := zr_dX6_counsel_53.1
noncomputable def zr_dX6_counsel_55 := zo_3 (q := 56) zr_dX6_counsel_53.2 rfl
noncomputable def dX6_counsel_55 := zr_dX6_counsel_55.1
noncomputable def zr_dX6_counsel_56 := zo_79 (q := 57) zr_dX6_counsel_55.2 rfl
noncomputable def dX6_counsel_56 := zr_dX6_counsel_56.1
noncomputable def zr_dX6_counsel_57 := zo_21 (k := 5)  (q := 59) zr_dX6_counsel_56.2 rfl rfl
noncomputable def dX6_counsel_57 := zr_dX6_counsel_57.1
noncomputable def zr_dX6_counsel_59 := zo_4 (q := 60) zr_dX6_counsel_57.2 rfl
noncomputable def dX6_counsel_59 := zr_dX6_counsel_59.1
noncomputable def zr_dX6_counsel_60 := zo_100 (q := 61) zr_dX6_counsel_59.2 rfl
noncomputable def dX6_counsel_60 := zr_dX6_counsel_60.1
noncomputable def zr_dX6_counsel_61 := zo_54 (k := 6)  (q := 63) zr_dX6_counsel_60.2 rfl rfl
noncomputable def dX6_counsel_61 := zr_dX6_counsel_61.1
noncomputable def zr_dX6_counsel_63 := zo_21 (k := 6)  (q := 65) zr_dX6_counsel_61.2 rfl rfl
noncomputable def dX6_counsel_63 := zr_dX6_counsel_63.1
noncomputable def zr_dX6_counsel_65 := zo_155 (k := 159)  (q := 68) zr_dX6_counsel_63.2 (by decide +kernel) rfl
noncomputable def dX6_counsel_65 := zr_dX6_counsel_65.1
noncomputable def zr_dX6_counsel_68 := zo_21 (k := 6)  (q := 70) zr_dX6_counsel_65.2 rfl rfl
noncomputable def dX6_counsel_68 := zr_dX6_counsel_68.1
noncomputable def zr_dX6_counsel_70 := zo_184 (k := 245)  (q := 73) zr_dX6_counsel_68.2 rfl rfl
noncomputable def dX6_counsel_70 := zr_dX6_counsel_70.1
noncomputable def zr_dX6_counsel_73 := zo_54 (k := 7)  (q := 75) zr_dX6_counsel_70.2 rfl rfl
noncomputable def dX6_counsel_73 := zr_dX6_counsel_73.1
noncomputable def zr_dX6_counsel_75 := zo_21 (k := 7)  (q := 77) zr_dX6_counsel_73.2 rfl rfl
noncomputable def dX6_counsel_75 := zr_dX6_counsel_75.1
noncomputable def zr_dX6_counsel_77 := zo_5 (q := 78) zr_dX6_counsel_75.2 rfl
noncomputable def dX6_counsel_77 := zr_dX6_counsel_77.1
noncomputable def zr_dX6_counsel_78 := zo_112 (q := 79) zr_dX6_counsel_77.2 rfl
noncomputable def dX6_counsel_78 := zr_dX6_counsel_78.1
noncomputable def zr_dX6_counsel_79 := zo_154 (k := 7)  (q := 82) zr_dX6_counsel_78.2 (by decide +kernel) rfl
noncomputable def dX6_counsel_79 := zr_dX6_counsel_79.1
noncomputable def zr_dX6_counsel_82 := zo_4 (q := 83) zr_dX6_counsel_79.2 rfl
noncomputable def dX6_counsel_82 := zr_dX6_counsel_82.1
noncomputable def zr_dX6_counsel_83 := zo_167 (k := 4)  (q := 86) zr_dX6_counsel_82.2 (by decide +kernel) rfl
noncomputable def dX6_counsel_83 := zr_dX6_counsel_83.1
noncomputable def zr_dX6_counsel_86 := zo_2 (q := 87) zr_dX6_counsel_83.2 rfl
noncomputable def dX6_counsel_86 := zr_dX6_counsel_86.1
noncomputable def zr_dX6_counsel_87 := zo_54 (k := 8)  (q := 89) zr_dX6_counsel_86.2 rfl rfl
noncomputable def dX6_counsel_87 := zr_dX6_counsel_87.1
noncomputable def zr_dX6_counsel_89 := zo_2 (q := 90) zr_dX6_counsel_87.2 rfl
noncomputable def dX6_counsel_89 := zr_dX6_counsel_89.1
noncomputable def zr_dX6_counsel_90 := zo_54 (k := 9)  (q := 92) zr_dX6_counsel_89.2 rfl rfl
noncomputable def dX6_counsel_90 := zr_dX6_counsel_90.1
noncomputable def zr_dX6_counsel_92 := zo_3 (q := 93) zr_dX6_counsel_90.2 rfl
noncomputable def dX6_counsel_92 := zr_dX6_counsel_92.1
noncomputable def zr_dX6_counsel_93 := zo_54 (k := 10)  (q := 95) zr_dX6_counsel_92.2 rfl rfl
noncomputable def dX6_counsel_93 := zr_dX6_counsel_93.1
noncomputable def zr_dX6_counsel_95 := zo_3 (q := 96) zr_dX6_counsel_93.2 rfl
noncomputable def dX6_counsel_95 := zr_dX6_counsel_95.1
noncomputable def zr_dX6_counsel_96 := zo_54 (k := 11)  (q := 98) zr_dX6_counsel_95.2 rfl rfl
noncomputable def dX6_counsel_96 := zr_dX6_counsel_96.1
noncomputable def zr_dX6_counsel_98 := zo_21 (k := 11)  (q := 100) zr_dX6_counsel_96.2 rfl rfl
noncomputable def dX6_counsel_98 := zr_dX6_counsel_98.1
noncomputable def zr_dX6_counsel_100 := zo_42 (q := 101) zr_dX6_counsel_98.2 rfl
noncomputable def dX6_counsel_100 := zr_dX6_counsel_100.1
noncomputable def zr_dX6_counsel_101 := zo_180 (k := 88)  (q := 104) zr_dX6_counsel_100.2 rfl rfl
noncomputable def dX6_counsel_101 := zr_dX6_counsel_101.1
noncomputable def zr_dX6_counsel_104 := zo_162 (k := 98)  (q := 107) zr_dX6_counsel_101.2 (by decide +kernel) rfl
noncomputable def dX6_counsel_104 := zr_dX6_counsel_104.1
noncomputable def zr_dX6_counsel_107 := zo_21 (k := 6)  (q := 109) zr_dX6_counsel_104.2 rfl rfl
noncomputable def dX6_counsel_107 := zr_dX6_counsel_107.1
noncomputable def zr_dX6_counsel_109 := zo_21 (k := 11)  (q := 111) zr_dX6_counsel_107.2 rfl rfl
noncomputable def dX6_counsel_109 := zr_dX6_counsel_109.1
noncomputable def zr_dX6_counsel_111 := zo_122 (q := 112) zr_dX6_counsel_109.2 rfl
noncomputable def dX6_counsel_111 := zr_dX6_counsel_111.1
noncomputable def zr_dX6_counsel_112 := zo_4 (q := 113) zr_dX6_counsel_111.2 rfl
noncomputable def dX6_counsel_112 := zr_dX6_counsel_112.1
noncomputable def zr_dX6_counsel_113 := zo_126 (q := 114) zr_dX6_counsel_112.2 rfl
noncomputable def dX6_counsel_113 := zr_dX6_counsel_113.1
noncomputable def zr_dX6_counsel_114 := zo_154 (k := 82)  (q := 117) zr_dX6_counsel_113.2 (by decide +kernel) rfl
noncomputable def dX6_counsel_114 := zr_dX6_counsel_114.1
noncomputable def zr_dX6_counsel_117 := zo_21 (k := 8)  (q := 119) zr_dX6_counsel_114.2 rfl rfl
noncomputable def dX6_counsel_117 := zr_dX6_counsel_117.1
noncomputable def zr_dX6_counsel_119 := zo_42 (q := 120) zr_dX6_counsel_117.2 rfl
noncomputable def dX6_counsel_119 := zr_dX6_counsel_119.1
noncomputable def zr_dX6_counsel_120 := zo_180 (k := 74)  (q := 123) zr_dX6_counsel_119.2 rfl rfl
noncomputable def dX6_counsel_120 := zr_dX6_counsel_120.1
noncomputable def zr_dX6_counsel_123 := zo_16 (k := 6)  (q := 125) zr_dX6_counsel_120.2 (by decide +kernel) rfl
noncomputable def dX6_counsel_123 := zr_dX6_counsel_123.1
noncomputable def zr_dX6_counsel_125 := zo_21 (k := 7)  (q := 127) zr_dX6_counsel_123.2 rfl rfl
noncomputable def dX6_counsel_125 := zr_dX6_counsel_125.1
noncomputable def zr_dX6_counsel_127 := zo_104 (q := 128) zr_dX6_counsel_125.2 rfl
noncomputable def dX6_counsel_127 := zr_dX6_counsel_127.1
noncomputable def zr_dX6_counsel_128 := zo_21 (k := 11)  (q := 130) zr_dX6_counsel_127.2 rfl rfl
noncomputable def dX6_counsel_128 := zr_dX6_counsel_128.1
noncomputable def zr_dX6_counsel_130 := zo_96 (q := 131) zr_dX6_counsel_128.2 rfl
noncomputable def dX6_counsel_130 := zr_dX6_counsel_130.1
noncomputable def zr_dX6_counsel_131 := zo_46 (q := 132) zr_dX6_counsel_130.2 rfl
noncomputable def dX6_counsel_131 := zr_dX6_counsel_131.1
noncomputable def zr_dX6_counsel_132 := zo_42 (q := 133) zr_dX6_counsel_131.2 rfl
noncomputable def dX6_counsel_132 := zr_dX6_counsel_132.1
noncomputable def zr_dX6_counsel_133 := zo_180 (k := 77)  (q := 136) zr_dX6_counsel_132.2 rfl rfl
noncomputable def dX6_counsel_133 := zr_dX6_counsel_133.1
noncomputable def zr_dX6_counsel_136 := zo_21 (k := 6)  (q := 138) zr_dX6_counsel_133.2 rfl rfl
noncomputable def dX6_counsel_136 := zr_dX6_counsel_136.1
noncomputable def zr_dX6_counsel_138 := zo_4 (q := 139) zr_dX6_counsel_136.2 rfl
noncomputable def dX6_counsel_138 := zr_dX6_counsel_138.1
noncomputable def zr_dX6_counsel_139 := zo_21 (k := 11)  (q := 141) zr_dX6_counsel_138.2 rfl rfl
noncomputable def dX6_counsel_139 := zr_dX6_counsel_139.1
noncomputable def zr_dX6_counsel_141 := zo_120 (q := 142) zr_dX6_counsel_139.2 rfl
noncomputable def dX6_counsel_141 := zr_dX6_counsel_141.1
noncomputable def zr_dX6_counsel_142 := zo_128 (q := 143) zr_dX6_counsel_141.2 rfl
noncomputable def dX6_counsel_142 := zr_dX6_counsel_142.1
noncomputable def zr_dX6_counsel_143 := zo_46 (q := 144) zr_dX6_counsel_142.2 rfl
noncomputable def dX6_counsel_143 := zr_dX6_counsel_143.1
noncomputable def zr_dX6_counsel_144 := zo_96 (q := 145) zr_dX6_counsel_143.2 rfl
noncomputable def dX6_counsel_144 := zr_dX6_counsel_144.1
noncomputable def zr_dX6_counsel_145 := zo_104 (q := 146) zr_dX6_counsel_144.2 rfl
noncomputable def dX6_counsel_145 := zr_dX6_counsel_145.1
noncomputable def zr_dX6_counsel_146 := zo_54 (k := 12)  (q := 148) zr_dX6_counsel_145.2 rfl rfl
noncomputable def dX6_counsel_146 := zr_dX6_counsel_146.1
noncomputable def zr_dX6_counsel_148 := zo_21 (k := 9)  (q := 150) zr_dX6_counsel_146.2 rfl rfl
noncomputable def dX6_counsel_148 := zr_dX6_counsel_148.1
noncomputable def zr_dX6_counsel_150 := zo_2 (q := 151) zr_dX6_counsel_148.2 rfl
noncomputable def dX6_counsel_150 := zr_dX6_counsel_150.1
noncomputable def zr_dX6_counsel_151 := zo_159 (k := 10)  (q := 154) zr_dX6_counsel_150.2 (by decide +kernel) rfl
noncomputable def dX6_counsel_151 := zr_dX6_counsel_151.1
noncomputable def zr_dX6_counsel_154 := zo_21 (k := 12)  (q := 156) zr_dX6_counsel_151.2 rfl rfl
noncomputable def dX6_counsel_154 := zr_dX6_counsel_154.1
noncomputable def zr_dX6_counsel_156 := zo_21 (k := 10)  (q := 158) zr_dX6_counsel_154.2 rfl rfl
noncomputable def dX6_counsel_156 := zr_dX6_counsel_156.1
noncomputable def zr_dX6_counsel_158 := zo_164 (k := 7)  (q := 161) zr_dX6_counsel_156.2 (by decide +kernel) rfl
noncomputable def dX6_counsel_158 := zr_dX6_counsel_158.1
noncomputable def zr_dX6_counsel_161 := zo_4 (q := 162) zr_dX6_counsel_158.2 rfl
noncomputable def dX6_counsel_161 := zr_dX6_counsel_161.1
noncomputable def zr_dX6_counsel_162 := zo_167 (k := 4)  (q := 165) zr_dX6_counsel_161.2 (by decide +kernel) rfl
noncomputable def dX6_counsel_162 := zr_dX6_counsel_162.1
noncomputable def zr_dX6_counsel_165 := zo_3 (q := 166) zr_dX6_counsel_162.2 rfl
noncomputable def dX6_counsel_165 := zr_dX6_counsel_165.1
noncomputable def zr_dX6_counsel_166 := zo_54 (k := 13)  (q := 168) zr_dX6_counsel_165.2 rfl rfl
noncomputable def dX6_counsel_166 := zr_dX6_counsel_166.1
noncomputable def zr_dX6_counsel_168 := zo_21 (k := 13)  (q := 170) zr_dX6_counsel_166.2 rfl rfl
noncomputable def dX6_counsel_168 := zr_dX6_counsel_168.1
noncomputable def zr_dX6_counsel_170 := zo_153 (k := 8)  (q := 173) zr_dX6_counsel_168.2 (by decide +kernel) rfl
noncomputable def dX6_counsel_170 := zr_dX6_counsel_170.1
noncomputable def zr_dX6_counsel_173 := zo_21 (k := 11)  (q := 175) zr_dX6_counsel_170.2 rfl rfl
noncomputable def dX6_counsel_173 := zr_dX6_counsel_173.1
noncomputable def zr_dX6_counsel_175 := zo_167 (k := 5)  (q := 178) zr_dX6_counsel_173.2 (by decide +kernel) rfl
noncomputable def dX6_counsel_175 := zr_dX6_counsel_175.1
noncomputable def zr_dX6_counsel_178 := zo_21 (k := 9)  (q := 180) zr_dX6_counsel_175.2 rfl rfl
noncomputable def dX6_counsel_178 := zr_dX6_counsel_178.1
noncomputable def zr_dX6_counsel_180 := zo_54 (k := 9)  (q := 182) zr_dX6_counsel_178.2 rfl rfl
noncomputable def dX6_counsel_180 := zr_dX6_counsel_180.1
noncomputable def zr_dX6_counsel_182 := zo_21 (k := 13)  (q := 184) zr_dX6_counsel_180.2 rfl rfl
noncomputable def dX6_counsel_182 := zr_dX6_counsel_182.1
noncomputable def zr_dX6_counsel_184 := zo_153 (k := 8)  (q := 187) zr_dX6_counsel_182.2 (by decide +kernel) rfl
noncomputable def dX6_counsel_184 := zr_dX6_counsel_184.1
noncomputable def zr_dX6_counsel_187 := zo_21 (k := 12)  (q := 189) zr_dX6_counsel_184.2 rfl rfl
noncomputable def dX6_counsel_187 := zr_dX6_counsel_187.1
noncomputable def zr_dX6_counsel_189 := zo_167 (k := 5)  (q := 192) zr_dX6_counsel_187.2 (by decide +kernel) rfl
noncomputable def dX6_counsel_189 := zr_dX6_counsel_189.1
noncomputable def zr_dX6_counsel_192 := zo_21 (k := 10)  (q := 194) zr_dX6_counsel_189.2 rfl rfl
noncomputable def dX6_counsel_192 := zr_dX6_counsel_192.1
noncomputable def zr_dX6_counsel_194 := zo_54 (k := 10)  (q := 196) zr_dX6_counsel_192.2 rfl rfl
noncomputable def dX6_counsel_194 := zr_dX6_counsel_194.1
noncomputable def zr_dX6_counsel_196 := zo_132 (k := 11) (o := 1)  (q := 199) zr_dX6_counsel_194.2 rfl (by decide +kernel) rfl
noncomputable def dX6_counsel_196 := zr_dX6_counsel_196.1
noncomputable def zr_dX6_counsel_199 := zo_167 (k := -101)  (q := 202) zr_dX6_counsel_196.2 (by decide +kernel) rfl
noncomputable def dX6_counsel_199 := zr_dX6_counsel_199.1
noncomputable def zr_dX6_counsel_202 := zo_42 (q := 203) zr_dX6_counsel_199.2 rfl
noncomputable def dX6_counsel_202 := zr_dX6_counsel_202.1
noncomputable def zr_dX6_counsel_203 := zo_180 (k := 77)  (q := 206) zr_dX6_counsel_202.2 rfl rfl
noncomputable def dX6_counsel_203 := zr_dX6_counsel_203.1
noncomputable def zr_dX6_counsel_206 := zo_21 (k := 6)  (q := 208) zr_dX6_counsel_203.2 rfl rfl
noncomputable def dX6_counsel_206 := zr_dX6_counsel_206.1
noncomputable def zr_dX6_counsel_208 := zo_21 (k := 8)  (q := 210) zr_dX6_counsel_206.2 rfl rfl
noncomputable def dX6_counsel_208 := zr_dX6_counsel_208.1
noncomputable def zr_dX6_counsel_210 := zo_21 (k := 10)  (q := 212) zr_dX6_counsel_208.2 rfl rfl
noncomputable def dX6_counsel_210 := zr_dX6_counsel_210.1
noncomputable def zr_dX6_counsel_212 := zo_104 (q := 213) zr_dX6_counsel_210.2 rfl
noncomputable def dX6_counsel_212 := zr_dX6_counsel_212.1
noncomputable def zr_dX6_counsel_213 := zo_79 (q := 214) zr_dX6_counsel_212.2 rfl
noncomputable def dX6_counsel_213 := zr_dX6_counsel_213.1
noncomputable def zr_dX6_counsel_214 := zo_21 (k := 9)  (q := 216) zr_dX6_counsel_213.2 rfl rfl
noncomputable def dX6_counsel_214 := zr_dX6_counsel_214.1
noncomputable def zr_dX6_counsel_216 := zo_54 (k := 4)  (q := 218) zr_dX6_counsel_214.2 rfl rfl
noncomputable def dX6_counsel_216 := zr_dX6_counsel_216.1
noncomputable def zr_dX6_counsel_218 := zo_132 (k := 6) (o := (-1))  (q := 221) zr_dX6_counsel_216.2 rfl (by decide +kernel) rfl
noncomputable def dX6_counsel_218 := zr_dX6_counsel_218.1
noncomputable def zr_dX6_counsel_221 := zo_167 (k := -158)  (q := 224) zr_dX6_counsel_218.2 (by decide +kernel) rfl
noncomputable def dX6_counsel_221 := zr_dX6_counsel_221.1
noncomputable def zr_dX6_counsel_224 := zo_29 (q := 225) zr_dX6_counsel_221.2 rfl
noncomputable def dX6_counsel_224 := zr_dX6_counsel_224.1
noncomputable def zr_dX6_counsel_225 := zo_154 (k := 12)  (q := 228) zr_dX6_counsel_224.2 (by decide +kernel) rfl
noncomputable def dX6_counsel_225 := zr_dX6_counsel_225.1
noncomputable def zr_dX6_counsel_228 := zo_42 (q := 229) zr_dX6_counsel_225.2 rfl
noncomputable def dX6_counsel_228 := zr_dX6_counsel_228.1
noncomputable def zr_dX6_counsel_229 := zo_180 (k := 77)  (q := 232) zr_dX6_counsel_228.2 rfl rfl
noncomputable def dX6_counsel_229 := zr_dX6_counsel_229.1
noncomputable def zr_dX6_counsel_232 := zo_3 (q := 233) zr_dX6_counsel_229.2 rfl
noncomputable def dX6_counsel_232 := zr_dX6_counsel_232.1
noncomputable def zr_dX6_counsel_233 := zo_46 (q := 234) zr_dX6_counsel_232.2 rfl
noncomputable def dX6_counsel_233 := zr_dX6_counsel_233.1
noncomputable def zr_dX6_counsel_234 := zo_167 (k := 5)  (q := 237) zr_dX6_counsel_233.2 (by decide +kernel) rfl
noncomputable def dX6_counsel_234 := zr_dX6_counsel_234.1
noncomputable def zr_dX6_counsel_237 := zo_21 (k := 4)  (q := 239) zr_dX6_counsel_234.2 rfl rfl
noncomputable def dX6_counsel_237 := zr_dX6_counsel_237.1
noncomputable def zr_dX6_counsel_239 := zo_172 (q := 240) zr_dX6_counsel_237.2 rfl
noncomputable def dX6_counsel_239 := zr_dX6_counsel_239.1
theorem zs_dX6_sheetWrong_0 : zsuf cX6_sheetWrong 0 cX6_sheetWrong.data.toList := rfl
noncomputable def zr_dX6_sheetWrong_0 := zo_27 (q := 1) zs_dX6_sheetWrong_0 rfl
noncomputable def dX6_sheetWrong_0 := zr_dX6_sheetWrong_0.1
noncomputable def zr_dX6_sheetWrong_1 := zo_3 (q := 2) zr_dX6_sheetWrong_0.2 rfl
noncomputable def dX6_sheetWrong_1 := zr_dX6_sheetWrong_1.1
noncomputable def zr_dX6_sheetWrong_2 := zo_6 (q := 3) zr_dX6_sheetWrong_1.2 rfl
noncomputable def dX6_sheetWrong_2 := zr_dX6_sheetWrong_2.1
noncomputable def zr_dX6_sheetWrong_3 := zo_184 (k := 91)  (q := 6) zr_dX6_sheetWrong_2.2 rfl rfl
noncomputable def dX6_sheetWrong_3 := zr_dX6_sheetWrong_3.1
noncomputable def zr_dX6_sheetWrong_6 := zo_154 (k := 6)  (q := 9) zr_dX6_sheetWrong_3.2 (by decide +kernel) rfl
noncomputable def dX6_sheetWrong_6 := zr_dX6_sheetWrong_6.1
noncomputable def zr_dX6_sheetWrong_9 := zo_16 (k := -2)  (q := 11) zr_dX6_sheetWrong_6.2 (by decide +kernel) rfl
noncomputable def dX6_sheetWrong_9 := zr_dX6_sheetWrong_9.1
noncomputable def zr_dX6_sheetWrong_11 := zo_172 (q := 12) zr_dX6_sheetWrong_9.2 rfl
noncomputable def dX6_sheetWrong_11 := zr_dX6_sheetWrong_11.1
noncomputable def zr_dX6_sheetWrong_12 := zo_42 (q := 13) zr_dX6_sheetWrong_11.2 rfl
noncomputable def dX6_sheetWrong_12 := zr_dX6_sheetWrong_12.1
noncomputable def zr_dX6_sheetWrong_13 := zo_180 (k := 37)  (q := 16) zr_dX6_sheetWrong_12.2 rfl rfl
noncomputable def dX6_sheetWrong_13 := zr_dX6_sheetWrong_13.1
noncomputable def zr_dX6_sheetWrong_16 := zo_27 (q := 17) zr_dX6_sheetWrong_13.2 rfl
noncomputable def dX6_sheetWrong_16 := zr_dX6_sheetWrong_16.1
noncomputable def zr_dX6_sheetWrong_17 := zo_46 (q := 18) zr_dX6_sheetWrong_16.2 rfl
noncomputable def dX6_sheetWrong_17 := zr_dX6_sheetWrong_17.1
noncomputable def zr_dX6_sheetWrong_18 := zo_2 (q := 19) zr_dX6_sheetWrong_17.2 rfl
noncomputable def dX6_sheetWrong_18 := zr_dX6_sheetWrong_18.1
noncomputable def zr_dX6_sheetWrong_19 := zo_160 (k := 6)  (q := 22) zr_dX6_sheetWrong_18.2 (by decide +kernel) rfl
noncomputable def dX6_sheetWrong_19 := zr_dX6_sheetWrong_19.1
noncomputable def zr_dX6_sheetWrong_22 := zo_16 (k := -11)  (q := 24) zr_dX6_sheetWrong_19.2 (by decide +kernel) rfl
noncomputable def dX6_sheetWrong_22 := zr_dX6_sheetWrong_22.1
noncomputable def zr_dX6_sheetWrong_24 := zo_172 (q := 25) zr_dX6_sheetWrong_22.2 rfl
noncomputable def dX6_sheetWrong_24 := zr_dX6_sheetWrong_24.1
noncomputable def zr_dX6_sheetWrong_25 := zo_42 (q := 26) zr_dX6_sheetWrong_24.2 rfl
noncomputable def dX6_sheetWrong_25 := zr_dX6_sheetWrong_25.1
noncomputable def zr_dX6_sheetWrong_26 := zo_180 (k := 40)  (q := 29) zr_dX6_sheetWrong_25.2 rfl rfl
noncomputable def dX6_sheetWrong_26 := zr_dX6_sheetWrong_26.1
noncomputable def zr_dX6_sheetWrong_29 := zo_27 (q := 30) zr_dX6_sheetWrong_26.2 rfl
noncomputable def dX6_sheetWrong_29 := zr_dX6_sheetWrong_29.1
noncomputable def zr_dX6_sheetWrong_30 := zo_46 (q := 31) zr_dX6_sheetWrong_29.2 rfl
noncomputable def dX6_sheetWrong_30 := zr_dX6_sheetWrong_30.1
noncomputable def zr_dX6_sheetWrong_31 := zo_6 (q := 32) zr_dX6_sheetWrong_30.2 rfl
noncomputable def dX6_sheetWrong_31 := zr_dX6_sheetWrong_31.1
noncomputable def zr_dX6_sheetWrong_32 := zo_112 (q := 33) zr_dX6_sheetWrong_31.2 rfl
noncomputable def dX6_sheetWrong_32 := zr_dX6_sheetWrong_32.1
noncomputable def zr_dX6_sheetWrong_33 := zo_154 (k := 7)  (q := 36) zr_dX6_sheetWrong_32.2 (by decide +kernel) rfl
noncomputable def dX6_sheetWrong_33 := zr_dX6_sheetWrong_33.1
noncomputable def zr_dX6_sheetWrong_36 := zo_4 (q := 37) zr_dX6_sheetWrong_33.2 rfl
noncomputable def dX6_sheetWrong_36 := zr_dX6_sheetWrong_36.1
noncomputable def zr_dX6_sheetWrong_37 := zo_167 (k := 4)  (q := 40) zr_dX6_sheetWrong_36.2 (by decide +kernel) rfl
noncomputable def dX6_sheetWrong_37 := zr_dX6_sheetWrong_37.1
noncomputable def zr_dX6_sheetWrong_40 := zo_3 (q := 41) zr_dX6_sheetWrong_37.2 rfl
noncomputable def dX6_sheetWrong_40 := zr_dX6_sheetWrong_40.1
noncomputable def zr_dX6_sheetWrong_41 := zo_61 (q := 42) zr_dX6_sheetWrong_40.2 rfl
noncomputable def dX6_sheetWrong_41 := zr_dX6_sheetWrong_41.1
noncomputable def zr_dX6_sheetWrong_42 := zo_3 (q := 43) zr_dX6_sheetWrong_41.2 rfl
noncomputable def dX6_sheetWrong_42 := zr_dX6_sheetWrong_42.1
noncomputable def zr_dX6_sheetWrong_43 := zo_62 (q := 44) zr_dX6_sheetWrong_42.2 rfl
noncomputable def dX6_sheetWrong_43 := zr_dX6_sheetWrong_43.1
noncomputable def zr_dX6_sheetWrong_44 := zo_29 (q := 45) zr_dX6_sheetWrong_43.2 rfl
noncomputable def dX6_sheetWrong_44 := zr_dX6_sheetWrong_44.1
noncomputable def zr_dX6_sheetWrong_45 := zo_5 (q := 46) zr_dX6_sheetWrong_44.2 rfl
noncomputable def dX6_sheetWrong_45 := zr_dX6_sheetWrong_45.1
noncomputable def zr_dX6_sheetWrong_46 := zo_96 (q := 47) zr_dX6_sheetWrong_45.2 rfl
noncomputable def dX6_sheetWrong_46 := zr_dX6_sheetWrong_46.1
noncomputable def zr_dX6_sheetWrong_47 := zo_42 (q := 48) zr_dX6_sheetWrong_46.2 rfl
noncomputable def dX6_sheetWrong_47 := zr_dX6_sheetWrong_47.1
noncomputable def zr_dX6_sheetWrong_48 := zo_180 (k := 40)  (q := 51) zr_dX6_sheetWrong_47.2 rfl rfl
noncomputable def dX6_sheetWrong_48 := zr_dX6_sheetWrong_48.1
noncomputable def zr_dX6_sheetWrong_51 := zo_27 (q := 52) zr_dX6_sheetWrong_48.2 rfl
noncomputable def dX6_sheetWrong_51 := zr_dX6_sheetWrong_51.1
noncomputable def zr_dX6_sheetWrong_52 := zo_46 (q := 53) zr_dX6_sheetWrong_51.2 rfl
noncomputable def dX6_sheetWrong_52 := zr_dX6_sheetWrong_52.1
noncomputable def zr_dX6_sheetWrong_53 := zo_162 (k := 71)  (q := 56) zr_dX6_sheetWrong_52.2 (by decide +kernel) rfl
noncomputable def dX6_sheetWrong_53 := zr_dX6_sheetWrong_53.1
noncomputable def zr_dX6_sheetWrong_56 := zo_16 (k := 40)  (q := 58) zr_dX6_sheetWrong_53.2 (by decide +kernel) rfl
noncomputable def dX6_sheetWrong_56 := zr_dX6_sheetWrong_56.1
noncomputable def zr_dX6_sheetWrong_58 := zo_27 (q := 59) zr_dX6_sheetWrong_56.2 rfl
noncomputable def dX6_sheetWrong_58 := zr_dX6_sheetWrong_58.1
noncomputable def zr_dX6_sheetWrong_59 := zo_104 (q := 60) zr_dX6_sheetWrong_58.2 rfl
noncomputable def dX6_sheetWrong_59 := zr_dX6_sheetWrong_59.1
noncomputable def zr_dX6_sheetWrong_60 := zo_29 (q := 61) zr_dX6_sheetWrong_59.2 rfl
noncomputable def dX6_sheetWrong_60 := zr_dX6_sheetWrong_60.1
noncomputable def zr_dX6_sheetWrong_61 := zo_96 (q := 62) zr_dX6_sheetWrong_60.2 rfl
noncomputable def dX6_sheetWrong_61 := zr_dX6_sheetWrong_61.1
noncomputable def zr_dX6_sheetWrong_62 := zo_54 (k := 4)  (q := 64) zr_dX6_sheetWrong_61.2 rfl rfl
noncomputable def dX6_sheetWrong_62 := zr_dX6_sheetWrong_62.1
noncomputable def zr_dX6_sheetWrong_64 := zo_28 (q := 65) zr_dX6_sheetWrong_62.2 rfl
noncomputable def dX6_sheetWrong_64 := zr_dX6_sheetWrong_64.1
noncomputable def zr_dX6_sheetWrong_65 := zo_42 (q := 66) zr_dX6_sheetWrong_64.2 rfl
noncomputable def dX6_sheetWrong_65 := zr_dX6_sheetWrong_65.1
noncomputable def zr_dX6_sheetWrong_66 := zo_42 (q := 67) zr_dX6_sheetWrong_65.2 rfl
noncomputable def dX6_sheetWrong_66 := zr_dX6_sheetWrong_66.1
noncomputable def zr_dX6_sheetWrong_67 := zo_180 (k := 43)  (q := 70) zr_dX6_sheetWrong_66.2 rfl rfl
noncomputable def dX6_sheetWrong_67 := zr_dX6_sheetWrong_67.1
noncomputable def zr_dX6_sheetWrong_70 := zo_21 (k := 4)  (q := 72) zr_dX6_sheetWrong_67.2 rfl rfl
noncomputable def dX6_sheetWrong_70 := zr_dX6_sheetWrong_70.1
noncomputable def zr_dX6_sheetWrong_72 := zo_46 (q := 73) zr_dX6_sheetWrong_70.2 rfl
noncomputable def dX6_sheetWrong_72 := zr_dX6_sheetWrong_72.1
noncomputable def zr_dX6_sheetWrong_73 := zo_182 (k := 177)  (q := 76) zr_dX6_sheetWrong_72.2 rfl rfl
noncomputable def dX6_sheetWrong_73 := zr_dX6_sheetWrong_73.1
noncomputable def zr_dX6_sheetWrong_76 := zo_153 (k := 39)  (q := 79) zr_dX6_sheetWrong_73.2 (by decide +kernel) rfl
noncomputable def dX6_sheetWrong_76 := zr_dX6_sheetWrong_76.1
noncomputable def zr_dX6_sheetWrong_79 := zo_42 (q := 80) zr_dX6_sheetWrong_76.2 rfl
noncomputable def dX6_sheetWrong_79 := zr_dX6_sheetWrong_79.1
noncomputable def zr_dX6_sheetWrong_80 := zo_180 (k := 43)  (q := 83) zr_dX6_sheetWrong_79.2 rfl rfl
noncomputable def dX6_sheetWrong_80 := zr_dX6_sheetWrong_80.1
noncomputable def zr_dX6_sheetWrong_83 := zo_21 (k := 4)  (q := 85) zr_dX6_sheetWrong_80.2 rfl rfl
noncomputable def dX6_sheetWrong_83 := zr_dX6_sheetWrong_83.1
noncomputable def zr_dX6_sheetWrong_85 := zo_4 (q := 86) zr_dX6_sheetWrong_83.2 rfl
noncomputable def dX6_sheetWrong_85 := zr_dX6_sheetWrong_85.1
noncomputable def zr_dX6_sheetWrong_86 := zo_96 (q := 87) zr_dX6_sheetWrong_85.2 rfl
noncomputable def dX6_sheetWrong_86 := zr_dX6_sheetWrong_86.1
noncomputable def zr_dX6_sheetWrong_87 := zo_46 (q := 88) zr_dX6_sheetWrong_86.2 rfl
noncomputable def dX6_sheetWrong_87 := zr_dX6_sheetWrong_87.1
noncomputable def zr_dX6_sheetWrong_88 := zo_184 (k := 196)  (q := 91) zr_dX6_sheetWrong_87.2 rfl rfl
noncomputable def dX6_sheetWrong_88 := zr_dX6_sheetWrong_88.1
noncomputable def zr_dX6_sheetWrong_91 := zo_153 (k := 24)  (q := 94) zr_dX6_sheetWrong_88.2 (by decide +kernel) rfl
noncomputable def dX6_sheetWrong_91 := zr_dX6_sheetWrong_91.1
noncomputable def zr_dX6_sheetWrong_94 := zo_42 (q := 95) zr_dX6_sheetWrong_91.2 rfl
noncomputable def dX6_sheetWrong_94 := zr_dX6_sheetWrong_94.1
noncomputable def zr_dX6_sheetWrong_95 := zo_180 (k := 43)  (q := 98) zr_dX6_sheetWrong_94.2 rfl rfl
noncomputable def dX6_sheetWrong_95 := zr_dX6_sheetWrong_95.1
noncomputable def zr_dX6_sheetWrong_98 := zo_21 (k := 4)  (q := 100) zr_dX6_sheetWrong_95.2 rfl rfl
noncomputable def dX6_sheetWrong_98 := zr_dX6_sheetWrong_98.1
noncomputable def zr_dX6_sheetWrong_100 := zo_5 (q := 101) zr_dX6_sheetWrong_98.2 rfl
noncomputable def dX6_sheetWrong_100 := zr_dX6_sheetWrong_100.1
noncomputable def zr_dX6_sheetWrong_101 := zo_96 (q := 102) zr_dX6_sheetWrong_100.2 rfl
noncomputable def dX6_sheetWrong_101 := zr_dX6_sheetWrong_101.1
noncomputable def zr_dX6_sheetWrong_102 := zo_46 (q := 103) zr_dX6_sheetWrong_101.2 rfl
noncomputable def dX6_sheetWrong_102 := zr_dX6_sheetWrong_102.1
noncomputable def zr_dX6_sheetWrong_103 := zo_3 (q := 104) zr_dX6_sheetWrong_102.2 rfl
noncomputable def dX6_sheetWrong_103 := zr_dX6_sheetWrong_103.1
noncomputable def zr_dX6_sheetWrong_104 := zo_4 (q := 105) zr_dX6_sheetWrong_103.2 rfl
noncomputable def dX6_sheetWrong_104 := zr_dX6_sheetWrong_104.1
noncomputable def zr_dX6_sheetWrong_105 := zo_184 (k := 91)  (q := 108) zr_dX6_sheetWrong_104.2 rfl rfl
noncomputable def dX6_sheetWrong_105 := zr_dX6_sheetWrong_105.1
noncomputable def zr_dX6_sheetWrong_108 := zo_153 (k := 7)  (q := 111) zr_dX6_sheetWrong_105.2 (by decide +kernel) rfl
noncomputable def dX6_sheetWrong_108 := zr_dX6_sheetWrong_108.1
noncomputable def zr_dX6_sheetWrong_111 := zo_4 (q := 112) zr_dX6_sheetWrong_108.2 rfl
noncomputable def dX6_sheetWrong_111 := zr_dX6_sheetWrong_111.1
noncomputable def zr_dX6_sheetWrong_112 := zo_167 (k := 4)  (q := 115) zr_dX6_sheetWrong_111.2 (by decide +kernel) rfl
noncomputable def dX6_sheetWrong_112 := zr_dX6_sheetWrong_112.1
noncomputable def zr_dX6_sheetWrong_115 := zo_3 (q := 116) zr_dX6_sheetWrong_112.2 rfl
noncomputable def dX6_sheetWrong_115 := zr_dX6_sheetWrong_115.1
noncomputable def zr_dX6_sheetWrong_116 := zo_126 (q := 117) zr_dX6_sheetWrong_115.2 rfl
noncomputable def dX6_sheetWrong_116 := zr_dX6_sheetWrong_116.1
noncomputable def zr_dX6_sheetWrong_117 := zo_61 (q := 118) zr_dX6_sheetWrong_116.2 rfl
noncomputable def dX6_sheetWrong_117 := zr_dX6_sheetWrong_117.1
noncomputable def zr_dX6_sheetWrong_118 := zo_132 (k := 3) (o := 3)  (q := 121) zr_dX6_sheetWrong_117.2 rfl (by decide +kernel) rfl
noncomputable def dX6_sheetWrong_118 := zr_dX6_sheetWrong_118.1
noncomputable def zr_dX6_sheetWrong_121 := zo_167 (k := -77)  (q := 124) zr_dX6_sheetWrong_118.2 (by decide +kernel) rfl
noncomputable def dX6_sheetWrong_121 := zr_dX6_sheetWrong_121.1
noncomputable def zr_dX6_sheetWrong_124 := zo_28 (q := 125) zr_dX6_sheetWrong_121.2 rfl
noncomputable def dX6_sheetWrong_124 := zr_dX6_sheetWrong_124.1
noncomputable def zr_dX6_sheetWrong_125 := zo_153 (k := 7)  (q := 128) zr_dX6_sheetWrong_124.2 (by decide +kernel) rfl
noncomputable def dX6_sheetWrong_125 := zr_dX6_sheetWrong_125.1
noncomputable def zr_dX6_sheetWrong_128 := zo_3 (q := 129) zr_dX6_sheetWrong_125.2 rfl
noncomputable def dX6_sheetWrong_128 := zr_dX6_sheetWrong_128.1
noncomputable def zr_dX6_sheetWrong_129 := zo_167 (k := 5)  (q := 132) zr_dX6_sheetWrong_128.2 (by decide +kernel) rfl
noncomputable def dX6_sheetWrong_129 := zr_dX6_sheetWrong_129.1
noncomputable def zr_dX6_sheetWrong_132 := zo_16 (k := -2)  (q := 134) zr_dX6_sheetWrong_129.2 (by decide +kernel) rfl
noncomputable def dX6_sheetWrong_132 := zr_dX6_sheetWrong_132.1
noncomputable def zr_dX6_sheetWrong_134 := zo_172 (q := 135) zr_dX6_sheetWrong_132.2 rfl
noncomputable def dX6_sheetWrong_134 := zr_dX6_sheetWrong_134.1
theorem zs_dX6_toldWrong_0 : zsuf cX6_toldWrong 0 cX6_toldWrong.data.toList := rfl
noncomputable def zr_dX6_toldWrong_0 := zo_42 (q := 1) zs_dX6_toldWrong_0 rfl
noncomputable def dX6_toldWrong_0 := zr_dX6_toldWrong_0.1
noncomputable def zr_dX6_toldWrong_1 := zo_27 (q := 2) zr_dX6_toldWrong_0.2 rfl
noncomputable def dX6_toldWrong_1 := zr_dX6_toldWrong_1.1
noncomputable def zr_dX6_toldWrong_2 := zo_182 (k := 248)  (q := 5) zr_dX6_toldWrong_1.2 rfl rfl
noncomputable def dX6_toldWrong_2 := zr_dX6_toldWrong_2.1
noncomputable def zr_dX6_toldWrong_5 := zo_62 (q := 6) zr_dX6_toldWrong_2.2 rfl
noncomputable def dX6_toldWrong_5 := zr_dX6_toldWrong_5.1
noncomputable def zr_dX6_toldWrong_6 := zo_29 (q := 7) zr_dX6_toldWrong_5.2 rfl
noncomputable def dX6_toldWrong_6 := zr_dX6_toldWrong_6.1
noncomputable def zr_dX6_toldWrong_7 := zo_153 (k := 7)  (q := 10) zr_dX6_toldWrong_6.2 (by decide +kernel) rfl
noncomputable def dX6_toldWrong_7 := zr_dX6_toldWrong_7.1
noncomputable def zr_dX6_toldWrong_10 := zo_29 (q := 11) zr_dX6_toldWrong_7.2 rfl
noncomputable def dX6_toldWrong_10 := zr_dX6_toldWrong_10.1
noncomputable def zr_dX6_toldWrong_11 := zo_167 (k := 17)  (q := 14) zr_dX6_toldWrong_10.2 (by decide +kernel) rfl
noncomputable def dX6_toldWrong_11 := zr_dX6_toldWrong_11.1
noncomputable def zr_dX6_toldWrong_14 := zo_42 (q := 15) zr_dX6_toldWrong_11.2 rfl
noncomputable def dX6_toldWrong_14 := zr_dX6_toldWrong_14.1
noncomputable def zr_dX6_toldWrong_15 := zo_28 (q := 16) zr_dX6_toldWrong_14.2 rfl
noncomputable def dX6_toldWrong_15 := zr_dX6_toldWrong_15.1
noncomputable def zr_dX6_toldWrong_16 := zo_182 (k := 104)  (q := 19) zr_dX6_toldWrong_15.2 rfl rfl
noncomputable def dX6_toldWrong_16 := zr_dX6_toldWrong_16.1
noncomputable def zr_dX6_toldWrong_19 := zo_153 (k := 7)  (q := 22) zr_dX6_toldWrong_16.2 (by decide +kernel) rfl
noncomputable def dX6_toldWrong_19 := zr_dX6_toldWrong_19.1
noncomputable def zr_dX6_toldWrong_22 := zo_3 (q := 23) zr_dX6_toldWrong_19.2 rfl
noncomputable def dX6_toldWrong_22 := zr_dX6_toldWrong_22.1
noncomputable def zr_dX6_toldWrong_23 := zo_167 (k := 5)  (q := 26) zr_dX6_toldWrong_22.2 (by decide +kernel) rfl
noncomputable def dX6_toldWrong_23 := zr_dX6_toldWrong_23.1
noncomputable def zr_dX6_toldWrong_26 := zo_16 (k := -5)  (q := 28) zr_dX6_toldWrong_23.2 (by decide +kernel) rfl
noncomputable def dX6_toldWrong_26 := zr_dX6_toldWrong_26.1
noncomputable def zr_dX6_toldWrong_28 := zo_172 (q := 29) zr_dX6_toldWrong_26.2 rfl
noncomputable def dX6_toldWrong_28 := zr_dX6_toldWrong_28.1
theorem zs_dX6_firstOther_0 : zsuf cX6_firstOther 0 cX6_firstOther.data.toList := rfl
noncomputable def zr_dX6_firstOther_0 := zo_2 (q := 1) zs_dX6_firstOther_0 rfl
noncomputable def dX6_firstOther_0 := zr_dX6_firstOther_0.1
noncomputable def zr_dX6_firstOther_1 := zo_62 (q := 2) zr_dX6_firstOther_0.2 rfl
noncomputable def dX6_firstOther_1 := zr_dX6_firstOther_1.1
noncomputable def zr_dX6_firstOther_2 := zo_42 (q := 3) zr_dX6_firstOther_1.2 rfl
noncomputable def dX6_firstOther_2 := zr_dX6_firstOther_2.1
noncomputable def zr_dX6_firstOther_3 := zo_182 (k := 202)  (q := 6) zr_dX6_firstOther_2.2 rfl rfl
noncomputable def dX6_firstOther_3 := zr_dX6_firstOther_3.1
noncomputable def zr_dX6_firstOther_6 := zo_3 (q := 7) zr_dX6_firstOther_3.2 rfl
noncomputable def dX6_firstOther_6 := zr_dX6_firstOther_6.1
noncomputable def zr_dX6_firstOther_7 := zo_54 (k := 4)  (q := 9) zr_dX6_firstOther_6.2 rfl rfl
noncomputable def dX6_firstOther_7 := zr_dX6_firstOther_7.1
noncomputable def zr_dX6_firstOther_9 := zo_21 (k := 4)  (q := 11) zr_dX6_firstOther_7.2 rfl rfl
noncomputable def dX6_firstOther_9 := zr_dX6_firstOther_9.1
noncomputable def zr_dX6_firstOther_11 := zo_42 (q := 12) zr_dX6_firstOther_9.2 rfl
noncomputable def dX6_firstOther_11 := zr_dX6_firstOther_11.1
noncomputable def zr_dX6_firstOther_12 := zo_180 (k := 40)  (q := 15) zr_dX6_firstOther_11.2 rfl rfl
noncomputable def dX6_firstOther_12 := zr_dX6_firstOther_12.1
noncomputable def zr_dX6_firstOther_15 := zo_27 (q := 16) zr_dX6_firstOther_12.2 rfl
noncomputable def dX6_firstOther_15 := zr_dX6_firstOther_15.1
noncomputable def zr_dX6_firstOther_16 := zo_46 (q := 17) zr_dX6_firstOther_15.2 rfl
noncomputable def dX6_firstOther_16 := zr_dX6_firstOther_16.1
noncomputable def zr_dX6_firstOther_17 := zo_6 (q := 18) zr_dX6_firstOther_16.2 rfl
noncomputable def dX6_firstOther_17 := zr_dX6_firstOther_17.1
noncomputable def zr_dX6_firstOther_18 := zo_108 (q := 19) zr_dX6_firstOther_17.2 rfl
noncomputable def dX6_firstOther_18 := zr_dX6_firstOther_18.1
noncomputable def zr_dX6_firstOther_19 := zo_162 (k := 94)  (q := 22) zr_dX6_firstOther_18.2 (by decide +kernel) rfl
noncomputable def dX6_firstOther_19 := zr_dX6_firstOther_19.1
noncomputable def zr_dX6_firstOther_22 := zo_29 (q := 23) zr_dX6_firstOther_19.2 rfl
noncomputable def dX6_firstOther_22 := zr_dX6_firstOther_22.1
noncomputable def zr_dX6_firstOther_23 := zo_2 (q := 24) zr_dX6_firstOther_22.2 rfl
noncomputable def dX6_firstOther_23 := zr_dX6_firstOther_23.1
noncomputable def zr_dX6_firstOther_24 := zo_160 (k := 89)  (q := 27) zr_dX6_firstOther_23.2 (by decide +kernel) rfl
noncomputable def dX6_firstOther_24 := zr_dX6_firstOther_24.1
noncomputable def zr_dX6_firstOther_27 := zo_16 (k := 40)  (q := 29) zr_dX6_firstOther_24.2 (by decide +kernel) rfl
noncomputable def dX6_firstOther_27 := zr_dX6_firstOther_27.1
noncomputable def zr_dX6_firstOther_29 := zo_27 (q := 30) zr_dX6_firstOther_27.2 rfl
noncomputable def dX6_firstOther_29 := zr_dX6_firstOther_29.1
noncomputable def zr_dX6_firstOther_30 := zo_104 (q := 31) zr_dX6_firstOther_29.2 rfl
noncomputable def dX6_firstOther_30 := zr_dX6_firstOther_30.1
noncomputable def zr_dX6_firstOther_31 := zo_6 (q := 32) zr_dX6_firstOther_30.2 rfl
noncomputable def dX6_firstOther_31 := zr_dX6_firstOther_31.1
noncomputable def zr_dX6_firstOther_32 := zo_21 (k := 4)  (q := 34) zr_dX6_firstOther_31.2 rfl rfl
noncomputable def dX6_firstOther_32 := zr_dX6_firstOther_32.1
noncomputable def zr_dX6_firstOther_34 := zo_104 (q := 35) zr_dX6_firstOther_32.2 rfl
noncomputable def dX6_firstOther_34 := zr_dX6_firstOther_34.1
noncomputable def zr_dX6_firstOther_35 := zo_96 (q := 36) zr_dX6_firstOther_34.2 rfl
noncomputable def dX6_firstOther_35 := zr_dX6_firstOther_35.1
noncomputable def zr_dX6_firstOther_36 := zo_54 (k := 5)  (q := 38) zr_dX6_firstOther_35.2 rfl rfl
noncomputable def dX6_firstOther_36 := zr_dX6_firstOther_36.1
noncomputable def zr_dX6_firstOther_38 := zo_42 (q := 39) zr_dX6_firstOther_36.2 rfl
noncomputable def dX6_firstOther_38 := zr_dX6_firstOther_38.1
noncomputable def zr_dX6_firstOther_39 := zo_28 (q := 40) zr_dX6_firstOther_38.2 rfl
noncomputable def dX6_firstOther_39 := zr_dX6_firstOther_39.1
noncomputable def zr_dX6_firstOther_40 := zo_42 (q := 41) zr_dX6_firstOther_39.2 rfl
noncomputable def dX6_firstOther_40 := zr_dX6_firstOther_40.1
noncomputable def zr_dX6_firstOther_41 := zo_180 (k := 43)  (q := 44) zr_dX6_firstOther_40.2 rfl rfl
noncomputable def dX6_firstOther_41 := zr_dX6_firstOther_41.1
noncomputable def zr_dX6_firstOther_44 := zo_21 (k := 5)  (q := 46) zr_dX6_firstOther_41.2 rfl rfl
noncomputable def dX6_firstOther_44 := zr_dX6_firstOther_44.1
noncomputable def zr_dX6_firstOther_46 := zo_46 (q := 47) zr_dX6_firstOther_44.2 rfl
noncomputable def dX6_firstOther_46 := zr_dX6_firstOther_46.1
noncomputable def zr_dX6_firstOther_47 := zo_42 (q := 48) zr_dX6_firstOther_46.2 rfl
noncomputable def dX6_firstOther_47 := zr_dX6_firstOther_47.1
noncomputable def zr_dX6_firstOther_48 := zo_180 (k := 43)  (q := 51) zr_dX6_firstOther_47.2 rfl rfl
noncomputable def dX6_firstOther_48 := zr_dX6_firstOther_48.1
noncomputable def zr_dX6_firstOther_51 := zo_21 (k := 5)  (q := 53) zr_dX6_firstOther_48.2 rfl rfl
noncomputable def dX6_firstOther_51 := zr_dX6_firstOther_51.1
noncomputable def zr_dX6_firstOther_53 := zo_4 (q := 54) zr_dX6_firstOther_51.2 rfl
noncomputable def dX6_firstOther_53 := zr_dX6_firstOther_53.1
noncomputable def zr_dX6_firstOther_54 := zo_96 (q := 55) zr_dX6_firstOther_53.2 rfl
noncomputable def dX6_firstOther_54 := zr_dX6_firstOther_54.1
noncomputable def zr_dX6_firstOther_55 := zo_46 (q := 56) zr_dX6_firstOther_54.2 rfl
noncomputable def dX6_firstOther_55 := zr_dX6_firstOther_55.1
noncomputable def zr_dX6_firstOther_56 := zo_182 (k := 199)  (q := 59) zr_dX6_firstOther_55.2 rfl rfl
noncomputable def dX6_firstOther_56 := zr_dX6_firstOther_56.1
noncomputable def zr_dX6_firstOther_59 := zo_54 (k := 6)  (q := 61) zr_dX6_firstOther_56.2 rfl rfl
noncomputable def dX6_firstOther_59 := zr_dX6_firstOther_59.1
noncomputable def zr_dX6_firstOther_61 := zo_21 (k := 6)  (q := 63) zr_dX6_firstOther_59.2 rfl rfl
noncomputable def dX6_firstOther_61 := zr_dX6_firstOther_61.1
noncomputable def zr_dX6_firstOther_63 := zo_42 (q := 64) zr_dX6_firstOther_61.2 rfl
noncomputable def dX6_firstOther_63 := zr_dX6_firstOther_63.1
noncomputable def zr_dX6_firstOther_64 := zo_5 (q := 65) zr_dX6_firstOther_63.2 rfl
noncomputable def dX6_firstOther_64 := zr_dX6_firstOther_64.1
noncomputable def zr_dX6_firstOther_65 := zo_28 (q := 66) zr_dX6_firstOther_64.2 rfl
noncomputable def dX6_firstOther_65 := zr_dX6_firstOther_65.1
noncomputable def zr_dX6_firstOther_66 := zo_42 (q := 67) zr_dX6_firstOther_65.2 rfl
noncomputable def dX6_firstOther_66 := zr_dX6_firstOther_66.1
noncomputable def zr_dX6_firstOther_67 := zo_180 (k := 43)  (q := 70) zr_dX6_firstOther_66.2 rfl rfl
noncomputable def dX6_firstOther_67 := zr_dX6_firstOther_67.1
noncomputable def zr_dX6_firstOther_70 := zo_21 (k := 5)  (q := 72) zr_dX6_firstOther_67.2 rfl rfl
noncomputable def dX6_firstOther_70 := zr_dX6_firstOther_70.1
noncomputable def zr_dX6_firstOther_72 := zo_46 (q := 73) zr_dX6_firstOther_70.2 rfl
noncomputable def dX6_firstOther_72 := zr_dX6_firstOther_72.1
noncomputable def zr_dX6_firstOther_73 := zo_182 (k := 180)  (q := 76) zr_dX6_firstOther_72.2 rfl rfl
noncomputable def dX6_firstOther_73 := zr_dX6_firstOther_73.1
noncomputable def zr_dX6_firstOther_76 := zo_161 (k := 7)  (q := 79) zr_dX6_firstOther_73.2 (by decide +kernel) rfl
noncomputable def dX6_firstOther_76 := zr_dX6_firstOther_76.1
noncomputable def zr_dX6_firstOther_79 := zo_4 (q := 80) zr_dX6_firstOther_76.2 rfl
noncomputable def dX6_firstOther_79 := zr_dX6_firstOther_79.1
noncomputable def zr_dX6_firstOther_80 := zo_167 (k := 4)  (q := 83) zr_dX6_firstOther_79.2 (by decide +kernel) rfl
noncomputable def dX6_firstOther_80 := zr_dX6_firstOther_80.1
noncomputable def zr_dX6_firstOther_83 := zo_3 (q := 84) zr_dX6_firstOther_80.2 rfl
noncomputable def dX6_firstOther_83 := zr_dX6_firstOther_83.1
noncomputable def zr_dX6_firstOther_84 := zo_54 (k := 7)  (q := 86) zr_dX6_firstOther_83.2 rfl rfl
noncomputable def dX6_firstOther_84 := zr_dX6_firstOther_84.1
noncomputable def zr_dX6_firstOther_86 := zo_21 (k := 7)  (q := 88) zr_dX6_firstOther_84.2 rfl rfl
noncomputable def dX6_firstOther_86 := zr_dX6_firstOther_86.1
noncomputable def zr_dX6_firstOther_88 := zo_42 (q := 89) zr_dX6_firstOther_86.2 rfl
noncomputable def dX6_firstOther_88 := zr_dX6_firstOther_88.1
noncomputable def zr_dX6_firstOther_89 := zo_180 (k := 43)  (q := 92) zr_dX6_firstOther_88.2 rfl rfl
noncomputable def dX6_firstOther_89 := zr_dX6_firstOther_89.1
noncomputable def zr_dX6_firstOther_92 := zo_21 (k := 5)  (q := 94) zr_dX6_firstOther_89.2 rfl rfl
noncomputable def dX6_firstOther_92 := zr_dX6_firstOther_92.1
noncomputable def zr_dX6_firstOther_94 := zo_5 (q := 95) zr_dX6_firstOther_92.2 rfl
noncomputable def dX6_firstOther_94 := zr_dX6_firstOther_94.1
noncomputable def zr_dX6_firstOther_95 := zo_96 (q := 96) zr_dX6_firstOther_94.2 rfl
noncomputable def dX6_firstOther_95 := zr_dX6_firstOther_95.1
noncomputable def zr_dX6_firstOther_96 := zo_46 (q := 97) zr_dX6_firstOther_95.2 rfl
noncomputable def dX6_firstOther_96 := zr_dX6_firstOther_96.1
noncomputable def zr_dX6_firstOther_97 := zo_160 (k := 7)  (q := 100) zr_dX6_firstOther_96.2 (by decide +kernel) rfl
noncomputable def dX6_firstOther_97 := zr_dX6_firstOther_97.1
noncomputable def zr_dX6_firstOther_100 := zo_2 (q := 101) zr_dX6_firstOther_97.2 rfl
noncomputable def dX6_firstOther_100 := zr_dX6_firstOther_100.1
noncomputable def zr_dX6_firstOther_101 := zo_167 (k := 5)  (q := 104) zr_dX6_firstOther_100.2 (by decide +kernel) rfl
noncomputable def dX6_firstOther_101 := zr_dX6_firstOther_101.1
noncomputable def zr_dX6_firstOther_104 := zo_21 (k := 4)  (q := 106) zr_dX6_firstOther_101.2 rfl rfl
noncomputable def dX6_firstOther_104 := zr_dX6_firstOther_104.1
noncomputable def zr_dX6_firstOther_106 := zo_62 (q := 107) zr_dX6_firstOther_104.2 rfl
noncomputable def dX6_firstOther_106 := zr_dX6_firstOther_106.1
noncomputable def zr_dX6_firstOther_107 := zo_132 (k := 4) (o := 1)  (q := 110) zr_dX6_firstOther_106.2 rfl (by decide +kernel) rfl
noncomputable def dX6_firstOther_107 := zr_dX6_firstOther_107.1
noncomputable def zr_dX6_firstOther_110 := zo_167 (k := -101)  (q := 113) zr_dX6_firstOther_107.2 (by decide +kernel) rfl
noncomputable def dX6_firstOther_110 := zr_dX6_firstOther_110.1
noncomputable def zr_dX6_firstOther_113 := zo_42 (q := 114) zr_dX6_firstOther_110.2 rfl
noncomputable def dX6_firstOther_113 := zr_dX6_firstOther_113.1
noncomputable def zr_dX6_firstOther_114 := zo_182 (k := 218)  (q := 117) zr_dX6_firstOther_113.2 rfl rfl
noncomputable def dX6_firstOther_114 := zr_dX6_firstOther_114.1
noncomputable def zr_dX6_firstOther_117 := zo_29 (q := 118) zr_dX6_firstOther_114.2 rfl
noncomputable def dX6_firstOther_117 := zr_dX6_firstOther_117.1
noncomputable def zr_dX6_firstOther_118 := zo_172 (q := 119) zr_dX6_firstOther_117.2 rfl
noncomputable def dX6_firstOther_118 := zr_dX6_firstOther_118.1
theorem zs_dX6_reversed_0 : zsuf cX6_reversed 0 cX6_reversed.data.toList := rfl
noncomputable def zr_dX6_reversed_0 := zo_42 (q := 1) zs_dX6_reversed_0 rfl
noncomputable def dX6_reversed_0 := zr_dX6_reversed_0.1
noncomputable def zr_dX6_reversed_1 := zo_27 (q := 2) zr_dX6_reversed_0.2 rfl
noncomputable def dX6_reversed_1 := zr_dX6_reversed_1.1
noncomputable def zr_dX6_reversed_2 := zo_28 (q := 3) zr_dX6_reversed_1.2 rfl
noncomputable def dX6_reversed_2 := zr_dX6_reversed_2.1
noncomputable def zr_dX6_reversed_3 := zo_182 (k := 251)  (q := 6) zr_dX6_reversed_2.2 rfl rfl
noncomputable def dX6_reversed_3 := zr_dX6_reversed_3.1
noncomputable def zr_dX6_reversed_6 := zo_62 (q := 7) zr_dX6_reversed_3.2 rfl
noncomputable def dX6_reversed_6 := zr_dX6_reversed_6.1
noncomputable def zr_dX6_reversed_7 := zo_29 (q := 8) zr_dX6_reversed_6.2 rfl
noncomputable def dX6_reversed_7 := zr_dX6_reversed_7.1
noncomputable def zr_dX6_reversed_8 := zo_154 (k := 12)  (q := 11) zr_dX6_reversed_7.2 (by decide +kernel) rfl
noncomputable def dX6_reversed_8 := zr_dX6_reversed_8.1
noncomputable def zr_dX6_reversed_11 := zo_42 (q := 12) zr_dX6_reversed_8.2 rfl
noncomputable def dX6_reversed_11 := zr_dX6_reversed_11.1
noncomputable def zr_dX6_reversed_12 := zo_27 (q := 13) zr_dX6_reversed_11.2 rfl
noncomputable def dX6_reversed_12 := zr_dX6_reversed_12.1
noncomputable def zr_dX6_reversed_13 := zo_28 (q := 14) zr_dX6_reversed_12.2 rfl
noncomputable def dX6_reversed_13 := zr_dX6_reversed_13.1
noncomputable def zr_dX6_reversed_14 := zo_182 (k := 254)  (q := 17) zr_dX6_reversed_13.2 rfl rfl
noncomputable def dX6_reversed_14 := zr_dX6_reversed_14.1
noncomputable def zr_dX6_reversed_17 := zo_167 (k := 4)  (q := 20) zr_dX6_reversed_14.2 (by decide +kernel) rfl
noncomputable def dX6_reversed_17 := zr_dX6_reversed_17.1
noncomputable def zr_dX6_reversed_20 := zo_29 (q := 21) zr_dX6_reversed_17.2 rfl
noncomputable def dX6_reversed_20 := zr_dX6_reversed_20.1
noncomputable def zr_dX6_reversed_21 := zo_172 (q := 22) zr_dX6_reversed_20.2 rfl
noncomputable def dX6_reversed_21 := zr_dX6_reversed_21.1
theorem zs_dX6_kinds_0 : zsuf cX6_kinds 0 cX6_kinds.data.toList := rfl
noncomputable def zr_dX6_kinds_0 := zo_42 (q := 1) zs_dX6_kinds_0 rfl
noncomputable def dX6_kinds_0 := zr_dX6_kinds_0.1
noncomputable def zr_dX6_kinds_1 := zo_27 (q := 2) zr_dX6_kinds_0.2 rfl
noncomputable def dX6_kinds_1 := zr_dX6_kinds_1.1
noncomputable def zr_dX6_kinds_2 := zo_28 (q := 3) zr_dX6_kinds_1.2 rfl
noncomputable def dX6_kinds_2 := zr_dX6_kinds_2.1
noncomputable def zr_dX6_kinds_3 := zo_182 (k := 251)  (q := 6) zr_dX6_kinds_2.2 rfl rfl
noncomputable def dX6_kinds_3 := zr_dX6_kinds_3.1
noncomputable def zr_dX6_kinds_6 := zo_54 (k := 5)  (q := 8) zr_dX6_kinds_3.2 rfl rfl
noncomputable def dX6_kinds_6 := zr_dX6_kinds_6.1
noncomputable def zr_dX6_kinds_8 := zo_21 (k := 5)  (q := 10) zr_dX6_kinds_6.2 rfl rfl
noncomputable def dX6_kinds_8 := zr_dX6_kinds_8.1
noncomputable def zr_dX6_kinds_10 := zo_153 (k := 6)  (q := 13) zr_dX6_kinds_8.2 (by decide +kernel) rfl
noncomputable def dX6_kinds_10 := zr_dX6_kinds_10.1
noncomputable def zr_dX6_kinds_13 := zo_21 (k := 5)  (q := 15) zr_dX6_kinds_10.2 rfl rfl
noncomputable def dX6_kinds_13 := zr_dX6_kinds_13.1
noncomputable def zr_dX6_kinds_15 := zo_172 (q := 16) zr_dX6_kinds_13.2 rfl
noncomputable def dX6_kinds_15 := zr_dX6_kinds_15.1
noncomputable def zr_dX6_kinds_16 := zo_42 (q := 17) zr_dX6_kinds_15.2 rfl
noncomputable def dX6_kinds_16 := zr_dX6_kinds_16.1
noncomputable def zr_dX6_kinds_17 := zo_29 (q := 18) zr_dX6_kinds_16.2 rfl
noncomputable def dX6_kinds_17 := zr_dX6_kinds_17.1
noncomputable def zr_dX6_kinds_18 := zo_182 (k := 177)  (q := 21) zr_dX6_kinds_17.2 rfl rfl
noncomputable def dX6_kinds_18 := zr_dX6_kinds_18.1
noncomputable def zr_dX6_kinds_21 := zo_154 (k := 6)  (q := 24) zr_dX6_kinds_18.2 (by decide +kernel) rfl
noncomputable def dX6_kinds_21 := zr_dX6_kinds_21.1
noncomputable def zr_dX6_kinds_24 := zo_16 (k := -6)  (q := 26) zr_dX6_kinds_21.2 (by decide +kernel) rfl
noncomputable def dX6_kinds_24 := zr_dX6_kinds_24.1
noncomputable def zr_dX6_kinds_26 := zo_172 (q := 27) zr_dX6_kinds_24.2 rfl
noncomputable def dX6_kinds_26 := zr_dX6_kinds_26.1
noncomputable def zr_dX6_kinds_27 := zo_21 (k := 4)  (q := 29) zr_dX6_kinds_26.2 rfl rfl
noncomputable def dX6_kinds_27 := zr_dX6_kinds_27.1
noncomputable def zr_dX6_kinds_29 := zo_3 (q := 30) zr_dX6_kinds_27.2 rfl
noncomputable def dX6_kinds_29 := zr_dX6_kinds_29.1
noncomputable def zr_dX6_kinds_30 := zo_4 (q := 31) zr_dX6_kinds_29.2 rfl
noncomputable def dX6_kinds_30 := zr_dX6_kinds_30.1
noncomputable def zr_dX6_kinds_31 := zo_184 (k := 91)  (q := 34) zr_dX6_kinds_30.2 rfl rfl
noncomputable def dX6_kinds_31 := zr_dX6_kinds_31.1
noncomputable def zr_dX6_kinds_34 := zo_154 (k := 6)  (q := 37) zr_dX6_kinds_31.2 (by decide +kernel) rfl
noncomputable def dX6_kinds_34 := zr_dX6_kinds_34.1
noncomputable def zr_dX6_kinds_37 := zo_16 (k := -7)  (q := 39) zr_dX6_kinds_34.2 (by decide +kernel) rfl
noncomputable def dX6_kinds_37 := zr_dX6_kinds_37.1
noncomputable def zr_dX6_kinds_39 := zo_172 (q := 40) zr_dX6_kinds_37.2 rfl
noncomputable def dX6_kinds_39 := zr_dX6_kinds_39.1
noncomputable def zr_dX6_kinds_40 := zo_42 (q := 41) zr_dX6_kinds_39.2 rfl
noncomputable def dX6_kinds_40 := zr_dX6_kinds_40.1
noncomputable def zr_dX6_kinds_41 := zo_180 (k := 7)  (q := 44) zr_dX6_kinds_40.2 rfl rfl
noncomputable def dX6_kinds_41 := zr_dX6_kinds_41.1
noncomputable def zr_dX6_kinds_44 := zo_29 (q := 45) zr_dX6_kinds_41.2 rfl
noncomputable def dX6_kinds_44 := zr_dX6_kinds_44.1
noncomputable def zr_dX6_kinds_45 := zo_46 (q := 46) zr_dX6_kinds_44.2 rfl
noncomputable def dX6_kinds_45 := zr_dX6_kinds_45.1
noncomputable def zr_dX6_kinds_46 := zo_54 (k := 6)  (q := 48) zr_dX6_kinds_45.2 rfl rfl
noncomputable def dX6_kinds_46 := zr_dX6_kinds_46.1
noncomputable def zr_dX6_kinds_48 := zo_42 (q := 49) zr_dX6_kinds_46.2 rfl
noncomputable def dX6_kinds_48 := zr_dX6_kinds_48.1
noncomputable def zr_dX6_kinds_49 := zo_180 (k := 13)  (q := 52) zr_dX6_kinds_48.2 rfl rfl
noncomputable def dX6_kinds_49 := zr_dX6_kinds_49.1
noncomputable def zr_dX6_kinds_52 := zo_29 (q := 53) zr_dX6_kinds_49.2 rfl
noncomputable def dX6_kinds_52 := zr_dX6_kinds_52.1
noncomputable def zr_dX6_kinds_53 := zo_46 (q := 54) zr_dX6_kinds_52.2 rfl
noncomputable def dX6_kinds_53 := zr_dX6_kinds_53.1
noncomputable def zr_dX6_kinds_54 := zo_54 (k := 7)  (q := 56) zr_dX6_kinds_53.2 rfl rfl
noncomputable def dX6_kinds_54 := zr_dX6_kinds_54.1
noncomputable def zr_dX6_kinds_56 := zo_3 (q := 57) zr_dX6_kinds_54.2 rfl
noncomputable def dX6_kinds_56 := zr_dX6_kinds_56.1
noncomputable def zr_dX6_kinds_57 := zo_54 (k := 8)  (q := 59) zr_dX6_kinds_56.2 rfl rfl
noncomputable def dX6_kinds_57 := zr_dX6_kinds_57.1
noncomputable def zr_dX6_kinds_59 := zo_3 (q := 60) zr_dX6_kinds_57.2 rfl
noncomputable def dX6_kinds_59 := zr_dX6_kinds_59.1
noncomputable def zr_dX6_kinds_60 := zo_54 (k := 9)  (q := 62) zr_dX6_kinds_59.2 rfl rfl
noncomputable def dX6_kinds_60 := zr_dX6_kinds_60.1
noncomputable def zr_dX6_kinds_62 := zo_21 (k := 9)  (q := 64) zr_dX6_kinds_60.2 rfl rfl
noncomputable def dX6_kinds_62 := zr_dX6_kinds_62.1
noncomputable def zr_dX6_kinds_64 := zo_21 (k := 4)  (q := 66) zr_dX6_kinds_62.2 rfl rfl
noncomputable def dX6_kinds_64 := zr_dX6_kinds_64.1
noncomputable def zr_dX6_kinds_66 := zo_154 (k := 8)  (q := 69) zr_dX6_kinds_64.2 (by decide +kernel) rfl
noncomputable def dX6_kinds_66 := zr_dX6_kinds_66.1
noncomputable def zr_dX6_kinds_69 := zo_16 (k := 6)  (q := 71) zr_dX6_kinds_66.2 (by decide +kernel) rfl
noncomputable def dX6_kinds_69 := zr_dX6_kinds_69.1
noncomputable def zr_dX6_kinds_71 := zo_167 (k := 5)  (q := 74) zr_dX6_kinds_69.2 (by decide +kernel) rfl
noncomputable def dX6_kinds_71 := zr_dX6_kinds_71.1
noncomputable def zr_dX6_kinds_74 := zo_16 (k := 10)  (q := 76) zr_dX6_kinds_71.2 (by decide +kernel) rfl
noncomputable def dX6_kinds_74 := zr_dX6_kinds_74.1
noncomputable def zr_dX6_kinds_76 := zo_162 (k := 69)  (q := 79) zr_dX6_kinds_74.2 (by decide +kernel) rfl
noncomputable def dX6_kinds_76 := zr_dX6_kinds_76.1
noncomputable def zr_dX6_kinds_79 := zo_42 (q := 80) zr_dX6_kinds_76.2 rfl
noncomputable def dX6_kinds_79 := zr_dX6_kinds_79.1
noncomputable def zr_dX6_kinds_80 := zo_180 (k := 7)  (q := 83) zr_dX6_kinds_79.2 rfl rfl
noncomputable def dX6_kinds_80 := zr_dX6_kinds_80.1
noncomputable def zr_dX6_kinds_83 := zo_29 (q := 84) zr_dX6_kinds_80.2 rfl
noncomputable def dX6_kinds_83 := zr_dX6_kinds_83.1
noncomputable def zr_dX6_kinds_84 := zo_21 (k := 4)  (q := 86) zr_dX6_kinds_83.2 rfl rfl
noncomputable def dX6_kinds_84 := zr_dX6_kinds_84.1
noncomputable def zr_dX6_kinds_86 := zo_154 (k := 8)  (q := 89) zr_dX6_kinds_84.2 (by decide +kernel) rfl
noncomputable def dX6_kinds_86 := zr_dX6_kinds_86.1
noncomputable def zr_dX6_kinds_89 := zo_21 (k := 9)  (q := 91) zr_dX6_kinds_86.2 rfl rfl
noncomputable def dX6_kinds_89 := zr_dX6_kinds_89.1
noncomputable def zr_dX6_kinds_91 := zo_167 (k := 5)  (q := 94) zr_dX6_kinds_89.2 (by decide +kernel) rfl
noncomputable def dX6_kinds_91 := zr_dX6_kinds_91.1
noncomputable def zr_dX6_kinds_94 := zo_21 (k := 6)  (q := 96) zr_dX6_kinds_91.2 rfl rfl
noncomputable def dX6_kinds_94 := zr_dX6_kinds_94.1
noncomputable def zr_dX6_kinds_96 := zo_79 (q := 97) zr_dX6_kinds_94.2 rfl
noncomputable def dX6_kinds_96 := zr_dX6_kinds_96.1
noncomputable def zr_dX6_kinds_97 := zo_42 (q := 98) zr_dX6_kinds_96.2 rfl
noncomputable def dX6_kinds_97 := zr_dX6_kinds_97.1
noncomputable def zr_dX6_kinds_98 := zo_180 (k := 13)  (q := 101) zr_dX6_kinds_97.2 rfl rfl
noncomputable def dX6_kinds_98 := zr_dX6_kinds_98.1
noncomputable def zr_dX6_kinds_101 := zo_29 (q := 102) zr_dX6_kinds_98.2 rfl
noncomputable def dX6_kinds_101 := zr_dX6_kinds_101.1
noncomputable def zr_dX6_kinds_102 := zo_21 (k := 4)  (q := 104) zr_dX6_kinds_101.2 rfl rfl
noncomputable def dX6_kinds_102 := zr_dX6_kinds_102.1
noncomputable def zr_dX6_kinds_104 := zo_4 (q := 105) zr_dX6_kinds_102.2 rfl
noncomputable def dX6_kinds_104 := zr_dX6_kinds_104.1
noncomputable def zr_dX6_kinds_105 := zo_160 (k := 8)  (q := 108) zr_dX6_kinds_104.2 (by decide +kernel) rfl
noncomputable def dX6_kinds_105 := zr_dX6_kinds_105.1
noncomputable def zr_dX6_kinds_108 := zo_21 (k := 9)  (q := 110) zr_dX6_kinds_105.2 rfl rfl
noncomputable def dX6_kinds_108 := zr_dX6_kinds_108.1
noncomputable def zr_dX6_kinds_110 := zo_167 (k := 5)  (q := 113) zr_dX6_kinds_108.2 (by decide +kernel) rfl
noncomputable def dX6_kinds_110 := zr_dX6_kinds_110.1
noncomputable def zr_dX6_kinds_113 := zo_21 (k := 7)  (q := 115) zr_dX6_kinds_110.2 rfl rfl
noncomputable def dX6_kinds_113 := zr_dX6_kinds_113.1
noncomputable def zr_dX6_kinds_115 := zo_79 (q := 116) zr_dX6_kinds_113.2 rfl
noncomputable def dX6_kinds_115 := zr_dX6_kinds_115.1
noncomputable def zr_dX6_kinds_116 := zo_21 (k := 8)  (q := 118) zr_dX6_kinds_115.2 rfl rfl
noncomputable def dX6_kinds_116 := zr_dX6_kinds_116.1
noncomputable def zr_dX6_kinds_118 := zo_42 (q := 119) zr_dX6_kinds_116.2 rfl
noncomputable def dX6_kinds_118 := zr_dX6_kinds_118.1
noncomputable def zr_dX6_kinds_119 := zo_27 (q := 120) zr_dX6_kinds_118.2 rfl
noncomputable def dX6_kinds_119 := zr_dX6_kinds_119.1
noncomputable def zr_dX6_kinds_120 := zo_28 (q := 121) zr_dX6_kinds_119.2 rfl
noncomputable def dX6_kinds_120 := zr_dX6_kinds_120.1
noncomputable def zr_dX6_kinds_121 := zo_182 (k := 254)  (q := 124) zr_dX6_kinds_120.2 rfl rfl
noncomputable def dX6_kinds_121 := zr_dX6_kinds_121.1
noncomputable def zr_dX6_kinds_124 := zo_2 (q := 125) zr_dX6_kinds_121.2 rfl
noncomputable def dX6_kinds_124 := zr_dX6_kinds_124.1
noncomputable def zr_dX6_kinds_125 := zo_160 (k := 10)  (q := 128) zr_dX6_kinds_124.2 (by decide +kernel) rfl
noncomputable def dX6_kinds_125 := zr_dX6_kinds_125.1
noncomputable def zr_dX6_kinds_128 := zo_4 (q := 129) zr_dX6_kinds_125.2 rfl
noncomputable def dX6_kinds_128 := zr_dX6_kinds_128.1
noncomputable def zr_dX6_kinds_129 := zo_21 (k := 9)  (q := 131) zr_dX6_kinds_128.2 rfl rfl
noncomputable def dX6_kinds_129 := zr_dX6_kinds_129.1
noncomputable def zr_dX6_kinds_131 := zo_120 (q := 132) zr_dX6_kinds_129.2 rfl
noncomputable def dX6_kinds_131 := zr_dX6_kinds_131.1
noncomputable def zr_dX6_kinds_132 := zo_167 (k := 4)  (q := 135) zr_dX6_kinds_131.2 (by decide +kernel) rfl
noncomputable def dX6_kinds_132 := zr_dX6_kinds_132.1
noncomputable def zr_dX6_kinds_135 := zo_3 (q := 136) zr_dX6_kinds_132.2 rfl
noncomputable def dX6_kinds_135 := zr_dX6_kinds_135.1
noncomputable def zr_dX6_kinds_136 := zo_128 (q := 137) zr_dX6_kinds_135.2 rfl
noncomputable def dX6_kinds_136 := zr_dX6_kinds_136.1
noncomputable def zr_dX6_kinds_137 := zo_54 (k := 8)  (q := 139) zr_dX6_kinds_136.2 rfl rfl
noncomputable def dX6_kinds_137 := zr_dX6_kinds_137.1
noncomputable def zr_dX6_kinds_139 := zo_132 (k := 9) (o := 1)  (q := 142) zr_dX6_kinds_137.2 rfl (by decide +kernel) rfl
noncomputable def dX6_kinds_139 := zr_dX6_kinds_139.1
noncomputable def zr_dX6_kinds_142 := zo_167 (k := -80)  (q := 145) zr_dX6_kinds_139.2 (by decide +kernel) rfl
noncomputable def dX6_kinds_142 := zr_dX6_kinds_142.1
noncomputable def zr_dX6_kinds_145 := zo_42 (q := 146) zr_dX6_kinds_142.2 rfl
noncomputable def dX6_kinds_145 := zr_dX6_kinds_145.1
noncomputable def zr_dX6_kinds_146 := zo_180 (k := 7)  (q := 149) zr_dX6_kinds_145.2 rfl rfl
noncomputable def dX6_kinds_146 := zr_dX6_kinds_146.1
noncomputable def zr_dX6_kinds_149 := zo_29 (q := 150) zr_dX6_kinds_146.2 rfl
noncomputable def dX6_kinds_149 := zr_dX6_kinds_149.1
noncomputable def zr_dX6_kinds_150 := zo_21 (k := 6)  (q := 152) zr_dX6_kinds_149.2 rfl rfl
noncomputable def dX6_kinds_150 := zr_dX6_kinds_150.1
noncomputable def zr_dX6_kinds_152 := zo_79 (q := 153) zr_dX6_kinds_150.2 rfl
noncomputable def dX6_kinds_152 := zr_dX6_kinds_152.1
noncomputable def zr_dX6_kinds_153 := zo_42 (q := 154) zr_dX6_kinds_152.2 rfl
noncomputable def dX6_kinds_153 := zr_dX6_kinds_153.1
noncomputable def zr_dX6_kinds_154 := zo_180 (k := 13)  (q := 157) zr_dX6_kinds_153.2 rfl rfl
noncomputable def dX6_kinds_154 := zr_dX6_kinds_154.1
noncomputable def zr_dX6_kinds_157 := zo_29 (q := 158) zr_dX6_kinds_154.2 rfl
noncomputable def dX6_kinds_157 := zr_dX6_kinds_157.1
noncomputable def zr_dX6_kinds_158 := zo_21 (k := 7)  (q := 160) zr_dX6_kinds_157.2 rfl rfl
noncomputable def dX6_kinds_158 := zr_dX6_kinds_158.1
noncomputable def zr_dX6_kinds_160 := zo_79 (q := 161) zr_dX6_kinds_158.2 rfl
noncomputable def dX6_kinds_160 := zr_dX6_kinds_160.1
noncomputable def zr_dX6_kinds_161 := zo_21 (k := 8)  (q := 163) zr_dX6_kinds_160.2 rfl rfl
noncomputable def dX6_kinds_161 := zr_dX6_kinds_161.1
noncomputable def zr_dX6_kinds_163 := zo_172 (q := 164) zr_dX6_kinds_161.2 rfl
noncomputable def dX6_kinds_163 := zr_dX6_kinds_163.1
theorem zs_dX6_soled_0 : zsuf cX6_soled 0 cX6_soled.data.toList := rfl
noncomputable def zr_dX6_soled_0 := zo_42 (q := 1) zs_dX6_soled_0 rfl
noncomputable def dX6_soled_0 := zr_dX6_soled_0.1
noncomputable def zr_dX6_soled_1 := zo_27 (q := 2) zr_dX6_soled_0.2 rfl
noncomputable def dX6_soled_1 := zr_dX6_soled_1.1
noncomputable def zr_dX6_soled_2 := zo_28 (q := 3) zr_dX6_soled_1.2 rfl
noncomputable def dX6_soled_2 := zr_dX6_soled_2.1
noncomputable def zr_dX6_soled_3 := zo_182 (k := 251)  (q := 6) zr_dX6_soled_2.2 rfl rfl
noncomputable def dX6_soled_3 := zr_dX6_soled_3.1
noncomputable def zr_dX6_soled_6 := zo_62 (q := 7) zr_dX6_soled_3.2 rfl
noncomputable def dX6_soled_6 := zr_dX6_soled_6.1
noncomputable def zr_dX6_soled_7 := zo_29 (q := 8) zr_dX6_soled_6.2 rfl
noncomputable def dX6_soled_7 := zr_dX6_soled_7.1
noncomputable def zr_dX6_soled_8 := zo_153 (k := 5)  (q := 11) zr_dX6_soled_7.2 (by decide +kernel) rfl
noncomputable def dX6_soled_8 := zr_dX6_soled_8.1
noncomputable def zr_dX6_soled_11 := zo_29 (q := 12) zr_dX6_soled_8.2 rfl
noncomputable def dX6_soled_11 := zr_dX6_soled_11.1
noncomputable def zr_dX6_soled_12 := zo_172 (q := 13) zr_dX6_soled_11.2 rfl
noncomputable def dX6_soled_12 := zr_dX6_soled_12.1
noncomputable def zr_dX6_soled_13 := zo_42 (q := 14) zr_dX6_soled_12.2 rfl
noncomputable def dX6_soled_13 := zr_dX6_soled_13.1
noncomputable def zr_dX6_soled_14 := zo_180 (k := 19)  (q := 17) zr_dX6_soled_13.2 rfl rfl
noncomputable def dX6_soled_14 := zr_dX6_soled_14.1
noncomputable def zr_dX6_soled_17 := zo_6 (q := 18) zr_dX6_soled_14.2 rfl
noncomputable def dX6_soled_17 := zr_dX6_soled_17.1
noncomputable def zr_dX6_soled_18 := zo_28 (q := 19) zr_dX6_soled_17.2 rfl
noncomputable def dX6_soled_18 := zr_dX6_soled_18.1
noncomputable def zr_dX6_soled_19 := zo_104 (q := 20) zr_dX6_soled_18.2 rfl
noncomputable def dX6_soled_19 := zr_dX6_soled_19.1
noncomputable def zr_dX6_soled_20 := zo_46 (q := 21) zr_dX6_soled_19.2 rfl
noncomputable def dX6_soled_20 := zr_dX6_soled_20.1
noncomputable def zr_dX6_soled_21 := zo_54 (k := 4)  (q := 23) zr_dX6_soled_20.2 rfl rfl
noncomputable def dX6_soled_21 := zr_dX6_soled_21.1
noncomputable def zr_dX6_soled_23 := zo_3 (q := 24) zr_dX6_soled_21.2 rfl
noncomputable def dX6_soled_23 := zr_dX6_soled_23.1
noncomputable def zr_dX6_soled_24 := zo_54 (k := 5)  (q := 26) zr_dX6_soled_23.2 rfl rfl
noncomputable def dX6_soled_24 := zr_dX6_soled_24.1
noncomputable def zr_dX6_soled_26 := zo_3 (q := 27) zr_dX6_soled_24.2 rfl
noncomputable def dX6_soled_26 := zr_dX6_soled_26.1
noncomputable def zr_dX6_soled_27 := zo_54 (k := 6)  (q := 29) zr_dX6_soled_26.2 rfl rfl
noncomputable def dX6_soled_27 := zr_dX6_soled_27.1
noncomputable def zr_dX6_soled_29 := zo_21 (k := 6)  (q := 31) zr_dX6_soled_27.2 rfl rfl
noncomputable def dX6_soled_29 := zr_dX6_soled_29.1
noncomputable def zr_dX6_soled_31 := zo_16 (k := 20)  (q := 33) zr_dX6_soled_29.2 (by decide +kernel) rfl
noncomputable def dX6_soled_31 := zr_dX6_soled_31.1
noncomputable def zr_dX6_soled_33 := zo_163 (k := 42)  (q := 36) zr_dX6_soled_31.2 (by decide +kernel) rfl
noncomputable def dX6_soled_33 := zr_dX6_soled_33.1
noncomputable def zr_dX6_soled_36 := zo_42 (q := 37) zr_dX6_soled_33.2 rfl
noncomputable def dX6_soled_36 := zr_dX6_soled_36.1
noncomputable def zr_dX6_soled_37 := zo_180 (k := 19)  (q := 40) zr_dX6_soled_36.2 rfl rfl
noncomputable def dX6_soled_37 := zr_dX6_soled_37.1
noncomputable def zr_dX6_soled_40 := zo_6 (q := 41) zr_dX6_soled_37.2 rfl
noncomputable def dX6_soled_40 := zr_dX6_soled_40.1
noncomputable def zr_dX6_soled_41 := zo_28 (q := 42) zr_dX6_soled_40.2 rfl
noncomputable def dX6_soled_41 := zr_dX6_soled_41.1
noncomputable def zr_dX6_soled_42 := zo_104 (q := 43) zr_dX6_soled_41.2 rfl
noncomputable def dX6_soled_42 := zr_dX6_soled_42.1
noncomputable def zr_dX6_soled_43 := zo_21 (k := 6)  (q := 45) zr_dX6_soled_42.2 rfl rfl
noncomputable def dX6_soled_43 := zr_dX6_soled_43.1
noncomputable def zr_dX6_soled_45 := zo_79 (q := 46) zr_dX6_soled_43.2 rfl
noncomputable def dX6_soled_45 := zr_dX6_soled_45.1
noncomputable def zr_dX6_soled_46 := zo_21 (k := 5)  (q := 48) zr_dX6_soled_45.2 rfl rfl
noncomputable def dX6_soled_46 := zr_dX6_soled_46.1
noncomputable def zr_dX6_soled_48 := zo_42 (q := 49) zr_dX6_soled_46.2 rfl
noncomputable def dX6_soled_48 := zr_dX6_soled_48.1
noncomputable def zr_dX6_soled_49 := zo_27 (q := 50) zr_dX6_soled_48.2 rfl
noncomputable def dX6_soled_49 := zr_dX6_soled_49.1
noncomputable def zr_dX6_soled_50 := zo_28 (q := 51) zr_dX6_soled_49.2 rfl
noncomputable def dX6_soled_50 := zr_dX6_soled_50.1
noncomputable def zr_dX6_soled_51 := zo_182 (k := 254)  (q := 54) zr_dX6_soled_50.2 rfl rfl
noncomputable def dX6_soled_51 := zr_dX6_soled_51.1
noncomputable def zr_dX6_soled_54 := zo_2 (q := 55) zr_dX6_soled_51.2 rfl
noncomputable def dX6_soled_54 := zr_dX6_soled_54.1
noncomputable def zr_dX6_soled_55 := zo_160 (k := 10)  (q := 58) zr_dX6_soled_54.2 (by decide +kernel) rfl
noncomputable def dX6_soled_55 := zr_dX6_soled_55.1
noncomputable def zr_dX6_soled_58 := zo_4 (q := 59) zr_dX6_soled_55.2 rfl
noncomputable def dX6_soled_58 := zr_dX6_soled_58.1
noncomputable def zr_dX6_soled_59 := zo_21 (k := 6)  (q := 61) zr_dX6_soled_58.2 rfl rfl
noncomputable def dX6_soled_59 := zr_dX6_soled_59.1
noncomputable def zr_dX6_soled_61 := zo_120 (q := 62) zr_dX6_soled_59.2 rfl
noncomputable def dX6_soled_61 := zr_dX6_soled_61.1
noncomputable def zr_dX6_soled_62 := zo_167 (k := 4)  (q := 65) zr_dX6_soled_61.2 (by decide +kernel) rfl
noncomputable def dX6_soled_62 := zr_dX6_soled_62.1
noncomputable def zr_dX6_soled_65 := zo_3 (q := 66) zr_dX6_soled_62.2 rfl
noncomputable def dX6_soled_65 := zr_dX6_soled_65.1
noncomputable def zr_dX6_soled_66 := zo_128 (q := 67) zr_dX6_soled_65.2 rfl
noncomputable def dX6_soled_66 := zr_dX6_soled_66.1
noncomputable def zr_dX6_soled_67 := zo_54 (k := 5)  (q := 69) zr_dX6_soled_66.2 rfl rfl
noncomputable def dX6_soled_67 := zr_dX6_soled_67.1
noncomputable def zr_dX6_soled_69 := zo_132 (k := 6) (o := 1)  (q := 72) zr_dX6_soled_67.2 rfl (by decide +kernel) rfl
noncomputable def dX6_soled_69 := zr_dX6_soled_69.1
noncomputable def zr_dX6_soled_72 := zo_167 (k := -43)  (q := 75) zr_dX6_soled_69.2 (by decide +kernel) rfl
noncomputable def dX6_soled_72 := zr_dX6_soled_72.1
noncomputable def zr_dX6_soled_75 := zo_42 (q := 76) zr_dX6_soled_72.2 rfl
noncomputable def dX6_soled_75 := zr_dX6_soled_75.1
noncomputable def zr_dX6_soled_76 := zo_180 (k := 19)  (q := 79) zr_dX6_soled_75.2 rfl rfl
noncomputable def dX6_soled_76 := zr_dX6_soled_76.1
noncomputable def zr_dX6_soled_79 := zo_6 (q := 80) zr_dX6_soled_76.2 rfl
noncomputable def dX6_soled_79 := zr_dX6_soled_79.1
noncomputable def zr_dX6_soled_80 := zo_28 (q := 81) zr_dX6_soled_79.2 rfl
noncomputable def dX6_soled_80 := zr_dX6_soled_80.1
noncomputable def zr_dX6_soled_81 := zo_104 (q := 82) zr_dX6_soled_80.2 rfl
noncomputable def dX6_soled_81 := zr_dX6_soled_81.1
noncomputable def zr_dX6_soled_82 := zo_21 (k := 4)  (q := 84) zr_dX6_soled_81.2 rfl rfl
noncomputable def dX6_soled_82 := zr_dX6_soled_82.1
noncomputable def zr_dX6_soled_84 := zo_79 (q := 85) zr_dX6_soled_82.2 rfl
noncomputable def dX6_soled_84 := zr_dX6_soled_84.1
noncomputable def zr_dX6_soled_85 := zo_21 (k := 5)  (q := 87) zr_dX6_soled_84.2 rfl rfl
noncomputable def dX6_soled_85 := zr_dX6_soled_85.1
noncomputable def zr_dX6_soled_87 := zo_172 (q := 88) zr_dX6_soled_85.2 rfl
noncomputable def dX6_soled_87 := zr_dX6_soled_87.1
theorem zs_dX6_sizes_0 : zsuf cX6_sizes 0 cX6_sizes.data.toList := rfl
noncomputable def zr_dX6_sizes_0 := zo_42 (q := 1) zs_dX6_sizes_0 rfl
noncomputable def dX6_sizes_0 := zr_dX6_sizes_0.1
noncomputable def zr_dX6_sizes_1 := zo_27 (q := 2) zr_dX6_sizes_0.2 rfl
noncomputable def dX6_sizes_1 := zr_dX6_sizes_1.1
noncomputable def zr_dX6_sizes_2 := zo_28 (q := 3) zr_dX6_sizes_1.2 rfl
noncomputable def dX6_sizes_2 := zr_dX6_sizes_2.1
noncomputable def zr_dX6_sizes_3 := zo_182 (k := 251)  (q := 6) zr_dX6_sizes_2.2 rfl rfl
noncomputable def dX6_sizes_3 := zr_dX6_sizes_3.1
noncomputable def zr_dX6_sizes_6 := zo_54 (k := 5)  (q := 8) zr_dX6_sizes_3.2 rfl rfl
noncomputable def dX6_sizes_6 := zr_dX6_sizes_6.1
noncomputable def zr_dX6_sizes_8 := zo_21 (k := 5)  (q := 10) zr_dX6_sizes_6.2 rfl rfl
noncomputable def dX6_sizes_8 := zr_dX6_sizes_8.1
noncomputable def zr_dX6_sizes_10 := zo_153 (k := 6)  (q := 13) zr_dX6_sizes_8.2 (by decide +kernel) rfl
noncomputable def dX6_sizes_10 := zr_dX6_sizes_10.1
noncomputable def zr_dX6_sizes_13 := zo_21 (k := 5)  (q := 15) zr_dX6_sizes_10.2 rfl rfl
noncomputable def dX6_sizes_13 := zr_dX6_sizes_13.1
noncomputable def zr_dX6_sizes_15 := zo_172 (q := 16) zr_dX6_sizes_13.2 rfl
noncomputable def dX6_sizes_15 := zr_dX6_sizes_15.1
noncomputable def zr_dX6_sizes_16 := zo_42 (q := 17) zr_dX6_sizes_15.2 rfl
noncomputable def dX6_sizes_16 := zr_dX6_sizes_16.1
noncomputable def zr_dX6_sizes_17 := zo_29 (q := 18) zr_dX6_sizes_16.2 rfl
noncomputable def dX6_sizes_17 := zr_dX6_sizes_17.1
noncomputable def zr_dX6_sizes_18 := zo_182 (k := 177)  (q := 21) zr_dX6_sizes_17.2 rfl rfl
noncomputable def dX6_sizes_18 := zr_dX6_sizes_18.1
noncomputable def zr_dX6_sizes_21 := zo_154 (k := 6)  (q := 24) zr_dX6_sizes_18.2 (by decide +kernel) rfl
noncomputable def dX6_sizes_21 := zr_dX6_sizes_21.1
noncomputable def zr_dX6_sizes_24 := zo_16 (k := -6)  (q := 26) zr_dX6_sizes_21.2 (by decide +kernel) rfl
noncomputable def dX6_sizes_24 := zr_dX6_sizes_24.1
noncomputable def zr_dX6_sizes_26 := zo_172 (q := 27) zr_dX6_sizes_24.2 rfl
noncomputable def dX6_sizes_26 := zr_dX6_sizes_26.1
noncomputable def zr_dX6_sizes_27 := zo_21 (k := 4)  (q := 29) zr_dX6_sizes_26.2 rfl rfl
noncomputable def dX6_sizes_27 := zr_dX6_sizes_27.1
noncomputable def zr_dX6_sizes_29 := zo_3 (q := 30) zr_dX6_sizes_27.2 rfl
noncomputable def dX6_sizes_29 := zr_dX6_sizes_29.1
noncomputable def zr_dX6_sizes_30 := zo_16 (k := 11)  (q := 32) zr_dX6_sizes_29.2 (by decide +kernel) rfl
noncomputable def dX6_sizes_30 := zr_dX6_sizes_30.1
noncomputable def zr_dX6_sizes_32 := zo_184 (k := 91)  (q := 35) zr_dX6_sizes_30.2 rfl rfl
noncomputable def dX6_sizes_32 := zr_dX6_sizes_32.1
noncomputable def zr_dX6_sizes_35 := zo_153 (k := 12)  (q := 38) zr_dX6_sizes_32.2 (by decide +kernel) rfl
noncomputable def dX6_sizes_35 := zr_dX6_sizes_35.1
noncomputable def zr_dX6_sizes_38 := zo_21 (k := 4)  (q := 40) zr_dX6_sizes_35.2 rfl rfl
noncomputable def dX6_sizes_38 := zr_dX6_sizes_38.1
noncomputable def zr_dX6_sizes_40 := zo_16 (k := 10)  (q := 42) zr_dX6_sizes_38.2 (by decide +kernel) rfl
noncomputable def dX6_sizes_40 := zr_dX6_sizes_40.1
noncomputable def zr_dX6_sizes_42 := zo_112 (q := 43) zr_dX6_sizes_40.2 rfl
noncomputable def dX6_sizes_42 := zr_dX6_sizes_42.1
noncomputable def zr_dX6_sizes_43 := zo_4 (q := 44) zr_dX6_sizes_42.2 rfl
noncomputable def dX6_sizes_43 := zr_dX6_sizes_43.1
noncomputable def zr_dX6_sizes_44 := zo_164 (k := 6)  (q := 47) zr_dX6_sizes_43.2 (by decide +kernel) rfl
noncomputable def dX6_sizes_44 := zr_dX6_sizes_44.1
noncomputable def zr_dX6_sizes_47 := zo_16 (k := -7)  (q := 49) zr_dX6_sizes_44.2 (by decide +kernel) rfl
noncomputable def dX6_sizes_47 := zr_dX6_sizes_47.1
noncomputable def zr_dX6_sizes_49 := zo_172 (q := 50) zr_dX6_sizes_47.2 rfl
noncomputable def dX6_sizes_49 := zr_dX6_sizes_49.1
noncomputable def zr_dX6_sizes_50 := zo_5 (q := 51) zr_dX6_sizes_49.2 rfl
noncomputable def dX6_sizes_50 := zr_dX6_sizes_50.1
noncomputable def zr_dX6_sizes_51 := zo_29 (q := 52) zr_dX6_sizes_50.2 rfl
noncomputable def dX6_sizes_51 := zr_dX6_sizes_51.1
noncomputable def zr_dX6_sizes_52 := zo_104 (q := 53) zr_dX6_sizes_51.2 rfl
noncomputable def dX6_sizes_52 := zr_dX6_sizes_52.1
noncomputable def zr_dX6_sizes_53 := zo_21 (k := 4)  (q := 55) zr_dX6_sizes_52.2 rfl rfl
noncomputable def dX6_sizes_53 := zr_dX6_sizes_53.1
noncomputable def zr_dX6_sizes_55 := zo_16 (k := 10)  (q := 57) zr_dX6_sizes_53.2 (by decide +kernel) rfl
noncomputable def dX6_sizes_55 := zr_dX6_sizes_55.1
noncomputable def zr_dX6_sizes_57 := zo_108 (q := 58) zr_dX6_sizes_55.2 rfl
noncomputable def dX6_sizes_57 := zr_dX6_sizes_57.1
noncomputable def zr_dX6_sizes_58 := zo_96 (q := 59) zr_dX6_sizes_57.2 rfl
noncomputable def dX6_sizes_58 := zr_dX6_sizes_58.1
noncomputable def zr_dX6_sizes_59 := zo_54 (k := 6)  (q := 61) zr_dX6_sizes_58.2 rfl rfl
noncomputable def dX6_sizes_59 := zr_dX6_sizes_59.1
noncomputable def zr_dX6_sizes_61 := zo_42 (q := 62) zr_dX6_sizes_59.2 rfl
noncomputable def dX6_sizes_61 := zr_dX6_sizes_61.1
noncomputable def zr_dX6_sizes_62 := zo_180 (k := 16)  (q := 65) zr_dX6_sizes_61.2 rfl rfl
noncomputable def dX6_sizes_62 := zr_dX6_sizes_62.1
noncomputable def zr_dX6_sizes_65 := zo_21 (k := 6)  (q := 67) zr_dX6_sizes_62.2 rfl rfl
noncomputable def dX6_sizes_65 := zr_dX6_sizes_65.1
noncomputable def zr_dX6_sizes_67 := zo_46 (q := 68) zr_dX6_sizes_65.2 rfl
noncomputable def dX6_sizes_67 := zr_dX6_sizes_67.1
noncomputable def zr_dX6_sizes_68 := zo_54 (k := 7)  (q := 70) zr_dX6_sizes_67.2 rfl rfl
noncomputable def dX6_sizes_68 := zr_dX6_sizes_68.1
noncomputable def zr_dX6_sizes_70 := zo_3 (q := 71) zr_dX6_sizes_68.2 rfl
noncomputable def dX6_sizes_70 := zr_dX6_sizes_70.1
noncomputable def zr_dX6_sizes_71 := zo_54 (k := 8)  (q := 73) zr_dX6_sizes_70.2 rfl rfl
noncomputable def dX6_sizes_71 := zr_dX6_sizes_71.1
noncomputable def zr_dX6_sizes_73 := zo_2 (q := 74) zr_dX6_sizes_71.2 rfl
noncomputable def dX6_sizes_73 := zr_dX6_sizes_73.1
noncomputable def zr_dX6_sizes_74 := zo_54 (k := 9)  (q := 76) zr_dX6_sizes_73.2 rfl rfl
noncomputable def dX6_sizes_74 := zr_dX6_sizes_74.1
noncomputable def zr_dX6_sizes_76 := zo_3 (q := 77) zr_dX6_sizes_74.2 rfl
noncomputable def dX6_sizes_76 := zr_dX6_sizes_76.1
noncomputable def zr_dX6_sizes_77 := zo_54 (k := 10)  (q := 79) zr_dX6_sizes_76.2 rfl rfl
noncomputable def dX6_sizes_77 := zr_dX6_sizes_77.1
noncomputable def zr_dX6_sizes_79 := zo_21 (k := 10)  (q := 81) zr_dX6_sizes_77.2 rfl rfl
noncomputable def dX6_sizes_79 := zr_dX6_sizes_79.1
noncomputable def zr_dX6_sizes_81 := zo_16 (k := 99)  (q := 83) zr_dX6_sizes_79.2 (by decide +kernel) rfl
noncomputable def dX6_sizes_81 := zr_dX6_sizes_81.1
noncomputable def zr_dX6_sizes_83 := zo_163 (k := 70)  (q := 86) zr_dX6_sizes_81.2 (by decide +kernel) rfl
noncomputable def dX6_sizes_83 := zr_dX6_sizes_83.1
noncomputable def zr_dX6_sizes_86 := zo_42 (q := 87) zr_dX6_sizes_83.2 rfl
noncomputable def dX6_sizes_86 := zr_dX6_sizes_86.1
noncomputable def zr_dX6_sizes_87 := zo_180 (k := 16)  (q := 90) zr_dX6_sizes_86.2 rfl rfl
noncomputable def dX6_sizes_87 := zr_dX6_sizes_87.1
noncomputable def zr_dX6_sizes_90 := zo_21 (k := 6)  (q := 92) zr_dX6_sizes_87.2 rfl rfl
noncomputable def dX6_sizes_90 := zr_dX6_sizes_90.1
noncomputable def zr_dX6_sizes_92 := zo_21 (k := 10)  (q := 94) zr_dX6_sizes_90.2 rfl rfl
noncomputable def dX6_sizes_92 := zr_dX6_sizes_92.1
noncomputable def zr_dX6_sizes_94 := zo_79 (q := 95) zr_dX6_sizes_92.2 rfl
noncomputable def dX6_sizes_94 := zr_dX6_sizes_94.1
noncomputable def zr_dX6_sizes_95 := zo_42 (q := 96) zr_dX6_sizes_94.2 rfl
noncomputable def dX6_sizes_95 := zr_dX6_sizes_95.1
noncomputable def zr_dX6_sizes_96 := zo_27 (q := 97) zr_dX6_sizes_95.2 rfl
noncomputable def dX6_sizes_96 := zr_dX6_sizes_96.1
noncomputable def zr_dX6_sizes_97 := zo_28 (q := 98) zr_dX6_sizes_96.2 rfl
noncomputable def dX6_sizes_97 := zr_dX6_sizes_97.1
noncomputable def zr_dX6_sizes_98 := zo_182 (k := 254)  (q := 101) zr_dX6_sizes_97.2 rfl rfl
noncomputable def dX6_sizes_98 := zr_dX6_sizes_98.1
noncomputable def zr_dX6_sizes_101 := zo_2 (q := 102) zr_dX6_sizes_98.2 rfl
noncomputable def dX6_sizes_101 := zr_dX6_sizes_101.1
noncomputable def zr_dX6_sizes_102 := zo_160 (k := 7)  (q := 105) zr_dX6_sizes_101.2 (by decide +kernel) rfl
noncomputable def dX6_sizes_102 := zr_dX6_sizes_102.1
noncomputable def zr_dX6_sizes_105 := zo_4 (q := 106) zr_dX6_sizes_102.2 rfl
noncomputable def dX6_sizes_105 := zr_dX6_sizes_105.1
noncomputable def zr_dX6_sizes_106 := zo_167 (k := 4)  (q := 109) zr_dX6_sizes_105.2 (by decide +kernel) rfl
noncomputable def dX6_sizes_106 := zr_dX6_sizes_106.1
noncomputable def zr_dX6_sizes_109 := zo_3 (q := 110) zr_dX6_sizes_106.2 rfl
noncomputable def dX6_sizes_109 := zr_dX6_sizes_109.1
noncomputable def zr_dX6_sizes_110 := zo_54 (k := 11)  (q := 112) zr_dX6_sizes_109.2 rfl rfl
noncomputable def dX6_sizes_110 := zr_dX6_sizes_110.1
noncomputable def zr_dX6_sizes_112 := zo_21 (k := 8)  (q := 114) zr_dX6_sizes_110.2 rfl rfl
noncomputable def dX6_sizes_112 := zr_dX6_sizes_112.1
noncomputable def zr_dX6_sizes_114 := zo_21 (k := 11)  (q := 116) zr_dX6_sizes_112.2 rfl rfl
noncomputable def dX6_sizes_114 := zr_dX6_sizes_114.1
noncomputable def zr_dX6_sizes_116 := zo_153 (k := 7)  (q := 119) zr_dX6_sizes_114.2 (by decide +kernel) rfl
noncomputable def dX6_sizes_116 := zr_dX6_sizes_116.1
noncomputable def zr_dX6_sizes_119 := zo_4 (q := 120) zr_dX6_sizes_116.2 rfl
noncomputable def dX6_sizes_119 := zr_dX6_sizes_119.1
noncomputable def zr_dX6_sizes_120 := zo_167 (k := 4)  (q := 123) zr_dX6_sizes_119.2 (by decide +kernel) rfl
noncomputable def dX6_sizes_120 := zr_dX6_sizes_120.1
noncomputable def zr_dX6_sizes_123 := zo_3 (q := 124) zr_dX6_sizes_120.2 rfl
noncomputable def dX6_sizes_123 := zr_dX6_sizes_123.1
noncomputable def zr_dX6_sizes_124 := zo_96 (q := 125) zr_dX6_sizes_123.2 rfl
noncomputable def dX6_sizes_124 := zr_dX6_sizes_124.1
noncomputable def zr_dX6_sizes_125 := zo_54 (k := 8)  (q := 127) zr_dX6_sizes_124.2 rfl rfl
noncomputable def dX6_sizes_125 := zr_dX6_sizes_125.1
noncomputable def zr_dX6_sizes_127 := zo_21 (k := 11)  (q := 129) zr_dX6_sizes_125.2 rfl rfl
noncomputable def dX6_sizes_127 := zr_dX6_sizes_127.1
noncomputable def zr_dX6_sizes_129 := zo_153 (k := 14)  (q := 132) zr_dX6_sizes_127.2 (by decide +kernel) rfl
noncomputable def dX6_sizes_129 := zr_dX6_sizes_129.1
noncomputable def zr_dX6_sizes_132 := zo_21 (k := 9)  (q := 134) zr_dX6_sizes_129.2 rfl rfl
noncomputable def dX6_sizes_132 := zr_dX6_sizes_132.1
noncomputable def zr_dX6_sizes_134 := zo_2 (q := 135) zr_dX6_sizes_132.2 rfl
noncomputable def dX6_sizes_134 := zr_dX6_sizes_134.1
noncomputable def zr_dX6_sizes_135 := zo_160 (k := 8)  (q := 138) zr_dX6_sizes_134.2 (by decide +kernel) rfl
noncomputable def dX6_sizes_135 := zr_dX6_sizes_135.1
noncomputable def zr_dX6_sizes_138 := zo_21 (k := 10)  (q := 140) zr_dX6_sizes_135.2 rfl rfl
noncomputable def dX6_sizes_138 := zr_dX6_sizes_138.1
noncomputable def zr_dX6_sizes_140 := zo_167 (k := 5)  (q := 143) zr_dX6_sizes_138.2 (by decide +kernel) rfl
noncomputable def dX6_sizes_140 := zr_dX6_sizes_140.1
noncomputable def zr_dX6_sizes_143 := zo_21 (k := 9)  (q := 145) zr_dX6_sizes_140.2 rfl rfl
noncomputable def dX6_sizes_143 := zr_dX6_sizes_143.1
noncomputable def zr_dX6_sizes_145 := zo_54 (k := 9)  (q := 147) zr_dX6_sizes_143.2 rfl rfl
noncomputable def dX6_sizes_145 := zr_dX6_sizes_145.1
noncomputable def zr_dX6_sizes_147 := zo_132 (k := 10) (o := 1)  (q := 150) zr_dX6_sizes_145.2 rfl (by decide +kernel) rfl
noncomputable def dX6_sizes_147 := zr_dX6_sizes_147.1
noncomputable def zr_dX6_sizes_150 := zo_167 (k := -71)  (q := 153) zr_dX6_sizes_147.2 (by decide +kernel) rfl
noncomputable def dX6_sizes_150 := zr_dX6_sizes_150.1
noncomputable def zr_dX6_sizes_153 := zo_42 (q := 154) zr_dX6_sizes_150.2 rfl
noncomputable def dX6_sizes_153 := zr_dX6_sizes_153.1
noncomputable def zr_dX6_sizes_154 := zo_180 (k := 16)  (q := 157) zr_dX6_sizes_153.2 rfl rfl
noncomputable def dX6_sizes_154 := zr_dX6_sizes_154.1
noncomputable def zr_dX6_sizes_157 := zo_21 (k := 6)  (q := 159) zr_dX6_sizes_154.2 rfl rfl
noncomputable def dX6_sizes_157 := zr_dX6_sizes_157.1
noncomputable def zr_dX6_sizes_159 := zo_21 (k := 7)  (q := 161) zr_dX6_sizes_157.2 rfl rfl
noncomputable def dX6_sizes_159 := zr_dX6_sizes_159.1
noncomputable def zr_dX6_sizes_161 := zo_79 (q := 162) zr_dX6_sizes_159.2 rfl
noncomputable def dX6_sizes_161 := zr_dX6_sizes_161.1
noncomputable def zr_dX6_sizes_162 := zo_21 (k := 4)  (q := 164) zr_dX6_sizes_161.2 rfl rfl
noncomputable def dX6_sizes_162 := zr_dX6_sizes_162.1
noncomputable def zr_dX6_sizes_164 := zo_16 (k := 10)  (q := 166) zr_dX6_sizes_162.2 (by decide +kernel) rfl
noncomputable def dX6_sizes_164 := zr_dX6_sizes_164.1
noncomputable def zr_dX6_sizes_166 := zo_112 (q := 167) zr_dX6_sizes_164.2 rfl
noncomputable def dX6_sizes_166 := zr_dX6_sizes_166.1
noncomputable def zr_dX6_sizes_167 := zo_154 (k := 8)  (q := 170) zr_dX6_sizes_166.2 (by decide +kernel) rfl
noncomputable def dX6_sizes_167 := zr_dX6_sizes_167.1
noncomputable def zr_dX6_sizes_170 := zo_21 (k := 8)  (q := 172) zr_dX6_sizes_167.2 rfl rfl
noncomputable def dX6_sizes_170 := zr_dX6_sizes_170.1
noncomputable def zr_dX6_sizes_172 := zo_167 (k := 5)  (q := 175) zr_dX6_sizes_170.2 (by decide +kernel) rfl
noncomputable def dX6_sizes_172 := zr_dX6_sizes_172.1
noncomputable def zr_dX6_sizes_175 := zo_21 (k := 9)  (q := 177) zr_dX6_sizes_172.2 rfl rfl
noncomputable def dX6_sizes_175 := zr_dX6_sizes_175.1
noncomputable def zr_dX6_sizes_177 := zo_172 (q := 178) zr_dX6_sizes_175.2 rfl
noncomputable def dX6_sizes_177 := zr_dX6_sizes_177.1
theorem zs_dX6_whose_0 : zsuf cX6_whose 0 cX6_whose.data.toList := rfl
noncomputable def zr_dX6_whose_0 := zo_42 (q := 1) zs_dX6_whose_0 rfl
noncomputable def dX6_whose_0 := zr_dX6_whose_0.1
noncomputable def zr_dX6_whose_1 := zo_27 (q := 2) zr_dX6_whose_0.2 rfl
noncomputable def dX6_whose_1 := zr_dX6_whose_1.1
noncomputable def zr_dX6_whose_2 := zo_182 (k := 248)  (q := 5) zr_dX6_whose_1.2 rfl rfl
noncomputable def dX6_whose_2 := zr_dX6_whose_2.1
noncomputable def zr_dX6_whose_5 := zo_61 (q := 6) zr_dX6_whose_2.2 rfl
noncomputable def dX6_whose_5 := zr_dX6_whose_5.1
noncomputable def zr_dX6_whose_6 := zo_28 (q := 7) zr_dX6_whose_5.2 rfl
noncomputable def dX6_whose_6 := zr_dX6_whose_6.1
noncomputable def zr_dX6_whose_7 := zo_153 (k := 5)  (q := 10) zr_dX6_whose_6.2 (by decide +kernel) rfl
noncomputable def dX6_whose_7 := zr_dX6_whose_7.1
noncomputable def zr_dX6_whose_10 := zo_28 (q := 11) zr_dX6_whose_7.2 rfl
noncomputable def dX6_whose_10 := zr_dX6_whose_10.1
noncomputable def zr_dX6_whose_11 := zo_172 (q := 12) zr_dX6_whose_10.2 rfl
noncomputable def dX6_whose_11 := zr_dX6_whose_11.1
noncomputable def zr_dX6_whose_12 := zo_3 (q := 13) zr_dX6_whose_11.2 rfl
noncomputable def dX6_whose_12 := zr_dX6_whose_12.1
noncomputable def zr_dX6_whose_13 := zo_62 (q := 14) zr_dX6_whose_12.2 rfl
noncomputable def dX6_whose_13 := zr_dX6_whose_13.1
noncomputable def zr_dX6_whose_14 := zo_3 (q := 15) zr_dX6_whose_13.2 rfl
noncomputable def dX6_whose_14 := zr_dX6_whose_14.1
noncomputable def zr_dX6_whose_15 := zo_54 (k := 4)  (q := 17) zr_dX6_whose_14.2 rfl rfl
noncomputable def dX6_whose_15 := zr_dX6_whose_15.1
noncomputable def zr_dX6_whose_17 := zo_21 (k := 4)  (q := 19) zr_dX6_whose_15.2 rfl rfl
noncomputable def dX6_whose_17 := zr_dX6_whose_17.1
noncomputable def zr_dX6_whose_19 := zo_42 (q := 20) zr_dX6_whose_17.2 rfl
noncomputable def dX6_whose_19 := zr_dX6_whose_19.1
noncomputable def zr_dX6_whose_20 := zo_180 (k := 95)  (q := 23) zr_dX6_whose_19.2 rfl rfl
noncomputable def dX6_whose_20 := zr_dX6_whose_20.1
noncomputable def zr_dX6_whose_23 := zo_162 (k := 31)  (q := 26) zr_dX6_whose_20.2 (by decide +kernel) rfl
noncomputable def dX6_whose_23 := zr_dX6_whose_23.1
noncomputable def zr_dX6_whose_26 := zo_29 (q := 27) zr_dX6_whose_23.2 rfl
noncomputable def dX6_whose_26 := zr_dX6_whose_26.1
noncomputable def zr_dX6_whose_27 := zo_42 (q := 28) zr_dX6_whose_26.2 rfl
noncomputable def dX6_whose_27 := zr_dX6_whose_27.1
noncomputable def zr_dX6_whose_28 := zo_27 (q := 29) zr_dX6_whose_27.2 rfl
noncomputable def dX6_whose_28 := zr_dX6_whose_28.1
noncomputable def zr_dX6_whose_29 := zo_21 (k := 4)  (q := 31) zr_dX6_whose_28.2 rfl rfl
noncomputable def dX6_whose_29 := zr_dX6_whose_29.1
noncomputable def zr_dX6_whose_31 := zo_182 (k := 254)  (q := 34) zr_dX6_whose_29.2 rfl rfl
noncomputable def dX6_whose_31 := zr_dX6_whose_31.1
noncomputable def zr_dX6_whose_34 := zo_2 (q := 35) zr_dX6_whose_31.2 rfl
noncomputable def dX6_whose_34 := zr_dX6_whose_34.1
noncomputable def zr_dX6_whose_35 := zo_160 (k := 10)  (q := 38) zr_dX6_whose_34.2 (by decide +kernel) rfl
noncomputable def dX6_whose_35 := zr_dX6_whose_35.1
noncomputable def zr_dX6_whose_38 := zo_4 (q := 39) zr_dX6_whose_35.2 rfl
noncomputable def dX6_whose_38 := zr_dX6_whose_38.1
noncomputable def zr_dX6_whose_39 := zo_21 (k := 4)  (q := 41) zr_dX6_whose_38.2 rfl rfl
noncomputable def dX6_whose_39 := zr_dX6_whose_39.1
noncomputable def zr_dX6_whose_41 := zo_120 (q := 42) zr_dX6_whose_39.2 rfl
noncomputable def dX6_whose_41 := zr_dX6_whose_41.1
noncomputable def zr_dX6_whose_42 := zo_167 (k := 4)  (q := 45) zr_dX6_whose_41.2 (by decide +kernel) rfl
noncomputable def dX6_whose_42 := zr_dX6_whose_42.1
noncomputable def zr_dX6_whose_45 := zo_3 (q := 46) zr_dX6_whose_42.2 rfl
noncomputable def dX6_whose_45 := zr_dX6_whose_45.1
noncomputable def zr_dX6_whose_46 := zo_128 (q := 47) zr_dX6_whose_45.2 rfl
noncomputable def dX6_whose_46 := zr_dX6_whose_46.1
noncomputable def zr_dX6_whose_47 := zo_62 (q := 48) zr_dX6_whose_46.2 rfl
noncomputable def dX6_whose_47 := zr_dX6_whose_47.1
noncomputable def zr_dX6_whose_48 := zo_132 (k := 4) (o := 1)  (q := 51) zr_dX6_whose_47.2 rfl (by decide +kernel) rfl
noncomputable def dX6_whose_48 := zr_dX6_whose_48.1
noncomputable def zr_dX6_whose_51 := zo_167 (k := -34)  (q := 54) zr_dX6_whose_48.2 (by decide +kernel) rfl
noncomputable def dX6_whose_51 := zr_dX6_whose_51.1
noncomputable def zr_dX6_whose_54 := zo_29 (q := 55) zr_dX6_whose_51.2 rfl
noncomputable def dX6_whose_54 := zr_dX6_whose_54.1
noncomputable def zr_dX6_whose_55 := zo_172 (q := 56) zr_dX6_whose_54.2 rfl
noncomputable def dX6_whose_55 := zr_dX6_whose_55.1
theorem zs_dX6_laws_0 : zsuf cX6_laws 0 cX6_laws.data.toList := rfl
noncomputable def zr_dX6_laws_0 := zo_42 (q := 1) zs_dX6_laws_0 rfl
noncomputable def dX6_laws_0 := zr_dX6_laws_0.1
noncomputable def zr_dX6_laws_1 := zo_27 (q := 2) zr_dX6_laws_0.2 rfl
noncomputable def dX6_laws_1 := zr_dX6_laws_1.1
noncomputable def zr_dX6_laws_2 := zo_28 (q := 3) zr_dX6_laws_1.2 rfl
noncomputable def dX6_laws_2 := zr_dX6_laws_2.1
noncomputable def zr_dX6_laws_3 := zo_182 (k := 251)  (q := 6) zr_dX6_laws_2.2 rfl rfl
noncomputable def dX6_laws_3 := zr_dX6_laws_3.1
noncomputable def zr_dX6_laws_6 := zo_62 (q := 7) zr_dX6_laws_3.2 rfl
noncomputable def dX6_laws_6 := zr_dX6_laws_6.1
noncomputable def zr_dX6_laws_7 := zo_29 (q := 8) zr_dX6_laws_6.2 rfl
noncomputable def dX6_laws_7 := zr_dX6_laws_7.1
noncomputable def zr_dX6_laws_8 := zo_153 (k := 5)  (q := 11) zr_dX6_laws_7.2 (by decide +kernel) rfl
noncomputable def dX6_laws_8 := zr_dX6_laws_8.1
noncomputable def zr_dX6_laws_11 := zo_29 (q := 12) zr_dX6_laws_8.2 rfl
noncomputable def dX6_laws_11 := zr_dX6_laws_11.1
noncomputable def zr_dX6_laws_12 := zo_172 (q := 13) zr_dX6_laws_11.2 rfl
noncomputable def dX6_laws_12 := zr_dX6_laws_12.1
noncomputable def zr_dX6_laws_13 := zo_42 (q := 14) zr_dX6_laws_12.2 rfl
noncomputable def dX6_laws_13 := zr_dX6_laws_13.1
noncomputable def zr_dX6_laws_14 := zo_180 (k := 101)  (q := 17) zr_dX6_laws_13.2 rfl rfl
noncomputable def dX6_laws_14 := zr_dX6_laws_14.1
noncomputable def zr_dX6_laws_17 := zo_54 (k := 4)  (q := 19) zr_dX6_laws_14.2 rfl rfl
noncomputable def dX6_laws_17 := zr_dX6_laws_17.1
noncomputable def zr_dX6_laws_19 := zo_3 (q := 20) zr_dX6_laws_17.2 rfl
noncomputable def dX6_laws_19 := zr_dX6_laws_19.1
noncomputable def zr_dX6_laws_20 := zo_54 (k := 5)  (q := 22) zr_dX6_laws_19.2 rfl rfl
noncomputable def dX6_laws_20 := zr_dX6_laws_20.1
noncomputable def zr_dX6_laws_22 := zo_3 (q := 23) zr_dX6_laws_20.2 rfl
noncomputable def dX6_laws_22 := zr_dX6_laws_22.1
noncomputable def zr_dX6_laws_23 := zo_54 (k := 6)  (q := 25) zr_dX6_laws_22.2 rfl rfl
noncomputable def dX6_laws_23 := zr_dX6_laws_23.1
noncomputable def zr_dX6_laws_25 := zo_21 (k := 6)  (q := 27) zr_dX6_laws_23.2 rfl rfl
noncomputable def dX6_laws_25 := zr_dX6_laws_25.1
noncomputable def zr_dX6_laws_27 := zo_42 (q := 28) zr_dX6_laws_25.2 rfl
noncomputable def dX6_laws_27 := zr_dX6_laws_27.1
noncomputable def zr_dX6_laws_28 := zo_180 (k := 98)  (q := 31) zr_dX6_laws_27.2 rfl rfl
noncomputable def dX6_laws_28 := zr_dX6_laws_28.1
noncomputable def zr_dX6_laws_31 := zo_162 (k := 38)  (q := 34) zr_dX6_laws_28.2 (by decide +kernel) rfl
noncomputable def dX6_laws_31 := zr_dX6_laws_31.1
noncomputable def zr_dX6_laws_34 := zo_42 (q := 35) zr_dX6_laws_31.2 rfl
noncomputable def dX6_laws_34 := zr_dX6_laws_34.1
noncomputable def zr_dX6_laws_35 := zo_21 (k := 6)  (q := 37) zr_dX6_laws_34.2 rfl rfl
noncomputable def dX6_laws_35 := zr_dX6_laws_35.1
noncomputable def zr_dX6_laws_37 := zo_181 (k := 101)  (q := 40) zr_dX6_laws_35.2 rfl rfl
noncomputable def dX6_laws_37 := zr_dX6_laws_37.1
noncomputable def zr_dX6_laws_40 := zo_21 (k := 5)  (q := 42) zr_dX6_laws_37.2 rfl rfl
noncomputable def dX6_laws_40 := zr_dX6_laws_40.1
noncomputable def zr_dX6_laws_42 := zo_42 (q := 43) zr_dX6_laws_40.2 rfl
noncomputable def dX6_laws_42 := zr_dX6_laws_42.1
noncomputable def zr_dX6_laws_43 := zo_27 (q := 44) zr_dX6_laws_42.2 rfl
noncomputable def dX6_laws_43 := zr_dX6_laws_43.1
noncomputable def zr_dX6_laws_44 := zo_28 (q := 45) zr_dX6_laws_43.2 rfl
noncomputable def dX6_laws_44 := zr_dX6_laws_44.1
noncomputable def zr_dX6_laws_45 := zo_182 (k := 254)  (q := 48) zr_dX6_laws_44.2 rfl rfl
noncomputable def dX6_laws_45 := zr_dX6_laws_45.1
noncomputable def zr_dX6_laws_48 := zo_2 (q := 49) zr_dX6_laws_45.2 rfl
noncomputable def dX6_laws_48 := zr_dX6_laws_48.1
noncomputable def zr_dX6_laws_49 := zo_160 (k := 10)  (q := 52) zr_dX6_laws_48.2 (by decide +kernel) rfl
noncomputable def dX6_laws_49 := zr_dX6_laws_49.1
noncomputable def zr_dX6_laws_52 := zo_4 (q := 53) zr_dX6_laws_49.2 rfl
noncomputable def dX6_laws_52 := zr_dX6_laws_52.1
noncomputable def zr_dX6_laws_53 := zo_21 (k := 6)  (q := 55) zr_dX6_laws_52.2 rfl rfl
noncomputable def dX6_laws_53 := zr_dX6_laws_53.1
noncomputable def zr_dX6_laws_55 := zo_120 (q := 56) zr_dX6_laws_53.2 rfl
noncomputable def dX6_laws_55 := zr_dX6_laws_55.1
noncomputable def zr_dX6_laws_56 := zo_167 (k := 4)  (q := 59) zr_dX6_laws_55.2 (by decide +kernel) rfl
noncomputable def dX6_laws_56 := zr_dX6_laws_56.1
noncomputable def zr_dX6_laws_59 := zo_3 (q := 60) zr_dX6_laws_56.2 rfl
noncomputable def dX6_laws_59 := zr_dX6_laws_59.1
noncomputable def zr_dX6_laws_60 := zo_128 (q := 61) zr_dX6_laws_59.2 rfl
noncomputable def dX6_laws_60 := zr_dX6_laws_60.1
noncomputable def zr_dX6_laws_61 := zo_54 (k := 5)  (q := 63) zr_dX6_laws_60.2 rfl rfl
noncomputable def dX6_laws_61 := zr_dX6_laws_61.1
noncomputable def zr_dX6_laws_63 := zo_132 (k := 6) (o := 1)  (q := 66) zr_dX6_laws_61.2 rfl (by decide +kernel) rfl
noncomputable def dX6_laws_63 := zr_dX6_laws_63.1
noncomputable def zr_dX6_laws_66 := zo_167 (k := -41)  (q := 69) zr_dX6_laws_63.2 (by decide +kernel) rfl
noncomputable def dX6_laws_66 := zr_dX6_laws_66.1
noncomputable def zr_dX6_laws_69 := zo_42 (q := 70) zr_dX6_laws_66.2 rfl
noncomputable def dX6_laws_69 := zr_dX6_laws_69.1
noncomputable def zr_dX6_laws_70 := zo_21 (k := 4)  (q := 72) zr_dX6_laws_69.2 rfl rfl
noncomputable def dX6_laws_70 := zr_dX6_laws_70.1
noncomputable def zr_dX6_laws_72 := zo_181 (k := 101)  (q := 75) zr_dX6_laws_70.2 rfl rfl
noncomputable def dX6_laws_72 := zr_dX6_laws_72.1
noncomputable def zr_dX6_laws_75 := zo_21 (k := 5)  (q := 77) zr_dX6_laws_72.2 rfl rfl
noncomputable def dX6_laws_75 := zr_dX6_laws_75.1
noncomputable def zr_dX6_laws_77 := zo_172 (q := 78) zr_dX6_laws_75.2 rfl
noncomputable def dX6_laws_77 := zr_dX6_laws_77.1
theorem zs_dX6_film_0 : zsuf cX6_film 0 cX6_film.data.toList := rfl
noncomputable def zr_dX6_film_0 := zo_27 (q := 1) zs_dX6_film_0 rfl
noncomputable def dX6_film_0 := zr_dX6_film_0.1
noncomputable def zr_dX6_film_1 := zo_3 (q := 2) zr_dX6_film_0.2 rfl
noncomputable def dX6_film_1 := zr_dX6_film_1.1
noncomputable def zr_dX6_film_2 := zo_6 (q := 3) zr_dX6_film_1.2 rfl
noncomputable def dX6_film_2 := zr_dX6_film_2.1
noncomputable def zr_dX6_film_3 := zo_184 (k := 91)  (q := 6) zr_dX6_film_2.2 rfl rfl
noncomputable def dX6_film_3 := zr_dX6_film_3.1
noncomputable def zr_dX6_film_6 := zo_154 (k := 6)  (q := 9) zr_dX6_film_3.2 (by decide +kernel) rfl
noncomputable def dX6_film_6 := zr_dX6_film_6.1
noncomputable def zr_dX6_film_9 := zo_16 (k := -2)  (q := 11) zr_dX6_film_6.2 (by decide +kernel) rfl
noncomputable def dX6_film_9 := zr_dX6_film_9.1
noncomputable def zr_dX6_film_11 := zo_172 (q := 12) zr_dX6_film_9.2 rfl
noncomputable def dX6_film_11 := zr_dX6_film_11.1
noncomputable def zr_dX6_film_12 := zo_42 (q := 13) zr_dX6_film_11.2 rfl
noncomputable def dX6_film_12 := zr_dX6_film_12.1
noncomputable def zr_dX6_film_13 := zo_28 (q := 14) zr_dX6_film_12.2 rfl
noncomputable def dX6_film_13 := zr_dX6_film_13.1
noncomputable def zr_dX6_film_14 := zo_182 (k := 104)  (q := 17) zr_dX6_film_13.2 rfl rfl
noncomputable def dX6_film_14 := zr_dX6_film_14.1
noncomputable def zr_dX6_film_17 := zo_154 (k := 6)  (q := 20) zr_dX6_film_14.2 (by decide +kernel) rfl
noncomputable def dX6_film_17 := zr_dX6_film_17.1
noncomputable def zr_dX6_film_20 := zo_16 (k := -5)  (q := 22) zr_dX6_film_17.2 (by decide +kernel) rfl
noncomputable def dX6_film_20 := zr_dX6_film_20.1
noncomputable def zr_dX6_film_22 := zo_172 (q := 23) zr_dX6_film_20.2 rfl
noncomputable def dX6_film_22 := zr_dX6_film_22.1
noncomputable def zr_dX6_film_23 := zo_29 (q := 24) zr_dX6_film_22.2 rfl
noncomputable def dX6_film_23 := zr_dX6_film_23.1
noncomputable def zr_dX6_film_24 := zo_184 (k := 196)  (q := 27) zr_dX6_film_23.2 rfl rfl
noncomputable def dX6_film_24 := zr_dX6_film_24.1
noncomputable def zr_dX6_film_27 := zo_154 (k := 6)  (q := 30) zr_dX6_film_24.2 (by decide +kernel) rfl
noncomputable def dX6_film_27 := zr_dX6_film_27.1
noncomputable def zr_dX6_film_30 := zo_16 (k := -7)  (q := 32) zr_dX6_film_27.2 (by decide +kernel) rfl
noncomputable def dX6_film_30 := zr_dX6_film_30.1
noncomputable def zr_dX6_film_32 := zo_172 (q := 33) zr_dX6_film_30.2 rfl
noncomputable def dX6_film_32 := zr_dX6_film_32.1
noncomputable def zr_dX6_film_33 := zo_3 (q := 34) zr_dX6_film_32.2 rfl
noncomputable def dX6_film_33 := zr_dX6_film_33.1
noncomputable def zr_dX6_film_34 := zo_54 (k := 4)  (q := 36) zr_dX6_film_33.2 rfl rfl
noncomputable def dX6_film_34 := zr_dX6_film_34.1
noncomputable def zr_dX6_film_36 := zo_21 (k := 4)  (q := 38) zr_dX6_film_34.2 rfl rfl
noncomputable def dX6_film_36 := zr_dX6_film_36.1
noncomputable def zr_dX6_film_38 := zo_16 (k := 40)  (q := 40) zr_dX6_film_36.2 (by decide +kernel) rfl
noncomputable def dX6_film_38 := zr_dX6_film_38.1
noncomputable def zr_dX6_film_40 := zo_162 (k := 22)  (q := 43) zr_dX6_film_38.2 (by decide +kernel) rfl
noncomputable def dX6_film_40 := zr_dX6_film_40.1
noncomputable def zr_dX6_film_43 := zo_42 (q := 44) zr_dX6_film_40.2 rfl
noncomputable def dX6_film_43 := zr_dX6_film_43.1
noncomputable def zr_dX6_film_44 := zo_180 (k := 43)  (q := 47) zr_dX6_film_43.2 rfl rfl
noncomputable def dX6_film_44 := zr_dX6_film_44.1
noncomputable def zr_dX6_film_47 := zo_16 (k := 40)  (q := 49) zr_dX6_film_44.2 (by decide +kernel) rfl
noncomputable def dX6_film_47 := zr_dX6_film_47.1
noncomputable def zr_dX6_film_49 := zo_27 (q := 50) zr_dX6_film_47.2 rfl
noncomputable def dX6_film_49 := zr_dX6_film_49.1
noncomputable def zr_dX6_film_50 := zo_104 (q := 51) zr_dX6_film_49.2 rfl
noncomputable def dX6_film_50 := zr_dX6_film_50.1
noncomputable def zr_dX6_film_51 := zo_21 (k := 4)  (q := 53) zr_dX6_film_50.2 rfl rfl
noncomputable def dX6_film_51 := zr_dX6_film_51.1
noncomputable def zr_dX6_film_53 := zo_96 (q := 54) zr_dX6_film_51.2 rfl
noncomputable def dX6_film_53 := zr_dX6_film_53.1
noncomputable def zr_dX6_film_54 := zo_3 (q := 55) zr_dX6_film_53.2 rfl
noncomputable def dX6_film_54 := zr_dX6_film_54.1
noncomputable def zr_dX6_film_55 := zo_79 (q := 56) zr_dX6_film_54.2 rfl
noncomputable def dX6_film_55 := zr_dX6_film_55.1
noncomputable def zr_dX6_film_56 := zo_132 (k := 4) (o := 1)  (q := 59) zr_dX6_film_55.2 rfl (by decide +kernel) rfl
noncomputable def dX6_film_56 := zr_dX6_film_56.1
noncomputable def zr_dX6_film_59 := zo_167 (k := -23)  (q := 62) zr_dX6_film_56.2 (by decide +kernel) rfl
noncomputable def dX6_film_59 := zr_dX6_film_59.1
noncomputable def zr_dX6_film_62 := zo_3 (q := 63) zr_dX6_film_59.2 rfl
noncomputable def dX6_film_62 := zr_dX6_film_62.1
noncomputable def zr_dX6_film_63 := zo_54 (k := 4)  (q := 65) zr_dX6_film_62.2 rfl rfl
noncomputable def dX6_film_63 := zr_dX6_film_63.1
noncomputable def zr_dX6_film_65 := zo_42 (q := 66) zr_dX6_film_63.2 rfl
noncomputable def dX6_film_65 := zr_dX6_film_65.1
noncomputable def zr_dX6_film_66 := zo_182 (k := 202)  (q := 69) zr_dX6_film_65.2 rfl rfl
noncomputable def dX6_film_66 := zr_dX6_film_66.1
noncomputable def zr_dX6_film_69 := zo_3 (q := 70) zr_dX6_film_66.2 rfl
noncomputable def dX6_film_69 := zr_dX6_film_69.1
noncomputable def zr_dX6_film_70 := zo_54 (k := 5)  (q := 72) zr_dX6_film_69.2 rfl rfl
noncomputable def dX6_film_70 := zr_dX6_film_70.1
noncomputable def zr_dX6_film_72 := zo_21 (k := 5)  (q := 74) zr_dX6_film_70.2 rfl rfl
noncomputable def dX6_film_72 := zr_dX6_film_72.1
noncomputable def zr_dX6_film_74 := zo_42 (q := 75) zr_dX6_film_72.2 rfl
noncomputable def dX6_film_74 := zr_dX6_film_74.1
noncomputable def zr_dX6_film_75 := zo_180 (k := 88)  (q := 78) zr_dX6_film_74.2 rfl rfl
noncomputable def dX6_film_75 := zr_dX6_film_75.1
noncomputable def zr_dX6_film_78 := zo_162 (k := 97)  (q := 81) zr_dX6_film_75.2 (by decide +kernel) rfl
noncomputable def dX6_film_78 := zr_dX6_film_78.1
noncomputable def zr_dX6_film_81 := zo_42 (q := 82) zr_dX6_film_78.2 rfl
noncomputable def dX6_film_81 := zr_dX6_film_81.1
noncomputable def zr_dX6_film_82 := zo_28 (q := 83) zr_dX6_film_81.2 rfl
noncomputable def dX6_film_82 := zr_dX6_film_82.1
noncomputable def zr_dX6_film_83 := zo_21 (k := 5)  (q := 85) zr_dX6_film_82.2 rfl rfl
noncomputable def dX6_film_83 := zr_dX6_film_83.1
noncomputable def zr_dX6_film_85 := zo_29 (q := 86) zr_dX6_film_83.2 rfl
noncomputable def dX6_film_85 := zr_dX6_film_85.1
noncomputable def zr_dX6_film_86 := zo_182 (k := 199)  (q := 89) zr_dX6_film_85.2 rfl rfl
noncomputable def dX6_film_86 := zr_dX6_film_86.1
noncomputable def zr_dX6_film_89 := zo_54 (k := 6)  (q := 91) zr_dX6_film_86.2 rfl rfl
noncomputable def dX6_film_89 := zr_dX6_film_89.1
noncomputable def zr_dX6_film_91 := zo_21 (k := 6)  (q := 93) zr_dX6_film_89.2 rfl rfl
noncomputable def dX6_film_91 := zr_dX6_film_91.1
noncomputable def zr_dX6_film_93 := zo_42 (q := 94) zr_dX6_film_91.2 rfl
noncomputable def dX6_film_93 := zr_dX6_film_93.1
noncomputable def zr_dX6_film_94 := zo_5 (q := 95) zr_dX6_film_93.2 rfl
noncomputable def dX6_film_94 := zr_dX6_film_94.1
noncomputable def zr_dX6_film_95 := zo_28 (q := 96) zr_dX6_film_94.2 rfl
noncomputable def dX6_film_95 := zr_dX6_film_95.1
noncomputable def zr_dX6_film_96 := zo_21 (k := 5)  (q := 98) zr_dX6_film_95.2 rfl rfl
noncomputable def dX6_film_96 := zr_dX6_film_96.1
noncomputable def zr_dX6_film_98 := zo_182 (k := 180)  (q := 101) zr_dX6_film_96.2 rfl rfl
noncomputable def dX6_film_98 := zr_dX6_film_98.1
noncomputable def zr_dX6_film_101 := zo_161 (k := 7)  (q := 104) zr_dX6_film_98.2 (by decide +kernel) rfl
noncomputable def dX6_film_101 := zr_dX6_film_101.1
noncomputable def zr_dX6_film_104 := zo_4 (q := 105) zr_dX6_film_101.2 rfl
noncomputable def dX6_film_104 := zr_dX6_film_104.1
noncomputable def zr_dX6_film_105 := zo_167 (k := 4)  (q := 108) zr_dX6_film_104.2 (by decide +kernel) rfl
noncomputable def dX6_film_105 := zr_dX6_film_105.1
noncomputable def zr_dX6_film_108 := zo_3 (q := 109) zr_dX6_film_105.2 rfl
noncomputable def dX6_film_108 := zr_dX6_film_108.1
noncomputable def zr_dX6_film_109 := zo_54 (k := 7)  (q := 111) zr_dX6_film_108.2 rfl rfl
noncomputable def dX6_film_109 := zr_dX6_film_109.1
noncomputable def zr_dX6_film_111 := zo_42 (q := 112) zr_dX6_film_109.2 rfl
noncomputable def dX6_film_111 := zr_dX6_film_111.1
noncomputable def zr_dX6_film_112 := zo_180 (k := 43)  (q := 115) zr_dX6_film_111.2 rfl rfl
noncomputable def dX6_film_112 := zr_dX6_film_112.1
noncomputable def zr_dX6_film_115 := zo_16 (k := 40)  (q := 117) zr_dX6_film_112.2 (by decide +kernel) rfl
noncomputable def dX6_film_115 := zr_dX6_film_115.1
noncomputable def zr_dX6_film_117 := zo_27 (q := 118) zr_dX6_film_115.2 rfl
noncomputable def dX6_film_117 := zr_dX6_film_117.1
noncomputable def zr_dX6_film_118 := zo_104 (q := 119) zr_dX6_film_117.2 rfl
noncomputable def dX6_film_118 := zr_dX6_film_118.1
noncomputable def zr_dX6_film_119 := zo_6 (q := 120) zr_dX6_film_118.2 rfl
noncomputable def dX6_film_119 := zr_dX6_film_119.1
noncomputable def zr_dX6_film_120 := zo_21 (k := 5)  (q := 122) zr_dX6_film_119.2 rfl rfl
noncomputable def dX6_film_120 := zr_dX6_film_120.1
noncomputable def zr_dX6_film_122 := zo_104 (q := 123) zr_dX6_film_120.2 rfl
noncomputable def dX6_film_122 := zr_dX6_film_122.1
noncomputable def zr_dX6_film_123 := zo_96 (q := 124) zr_dX6_film_122.2 rfl
noncomputable def dX6_film_123 := zr_dX6_film_123.1
noncomputable def zr_dX6_film_124 := zo_21 (k := 5)  (q := 126) zr_dX6_film_123.2 rfl rfl
noncomputable def dX6_film_124 := zr_dX6_film_124.1
noncomputable def zr_dX6_film_126 := zo_79 (q := 127) zr_dX6_film_124.2 rfl
noncomputable def dX6_film_126 := zr_dX6_film_126.1
noncomputable def zr_dX6_film_127 := zo_42 (q := 128) zr_dX6_film_126.2 rfl
noncomputable def dX6_film_127 := zr_dX6_film_127.1
noncomputable def zr_dX6_film_128 := zo_180 (k := 43)  (q := 131) zr_dX6_film_127.2 rfl rfl
noncomputable def dX6_film_128 := zr_dX6_film_128.1
noncomputable def zr_dX6_film_131 := zo_16 (k := 40)  (q := 133) zr_dX6_film_128.2 (by decide +kernel) rfl
noncomputable def dX6_film_131 := zr_dX6_film_131.1
noncomputable def zr_dX6_film_133 := zo_27 (q := 134) zr_dX6_film_131.2 rfl
noncomputable def dX6_film_133 := zr_dX6_film_133.1
noncomputable def zr_dX6_film_134 := zo_104 (q := 135) zr_dX6_film_133.2 rfl
noncomputable def dX6_film_134 := zr_dX6_film_134.1
noncomputable def zr_dX6_film_135 := zo_6 (q := 136) zr_dX6_film_134.2 rfl
noncomputable def dX6_film_135 := zr_dX6_film_135.1
noncomputable def zr_dX6_film_136 := zo_21 (k := 5)  (q := 138) zr_dX6_film_135.2 rfl rfl
noncomputable def dX6_film_136 := zr_dX6_film_136.1
noncomputable def zr_dX6_film_138 := zo_104 (q := 139) zr_dX6_film_136.2 rfl
noncomputable def dX6_film_138 := zr_dX6_film_138.1
noncomputable def zr_dX6_film_139 := zo_96 (q := 140) zr_dX6_film_138.2 rfl
noncomputable def dX6_film_139 := zr_dX6_film_139.1
noncomputable def zr_dX6_film_140 := zo_4 (q := 141) zr_dX6_film_139.2 rfl
noncomputable def dX6_film_140 := zr_dX6_film_140.1
noncomputable def zr_dX6_film_141 := zo_96 (q := 142) zr_dX6_film_140.2 rfl
noncomputable def dX6_film_141 := zr_dX6_film_141.1
noncomputable def zr_dX6_film_142 := zo_29 (q := 143) zr_dX6_film_141.2 rfl
noncomputable def dX6_film_142 := zr_dX6_film_142.1
noncomputable def zr_dX6_film_143 := zo_79 (q := 144) zr_dX6_film_142.2 rfl
noncomputable def dX6_film_143 := zr_dX6_film_143.1
noncomputable def zr_dX6_film_144 := zo_42 (q := 145) zr_dX6_film_143.2 rfl
noncomputable def dX6_film_144 := zr_dX6_film_144.1
noncomputable def zr_dX6_film_145 := zo_180 (k := 43)  (q := 148) zr_dX6_film_144.2 rfl rfl
noncomputable def dX6_film_145 := zr_dX6_film_145.1
noncomputable def zr_dX6_film_148 := zo_16 (k := 40)  (q := 150) zr_dX6_film_145.2 (by decide +kernel) rfl
noncomputable def dX6_film_148 := zr_dX6_film_148.1
noncomputable def zr_dX6_film_150 := zo_27 (q := 151) zr_dX6_film_148.2 rfl
noncomputable def dX6_film_150 := zr_dX6_film_150.1
noncomputable def zr_dX6_film_151 := zo_104 (q := 152) zr_dX6_film_150.2 rfl
noncomputable def dX6_film_151 := zr_dX6_film_151.1
noncomputable def zr_dX6_film_152 := zo_6 (q := 153) zr_dX6_film_151.2 rfl
noncomputable def dX6_film_152 := zr_dX6_film_152.1
noncomputable def zr_dX6_film_153 := zo_21 (k := 5)  (q := 155) zr_dX6_film_152.2 rfl rfl
noncomputable def dX6_film_153 := zr_dX6_film_153.1
noncomputable def zr_dX6_film_155 := zo_104 (q := 156) zr_dX6_film_153.2 rfl
noncomputable def dX6_film_155 := zr_dX6_film_155.1
noncomputable def zr_dX6_film_156 := zo_96 (q := 157) zr_dX6_film_155.2 rfl
noncomputable def dX6_film_156 := zr_dX6_film_156.1
noncomputable def zr_dX6_film_157 := zo_5 (q := 158) zr_dX6_film_156.2 rfl
noncomputable def dX6_film_157 := zr_dX6_film_157.1
noncomputable def zr_dX6_film_158 := zo_96 (q := 159) zr_dX6_film_157.2 rfl
noncomputable def dX6_film_158 := zr_dX6_film_158.1
noncomputable def zr_dX6_film_159 := zo_21 (k := 7)  (q := 161) zr_dX6_film_158.2 rfl rfl
noncomputable def dX6_film_159 := zr_dX6_film_159.1
noncomputable def zr_dX6_film_161 := zo_79 (q := 162) zr_dX6_film_159.2 rfl
noncomputable def dX6_film_161 := zr_dX6_film_161.1
noncomputable def zr_dX6_film_162 := zo_21 (k := 4)  (q := 164) zr_dX6_film_161.2 rfl rfl
noncomputable def dX6_film_162 := zr_dX6_film_162.1
noncomputable def zr_dX6_film_164 := zo_21 (k := 7)  (q := 166) zr_dX6_film_162.2 rfl rfl
noncomputable def dX6_film_164 := zr_dX6_film_164.1
noncomputable def zr_dX6_film_166 := zo_96 (q := 167) zr_dX6_film_164.2 rfl
noncomputable def dX6_film_166 := zr_dX6_film_166.1
noncomputable def zr_dX6_film_167 := zo_54 (k := 4)  (q := 169) zr_dX6_film_166.2 rfl rfl
noncomputable def dX6_film_167 := zr_dX6_film_167.1
noncomputable def zr_dX6_film_169 := zo_132 (k := 5) (o := 1)  (q := 172) zr_dX6_film_167.2 rfl (by decide +kernel) rfl
noncomputable def dX6_film_169 := zr_dX6_film_169.1
noncomputable def zr_dX6_film_172 := zo_167 (k := -100)  (q := 175) zr_dX6_film_169.2 (by decide +kernel) rfl
noncomputable def dX6_film_172 := zr_dX6_film_172.1
noncomputable def zr_dX6_film_175 := zo_42 (q := 176) zr_dX6_film_172.2 rfl
noncomputable def dX6_film_175 := zr_dX6_film_175.1
noncomputable def zr_dX6_film_176 := zo_182 (k := 218)  (q := 179) zr_dX6_film_175.2 rfl rfl
noncomputable def dX6_film_176 := zr_dX6_film_176.1
noncomputable def zr_dX6_film_179 := zo_42 (q := 180) zr_dX6_film_176.2 rfl
noncomputable def dX6_film_179 := zr_dX6_film_179.1
noncomputable def zr_dX6_film_180 := zo_180 (k := 37)  (q := 183) zr_dX6_film_179.2 rfl rfl
noncomputable def dX6_film_180 := zr_dX6_film_180.1
noncomputable def zr_dX6_film_183 := zo_27 (q := 184) zr_dX6_film_180.2 rfl
noncomputable def dX6_film_183 := zr_dX6_film_183.1
noncomputable def zr_dX6_film_184 := zo_3 (q := 185) zr_dX6_film_183.2 rfl
noncomputable def dX6_film_184 := zr_dX6_film_184.1
noncomputable def zr_dX6_film_185 := zo_79 (q := 186) zr_dX6_film_184.2 rfl
noncomputable def dX6_film_185 := zr_dX6_film_185.1
noncomputable def zr_dX6_film_186 := zo_42 (q := 187) zr_dX6_film_185.2 rfl
noncomputable def dX6_film_186 := zr_dX6_film_186.1
noncomputable def zr_dX6_film_187 := zo_180 (k := 40)  (q := 190) zr_dX6_film_186.2 rfl rfl
noncomputable def dX6_film_187 := zr_dX6_film_187.1
noncomputable def zr_dX6_film_190 := zo_27 (q := 191) zr_dX6_film_187.2 rfl
noncomputable def dX6_film_190 := zr_dX6_film_190.1
noncomputable def zr_dX6_film_191 := zo_6 (q := 192) zr_dX6_film_190.2 rfl
noncomputable def dX6_film_191 := zr_dX6_film_191.1
noncomputable def zr_dX6_film_192 := zo_42 (q := 193) zr_dX6_film_191.2 rfl
noncomputable def dX6_film_192 := zr_dX6_film_192.1
noncomputable def zr_dX6_film_193 := zo_180 (k := 88)  (q := 196) zr_dX6_film_192.2 rfl rfl
noncomputable def dX6_film_193 := zr_dX6_film_193.1
noncomputable def zr_dX6_film_196 := zo_104 (q := 197) zr_dX6_film_193.2 rfl
noncomputable def dX6_film_196 := zr_dX6_film_196.1
noncomputable def zr_dX6_film_197 := zo_79 (q := 198) zr_dX6_film_196.2 rfl
noncomputable def dX6_film_197 := zr_dX6_film_197.1
noncomputable def zr_dX6_film_198 := zo_21 (k := 4)  (q := 200) zr_dX6_film_197.2 rfl rfl
noncomputable def dX6_film_198 := zr_dX6_film_198.1
noncomputable def zr_dX6_film_200 := zo_172 (q := 201) zr_dX6_film_198.2 rfl
noncomputable def dX6_film_200 := zr_dX6_film_200.1
theorem zs_dX6_areMiles_0 : zsuf cX6_areMiles 0 cX6_areMiles.data.toList := rfl
noncomputable def zr_dX6_areMiles_0 := zo_26 (q := 1) zs_dX6_areMiles_0 rfl
noncomputable def dX6_areMiles_0 := zr_dX6_areMiles_0.1
noncomputable def zr_dX6_areMiles_1 := zo_3 (q := 2) zr_dX6_areMiles_0.2 rfl
noncomputable def dX6_areMiles_1 := zr_dX6_areMiles_1.1
noncomputable def zr_dX6_areMiles_2 := zo_17 (k := 960)  (q := 5) zr_dX6_areMiles_1.2 (by decide +kernel) rfl
noncomputable def dX6_areMiles_2 := zr_dX6_areMiles_2.1
noncomputable def zr_dX6_areMiles_5 := zo_184 (k := 91)  (q := 8) zr_dX6_areMiles_2.2 rfl rfl
noncomputable def dX6_areMiles_5 := zr_dX6_areMiles_5.1
noncomputable def zr_dX6_areMiles_8 := zo_153 (k := 16)  (q := 11) zr_dX6_areMiles_5.2 (by decide +kernel) rfl
noncomputable def dX6_areMiles_8 := zr_dX6_areMiles_8.1
noncomputable def zr_dX6_areMiles_11 := zo_26 (q := 12) zr_dX6_areMiles_8.2 rfl
noncomputable def dX6_areMiles_11 := zr_dX6_areMiles_11.1
noncomputable def zr_dX6_areMiles_12 := zo_16 (k := 100)  (q := 14) zr_dX6_areMiles_11.2 (by decide +kernel) rfl
noncomputable def dX6_areMiles_12 := zr_dX6_areMiles_12.1
noncomputable def zr_dX6_areMiles_14 := zo_112 (q := 15) zr_dX6_areMiles_12.2 rfl
noncomputable def dX6_areMiles_14 := zr_dX6_areMiles_14.1
noncomputable def zr_dX6_areMiles_15 := zo_16 (k := 60)  (q := 17) zr_dX6_areMiles_14.2 (by decide +kernel) rfl
noncomputable def dX6_areMiles_15 := zr_dX6_areMiles_15.1
noncomputable def zr_dX6_areMiles_17 := zo_163 (k := 7)  (q := 20) zr_dX6_areMiles_15.2 (by decide +kernel) rfl
noncomputable def dX6_areMiles_17 := zr_dX6_areMiles_17.1
noncomputable def zr_dX6_areMiles_20 := zo_4 (q := 21) zr_dX6_areMiles_17.2 rfl
noncomputable def dX6_areMiles_20 := zr_dX6_areMiles_20.1
noncomputable def zr_dX6_areMiles_21 := zo_167 (k := 4)  (q := 24) zr_dX6_areMiles_20.2 (by decide +kernel) rfl
noncomputable def dX6_areMiles_21 := zr_dX6_areMiles_21.1
noncomputable def zr_dX6_areMiles_24 := zo_3 (q := 25) zr_dX6_areMiles_21.2 rfl
noncomputable def dX6_areMiles_24 := zr_dX6_areMiles_24.1
noncomputable def zr_dX6_areMiles_25 := zo_172 (q := 26) zr_dX6_areMiles_24.2 rfl
noncomputable def dX6_areMiles_25 := zr_dX6_areMiles_25.1
theorem zs_dX6_caseBy_0 : zsuf cX6_caseBy 0 cX6_caseBy.data.toList := rfl
noncomputable def zr_dX6_caseBy_0 := zo_27 (q := 1) zs_dX6_caseBy_0 rfl
noncomputable def dX6_caseBy_0 := zr_dX6_caseBy_0.1
noncomputable def zr_dX6_caseBy_1 := zo_133 (q := 2) zr_dX6_caseBy_0.2 rfl
noncomputable def dX6_caseBy_1 := zr_dX6_caseBy_1.1
noncomputable def zr_dX6_caseBy_2 := zo_10 (q := 3) zr_dX6_caseBy_1.2 rfl
noncomputable def dX6_caseBy_2 := zr_dX6_caseBy_2.1
noncomputable def zr_dX6_caseBy_3 := zo_97 (q := 4) zr_dX6_caseBy_2.2 rfl
noncomputable def dX6_caseBy_3 := zr_dX6_caseBy_3.1
noncomputable def zr_dX6_caseBy_4 := zo_55 (k := 5)  (q := 6) zr_dX6_caseBy_3.2 rfl rfl
noncomputable def dX6_caseBy_4 := zr_dX6_caseBy_4.1
noncomputable def zr_dX6_caseBy_6 := zo_42 (q := 7) zr_dX6_caseBy_4.2 rfl
noncomputable def dX6_caseBy_6 := zr_dX6_caseBy_6.1
noncomputable def zr_dX6_caseBy_7 := zo_182 (k := 202)  (q := 10) zr_dX6_caseBy_6.2 rfl rfl
noncomputable def dX6_caseBy_7 := zr_dX6_caseBy_7.1
noncomputable def zr_dX6_caseBy_10 := zo_42 (q := 11) zr_dX6_caseBy_7.2 rfl
noncomputable def dX6_caseBy_10 := zr_dX6_caseBy_10.1
noncomputable def zr_dX6_caseBy_11 := zo_3 (q := 12) zr_dX6_caseBy_10.2 rfl
noncomputable def dX6_caseBy_11 := zr_dX6_caseBy_11.1
noncomputable def zr_dX6_caseBy_12 := zo_181 (k := 205)  (q := 15) zr_dX6_caseBy_11.2 rfl rfl
noncomputable def dX6_caseBy_12 := zr_dX6_caseBy_12.1
noncomputable def zr_dX6_caseBy_15 := zo_3 (q := 16) zr_dX6_caseBy_12.2 rfl
noncomputable def dX6_caseBy_15 := zr_dX6_caseBy_15.1
noncomputable def zr_dX6_caseBy_16 := zo_54 (k := 7)  (q := 18) zr_dX6_caseBy_15.2 rfl rfl
noncomputable def dX6_caseBy_16 := zr_dX6_caseBy_16.1
noncomputable def zr_dX6_caseBy_18 := zo_21 (k := 7)  (q := 20) zr_dX6_caseBy_16.2 rfl rfl
noncomputable def dX6_caseBy_18 := zr_dX6_caseBy_18.1
noncomputable def zr_dX6_caseBy_20 := zo_21 (k := 4)  (q := 22) zr_dX6_caseBy_18.2 rfl rfl
noncomputable def dX6_caseBy_20 := zr_dX6_caseBy_20.1
noncomputable def zr_dX6_caseBy_22 := zo_16 (k := 100)  (q := 24) zr_dX6_caseBy_20.2 (by decide +kernel) rfl
noncomputable def dX6_caseBy_22 := zr_dX6_caseBy_22.1
noncomputable def zr_dX6_caseBy_24 := zo_112 (q := 25) zr_dX6_caseBy_22.2 rfl
noncomputable def dX6_caseBy_24 := zr_dX6_caseBy_24.1
noncomputable def zr_dX6_caseBy_25 := zo_162 (k := 48)  (q := 28) zr_dX6_caseBy_24.2 (by decide +kernel) rfl
noncomputable def dX6_caseBy_25 := zr_dX6_caseBy_25.1
noncomputable def zr_dX6_caseBy_28 := zo_22 (k := 5)  (q := 30) zr_dX6_caseBy_25.2 rfl rfl
noncomputable def dX6_caseBy_28 := zr_dX6_caseBy_28.1
noncomputable def zr_dX6_caseBy_30 := zo_20 (k := 257)  (q := 33) zr_dX6_caseBy_28.2 rfl rfl
noncomputable def dX6_caseBy_30 := zr_dX6_caseBy_30.1
noncomputable def zr_dX6_caseBy_33 := zo_105 (q := 34) zr_dX6_caseBy_30.2 rfl
noncomputable def dX6_caseBy_33 := zr_dX6_caseBy_33.1
noncomputable def zr_dX6_caseBy_34 := zo_20 (k := 259)  (q := 37) zr_dX6_caseBy_33.2 rfl rfl
noncomputable def dX6_caseBy_34 := zr_dX6_caseBy_34.1
noncomputable def zr_dX6_caseBy_37 := zo_113 (q := 38) zr_dX6_caseBy_34.2 rfl
noncomputable def dX6_caseBy_37 := zr_dX6_caseBy_37.1
noncomputable def zr_dX6_caseBy_38 := zo_55 (k := 5)  (q := 40) zr_dX6_caseBy_37.2 rfl rfl
noncomputable def dX6_caseBy_38 := zr_dX6_caseBy_38.1
noncomputable def zr_dX6_caseBy_40 := zo_42 (q := 41) zr_dX6_caseBy_38.2 rfl
noncomputable def dX6_caseBy_40 := zr_dX6_caseBy_40.1
noncomputable def zr_dX6_caseBy_41 := zo_89 (q := 42) zr_dX6_caseBy_40.2 rfl
noncomputable def dX6_caseBy_41 := zr_dX6_caseBy_41.1
noncomputable def zr_dX6_caseBy_42 := zo_180 (k := 205)  (q := 45) zr_dX6_caseBy_41.2 rfl rfl
noncomputable def dX6_caseBy_42 := zr_dX6_caseBy_42.1
noncomputable def zr_dX6_caseBy_45 := zo_42 (q := 46) zr_dX6_caseBy_42.2 rfl
noncomputable def dX6_caseBy_45 := zr_dX6_caseBy_45.1
noncomputable def zr_dX6_caseBy_46 := zo_28 (q := 47) zr_dX6_caseBy_45.2 rfl
noncomputable def dX6_caseBy_46 := zr_dX6_caseBy_46.1
noncomputable def zr_dX6_caseBy_47 := zo_29 (q := 48) zr_dX6_caseBy_46.2 rfl
noncomputable def dX6_caseBy_47 := zr_dX6_caseBy_47.1
noncomputable def zr_dX6_caseBy_48 := zo_22 (k := 5)  (q := 50) zr_dX6_caseBy_47.2 rfl rfl
noncomputable def dX6_caseBy_48 := zr_dX6_caseBy_48.1
noncomputable def zr_dX6_caseBy_50 := zo_21 (k := 4)  (q := 52) zr_dX6_caseBy_48.2 rfl rfl
noncomputable def dX6_caseBy_50 := zr_dX6_caseBy_50.1
noncomputable def zr_dX6_caseBy_52 := zo_16 (k := 100)  (q := 54) zr_dX6_caseBy_50.2 (by decide +kernel) rfl
noncomputable def dX6_caseBy_52 := zr_dX6_caseBy_52.1
noncomputable def zr_dX6_caseBy_54 := zo_108 (q := 55) zr_dX6_caseBy_52.2 rfl
noncomputable def dX6_caseBy_54 := zr_dX6_caseBy_54.1
noncomputable def zr_dX6_caseBy_55 := zo_4 (q := 56) zr_dX6_caseBy_54.2 rfl
noncomputable def dX6_caseBy_55 := zr_dX6_caseBy_55.1
noncomputable def zr_dX6_caseBy_56 := zo_96 (q := 57) zr_dX6_caseBy_55.2 rfl
noncomputable def dX6_caseBy_56 := zr_dX6_caseBy_56.1
noncomputable def zr_dX6_caseBy_57 := zo_133 (q := 58) zr_dX6_caseBy_56.2 rfl
noncomputable def dX6_caseBy_57 := zr_dX6_caseBy_57.1
noncomputable def zr_dX6_caseBy_58 := zo_113 (q := 59) zr_dX6_caseBy_57.2 rfl
noncomputable def dX6_caseBy_58 := zr_dX6_caseBy_58.1
noncomputable def zr_dX6_caseBy_59 := zo_136 (q := 60) zr_dX6_caseBy_58.2 rfl
noncomputable def dX6_caseBy_59 := zr_dX6_caseBy_59.1
noncomputable def zr_dX6_caseBy_60 := zo_182 (k := 193)  (q := 63) zr_dX6_caseBy_59.2 rfl rfl
noncomputable def dX6_caseBy_60 := zr_dX6_caseBy_60.1
noncomputable def zr_dX6_caseBy_63 := zo_96 (q := 64) zr_dX6_caseBy_60.2 rfl
noncomputable def dX6_caseBy_63 := zr_dX6_caseBy_63.1
noncomputable def zr_dX6_caseBy_64 := zo_181 (k := 205)  (q := 67) zr_dX6_caseBy_63.2 rfl rfl
noncomputable def dX6_caseBy_64 := zr_dX6_caseBy_64.1
noncomputable def zr_dX6_caseBy_67 := zo_132 (k := 7) (o := 1)  (q := 70) zr_dX6_caseBy_64.2 rfl (by decide +kernel) rfl
noncomputable def dX6_caseBy_67 := zr_dX6_caseBy_67.1
noncomputable def zr_dX6_caseBy_70 := zo_167 (k := -52)  (q := 73) zr_dX6_caseBy_67.2 (by decide +kernel) rfl
noncomputable def dX6_caseBy_70 := zr_dX6_caseBy_70.1
noncomputable def zr_dX6_caseBy_73 := zo_42 (q := 74) zr_dX6_caseBy_70.2 rfl
noncomputable def dX6_caseBy_73 := zr_dX6_caseBy_73.1
noncomputable def zr_dX6_caseBy_74 := zo_42 (q := 75) zr_dX6_caseBy_73.2 rfl
noncomputable def dX6_caseBy_74 := zr_dX6_caseBy_74.1
noncomputable def zr_dX6_caseBy_75 := zo_180 (k := 16)  (q := 78) zr_dX6_caseBy_74.2 rfl rfl
noncomputable def dX6_caseBy_75 := zr_dX6_caseBy_75.1
noncomputable def zr_dX6_caseBy_78 := zo_5 (q := 79) zr_dX6_caseBy_75.2 rfl
noncomputable def dX6_caseBy_78 := zr_dX6_caseBy_78.1
noncomputable def zr_dX6_caseBy_79 := zo_29 (q := 80) zr_dX6_caseBy_78.2 rfl
noncomputable def dX6_caseBy_79 := zr_dX6_caseBy_79.1
noncomputable def zr_dX6_caseBy_80 := zo_104 (q := 81) zr_dX6_caseBy_79.2 rfl
noncomputable def dX6_caseBy_80 := zr_dX6_caseBy_80.1
noncomputable def zr_dX6_caseBy_81 := zo_46 (q := 82) zr_dX6_caseBy_80.2 rfl
noncomputable def dX6_caseBy_81 := zr_dX6_caseBy_81.1
noncomputable def zr_dX6_caseBy_82 := zo_181 (k := 208)  (q := 85) zr_dX6_caseBy_81.2 rfl rfl
noncomputable def dX6_caseBy_82 := zr_dX6_caseBy_82.1
noncomputable def zr_dX6_caseBy_85 := zo_42 (q := 86) zr_dX6_caseBy_82.2 rfl
noncomputable def dX6_caseBy_85 := zr_dX6_caseBy_85.1
noncomputable def zr_dX6_caseBy_86 := zo_42 (q := 87) zr_dX6_caseBy_85.2 rfl
noncomputable def dX6_caseBy_86 := zr_dX6_caseBy_86.1
noncomputable def zr_dX6_caseBy_87 := zo_180 (k := 205)  (q := 90) zr_dX6_caseBy_86.2 rfl rfl
noncomputable def dX6_caseBy_87 := zr_dX6_caseBy_87.1
noncomputable def zr_dX6_caseBy_90 := zo_42 (q := 91) zr_dX6_caseBy_87.2 rfl
noncomputable def dX6_caseBy_90 := zr_dX6_caseBy_90.1
noncomputable def zr_dX6_caseBy_91 := zo_5 (q := 92) zr_dX6_caseBy_90.2 rfl
noncomputable def dX6_caseBy_91 := zr_dX6_caseBy_91.1
noncomputable def zr_dX6_caseBy_92 := zo_28 (q := 93) zr_dX6_caseBy_91.2 rfl
noncomputable def dX6_caseBy_92 := zr_dX6_caseBy_92.1
noncomputable def zr_dX6_caseBy_93 := zo_29 (q := 94) zr_dX6_caseBy_92.2 rfl
noncomputable def dX6_caseBy_93 := zr_dX6_caseBy_93.1
noncomputable def zr_dX6_caseBy_94 := zo_182 (k := 180)  (q := 97) zr_dX6_caseBy_93.2 rfl rfl
noncomputable def dX6_caseBy_94 := zr_dX6_caseBy_94.1
noncomputable def zr_dX6_caseBy_97 := zo_161 (k := 7)  (q := 100) zr_dX6_caseBy_94.2 (by decide +kernel) rfl
noncomputable def dX6_caseBy_97 := zr_dX6_caseBy_97.1
noncomputable def zr_dX6_caseBy_100 := zo_4 (q := 101) zr_dX6_caseBy_97.2 rfl
noncomputable def dX6_caseBy_100 := zr_dX6_caseBy_100.1
noncomputable def zr_dX6_caseBy_101 := zo_167 (k := 4)  (q := 104) zr_dX6_caseBy_100.2 (by decide +kernel) rfl
noncomputable def dX6_caseBy_101 := zr_dX6_caseBy_101.1
noncomputable def zr_dX6_caseBy_104 := zo_3 (q := 105) zr_dX6_caseBy_101.2 rfl
noncomputable def dX6_caseBy_104 := zr_dX6_caseBy_104.1
noncomputable def zr_dX6_caseBy_105 := zo_181 (k := 214)  (q := 108) zr_dX6_caseBy_104.2 rfl rfl
noncomputable def dX6_caseBy_105 := zr_dX6_caseBy_105.1
noncomputable def zr_dX6_caseBy_108 := zo_42 (q := 109) zr_dX6_caseBy_105.2 rfl
noncomputable def dX6_caseBy_108 := zr_dX6_caseBy_108.1
noncomputable def zr_dX6_caseBy_109 := zo_182 (k := 218)  (q := 112) zr_dX6_caseBy_108.2 rfl rfl
noncomputable def dX6_caseBy_109 := zr_dX6_caseBy_109.1
noncomputable def zr_dX6_caseBy_112 := zo_177 (q := 113) zr_dX6_caseBy_109.2 rfl
noncomputable def dX6_caseBy_112 := zr_dX6_caseBy_112.1
theorem zs_dX6_drawn_0 : zsuf cX6_drawn 0 cX6_drawn.data.toList := rfl
noncomputable def zr_dX6_drawn_0 := zo_42 (q := 1) zs_dX6_drawn_0 rfl
noncomputable def dX6_drawn_0 := zr_dX6_drawn_0.1
noncomputable def zr_dX6_drawn_1 := zo_28 (q := 2) zr_dX6_drawn_0.2 rfl
noncomputable def dX6_drawn_1 := zr_dX6_drawn_1.1
noncomputable def zr_dX6_drawn_2 := zo_182 (k := 104)  (q := 5) zr_dX6_drawn_1.2 rfl rfl
noncomputable def dX6_drawn_2 := zr_dX6_drawn_2.1
noncomputable def zr_dX6_drawn_5 := zo_153 (k := 11)  (q := 8) zr_dX6_drawn_2.2 (by decide +kernel) rfl
noncomputable def dX6_drawn_5 := zr_dX6_drawn_5.1
noncomputable def zr_dX6_drawn_8 := zo_42 (q := 9) zr_dX6_drawn_5.2 rfl
noncomputable def dX6_drawn_8 := zr_dX6_drawn_8.1
noncomputable def zr_dX6_drawn_9 := zo_29 (q := 10) zr_dX6_drawn_8.2 rfl
noncomputable def dX6_drawn_9 := zr_dX6_drawn_9.1
noncomputable def zr_dX6_drawn_10 := zo_182 (k := 177)  (q := 13) zr_dX6_drawn_9.2 rfl rfl
noncomputable def dX6_drawn_10 := zr_dX6_drawn_10.1
noncomputable def zr_dX6_drawn_13 := zo_154 (k := 6)  (q := 16) zr_dX6_drawn_10.2 (by decide +kernel) rfl
noncomputable def dX6_drawn_13 := zr_dX6_drawn_13.1
noncomputable def zr_dX6_drawn_16 := zo_16 (k := -5)  (q := 18) zr_dX6_drawn_13.2 (by decide +kernel) rfl
noncomputable def dX6_drawn_16 := zr_dX6_drawn_16.1
noncomputable def zr_dX6_drawn_18 := zo_172 (q := 19) zr_dX6_drawn_16.2 rfl
noncomputable def dX6_drawn_18 := zr_dX6_drawn_18.1
noncomputable def zr_dX6_drawn_19 := zo_27 (q := 20) zr_dX6_drawn_18.2 rfl
noncomputable def dX6_drawn_19 := zr_dX6_drawn_19.1
noncomputable def zr_dX6_drawn_20 := zo_3 (q := 21) zr_dX6_drawn_19.2 rfl
noncomputable def dX6_drawn_20 := zr_dX6_drawn_20.1
noncomputable def zr_dX6_drawn_21 := zo_18 (k := 192)  (q := 23) zr_dX6_drawn_20.2 rfl rfl
noncomputable def dX6_drawn_21 := zr_dX6_drawn_21.1
noncomputable def zr_dX6_drawn_23 := zo_184 (k := 91)  (q := 26) zr_dX6_drawn_21.2 rfl rfl
noncomputable def dX6_drawn_23 := zr_dX6_drawn_23.1
noncomputable def zr_dX6_drawn_26 := zo_153 (k := 21)  (q := 29) zr_dX6_drawn_23.2 (by decide +kernel) rfl
noncomputable def dX6_drawn_26 := zr_dX6_drawn_26.1
noncomputable def zr_dX6_drawn_29 := zo_21 (k := 4)  (q := 31) zr_dX6_drawn_26.2 rfl rfl
noncomputable def dX6_drawn_29 := zr_dX6_drawn_29.1
noncomputable def zr_dX6_drawn_31 := zo_184 (k := 261)  (q := 34) zr_dX6_drawn_29.2 rfl rfl
noncomputable def dX6_drawn_31 := zr_dX6_drawn_31.1
noncomputable def zr_dX6_drawn_34 := zo_153 (k := 13)  (q := 37) zr_dX6_drawn_31.2 (by decide +kernel) rfl
noncomputable def dX6_drawn_34 := zr_dX6_drawn_34.1
noncomputable def zr_dX6_drawn_37 := zo_21 (k := 5)  (q := 39) zr_dX6_drawn_34.2 rfl rfl
noncomputable def dX6_drawn_37 := zr_dX6_drawn_37.1
noncomputable def zr_dX6_drawn_39 := zo_3 (q := 40) zr_dX6_drawn_37.2 rfl
noncomputable def dX6_drawn_39 := zr_dX6_drawn_39.1
noncomputable def zr_dX6_drawn_40 := zo_5 (q := 41) zr_dX6_drawn_39.2 rfl
noncomputable def dX6_drawn_40 := zr_dX6_drawn_40.1
noncomputable def zr_dX6_drawn_41 := zo_184 (k := 91)  (q := 44) zr_dX6_drawn_40.2 rfl rfl
noncomputable def dX6_drawn_41 := zr_dX6_drawn_41.1
noncomputable def zr_dX6_drawn_44 := zo_154 (k := 6)  (q := 47) zr_dX6_drawn_41.2 (by decide +kernel) rfl
noncomputable def dX6_drawn_44 := zr_dX6_drawn_44.1
noncomputable def zr_dX6_drawn_47 := zo_16 (k := -7)  (q := 49) zr_dX6_drawn_44.2 (by decide +kernel) rfl
noncomputable def dX6_drawn_47 := zr_dX6_drawn_47.1
noncomputable def zr_dX6_drawn_49 := zo_172 (q := 50) zr_dX6_drawn_47.2 rfl
noncomputable def dX6_drawn_49 := zr_dX6_drawn_49.1
noncomputable def zr_dX6_drawn_50 := zo_42 (q := 51) zr_dX6_drawn_49.2 rfl
noncomputable def dX6_drawn_50 := zr_dX6_drawn_50.1
noncomputable def zr_dX6_drawn_51 := zo_27 (q := 52) zr_dX6_drawn_50.2 rfl
noncomputable def dX6_drawn_51 := zr_dX6_drawn_51.1
noncomputable def zr_dX6_drawn_52 := zo_28 (q := 53) zr_dX6_drawn_51.2 rfl
noncomputable def dX6_drawn_52 := zr_dX6_drawn_52.1
noncomputable def zr_dX6_drawn_53 := zo_29 (q := 54) zr_dX6_drawn_52.2 rfl
noncomputable def dX6_drawn_53 := zr_dX6_drawn_53.1
noncomputable def zr_dX6_drawn_54 := zo_21 (k := 4)  (q := 56) zr_dX6_drawn_53.2 rfl rfl
noncomputable def dX6_drawn_54 := zr_dX6_drawn_54.1
noncomputable def zr_dX6_drawn_56 := zo_182 (k := 264)  (q := 59) zr_dX6_drawn_54.2 rfl rfl
noncomputable def dX6_drawn_56 := zr_dX6_drawn_56.1
noncomputable def zr_dX6_drawn_59 := zo_42 (q := 60) zr_dX6_drawn_56.2 rfl
noncomputable def dX6_drawn_59 := zr_dX6_drawn_59.1
noncomputable def zr_dX6_drawn_60 := zo_21 (k := 5)  (q := 62) zr_dX6_drawn_59.2 rfl rfl
noncomputable def dX6_drawn_60 := zr_dX6_drawn_60.1
noncomputable def zr_dX6_drawn_62 := zo_182 (k := 225)  (q := 65) zr_dX6_drawn_60.2 rfl rfl
noncomputable def dX6_drawn_62 := zr_dX6_drawn_62.1
noncomputable def zr_dX6_drawn_65 := zo_172 (q := 66) zr_dX6_drawn_62.2 rfl
noncomputable def dX6_drawn_65 := zr_dX6_drawn_65.1
theorem zs_dX6_lowest_0 : zsuf cX6_lowest 0 cX6_lowest.data.toList := rfl
noncomputable def zr_dX6_lowest_0 := zo_30 (q := 1) zs_dX6_lowest_0 rfl
noncomputable def dX6_lowest_0 := zr_dX6_lowest_0.1
noncomputable def zr_dX6_lowest_1 := zo_9 (q := 2) zr_dX6_lowest_0.2 rfl
noncomputable def dX6_lowest_1 := zr_dX6_lowest_1.1
noncomputable def zr_dX6_lowest_2 := zo_148 (q := 3) zr_dX6_lowest_1.2 rfl
noncomputable def dX6_lowest_2 := zr_dX6_lowest_2.1
noncomputable def zr_dX6_lowest_3 := zo_154 (k := 7)  (q := 6) zr_dX6_lowest_2.2 (by decide +kernel) rfl
noncomputable def dX6_lowest_3 := zr_dX6_lowest_3.1
noncomputable def zr_dX6_lowest_6 := zo_21 (k := 4)  (q := 8) zr_dX6_lowest_3.2 rfl rfl
noncomputable def dX6_lowest_6 := zr_dX6_lowest_6.1
noncomputable def zr_dX6_lowest_8 := zo_133 (q := 9) zr_dX6_lowest_6.2 rfl
noncomputable def dX6_lowest_8 := zr_dX6_lowest_8.1
noncomputable def zr_dX6_lowest_9 := zo_173 (q := 10) zr_dX6_lowest_8.2 rfl
noncomputable def dX6_lowest_9 := zr_dX6_lowest_9.1
noncomputable def zr_dX6_lowest_10 := zo_30 (q := 11) zr_dX6_lowest_9.2 rfl
noncomputable def dX6_lowest_10 := zr_dX6_lowest_10.1
noncomputable def zr_dX6_lowest_11 := zo_55 (k := 5)  (q := 13) zr_dX6_lowest_10.2 rfl rfl
noncomputable def dX6_lowest_11 := zr_dX6_lowest_11.1
theorem zo_32 {c : ByteArray} {p q : Nat} {L : List UInt8} (h : zsuf c p (32 :: L)) (hq : p + 1 = q) : zD c p (.lload_n 2) 1 ∧ zsuf c q L := zfin hq (Eq.trans (zbd (zu1 (v := 32) h rfl)) rfl) (zsuf_tl h)
noncomputable def zr_dX6_lowest_13 := zo_32 (q := 14) zr_dX6_lowest_11.2 rfl
noncomputable def dX6_lowest_13 := zr_dX6_lowest_13.1
noncomputable def zr_dX6_lowest_14 := zo_55 (k := 7)  (q := 16) zr_dX6_lowest_13.2 rfl rfl
noncomputable def dX6_lowest_14 := zr_dX6_lowest_14.1
noncomputable def zr_dX6_lowest_16 := zo_22 (k := 7)  (q := 18) zr_dX6_lowest_14.2 rfl rfl
noncomputable def dX6_lowest_16 := zr_dX6_lowest_16.1
noncomputable def zr_dX6_lowest_18 := zo_9 (q := 19) zr_dX6_lowest_16.2 rfl
noncomputable def dX6_lowest_18 := zr_dX6_lowest_18.1
noncomputable def zr_dX6_lowest_19 := zo_148 (q := 20) zr_dX6_lowest_18.2 rfl
noncomputable def dX6_lowest_19 := zr_dX6_lowest_19.1
noncomputable def zr_dX6_lowest_20 := zo_153 (k := 21)  (q := 23) zr_dX6_lowest_19.2 (by decide +kernel) rfl
noncomputable def dX6_lowest_20 := zr_dX6_lowest_20.1
noncomputable def zr_dX6_lowest_23 := zo_22 (k := 5)  (q := 25) zr_dX6_lowest_20.2 rfl rfl
noncomputable def dX6_lowest_23 := zr_dX6_lowest_23.1
noncomputable def zr_dX6_lowest_25 := zo_22 (k := 7)  (q := 27) zr_dX6_lowest_23.2 rfl rfl
noncomputable def dX6_lowest_25 := zr_dX6_lowest_25.1
noncomputable def zr_dX6_lowest_27 := zo_113 (q := 28) zr_dX6_lowest_25.2 rfl
noncomputable def dX6_lowest_27 := zr_dX6_lowest_27.1
noncomputable def zr_dX6_lowest_28 := zo_55 (k := 9)  (q := 30) zr_dX6_lowest_27.2 rfl rfl
noncomputable def dX6_lowest_28 := zr_dX6_lowest_28.1
noncomputable def zr_dX6_lowest_30 := zo_22 (k := 7)  (q := 32) zr_dX6_lowest_28.2 rfl rfl
noncomputable def dX6_lowest_30 := zr_dX6_lowest_30.1
noncomputable def zr_dX6_lowest_32 := zo_55 (k := 5)  (q := 34) zr_dX6_lowest_30.2 rfl rfl
noncomputable def dX6_lowest_32 := zr_dX6_lowest_32.1
noncomputable def zr_dX6_lowest_34 := zo_22 (k := 9)  (q := 36) zr_dX6_lowest_32.2 rfl rfl
noncomputable def dX6_lowest_34 := zr_dX6_lowest_34.1
noncomputable def zr_dX6_lowest_36 := zo_55 (k := 7)  (q := 38) zr_dX6_lowest_34.2 rfl rfl
noncomputable def dX6_lowest_36 := zr_dX6_lowest_36.1
noncomputable def zr_dX6_lowest_38 := zo_167 (k := -22)  (q := 41) zr_dX6_lowest_36.2 (by decide +kernel) rfl
noncomputable def dX6_lowest_38 := zr_dX6_lowest_38.1
noncomputable def zr_dX6_lowest_41 := zo_21 (k := 4)  (q := 43) zr_dX6_lowest_38.2 rfl rfl
noncomputable def dX6_lowest_41 := zr_dX6_lowest_41.1
noncomputable def zr_dX6_lowest_43 := zo_154 (k := 7)  (q := 46) zr_dX6_lowest_41.2 (by decide +kernel) rfl
noncomputable def dX6_lowest_43 := zr_dX6_lowest_43.1
noncomputable def zr_dX6_lowest_46 := zo_30 (q := 47) zr_dX6_lowest_43.2 rfl
noncomputable def dX6_lowest_46 := zr_dX6_lowest_46.1
noncomputable def zr_dX6_lowest_47 := zo_167 (k := 4)  (q := 50) zr_dX6_lowest_46.2 (by decide +kernel) rfl
noncomputable def dX6_lowest_47 := zr_dX6_lowest_47.1
noncomputable def zr_dX6_lowest_50 := zo_32 (q := 51) zr_dX6_lowest_47.2 rfl
noncomputable def dX6_lowest_50 := zr_dX6_lowest_50.1
noncomputable def zr_dX6_lowest_51 := zo_22 (k := 5)  (q := 53) zr_dX6_lowest_50.2 rfl rfl
noncomputable def dX6_lowest_51 := zr_dX6_lowest_51.1
theorem zo_109 {c : ByteArray} {p q : Nat} {L : List UInt8} (h : zsuf c p (109 :: L)) (hq : p + 1 = q) : zD c p .ldiv 1 ∧ zsuf c q L := zfin hq (Eq.trans (zbd (zu1 (v := 109) h rfl)) rfl) (zsuf_tl h)
noncomputable def zr_dX6_lowest_53 := zo_109 (q := 54) zr_dX6_lowest_51.2 rfl
noncomputable def dX6_lowest_53 := zr_dX6_lowest_53.1
noncomputable def zr_dX6_lowest_54 := zo_173 (q := 55) zr_dX6_lowest_53.2 rfl
noncomputable def dX6_lowest_54 := zr_dX6_lowest_54.1
theorem zs_dX6_odds_0 : zsuf cX6_odds 0 cX6_odds.data.toList := rfl
noncomputable def zr_dX6_odds_0 := zo_27 (q := 1) zs_dX6_odds_0 rfl
noncomputable def dX6_odds_0 := zr_dX6_odds_0.1
noncomputable def zr_dX6_odds_1 := zo_3 (q := 2) zr_dX6_odds_0.2 rfl
noncomputable def dX6_odds_1 := zr_dX6_odds_1.1
noncomputable def zr_dX6_odds_2 := zo_18 (k := 192)  (q := 4) zr_dX6_odds_1.2 rfl rfl
noncomputable def dX6_odds_2 := zr_dX6_odds_2.1
noncomputable def zr_dX6_odds_4 := zo_184 (k := 91)  (q := 7) zr_dX6_odds_2.2 rfl rfl
noncomputable def dX6_odds_4 := zr_dX6_odds_4.1
noncomputable def zr_dX6_odds_7 := zo_153 (k := 52)  (q := 10) zr_dX6_odds_4.2 (by decide +kernel) rfl
noncomputable def dX6_odds_7 := zr_dX6_odds_7.1
noncomputable def zr_dX6_odds_10 := zo_28 (q := 11) zr_dX6_odds_7.2 rfl
noncomputable def dX6_odds_10 := zr_dX6_odds_10.1
noncomputable def zr_dX6_odds_11 := zo_4 (q := 12) zr_dX6_odds_10.2 rfl
noncomputable def dX6_odds_11 := zr_dX6_odds_11.1
noncomputable def zr_dX6_odds_12 := zo_16 (k := 40)  (q := 14) zr_dX6_odds_11.2 (by decide +kernel) rfl
noncomputable def dX6_odds_12 := zr_dX6_odds_12.1
noncomputable def zr_dX6_odds_14 := zo_184 (k := 91)  (q := 17) zr_dX6_odds_12.2 rfl rfl
noncomputable def dX6_odds_14 := zr_dX6_odds_14.1
noncomputable def zr_dX6_odds_17 := zo_153 (k := 42)  (q := 20) zr_dX6_odds_14.2 (by decide +kernel) rfl
noncomputable def dX6_odds_17 := zr_dX6_odds_17.1
noncomputable def zr_dX6_odds_20 := zo_42 (q := 21) zr_dX6_odds_17.2 rfl
noncomputable def dX6_odds_20 := zr_dX6_odds_20.1
noncomputable def zr_dX6_odds_21 := zo_29 (q := 22) zr_dX6_odds_20.2 rfl
noncomputable def dX6_odds_21 := zr_dX6_odds_21.1
noncomputable def zr_dX6_odds_22 := zo_182 (k := 104)  (q := 25) zr_dX6_odds_21.2 rfl rfl
noncomputable def dX6_odds_22 := zr_dX6_odds_22.1
noncomputable def zr_dX6_odds_25 := zo_153 (k := 34)  (q := 28) zr_dX6_odds_22.2 (by decide +kernel) rfl
noncomputable def dX6_odds_25 := zr_dX6_odds_25.1
noncomputable def zr_dX6_odds_28 := zo_42 (q := 29) zr_dX6_odds_25.2 rfl
noncomputable def dX6_odds_28 := zr_dX6_odds_28.1
noncomputable def zr_dX6_odds_29 := zo_21 (k := 4)  (q := 31) zr_dX6_odds_28.2 rfl rfl
noncomputable def dX6_odds_29 := zr_dX6_odds_29.1
noncomputable def zr_dX6_odds_31 := zo_182 (k := 177)  (q := 34) zr_dX6_odds_29.2 rfl rfl
noncomputable def dX6_odds_31 := zr_dX6_odds_31.1
noncomputable def zr_dX6_odds_34 := zo_153 (k := 25)  (q := 37) zr_dX6_odds_31.2 (by decide +kernel) rfl
noncomputable def dX6_odds_34 := zr_dX6_odds_34.1
noncomputable def zr_dX6_odds_37 := zo_21 (k := 5)  (q := 39) zr_dX6_odds_34.2 rfl rfl
noncomputable def dX6_odds_37 := zr_dX6_odds_37.1
noncomputable def zr_dX6_odds_39 := zo_184 (k := 261)  (q := 42) zr_dX6_odds_37.2 rfl rfl
noncomputable def dX6_odds_39 := zr_dX6_odds_39.1
noncomputable def zr_dX6_odds_42 := zo_153 (k := 17)  (q := 45) zr_dX6_odds_39.2 (by decide +kernel) rfl
noncomputable def dX6_odds_42 := zr_dX6_odds_42.1
noncomputable def zr_dX6_odds_45 := zo_21 (k := 6)  (q := 47) zr_dX6_odds_42.2 rfl rfl
noncomputable def dX6_odds_45 := zr_dX6_odds_45.1
noncomputable def zr_dX6_odds_47 := zo_3 (q := 48) zr_dX6_odds_45.2 rfl
noncomputable def dX6_odds_47 := zr_dX6_odds_47.1
noncomputable def zr_dX6_odds_48 := zo_4 (q := 49) zr_dX6_odds_47.2 rfl
noncomputable def dX6_odds_48 := zr_dX6_odds_48.1
noncomputable def zr_dX6_odds_49 := zo_184 (k := 91)  (q := 52) zr_dX6_odds_48.2 rfl rfl
noncomputable def dX6_odds_49 := zr_dX6_odds_49.1
noncomputable def zr_dX6_odds_52 := zo_153 (k := 7)  (q := 55) zr_dX6_odds_49.2 (by decide +kernel) rfl
noncomputable def dX6_odds_52 := zr_dX6_odds_52.1
noncomputable def zr_dX6_odds_55 := zo_4 (q := 56) zr_dX6_odds_52.2 rfl
noncomputable def dX6_odds_55 := zr_dX6_odds_55.1
noncomputable def zr_dX6_odds_56 := zo_167 (k := 4)  (q := 59) zr_dX6_odds_55.2 (by decide +kernel) rfl
noncomputable def dX6_odds_56 := zr_dX6_odds_56.1
noncomputable def zr_dX6_odds_59 := zo_3 (q := 60) zr_dX6_odds_56.2 rfl
noncomputable def dX6_odds_59 := zr_dX6_odds_59.1
noncomputable def zr_dX6_odds_60 := zo_54 (k := 7)  (q := 62) zr_dX6_odds_59.2 rfl rfl
noncomputable def dX6_odds_60 := zr_dX6_odds_60.1
noncomputable def zr_dX6_odds_62 := zo_21 (k := 7)  (q := 64) zr_dX6_odds_60.2 rfl rfl
noncomputable def dX6_odds_62 := zr_dX6_odds_62.1
noncomputable def zr_dX6_odds_64 := zo_154 (k := 7)  (q := 67) zr_dX6_odds_62.2 (by decide +kernel) rfl
noncomputable def dX6_odds_64 := zr_dX6_odds_64.1
noncomputable def zr_dX6_odds_67 := zo_20 (k := 268)  (q := 70) zr_dX6_odds_64.2 rfl rfl
noncomputable def dX6_odds_67 := zr_dX6_odds_67.1
noncomputable def zr_dX6_odds_70 := zo_173 (q := 71) zr_dX6_odds_67.2 rfl
noncomputable def dX6_odds_70 := zr_dX6_odds_70.1
noncomputable def zr_dX6_odds_71 := zo_9 (q := 72) zr_dX6_odds_70.2 rfl
noncomputable def dX6_odds_71 := zr_dX6_odds_71.1
noncomputable def zr_dX6_odds_72 := zo_55 (k := 8)  (q := 74) zr_dX6_odds_71.2 rfl rfl
noncomputable def dX6_odds_72 := zr_dX6_odds_72.1
noncomputable def zr_dX6_odds_74 := zo_3 (q := 75) zr_dX6_odds_72.2 rfl
noncomputable def dX6_odds_74 := zr_dX6_odds_74.1
noncomputable def zr_dX6_odds_75 := zo_54 (k := 10)  (q := 77) zr_dX6_odds_74.2 rfl rfl
noncomputable def dX6_odds_75 := zr_dX6_odds_75.1
noncomputable def zr_dX6_odds_77 := zo_21 (k := 10)  (q := 79) zr_dX6_odds_75.2 rfl rfl
noncomputable def dX6_odds_77 := zr_dX6_odds_77.1
noncomputable def zr_dX6_odds_79 := zo_28 (q := 80) zr_dX6_odds_77.2 rfl
noncomputable def dX6_odds_79 := zr_dX6_odds_79.1
noncomputable def zr_dX6_odds_80 := zo_162 (k := 39)  (q := 83) zr_dX6_odds_79.2 (by decide +kernel) rfl
noncomputable def dX6_odds_80 := zr_dX6_odds_80.1
noncomputable def zr_dX6_odds_83 := zo_42 (q := 84) zr_dX6_odds_80.2 rfl
noncomputable def dX6_odds_83 := zr_dX6_odds_83.1
noncomputable def zr_dX6_odds_84 := zo_27 (q := 85) zr_dX6_odds_83.2 rfl
noncomputable def dX6_odds_84 := zr_dX6_odds_84.1
noncomputable def zr_dX6_odds_85 := zo_21 (k := 10)  (q := 87) zr_dX6_odds_84.2 rfl rfl
noncomputable def dX6_odds_85 := zr_dX6_odds_85.1
noncomputable def zr_dX6_odds_87 := zo_96 (q := 88) zr_dX6_odds_85.2 rfl
noncomputable def dX6_odds_87 := zr_dX6_odds_87.1
noncomputable def zr_dX6_odds_88 := zo_29 (q := 89) zr_dX6_odds_87.2 rfl
noncomputable def dX6_odds_88 := zr_dX6_odds_88.1
noncomputable def zr_dX6_odds_89 := zo_21 (k := 4)  (q := 91) zr_dX6_odds_88.2 rfl rfl
noncomputable def dX6_odds_89 := zr_dX6_odds_89.1
noncomputable def zr_dX6_odds_91 := zo_21 (k := 5)  (q := 93) zr_dX6_odds_89.2 rfl rfl
noncomputable def dX6_odds_91 := zr_dX6_odds_91.1
noncomputable def zr_dX6_odds_93 := zo_182 (k := 264)  (q := 96) zr_dX6_odds_91.2 rfl rfl
noncomputable def dX6_odds_93 := zr_dX6_odds_93.1
noncomputable def zr_dX6_odds_96 := zo_22 (k := 8)  (q := 98) zr_dX6_odds_93.2 rfl rfl
noncomputable def dX6_odds_96 := zr_dX6_odds_96.1
noncomputable def zr_dX6_odds_98 := zo_42 (q := 99) zr_dX6_odds_96.2 rfl
noncomputable def dX6_odds_98 := zr_dX6_odds_98.1
noncomputable def zr_dX6_odds_99 := zo_180 (k := 214)  (q := 102) zr_dX6_odds_98.2 rfl rfl
noncomputable def dX6_odds_99 := zr_dX6_odds_99.1
noncomputable def zr_dX6_odds_102 := zo_153 (k := 7)  (q := 105) zr_dX6_odds_99.2 (by decide +kernel) rfl
noncomputable def dX6_odds_102 := zr_dX6_odds_102.1
noncomputable def zr_dX6_odds_105 := zo_10 (q := 106) zr_dX6_odds_102.2 rfl
noncomputable def dX6_odds_105 := zr_dX6_odds_105.1
noncomputable def zr_dX6_odds_106 := zo_167 (k := 4)  (q := 109) zr_dX6_odds_105.2 (by decide +kernel) rfl
noncomputable def dX6_odds_106 := zr_dX6_odds_106.1
noncomputable def zr_dX6_odds_109 := zo_9 (q := 110) zr_dX6_odds_106.2 rfl
noncomputable def dX6_odds_109 := zr_dX6_odds_109.1
noncomputable def zr_dX6_odds_110 := zo_97 (q := 111) zr_dX6_odds_109.2 rfl
noncomputable def dX6_odds_110 := zr_dX6_odds_110.1
noncomputable def zr_dX6_odds_111 := zo_55 (k := 8)  (q := 113) zr_dX6_odds_110.2 rfl rfl
noncomputable def dX6_odds_111 := zr_dX6_odds_111.1
noncomputable def zr_dX6_odds_113 := zo_132 (k := 10) (o := 1)  (q := 116) zr_dX6_odds_111.2 rfl (by decide +kernel) rfl
noncomputable def dX6_odds_113 := zr_dX6_odds_113.1
noncomputable def zr_dX6_odds_116 := zo_167 (k := -39)  (q := 119) zr_dX6_odds_113.2 (by decide +kernel) rfl
noncomputable def dX6_odds_116 := zr_dX6_odds_116.1
noncomputable def zr_dX6_odds_119 := zo_22 (k := 8)  (q := 121) zr_dX6_odds_116.2 rfl rfl
noncomputable def dX6_odds_119 := zr_dX6_odds_119.1
noncomputable def zr_dX6_odds_121 := zo_28 (q := 122) zr_dX6_odds_119.2 rfl
noncomputable def dX6_odds_121 := zr_dX6_odds_121.1
noncomputable def zr_dX6_odds_122 := zo_133 (q := 123) zr_dX6_odds_121.2 rfl
noncomputable def dX6_odds_122 := zr_dX6_odds_122.1
noncomputable def zr_dX6_odds_123 := zo_21 (k := 6)  (q := 125) zr_dX6_odds_122.2 rfl rfl
noncomputable def dX6_odds_123 := zr_dX6_odds_123.1
noncomputable def zr_dX6_odds_125 := zo_184 (k := 270)  (q := 128) zr_dX6_odds_123.2 rfl rfl
noncomputable def dX6_odds_125 := zr_dX6_odds_125.1
noncomputable def zr_dX6_odds_128 := zo_173 (q := 129) zr_dX6_odds_125.2 rfl
noncomputable def dX6_odds_128 := zr_dX6_odds_128.1
theorem zs_dX6_image_0 : zsuf cX6_image 0 cX6_image.data.toList := rfl
noncomputable def zr_dX6_image_0 := zo_42 (q := 1) zs_dX6_image_0 rfl
noncomputable def dX6_image_0 := zr_dX6_image_0.1
noncomputable def zr_dX6_image_1 := zo_4 (q := 2) zr_dX6_image_0.2 rfl
noncomputable def dX6_image_1 := zr_dX6_image_1.1
noncomputable def zr_dX6_image_2 := zo_181 (k := 274)  (q := 5) zr_dX6_image_1.2 rfl rfl
noncomputable def dX6_image_2 := zr_dX6_image_2.1
noncomputable def zr_dX6_image_5 := zo_3 (q := 6) zr_dX6_image_2.2 rfl
noncomputable def dX6_image_5 := zr_dX6_image_5.1
noncomputable def zr_dX6_image_6 := zo_60 (q := 7) zr_dX6_image_5.2 rfl
noncomputable def dX6_image_6 := zr_dX6_image_6.1
noncomputable def zr_dX6_image_7 := zo_27 (q := 8) zr_dX6_image_6.2 rfl
noncomputable def dX6_image_7 := zr_dX6_image_7.1
noncomputable def zr_dX6_image_8 := zo_16 (k := 12)  (q := 10) zr_dX6_image_7.2 (by decide +kernel) rfl
noncomputable def dX6_image_8 := zr_dX6_image_8.1
noncomputable def zr_dX6_image_10 := zo_162 (k := 36)  (q := 13) zr_dX6_image_8.2 (by decide +kernel) rfl
noncomputable def dX6_image_10 := zr_dX6_image_10.1
noncomputable def zr_dX6_image_13 := zo_42 (q := 14) zr_dX6_image_10.2 rfl
noncomputable def dX6_image_13 := zr_dX6_image_13.1
noncomputable def zr_dX6_image_14 := zo_180 (k := 31)  (q := 17) zr_dX6_image_13.2 rfl rfl
noncomputable def dX6_image_14 := zr_dX6_image_14.1
noncomputable def zr_dX6_image_17 := zo_27 (q := 18) zr_dX6_image_14.2 rfl
noncomputable def dX6_image_17 := zr_dX6_image_17.1
noncomputable def zr_dX6_image_18 := zo_42 (q := 19) zr_dX6_image_17.2 rfl
noncomputable def dX6_image_18 := zr_dX6_image_18.1
noncomputable def zr_dX6_image_19 := zo_180 (k := 19)  (q := 22) zr_dX6_image_18.2 rfl rfl
noncomputable def dX6_image_19 := zr_dX6_image_19.1
noncomputable def zr_dX6_image_22 := zo_27 (q := 23) zr_dX6_image_19.2 rfl
noncomputable def dX6_image_22 := zr_dX6_image_22.1
noncomputable def zr_dX6_image_23 := zo_46 (q := 24) zr_dX6_image_22.2 rfl
noncomputable def dX6_image_23 := zr_dX6_image_23.1
noncomputable def zr_dX6_image_24 := zo_79 (q := 25) zr_dX6_image_23.2 rfl
noncomputable def dX6_image_24 := zr_dX6_image_24.1
noncomputable def zr_dX6_image_25 := zo_42 (q := 26) zr_dX6_image_24.2 rfl
noncomputable def dX6_image_25 := zr_dX6_image_25.1
noncomputable def zr_dX6_image_26 := zo_180 (k := 31)  (q := 29) zr_dX6_image_25.2 rfl rfl
noncomputable def dX6_image_26 := zr_dX6_image_26.1
noncomputable def zr_dX6_image_29 := zo_16 (k := 12)  (q := 31) zr_dX6_image_26.2 (by decide +kernel) rfl
noncomputable def dX6_image_29 := zr_dX6_image_29.1
noncomputable def zr_dX6_image_31 := zo_27 (q := 32) zr_dX6_image_29.2 rfl
noncomputable def dX6_image_31 := zr_dX6_image_31.1
noncomputable def zr_dX6_image_32 := zo_96 (q := 33) zr_dX6_image_31.2 rfl
noncomputable def dX6_image_32 := zr_dX6_image_32.1
noncomputable def zr_dX6_image_33 := zo_42 (q := 34) zr_dX6_image_32.2 rfl
noncomputable def dX6_image_33 := zr_dX6_image_33.1
noncomputable def zr_dX6_image_34 := zo_180 (k := 16)  (q := 37) zr_dX6_image_33.2 rfl rfl
noncomputable def dX6_image_34 := zr_dX6_image_34.1
noncomputable def zr_dX6_image_37 := zo_27 (q := 38) zr_dX6_image_34.2 rfl
noncomputable def dX6_image_37 := zr_dX6_image_37.1
noncomputable def zr_dX6_image_38 := zo_46 (q := 39) zr_dX6_image_37.2 rfl
noncomputable def dX6_image_38 := zr_dX6_image_38.1
noncomputable def zr_dX6_image_39 := zo_79 (q := 40) zr_dX6_image_38.2 rfl
noncomputable def dX6_image_39 := zr_dX6_image_39.1
noncomputable def zr_dX6_image_40 := zo_132 (k := 1) (o := 1)  (q := 43) zr_dX6_image_39.2 rfl (by decide +kernel) rfl
noncomputable def dX6_image_40 := zr_dX6_image_40.1
noncomputable def zr_dX6_image_43 := zo_167 (k := -36)  (q := 46) zr_dX6_image_40.2 (by decide +kernel) rfl
noncomputable def dX6_image_43 := zr_dX6_image_43.1
noncomputable def zr_dX6_image_46 := zo_42 (q := 47) zr_dX6_image_43.2 rfl
noncomputable def dX6_image_46 := zr_dX6_image_46.1
noncomputable def zr_dX6_image_47 := zo_180 (k := 34)  (q := 50) zr_dX6_image_46.2 rfl rfl
noncomputable def dX6_image_47 := zr_dX6_image_47.1
noncomputable def zr_dX6_image_50 := zo_3 (q := 51) zr_dX6_image_47.2 rfl
noncomputable def dX6_image_50 := zr_dX6_image_50.1
noncomputable def zr_dX6_image_51 := zo_42 (q := 52) zr_dX6_image_50.2 rfl
noncomputable def dX6_image_51 := zr_dX6_image_51.1
noncomputable def zr_dX6_image_52 := zo_180 (k := 88)  (q := 55) zr_dX6_image_51.2 rfl rfl
noncomputable def dX6_image_52 := zr_dX6_image_52.1
noncomputable def zr_dX6_image_55 := zo_79 (q := 56) zr_dX6_image_52.2 rfl
noncomputable def dX6_image_55 := zr_dX6_image_55.1
noncomputable def zr_dX6_image_56 := zo_42 (q := 57) zr_dX6_image_55.2 rfl
noncomputable def dX6_image_56 := zr_dX6_image_56.1
noncomputable def zr_dX6_image_57 := zo_180 (k := 34)  (q := 60) zr_dX6_image_56.2 rfl rfl
noncomputable def dX6_image_57 := zr_dX6_image_57.1
noncomputable def zr_dX6_image_60 := zo_4 (q := 61) zr_dX6_image_57.2 rfl
noncomputable def dX6_image_60 := zr_dX6_image_60.1
noncomputable def zr_dX6_image_61 := zo_42 (q := 62) zr_dX6_image_60.2 rfl
noncomputable def dX6_image_61 := zr_dX6_image_61.1
noncomputable def zr_dX6_image_62 := zo_180 (k := 95)  (q := 65) zr_dX6_image_61.2 rfl rfl
noncomputable def dX6_image_62 := zr_dX6_image_62.1
noncomputable def zr_dX6_image_65 := zo_79 (q := 66) zr_dX6_image_62.2 rfl
noncomputable def dX6_image_65 := zr_dX6_image_65.1
noncomputable def zr_dX6_image_66 := zo_42 (q := 67) zr_dX6_image_65.2 rfl
noncomputable def dX6_image_66 := zr_dX6_image_66.1
noncomputable def zr_dX6_image_67 := zo_180 (k := 34)  (q := 70) zr_dX6_image_66.2 rfl rfl
noncomputable def dX6_image_67 := zr_dX6_image_67.1
noncomputable def zr_dX6_image_70 := zo_5 (q := 71) zr_dX6_image_67.2 rfl
noncomputable def dX6_image_70 := zr_dX6_image_70.1
noncomputable def zr_dX6_image_71 := zo_42 (q := 72) zr_dX6_image_70.2 rfl
noncomputable def dX6_image_71 := zr_dX6_image_71.1
noncomputable def zr_dX6_image_72 := zo_180 (k := 101)  (q := 75) zr_dX6_image_71.2 rfl rfl
noncomputable def dX6_image_72 := zr_dX6_image_72.1
noncomputable def zr_dX6_image_75 := zo_79 (q := 76) zr_dX6_image_72.2 rfl
noncomputable def dX6_image_75 := zr_dX6_image_75.1
noncomputable def zr_dX6_image_76 := zo_42 (q := 77) zr_dX6_image_75.2 rfl
noncomputable def dX6_image_76 := zr_dX6_image_76.1
noncomputable def zr_dX6_image_77 := zo_180 (k := 88)  (q := 80) zr_dX6_image_76.2 rfl rfl
noncomputable def dX6_image_77 := zr_dX6_image_77.1
noncomputable def zr_dX6_image_80 := zo_172 (q := 81) zr_dX6_image_77.2 rfl
noncomputable def dX6_image_80 := zr_dX6_image_80.1
theorem zs_dX6_back_0 : zsuf cX6_back 0 cX6_back.data.toList := rfl
noncomputable def zr_dX6_back_0 := zo_42 (q := 1) zs_dX6_back_0 rfl
noncomputable def dX6_back_0 := zr_dX6_back_0.1
noncomputable def zr_dX6_back_1 := zo_180 (k := 274)  (q := 4) zr_dX6_back_0.2 rfl rfl
noncomputable def dX6_back_1 := zr_dX6_back_1.1
noncomputable def zr_dX6_back_4 := zo_154 (k := 6)  (q := 7) zr_dX6_back_1.2 (by decide +kernel) rfl
noncomputable def dX6_back_4 := zr_dX6_back_4.1
noncomputable def zr_dX6_back_7 := zo_16 (k := -3)  (q := 9) zr_dX6_back_4.2 (by decide +kernel) rfl
noncomputable def dX6_back_7 := zr_dX6_back_7.1
noncomputable def zr_dX6_back_9 := zo_172 (q := 10) zr_dX6_back_7.2 rfl
noncomputable def dX6_back_9 := zr_dX6_back_9.1
noncomputable def zr_dX6_back_10 := zo_3 (q := 11) zr_dX6_back_9.2 rfl
noncomputable def dX6_back_10 := zr_dX6_back_10.1
noncomputable def zr_dX6_back_11 := zo_60 (q := 12) zr_dX6_back_10.2 rfl
noncomputable def dX6_back_11 := zr_dX6_back_11.1
noncomputable def zr_dX6_back_12 := zo_27 (q := 13) zr_dX6_back_11.2 rfl
noncomputable def dX6_back_12 := zr_dX6_back_12.1
noncomputable def zr_dX6_back_13 := zo_16 (k := 12)  (q := 15) zr_dX6_back_12.2 (by decide +kernel) rfl
noncomputable def dX6_back_13 := zr_dX6_back_13.1
noncomputable def zr_dX6_back_15 := zo_162 (k := 36)  (q := 18) zr_dX6_back_13.2 (by decide +kernel) rfl
noncomputable def dX6_back_15 := zr_dX6_back_15.1
noncomputable def zr_dX6_back_18 := zo_42 (q := 19) zr_dX6_back_15.2 rfl
noncomputable def dX6_back_18 := zr_dX6_back_18.1
noncomputable def zr_dX6_back_19 := zo_180 (k := 19)  (q := 22) zr_dX6_back_18.2 rfl rfl
noncomputable def dX6_back_19 := zr_dX6_back_19.1
noncomputable def zr_dX6_back_22 := zo_27 (q := 23) zr_dX6_back_19.2 rfl
noncomputable def dX6_back_22 := zr_dX6_back_22.1
noncomputable def zr_dX6_back_23 := zo_42 (q := 24) zr_dX6_back_22.2 rfl
noncomputable def dX6_back_23 := zr_dX6_back_23.1
noncomputable def zr_dX6_back_24 := zo_180 (k := 31)  (q := 27) zr_dX6_back_23.2 rfl rfl
noncomputable def dX6_back_24 := zr_dX6_back_24.1
noncomputable def zr_dX6_back_27 := zo_27 (q := 28) zr_dX6_back_24.2 rfl
noncomputable def dX6_back_27 := zr_dX6_back_27.1
noncomputable def zr_dX6_back_28 := zo_46 (q := 29) zr_dX6_back_27.2 rfl
noncomputable def dX6_back_28 := zr_dX6_back_28.1
noncomputable def zr_dX6_back_29 := zo_79 (q := 30) zr_dX6_back_28.2 rfl
noncomputable def dX6_back_29 := zr_dX6_back_29.1
noncomputable def zr_dX6_back_30 := zo_42 (q := 31) zr_dX6_back_29.2 rfl
noncomputable def dX6_back_30 := zr_dX6_back_30.1
noncomputable def zr_dX6_back_31 := zo_180 (k := 16)  (q := 34) zr_dX6_back_30.2 rfl rfl
noncomputable def dX6_back_31 := zr_dX6_back_31.1
noncomputable def zr_dX6_back_34 := zo_27 (q := 35) zr_dX6_back_31.2 rfl
noncomputable def dX6_back_34 := zr_dX6_back_34.1
noncomputable def zr_dX6_back_35 := zo_42 (q := 36) zr_dX6_back_34.2 rfl
noncomputable def dX6_back_35 := zr_dX6_back_35.1
noncomputable def zr_dX6_back_36 := zo_180 (k := 31)  (q := 39) zr_dX6_back_35.2 rfl rfl
noncomputable def dX6_back_36 := zr_dX6_back_36.1
noncomputable def zr_dX6_back_39 := zo_16 (k := 12)  (q := 41) zr_dX6_back_36.2 (by decide +kernel) rfl
noncomputable def dX6_back_39 := zr_dX6_back_39.1
noncomputable def zr_dX6_back_41 := zo_27 (q := 42) zr_dX6_back_39.2 rfl
noncomputable def dX6_back_41 := zr_dX6_back_41.1
noncomputable def zr_dX6_back_42 := zo_96 (q := 43) zr_dX6_back_41.2 rfl
noncomputable def dX6_back_42 := zr_dX6_back_42.1
noncomputable def zr_dX6_back_43 := zo_46 (q := 44) zr_dX6_back_42.2 rfl
noncomputable def dX6_back_43 := zr_dX6_back_43.1
noncomputable def zr_dX6_back_44 := zo_79 (q := 45) zr_dX6_back_43.2 rfl
noncomputable def dX6_back_44 := zr_dX6_back_44.1
noncomputable def zr_dX6_back_45 := zo_132 (k := 1) (o := 1)  (q := 48) zr_dX6_back_44.2 rfl (by decide +kernel) rfl
noncomputable def dX6_back_45 := zr_dX6_back_45.1
noncomputable def zr_dX6_back_48 := zo_167 (k := -36)  (q := 51) zr_dX6_back_45.2 (by decide +kernel) rfl
noncomputable def dX6_back_48 := zr_dX6_back_48.1
noncomputable def zr_dX6_back_51 := zo_42 (q := 52) zr_dX6_back_48.2 rfl
noncomputable def dX6_back_51 := zr_dX6_back_51.1
noncomputable def zr_dX6_back_52 := zo_42 (q := 53) zr_dX6_back_51.2 rfl
noncomputable def dX6_back_52 := zr_dX6_back_52.1
noncomputable def zr_dX6_back_53 := zo_180 (k := 34)  (q := 56) zr_dX6_back_52.2 rfl rfl
noncomputable def dX6_back_53 := zr_dX6_back_53.1
noncomputable def zr_dX6_back_56 := zo_3 (q := 57) zr_dX6_back_53.2 rfl
noncomputable def dX6_back_56 := zr_dX6_back_56.1
noncomputable def zr_dX6_back_57 := zo_46 (q := 58) zr_dX6_back_56.2 rfl
noncomputable def dX6_back_57 := zr_dX6_back_57.1
noncomputable def zr_dX6_back_58 := zo_181 (k := 88)  (q := 61) zr_dX6_back_57.2 rfl rfl
noncomputable def dX6_back_58 := zr_dX6_back_58.1
noncomputable def zr_dX6_back_61 := zo_42 (q := 62) zr_dX6_back_58.2 rfl
noncomputable def dX6_back_61 := zr_dX6_back_61.1
noncomputable def zr_dX6_back_62 := zo_42 (q := 63) zr_dX6_back_61.2 rfl
noncomputable def dX6_back_62 := zr_dX6_back_62.1
noncomputable def zr_dX6_back_63 := zo_180 (k := 34)  (q := 66) zr_dX6_back_62.2 rfl rfl
noncomputable def dX6_back_63 := zr_dX6_back_63.1
noncomputable def zr_dX6_back_66 := zo_4 (q := 67) zr_dX6_back_63.2 rfl
noncomputable def dX6_back_66 := zr_dX6_back_66.1
noncomputable def zr_dX6_back_67 := zo_46 (q := 68) zr_dX6_back_66.2 rfl
noncomputable def dX6_back_67 := zr_dX6_back_67.1
noncomputable def zr_dX6_back_68 := zo_181 (k := 95)  (q := 71) zr_dX6_back_67.2 rfl rfl
noncomputable def dX6_back_68 := zr_dX6_back_68.1
noncomputable def zr_dX6_back_71 := zo_42 (q := 72) zr_dX6_back_68.2 rfl
noncomputable def dX6_back_71 := zr_dX6_back_71.1
noncomputable def zr_dX6_back_72 := zo_42 (q := 73) zr_dX6_back_71.2 rfl
noncomputable def dX6_back_72 := zr_dX6_back_72.1
noncomputable def zr_dX6_back_73 := zo_180 (k := 34)  (q := 76) zr_dX6_back_72.2 rfl rfl
noncomputable def dX6_back_73 := zr_dX6_back_73.1
noncomputable def zr_dX6_back_76 := zo_5 (q := 77) zr_dX6_back_73.2 rfl
noncomputable def dX6_back_76 := zr_dX6_back_76.1
noncomputable def zr_dX6_back_77 := zo_46 (q := 78) zr_dX6_back_76.2 rfl
noncomputable def dX6_back_77 := zr_dX6_back_77.1
noncomputable def zr_dX6_back_78 := zo_181 (k := 101)  (q := 81) zr_dX6_back_77.2 rfl rfl
noncomputable def dX6_back_78 := zr_dX6_back_78.1
noncomputable def zr_dX6_back_81 := zo_42 (q := 82) zr_dX6_back_78.2 rfl
noncomputable def dX6_back_81 := zr_dX6_back_81.1
noncomputable def zr_dX6_back_82 := zo_180 (k := 88)  (q := 85) zr_dX6_back_81.2 rfl rfl
noncomputable def dX6_back_82 := zr_dX6_back_82.1
noncomputable def zr_dX6_back_85 := zo_172 (q := 86) zr_dX6_back_82.2 rfl
noncomputable def dX6_back_85 := zr_dX6_back_85.1
theorem zs_dX6_sheet_0 : zsuf cX6_sheet 0 cX6_sheet.data.toList := rfl
noncomputable def zr_dX6_sheet_0 := zo_27 (q := 1) zs_dX6_sheet_0 rfl
noncomputable def dX6_sheet_0 := zr_dX6_sheet_0.1
noncomputable def zr_dX6_sheet_1 := zo_3 (q := 2) zr_dX6_sheet_0.2 rfl
noncomputable def dX6_sheet_1 := zr_dX6_sheet_1.1
noncomputable def zr_dX6_sheet_2 := zo_6 (q := 3) zr_dX6_sheet_1.2 rfl
noncomputable def dX6_sheet_2 := zr_dX6_sheet_2.1
noncomputable def zr_dX6_sheet_3 := zo_184 (k := 91)  (q := 6) zr_dX6_sheet_2.2 rfl rfl
noncomputable def dX6_sheet_3 := zr_dX6_sheet_3.1
noncomputable def zr_dX6_sheet_6 := zo_153 (k := 23)  (q := 9) zr_dX6_sheet_3.2 (by decide +kernel) rfl
noncomputable def dX6_sheet_6 := zr_dX6_sheet_6.1
noncomputable def zr_dX6_sheet_9 := zo_28 (q := 10) zr_dX6_sheet_6.2 rfl
noncomputable def dX6_sheet_9 := zr_dX6_sheet_9.1
noncomputable def zr_dX6_sheet_10 := zo_2 (q := 11) zr_dX6_sheet_9.2 rfl
noncomputable def dX6_sheet_10 := zr_dX6_sheet_10.1
noncomputable def zr_dX6_sheet_11 := zo_5 (q := 12) zr_dX6_sheet_10.2 rfl
noncomputable def dX6_sheet_11 := zr_dX6_sheet_11.1
noncomputable def zr_dX6_sheet_12 := zo_184 (k := 91)  (q := 15) zr_dX6_sheet_11.2 rfl rfl
noncomputable def dX6_sheet_12 := zr_dX6_sheet_12.1
noncomputable def zr_dX6_sheet_15 := zo_153 (k := 14)  (q := 18) zr_dX6_sheet_12.2 (by decide +kernel) rfl
noncomputable def dX6_sheet_15 := zr_dX6_sheet_15.1
noncomputable def zr_dX6_sheet_18 := zo_28 (q := 19) zr_dX6_sheet_15.2 rfl
noncomputable def dX6_sheet_18 := zr_dX6_sheet_18.1
noncomputable def zr_dX6_sheet_19 := zo_2 (q := 20) zr_dX6_sheet_18.2 rfl
noncomputable def dX6_sheet_19 := zr_dX6_sheet_19.1
noncomputable def zr_dX6_sheet_20 := zo_159 (k := 12)  (q := 23) zr_dX6_sheet_19.2 (by decide +kernel) rfl
noncomputable def dX6_sheet_20 := zr_dX6_sheet_20.1
noncomputable def zr_dX6_sheet_23 := zo_29 (q := 24) zr_dX6_sheet_20.2 rfl
noncomputable def dX6_sheet_23 := zr_dX6_sheet_23.1
noncomputable def zr_dX6_sheet_24 := zo_16 (k := 40)  (q := 26) zr_dX6_sheet_23.2 (by decide +kernel) rfl
noncomputable def dX6_sheet_24 := zr_dX6_sheet_24.1
noncomputable def zr_dX6_sheet_26 := zo_164 (k := 6)  (q := 29) zr_dX6_sheet_24.2 (by decide +kernel) rfl
noncomputable def dX6_sheet_26 := zr_dX6_sheet_26.1
noncomputable def zr_dX6_sheet_29 := zo_16 (k := -2)  (q := 31) zr_dX6_sheet_26.2 (by decide +kernel) rfl
noncomputable def dX6_sheet_29 := zr_dX6_sheet_29.1
noncomputable def zr_dX6_sheet_31 := zo_172 (q := 32) zr_dX6_sheet_29.2 rfl
noncomputable def dX6_sheet_31 := zr_dX6_sheet_31.1
noncomputable def zr_dX6_sheet_32 := zo_28 (q := 33) zr_dX6_sheet_31.2 rfl
noncomputable def dX6_sheet_32 := zr_dX6_sheet_32.1
noncomputable def zr_dX6_sheet_33 := zo_2 (q := 34) zr_dX6_sheet_32.2 rfl
noncomputable def dX6_sheet_33 := zr_dX6_sheet_33.1
noncomputable def zr_dX6_sheet_34 := zo_159 (k := 10)  (q := 37) zr_dX6_sheet_33.2 (by decide +kernel) rfl
noncomputable def dX6_sheet_34 := zr_dX6_sheet_34.1
noncomputable def zr_dX6_sheet_37 := zo_29 (q := 38) zr_dX6_sheet_34.2 rfl
noncomputable def dX6_sheet_37 := zr_dX6_sheet_37.1
noncomputable def zr_dX6_sheet_38 := zo_156 (k := 6)  (q := 41) zr_dX6_sheet_37.2 (by decide +kernel) rfl
noncomputable def dX6_sheet_38 := zr_dX6_sheet_38.1
noncomputable def zr_dX6_sheet_41 := zo_16 (k := -14)  (q := 43) zr_dX6_sheet_38.2 (by decide +kernel) rfl
noncomputable def dX6_sheet_41 := zr_dX6_sheet_41.1
noncomputable def zr_dX6_sheet_43 := zo_172 (q := 44) zr_dX6_sheet_41.2 rfl
noncomputable def dX6_sheet_43 := zr_dX6_sheet_43.1
noncomputable def zr_dX6_sheet_44 := zo_42 (q := 45) zr_dX6_sheet_43.2 rfl
noncomputable def dX6_sheet_44 := zr_dX6_sheet_44.1
noncomputable def zr_dX6_sheet_45 := zo_180 (k := 37)  (q := 48) zr_dX6_sheet_44.2 rfl rfl
noncomputable def dX6_sheet_45 := zr_dX6_sheet_45.1
noncomputable def zr_dX6_sheet_48 := zo_27 (q := 49) zr_dX6_sheet_45.2 rfl
noncomputable def dX6_sheet_48 := zr_dX6_sheet_48.1
noncomputable def zr_dX6_sheet_49 := zo_28 (q := 50) zr_dX6_sheet_48.2 rfl
noncomputable def dX6_sheet_49 := zr_dX6_sheet_49.1
noncomputable def zr_dX6_sheet_50 := zo_79 (q := 51) zr_dX6_sheet_49.2 rfl
noncomputable def dX6_sheet_50 := zr_dX6_sheet_50.1
noncomputable def zr_dX6_sheet_51 := zo_42 (q := 52) zr_dX6_sheet_50.2 rfl
noncomputable def dX6_sheet_51 := zr_dX6_sheet_51.1
noncomputable def zr_dX6_sheet_52 := zo_180 (k := 40)  (q := 55) zr_dX6_sheet_51.2 rfl rfl
noncomputable def dX6_sheet_52 := zr_dX6_sheet_52.1
noncomputable def zr_dX6_sheet_55 := zo_27 (q := 56) zr_dX6_sheet_52.2 rfl
noncomputable def dX6_sheet_55 := zr_dX6_sheet_55.1
noncomputable def zr_dX6_sheet_56 := zo_28 (q := 57) zr_dX6_sheet_55.2 rfl
noncomputable def dX6_sheet_56 := zr_dX6_sheet_56.1
noncomputable def zr_dX6_sheet_57 := zo_2 (q := 58) zr_dX6_sheet_56.2 rfl
noncomputable def dX6_sheet_57 := zr_dX6_sheet_57.1
noncomputable def zr_dX6_sheet_58 := zo_160 (k := 7)  (q := 61) zr_dX6_sheet_57.2 (by decide +kernel) rfl
noncomputable def dX6_sheet_58 := zr_dX6_sheet_58.1
noncomputable def zr_dX6_sheet_61 := zo_3 (q := 62) zr_dX6_sheet_58.2 rfl
noncomputable def dX6_sheet_61 := zr_dX6_sheet_61.1
noncomputable def zr_dX6_sheet_62 := zo_167 (k := 4)  (q := 65) zr_dX6_sheet_61.2 (by decide +kernel) rfl
noncomputable def dX6_sheet_62 := zr_dX6_sheet_62.1
noncomputable def zr_dX6_sheet_65 := zo_29 (q := 66) zr_dX6_sheet_62.2 rfl
noncomputable def dX6_sheet_65 := zr_dX6_sheet_65.1
noncomputable def zr_dX6_sheet_66 := zo_79 (q := 67) zr_dX6_sheet_65.2 rfl
noncomputable def dX6_sheet_66 := zr_dX6_sheet_66.1
noncomputable def zr_dX6_sheet_67 := zo_3 (q := 68) zr_dX6_sheet_66.2 rfl
noncomputable def dX6_sheet_67 := zr_dX6_sheet_67.1
noncomputable def zr_dX6_sheet_68 := zo_54 (k := 4)  (q := 70) zr_dX6_sheet_67.2 rfl rfl
noncomputable def dX6_sheet_68 := zr_dX6_sheet_68.1
noncomputable def zr_dX6_sheet_70 := zo_21 (k := 4)  (q := 72) zr_dX6_sheet_68.2 rfl rfl
noncomputable def dX6_sheet_70 := zr_dX6_sheet_70.1
noncomputable def zr_dX6_sheet_72 := zo_16 (k := 40)  (q := 74) zr_dX6_sheet_70.2 (by decide +kernel) rfl
noncomputable def dX6_sheet_72 := zr_dX6_sheet_72.1
noncomputable def zr_dX6_sheet_74 := zo_162 (k := 22)  (q := 77) zr_dX6_sheet_72.2 (by decide +kernel) rfl
noncomputable def dX6_sheet_74 := zr_dX6_sheet_74.1
noncomputable def zr_dX6_sheet_77 := zo_42 (q := 78) zr_dX6_sheet_74.2 rfl
noncomputable def dX6_sheet_77 := zr_dX6_sheet_77.1
noncomputable def zr_dX6_sheet_78 := zo_180 (k := 43)  (q := 81) zr_dX6_sheet_77.2 rfl rfl
noncomputable def dX6_sheet_78 := zr_dX6_sheet_78.1
noncomputable def zr_dX6_sheet_81 := zo_16 (k := 40)  (q := 83) zr_dX6_sheet_78.2 (by decide +kernel) rfl
noncomputable def dX6_sheet_81 := zr_dX6_sheet_81.1
noncomputable def zr_dX6_sheet_83 := zo_27 (q := 84) zr_dX6_sheet_81.2 rfl
noncomputable def dX6_sheet_83 := zr_dX6_sheet_83.1
noncomputable def zr_dX6_sheet_84 := zo_104 (q := 85) zr_dX6_sheet_83.2 rfl
noncomputable def dX6_sheet_84 := zr_dX6_sheet_84.1
noncomputable def zr_dX6_sheet_85 := zo_21 (k := 4)  (q := 87) zr_dX6_sheet_84.2 rfl rfl
noncomputable def dX6_sheet_85 := zr_dX6_sheet_85.1
noncomputable def zr_dX6_sheet_87 := zo_96 (q := 88) zr_dX6_sheet_85.2 rfl
noncomputable def dX6_sheet_87 := zr_dX6_sheet_87.1
noncomputable def zr_dX6_sheet_88 := zo_3 (q := 89) zr_dX6_sheet_87.2 rfl
noncomputable def dX6_sheet_88 := zr_dX6_sheet_88.1
noncomputable def zr_dX6_sheet_89 := zo_79 (q := 90) zr_dX6_sheet_88.2 rfl
noncomputable def dX6_sheet_89 := zr_dX6_sheet_89.1
noncomputable def zr_dX6_sheet_90 := zo_132 (k := 4) (o := 1)  (q := 93) zr_dX6_sheet_89.2 rfl (by decide +kernel) rfl
noncomputable def dX6_sheet_90 := zr_dX6_sheet_90.1
noncomputable def zr_dX6_sheet_93 := zo_167 (k := -23)  (q := 96) zr_dX6_sheet_90.2 (by decide +kernel) rfl
noncomputable def dX6_sheet_93 := zr_dX6_sheet_93.1
noncomputable def zr_dX6_sheet_96 := zo_4 (q := 97) zr_dX6_sheet_93.2 rfl
noncomputable def dX6_sheet_96 := zr_dX6_sheet_96.1
noncomputable def zr_dX6_sheet_97 := zo_172 (q := 98) zr_dX6_sheet_96.2 rfl
noncomputable def dX6_sheet_97 := zr_dX6_sheet_97.1
theorem zs_dX6_cell_0 : zsuf cX6_cell 0 cX6_cell.data.toList := rfl
noncomputable def zr_dX6_cell_0 := zo_27 (q := 1) zs_dX6_cell_0 rfl
noncomputable def dX6_cell_0 := zr_dX6_cell_0.1
noncomputable def zr_dX6_cell_1 := zo_3 (q := 2) zr_dX6_cell_0.2 rfl
noncomputable def dX6_cell_1 := zr_dX6_cell_1.1
noncomputable def zr_dX6_cell_2 := zo_6 (q := 3) zr_dX6_cell_1.2 rfl
noncomputable def dX6_cell_2 := zr_dX6_cell_2.1
noncomputable def zr_dX6_cell_3 := zo_184 (k := 91)  (q := 6) zr_dX6_cell_2.2 rfl rfl
noncomputable def dX6_cell_3 := zr_dX6_cell_3.1
noncomputable def zr_dX6_cell_6 := zo_154 (k := 6)  (q := 9) zr_dX6_cell_3.2 (by decide +kernel) rfl
noncomputable def dX6_cell_6 := zr_dX6_cell_6.1
noncomputable def zr_dX6_cell_9 := zo_16 (k := -2)  (q := 11) zr_dX6_cell_6.2 (by decide +kernel) rfl
noncomputable def dX6_cell_9 := zr_dX6_cell_9.1
noncomputable def zr_dX6_cell_11 := zo_172 (q := 12) zr_dX6_cell_9.2 rfl
noncomputable def dX6_cell_11 := zr_dX6_cell_11.1
noncomputable def zr_dX6_cell_12 := zo_42 (q := 13) zr_dX6_cell_11.2 rfl
noncomputable def dX6_cell_12 := zr_dX6_cell_12.1
noncomputable def zr_dX6_cell_13 := zo_180 (k := 37)  (q := 16) zr_dX6_cell_12.2 rfl rfl
noncomputable def dX6_cell_13 := zr_dX6_cell_13.1
noncomputable def zr_dX6_cell_16 := zo_27 (q := 17) zr_dX6_cell_13.2 rfl
noncomputable def dX6_cell_16 := zr_dX6_cell_16.1
noncomputable def zr_dX6_cell_17 := zo_46 (q := 18) zr_dX6_cell_16.2 rfl
noncomputable def dX6_cell_17 := zr_dX6_cell_17.1
noncomputable def zr_dX6_cell_18 := zo_2 (q := 19) zr_dX6_cell_17.2 rfl
noncomputable def dX6_cell_18 := zr_dX6_cell_18.1
noncomputable def zr_dX6_cell_19 := zo_160 (k := 6)  (q := 22) zr_dX6_cell_18.2 (by decide +kernel) rfl
noncomputable def dX6_cell_19 := zr_dX6_cell_19.1
noncomputable def zr_dX6_cell_22 := zo_16 (k := -11)  (q := 24) zr_dX6_cell_19.2 (by decide +kernel) rfl
noncomputable def dX6_cell_22 := zr_dX6_cell_22.1
noncomputable def zr_dX6_cell_24 := zo_172 (q := 25) zr_dX6_cell_22.2 rfl
noncomputable def dX6_cell_24 := zr_dX6_cell_24.1
noncomputable def zr_dX6_cell_25 := zo_28 (q := 26) zr_dX6_cell_24.2 rfl
noncomputable def dX6_cell_25 := zr_dX6_cell_25.1
noncomputable def zr_dX6_cell_26 := zo_3 (q := 27) zr_dX6_cell_25.2 rfl
noncomputable def dX6_cell_26 := zr_dX6_cell_26.1
noncomputable def zr_dX6_cell_27 := zo_42 (q := 28) zr_dX6_cell_26.2 rfl
noncomputable def dX6_cell_27 := zr_dX6_cell_27.1
noncomputable def zr_dX6_cell_28 := zo_180 (k := 40)  (q := 31) zr_dX6_cell_27.2 rfl rfl
noncomputable def dX6_cell_28 := zr_dX6_cell_28.1
noncomputable def zr_dX6_cell_31 := zo_27 (q := 32) zr_dX6_cell_28.2 rfl
noncomputable def dX6_cell_31 := zr_dX6_cell_31.1
noncomputable def zr_dX6_cell_32 := zo_46 (q := 33) zr_dX6_cell_31.2 rfl
noncomputable def dX6_cell_32 := zr_dX6_cell_32.1
noncomputable def zr_dX6_cell_33 := zo_4 (q := 34) zr_dX6_cell_32.2 rfl
noncomputable def dX6_cell_33 := zr_dX6_cell_33.1
noncomputable def zr_dX6_cell_34 := zo_100 (q := 35) zr_dX6_cell_33.2 rfl
noncomputable def dX6_cell_34 := zr_dX6_cell_34.1
noncomputable def zr_dX6_cell_35 := zo_184 (k := 91)  (q := 38) zr_dX6_cell_34.2 rfl rfl
noncomputable def dX6_cell_35 := zr_dX6_cell_35.1
noncomputable def zr_dX6_cell_38 := zo_154 (k := 6)  (q := 41) zr_dX6_cell_35.2 (by decide +kernel) rfl
noncomputable def dX6_cell_38 := zr_dX6_cell_38.1
noncomputable def zr_dX6_cell_41 := zo_16 (k := -12)  (q := 43) zr_dX6_cell_38.2 (by decide +kernel) rfl
noncomputable def dX6_cell_41 := zr_dX6_cell_41.1
noncomputable def zr_dX6_cell_43 := zo_172 (q := 44) zr_dX6_cell_41.2 rfl
noncomputable def dX6_cell_43 := zr_dX6_cell_43.1
noncomputable def zr_dX6_cell_44 := zo_42 (q := 45) zr_dX6_cell_43.2 rfl
noncomputable def dX6_cell_44 := zr_dX6_cell_44.1
noncomputable def zr_dX6_cell_45 := zo_180 (k := 43)  (q := 48) zr_dX6_cell_44.2 rfl rfl
noncomputable def dX6_cell_45 := zr_dX6_cell_45.1
noncomputable def zr_dX6_cell_48 := zo_16 (k := 40)  (q := 50) zr_dX6_cell_45.2 (by decide +kernel) rfl
noncomputable def dX6_cell_48 := zr_dX6_cell_48.1
noncomputable def zr_dX6_cell_50 := zo_27 (q := 51) zr_dX6_cell_48.2 rfl
noncomputable def dX6_cell_50 := zr_dX6_cell_50.1
noncomputable def zr_dX6_cell_51 := zo_104 (q := 52) zr_dX6_cell_50.2 rfl
noncomputable def dX6_cell_51 := zr_dX6_cell_51.1
noncomputable def zr_dX6_cell_52 := zo_28 (q := 53) zr_dX6_cell_51.2 rfl
noncomputable def dX6_cell_52 := zr_dX6_cell_52.1
noncomputable def zr_dX6_cell_53 := zo_96 (q := 54) zr_dX6_cell_52.2 rfl
noncomputable def dX6_cell_53 := zr_dX6_cell_53.1
noncomputable def zr_dX6_cell_54 := zo_42 (q := 55) zr_dX6_cell_53.2 rfl
noncomputable def dX6_cell_54 := zr_dX6_cell_54.1
noncomputable def zr_dX6_cell_55 := zo_180 (k := 37)  (q := 58) zr_dX6_cell_54.2 rfl rfl
noncomputable def dX6_cell_55 := zr_dX6_cell_55.1
noncomputable def zr_dX6_cell_58 := zo_27 (q := 59) zr_dX6_cell_55.2 rfl
noncomputable def dX6_cell_58 := zr_dX6_cell_58.1
noncomputable def zr_dX6_cell_59 := zo_46 (q := 60) zr_dX6_cell_58.2 rfl
noncomputable def dX6_cell_59 := zr_dX6_cell_59.1
noncomputable def zr_dX6_cell_60 := zo_154 (k := 8)  (q := 63) zr_dX6_cell_59.2 (by decide +kernel) rfl
noncomputable def dX6_cell_60 := zr_dX6_cell_60.1
noncomputable def zr_dX6_cell_63 := zo_29 (q := 64) zr_dX6_cell_60.2 rfl
noncomputable def dX6_cell_63 := zr_dX6_cell_63.1
noncomputable def zr_dX6_cell_64 := zo_145 (q := 65) zr_dX6_cell_63.2 rfl
noncomputable def dX6_cell_64 := zr_dX6_cell_64.1
noncomputable def zr_dX6_cell_65 := zo_167 (k := 19)  (q := 68) zr_dX6_cell_64.2 (by decide +kernel) rfl
noncomputable def dX6_cell_65 := zr_dX6_cell_65.1
noncomputable def zr_dX6_cell_68 := zo_42 (q := 69) zr_dX6_cell_65.2 rfl
noncomputable def dX6_cell_68 := zr_dX6_cell_68.1
noncomputable def zr_dX6_cell_69 := zo_180 (k := 37)  (q := 72) zr_dX6_cell_68.2 rfl rfl
noncomputable def dX6_cell_69 := zr_dX6_cell_69.1
noncomputable def zr_dX6_cell_72 := zo_27 (q := 73) zr_dX6_cell_69.2 rfl
noncomputable def dX6_cell_72 := zr_dX6_cell_72.1
noncomputable def zr_dX6_cell_73 := zo_46 (q := 74) zr_dX6_cell_72.2 rfl
noncomputable def dX6_cell_73 := zr_dX6_cell_73.1
noncomputable def zr_dX6_cell_74 := zo_4 (q := 75) zr_dX6_cell_73.2 rfl
noncomputable def dX6_cell_74 := zr_dX6_cell_74.1
noncomputable def zr_dX6_cell_75 := zo_160 (k := 8)  (q := 78) zr_dX6_cell_74.2 (by decide +kernel) rfl
noncomputable def dX6_cell_75 := zr_dX6_cell_75.1
noncomputable def zr_dX6_cell_78 := zo_29 (q := 79) zr_dX6_cell_75.2 rfl
noncomputable def dX6_cell_78 := zr_dX6_cell_78.1
noncomputable def zr_dX6_cell_79 := zo_147 (q := 80) zr_dX6_cell_78.2 rfl
noncomputable def dX6_cell_79 := zr_dX6_cell_79.1
noncomputable def zr_dX6_cell_80 := zo_167 (k := 4)  (q := 83) zr_dX6_cell_79.2 (by decide +kernel) rfl
noncomputable def dX6_cell_80 := zr_dX6_cell_80.1
noncomputable def zr_dX6_cell_83 := zo_29 (q := 84) zr_dX6_cell_80.2 rfl
noncomputable def dX6_cell_83 := zr_dX6_cell_83.1
noncomputable def zr_dX6_cell_84 := zo_79 (q := 85) zr_dX6_cell_83.2 rfl
noncomputable def dX6_cell_84 := zr_dX6_cell_84.1
noncomputable def zr_dX6_cell_85 := zo_4 (q := 86) zr_dX6_cell_84.2 rfl
noncomputable def dX6_cell_85 := zr_dX6_cell_85.1
noncomputable def zr_dX6_cell_86 := zo_172 (q := 87) zr_dX6_cell_85.2 rfl
noncomputable def dX6_cell_86 := zr_dX6_cell_86.1
theorem zs_dX6_copy_0 : zsuf cX6_copy 0 cX6_copy.data.toList := rfl
noncomputable def zr_dX6_copy_0 := zo_27 (q := 1) zs_dX6_copy_0 rfl
noncomputable def dX6_copy_0 := zr_dX6_copy_0.1
noncomputable def zr_dX6_copy_1 := zo_3 (q := 2) zr_dX6_copy_0.2 rfl
noncomputable def dX6_copy_1 := zr_dX6_copy_1.1
noncomputable def zr_dX6_copy_2 := zo_6 (q := 3) zr_dX6_copy_1.2 rfl
noncomputable def dX6_copy_2 := zr_dX6_copy_2.1
noncomputable def zr_dX6_copy_3 := zo_184 (k := 91)  (q := 6) zr_dX6_copy_2.2 rfl rfl
noncomputable def dX6_copy_3 := zr_dX6_copy_3.1
noncomputable def zr_dX6_copy_6 := zo_153 (k := 12)  (q := 9) zr_dX6_copy_3.2 (by decide +kernel) rfl
noncomputable def dX6_copy_6 := zr_dX6_copy_6.1
noncomputable def zr_dX6_copy_9 := zo_29 (q := 10) zr_dX6_copy_6.2 rfl
noncomputable def dX6_copy_9 := zr_dX6_copy_9.1
noncomputable def zr_dX6_copy_10 := zo_3 (q := 11) zr_dX6_copy_9.2 rfl
noncomputable def dX6_copy_10 := zr_dX6_copy_10.1
noncomputable def zr_dX6_copy_11 := zo_6 (q := 12) zr_dX6_copy_10.2 rfl
noncomputable def dX6_copy_11 := zr_dX6_copy_11.1
noncomputable def zr_dX6_copy_12 := zo_184 (k := 91)  (q := 15) zr_dX6_copy_11.2 rfl rfl
noncomputable def dX6_copy_12 := zr_dX6_copy_12.1
noncomputable def zr_dX6_copy_15 := zo_154 (k := 6)  (q := 18) zr_dX6_copy_12.2 (by decide +kernel) rfl
noncomputable def dX6_copy_15 := zr_dX6_copy_15.1
noncomputable def zr_dX6_copy_18 := zo_16 (k := -2)  (q := 20) zr_dX6_copy_15.2 (by decide +kernel) rfl
noncomputable def dX6_copy_18 := zr_dX6_copy_18.1
noncomputable def zr_dX6_copy_20 := zo_172 (q := 21) zr_dX6_copy_18.2 rfl
noncomputable def dX6_copy_20 := zr_dX6_copy_20.1
noncomputable def zr_dX6_copy_21 := zo_42 (q := 22) zr_dX6_copy_20.2 rfl
noncomputable def dX6_copy_21 := zr_dX6_copy_21.1
noncomputable def zr_dX6_copy_22 := zo_180 (k := 37)  (q := 25) zr_dX6_copy_21.2 rfl rfl
noncomputable def dX6_copy_22 := zr_dX6_copy_22.1
noncomputable def zr_dX6_copy_25 := zo_27 (q := 26) zr_dX6_copy_22.2 rfl
noncomputable def dX6_copy_25 := zr_dX6_copy_25.1
noncomputable def zr_dX6_copy_26 := zo_46 (q := 27) zr_dX6_copy_25.2 rfl
noncomputable def dX6_copy_26 := zr_dX6_copy_26.1
noncomputable def zr_dX6_copy_27 := zo_2 (q := 28) zr_dX6_copy_26.2 rfl
noncomputable def dX6_copy_27 := zr_dX6_copy_27.1
noncomputable def zr_dX6_copy_28 := zo_159 (k := 13)  (q := 31) zr_dX6_copy_27.2 (by decide +kernel) rfl
noncomputable def dX6_copy_28 := zr_dX6_copy_28.1
noncomputable def zr_dX6_copy_31 := zo_42 (q := 32) zr_dX6_copy_28.2 rfl
noncomputable def dX6_copy_31 := zr_dX6_copy_31.1
noncomputable def zr_dX6_copy_32 := zo_180 (k := 37)  (q := 35) zr_dX6_copy_31.2 rfl rfl
noncomputable def dX6_copy_32 := zr_dX6_copy_32.1
noncomputable def zr_dX6_copy_35 := zo_29 (q := 36) zr_dX6_copy_32.2 rfl
noncomputable def dX6_copy_35 := zr_dX6_copy_35.1
noncomputable def zr_dX6_copy_36 := zo_46 (q := 37) zr_dX6_copy_35.2 rfl
noncomputable def dX6_copy_36 := zr_dX6_copy_36.1
noncomputable def zr_dX6_copy_37 := zo_2 (q := 38) zr_dX6_copy_36.2 rfl
noncomputable def dX6_copy_37 := zr_dX6_copy_37.1
noncomputable def zr_dX6_copy_38 := zo_160 (k := 6)  (q := 41) zr_dX6_copy_37.2 (by decide +kernel) rfl
noncomputable def dX6_copy_38 := zr_dX6_copy_38.1
noncomputable def zr_dX6_copy_41 := zo_16 (k := -11)  (q := 43) zr_dX6_copy_38.2 (by decide +kernel) rfl
noncomputable def dX6_copy_41 := zr_dX6_copy_41.1
noncomputable def zr_dX6_copy_43 := zo_172 (q := 44) zr_dX6_copy_41.2 rfl
noncomputable def dX6_copy_43 := zr_dX6_copy_43.1
noncomputable def zr_dX6_copy_44 := zo_42 (q := 45) zr_dX6_copy_43.2 rfl
noncomputable def dX6_copy_44 := zr_dX6_copy_44.1
noncomputable def zr_dX6_copy_45 := zo_180 (k := 37)  (q := 48) zr_dX6_copy_44.2 rfl rfl
noncomputable def dX6_copy_45 := zr_dX6_copy_45.1
noncomputable def zr_dX6_copy_48 := zo_27 (q := 49) zr_dX6_copy_45.2 rfl
noncomputable def dX6_copy_48 := zr_dX6_copy_48.1
noncomputable def zr_dX6_copy_49 := zo_46 (q := 50) zr_dX6_copy_48.2 rfl
noncomputable def dX6_copy_49 := zr_dX6_copy_49.1
noncomputable def zr_dX6_copy_50 := zo_42 (q := 51) zr_dX6_copy_49.2 rfl
noncomputable def dX6_copy_50 := zr_dX6_copy_50.1
noncomputable def zr_dX6_copy_51 := zo_180 (k := 37)  (q := 54) zr_dX6_copy_50.2 rfl rfl
noncomputable def dX6_copy_51 := zr_dX6_copy_51.1
noncomputable def zr_dX6_copy_54 := zo_29 (q := 55) zr_dX6_copy_51.2 rfl
noncomputable def dX6_copy_54 := zr_dX6_copy_54.1
noncomputable def zr_dX6_copy_55 := zo_46 (q := 56) zr_dX6_copy_54.2 rfl
noncomputable def dX6_copy_55 := zr_dX6_copy_55.1
noncomputable def zr_dX6_copy_56 := zo_159 (k := 6)  (q := 59) zr_dX6_copy_55.2 (by decide +kernel) rfl
noncomputable def dX6_copy_56 := zr_dX6_copy_56.1
noncomputable def zr_dX6_copy_59 := zo_16 (k := -13)  (q := 61) zr_dX6_copy_56.2 (by decide +kernel) rfl
noncomputable def dX6_copy_59 := zr_dX6_copy_59.1
noncomputable def zr_dX6_copy_61 := zo_172 (q := 62) zr_dX6_copy_59.2 rfl
noncomputable def dX6_copy_61 := zr_dX6_copy_61.1
noncomputable def zr_dX6_copy_62 := zo_21 (k := 5)  (q := 64) zr_dX6_copy_61.2 rfl rfl
noncomputable def dX6_copy_62 := zr_dX6_copy_62.1
noncomputable def zr_dX6_copy_64 := zo_155 (k := 60)  (q := 67) zr_dX6_copy_62.2 (by decide +kernel) rfl
noncomputable def dX6_copy_64 := zr_dX6_copy_64.1
noncomputable def zr_dX6_copy_67 := zo_28 (q := 68) zr_dX6_copy_64.2 rfl
noncomputable def dX6_copy_67 := zr_dX6_copy_67.1
noncomputable def zr_dX6_copy_68 := zo_155 (k := 56)  (q := 71) zr_dX6_copy_67.2 (by decide +kernel) rfl
noncomputable def dX6_copy_68 := zr_dX6_copy_68.1
noncomputable def zr_dX6_copy_71 := zo_21 (k := 4)  (q := 73) zr_dX6_copy_68.2 rfl rfl
noncomputable def dX6_copy_71 := zr_dX6_copy_71.1
noncomputable def zr_dX6_copy_73 := zo_155 (k := 51)  (q := 76) zr_dX6_copy_71.2 (by decide +kernel) rfl
noncomputable def dX6_copy_73 := zr_dX6_copy_73.1
noncomputable def zr_dX6_copy_76 := zo_28 (q := 77) zr_dX6_copy_73.2 rfl
noncomputable def dX6_copy_76 := zr_dX6_copy_76.1
noncomputable def zr_dX6_copy_77 := zo_42 (q := 78) zr_dX6_copy_76.2 rfl
noncomputable def dX6_copy_77 := zr_dX6_copy_77.1
noncomputable def zr_dX6_copy_78 := zo_180 (k := 40)  (q := 81) zr_dX6_copy_77.2 rfl rfl
noncomputable def dX6_copy_78 := zr_dX6_copy_78.1
noncomputable def zr_dX6_copy_81 := zo_27 (q := 82) zr_dX6_copy_78.2 rfl
noncomputable def dX6_copy_81 := zr_dX6_copy_81.1
noncomputable def zr_dX6_copy_82 := zo_46 (q := 83) zr_dX6_copy_81.2 rfl
noncomputable def dX6_copy_82 := zr_dX6_copy_82.1
noncomputable def zr_dX6_copy_83 := zo_163 (k := 41)  (q := 86) zr_dX6_copy_82.2 (by decide +kernel) rfl
noncomputable def dX6_copy_83 := zr_dX6_copy_83.1
noncomputable def zr_dX6_copy_86 := zo_21 (k := 4)  (q := 88) zr_dX6_copy_83.2 rfl rfl
noncomputable def dX6_copy_86 := zr_dX6_copy_86.1
noncomputable def zr_dX6_copy_88 := zo_42 (q := 89) zr_dX6_copy_86.2 rfl
noncomputable def dX6_copy_88 := zr_dX6_copy_88.1
noncomputable def zr_dX6_copy_89 := zo_180 (k := 40)  (q := 92) zr_dX6_copy_88.2 rfl rfl
noncomputable def dX6_copy_89 := zr_dX6_copy_89.1
noncomputable def zr_dX6_copy_92 := zo_29 (q := 93) zr_dX6_copy_89.2 rfl
noncomputable def dX6_copy_92 := zr_dX6_copy_92.1
noncomputable def zr_dX6_copy_93 := zo_46 (q := 94) zr_dX6_copy_92.2 rfl
noncomputable def dX6_copy_93 := zr_dX6_copy_93.1
noncomputable def zr_dX6_copy_94 := zo_163 (k := 30)  (q := 97) zr_dX6_copy_93.2 (by decide +kernel) rfl
noncomputable def dX6_copy_94 := zr_dX6_copy_94.1
noncomputable def zr_dX6_copy_97 := zo_21 (k := 5)  (q := 99) zr_dX6_copy_94.2 rfl rfl
noncomputable def dX6_copy_97 := zr_dX6_copy_97.1
noncomputable def zr_dX6_copy_99 := zo_42 (q := 100) zr_dX6_copy_97.2 rfl
noncomputable def dX6_copy_99 := zr_dX6_copy_99.1
noncomputable def zr_dX6_copy_100 := zo_180 (k := 40)  (q := 103) zr_dX6_copy_99.2 rfl rfl
noncomputable def dX6_copy_100 := zr_dX6_copy_100.1
noncomputable def zr_dX6_copy_103 := zo_27 (q := 104) zr_dX6_copy_100.2 rfl
noncomputable def dX6_copy_103 := zr_dX6_copy_103.1
noncomputable def zr_dX6_copy_104 := zo_46 (q := 105) zr_dX6_copy_103.2 rfl
noncomputable def dX6_copy_104 := zr_dX6_copy_104.1
noncomputable def zr_dX6_copy_105 := zo_28 (q := 106) zr_dX6_copy_104.2 rfl
noncomputable def dX6_copy_105 := zr_dX6_copy_105.1
noncomputable def zr_dX6_copy_106 := zo_100 (q := 107) zr_dX6_copy_105.2 rfl
noncomputable def dX6_copy_106 := zr_dX6_copy_106.1
noncomputable def zr_dX6_copy_107 := zo_163 (k := 17)  (q := 110) zr_dX6_copy_106.2 (by decide +kernel) rfl
noncomputable def dX6_copy_107 := zr_dX6_copy_107.1
noncomputable def zr_dX6_copy_110 := zo_21 (k := 5)  (q := 112) zr_dX6_copy_107.2 rfl rfl
noncomputable def dX6_copy_110 := zr_dX6_copy_110.1
noncomputable def zr_dX6_copy_112 := zo_42 (q := 113) zr_dX6_copy_110.2 rfl
noncomputable def dX6_copy_112 := zr_dX6_copy_112.1
noncomputable def zr_dX6_copy_113 := zo_180 (k := 40)  (q := 116) zr_dX6_copy_112.2 rfl rfl
noncomputable def dX6_copy_113 := zr_dX6_copy_113.1
noncomputable def zr_dX6_copy_116 := zo_29 (q := 117) zr_dX6_copy_113.2 rfl
noncomputable def dX6_copy_116 := zr_dX6_copy_116.1
noncomputable def zr_dX6_copy_117 := zo_46 (q := 118) zr_dX6_copy_116.2 rfl
noncomputable def dX6_copy_117 := zr_dX6_copy_117.1
noncomputable def zr_dX6_copy_118 := zo_21 (k := 4)  (q := 120) zr_dX6_copy_117.2 rfl rfl
noncomputable def dX6_copy_118 := zr_dX6_copy_118.1
noncomputable def zr_dX6_copy_120 := zo_100 (q := 121) zr_dX6_copy_118.2 rfl
noncomputable def dX6_copy_120 := zr_dX6_copy_120.1
noncomputable def zr_dX6_copy_121 := zo_164 (k := 6)  (q := 124) zr_dX6_copy_120.2 (by decide +kernel) rfl
noncomputable def dX6_copy_121 := zr_dX6_copy_121.1
noncomputable def zr_dX6_copy_124 := zo_16 (k := -12)  (q := 126) zr_dX6_copy_121.2 (by decide +kernel) rfl
noncomputable def dX6_copy_124 := zr_dX6_copy_124.1
noncomputable def zr_dX6_copy_126 := zo_172 (q := 127) zr_dX6_copy_124.2 rfl
noncomputable def dX6_copy_126 := zr_dX6_copy_126.1
noncomputable def zr_dX6_copy_127 := zo_16 (k := 40)  (q := 129) zr_dX6_copy_126.2 (by decide +kernel) rfl
noncomputable def dX6_copy_127 := zr_dX6_copy_127.1
noncomputable def zr_dX6_copy_129 := zo_27 (q := 130) zr_dX6_copy_127.2 rfl
noncomputable def dX6_copy_129 := zr_dX6_copy_129.1
noncomputable def zr_dX6_copy_130 := zo_104 (q := 131) zr_dX6_copy_129.2 rfl
noncomputable def dX6_copy_130 := zr_dX6_copy_130.1
noncomputable def zr_dX6_copy_131 := zo_28 (q := 132) zr_dX6_copy_130.2 rfl
noncomputable def dX6_copy_131 := zr_dX6_copy_131.1
noncomputable def zr_dX6_copy_132 := zo_96 (q := 133) zr_dX6_copy_131.2 rfl
noncomputable def dX6_copy_132 := zr_dX6_copy_132.1
noncomputable def zr_dX6_copy_133 := zo_54 (k := 6)  (q := 135) zr_dX6_copy_132.2 rfl rfl
noncomputable def dX6_copy_133 := zr_dX6_copy_133.1
noncomputable def zr_dX6_copy_135 := zo_16 (k := 40)  (q := 137) zr_dX6_copy_133.2 (by decide +kernel) rfl
noncomputable def dX6_copy_135 := zr_dX6_copy_135.1
noncomputable def zr_dX6_copy_137 := zo_29 (q := 138) zr_dX6_copy_135.2 rfl
noncomputable def dX6_copy_137 := zr_dX6_copy_137.1
noncomputable def zr_dX6_copy_138 := zo_104 (q := 139) zr_dX6_copy_137.2 rfl
noncomputable def dX6_copy_138 := zr_dX6_copy_138.1
noncomputable def zr_dX6_copy_139 := zo_21 (k := 4)  (q := 141) zr_dX6_copy_138.2 rfl rfl
noncomputable def dX6_copy_139 := zr_dX6_copy_139.1
noncomputable def zr_dX6_copy_141 := zo_96 (q := 142) zr_dX6_copy_139.2 rfl
noncomputable def dX6_copy_141 := zr_dX6_copy_141.1
noncomputable def zr_dX6_copy_142 := zo_54 (k := 7)  (q := 144) zr_dX6_copy_141.2 rfl rfl
noncomputable def dX6_copy_142 := zr_dX6_copy_142.1
noncomputable def zr_dX6_copy_144 := zo_3 (q := 145) zr_dX6_copy_142.2 rfl
noncomputable def dX6_copy_144 := zr_dX6_copy_144.1
noncomputable def zr_dX6_copy_145 := zo_54 (k := 8)  (q := 147) zr_dX6_copy_144.2 rfl rfl
noncomputable def dX6_copy_145 := zr_dX6_copy_145.1
noncomputable def zr_dX6_copy_147 := zo_21 (k := 8)  (q := 149) zr_dX6_copy_145.2 rfl rfl
noncomputable def dX6_copy_147 := zr_dX6_copy_147.1
noncomputable def zr_dX6_copy_149 := zo_21 (k := 5)  (q := 151) zr_dX6_copy_147.2 rfl rfl
noncomputable def dX6_copy_149 := zr_dX6_copy_149.1
noncomputable def zr_dX6_copy_151 := zo_162 (k := 50)  (q := 154) zr_dX6_copy_149.2 (by decide +kernel) rfl
noncomputable def dX6_copy_151 := zr_dX6_copy_151.1
noncomputable def zr_dX6_copy_154 := zo_21 (k := 6)  (q := 156) zr_dX6_copy_151.2 rfl rfl
noncomputable def dX6_copy_154 := zr_dX6_copy_154.1
noncomputable def zr_dX6_copy_156 := zo_21 (k := 7)  (q := 158) zr_dX6_copy_154.2 rfl rfl
noncomputable def dX6_copy_156 := zr_dX6_copy_156.1
noncomputable def zr_dX6_copy_158 := zo_162 (k := 13)  (q := 161) zr_dX6_copy_156.2 (by decide +kernel) rfl
noncomputable def dX6_copy_158 := zr_dX6_copy_158.1
noncomputable def zr_dX6_copy_161 := zo_21 (k := 5)  (q := 163) zr_dX6_copy_158.2 rfl rfl
noncomputable def dX6_copy_161 := zr_dX6_copy_161.1
noncomputable def zr_dX6_copy_163 := zo_4 (q := 164) zr_dX6_copy_161.2 rfl
noncomputable def dX6_copy_163 := zr_dX6_copy_163.1
noncomputable def zr_dX6_copy_164 := zo_100 (q := 165) zr_dX6_copy_163.2 rfl
noncomputable def dX6_copy_164 := zr_dX6_copy_164.1
noncomputable def zr_dX6_copy_165 := zo_21 (k := 8)  (q := 167) zr_dX6_copy_164.2 rfl rfl
noncomputable def dX6_copy_165 := zr_dX6_copy_165.1
noncomputable def zr_dX6_copy_167 := zo_100 (q := 168) zr_dX6_copy_165.2 rfl
noncomputable def dX6_copy_167 := zr_dX6_copy_167.1
noncomputable def zr_dX6_copy_168 := zo_167 (k := 5)  (q := 171) zr_dX6_copy_167.2 (by decide +kernel) rfl
noncomputable def dX6_copy_168 := zr_dX6_copy_168.1
noncomputable def zr_dX6_copy_171 := zo_21 (k := 8)  (q := 173) zr_dX6_copy_168.2 rfl rfl
noncomputable def dX6_copy_171 := zr_dX6_copy_171.1
noncomputable def zr_dX6_copy_173 := zo_54 (k := 9)  (q := 175) zr_dX6_copy_171.2 rfl rfl
noncomputable def dX6_copy_173 := zr_dX6_copy_173.1
noncomputable def zr_dX6_copy_175 := zo_42 (q := 176) zr_dX6_copy_173.2 rfl
noncomputable def dX6_copy_175 := zr_dX6_copy_175.1
noncomputable def zr_dX6_copy_176 := zo_180 (k := 43)  (q := 179) zr_dX6_copy_175.2 rfl rfl
noncomputable def dX6_copy_176 := zr_dX6_copy_176.1
noncomputable def zr_dX6_copy_179 := zo_21 (k := 7)  (q := 181) zr_dX6_copy_176.2 rfl rfl
noncomputable def dX6_copy_179 := zr_dX6_copy_179.1
noncomputable def zr_dX6_copy_181 := zo_21 (k := 9)  (q := 183) zr_dX6_copy_179.2 rfl rfl
noncomputable def dX6_copy_181 := zr_dX6_copy_181.1
noncomputable def zr_dX6_copy_183 := zo_96 (q := 184) zr_dX6_copy_181.2 rfl
noncomputable def dX6_copy_183 := zr_dX6_copy_183.1
noncomputable def zr_dX6_copy_184 := zo_42 (q := 185) zr_dX6_copy_183.2 rfl
noncomputable def dX6_copy_184 := zr_dX6_copy_184.1
noncomputable def zr_dX6_copy_185 := zo_180 (k := 43)  (q := 188) zr_dX6_copy_184.2 rfl rfl
noncomputable def dX6_copy_185 := zr_dX6_copy_185.1
noncomputable def zr_dX6_copy_188 := zo_21 (k := 6)  (q := 190) zr_dX6_copy_185.2 rfl rfl
noncomputable def dX6_copy_188 := zr_dX6_copy_188.1
noncomputable def zr_dX6_copy_190 := zo_21 (k := 9)  (q := 192) zr_dX6_copy_188.2 rfl rfl
noncomputable def dX6_copy_190 := zr_dX6_copy_190.1
noncomputable def zr_dX6_copy_192 := zo_96 (q := 193) zr_dX6_copy_190.2 rfl
noncomputable def dX6_copy_192 := zr_dX6_copy_192.1
noncomputable def zr_dX6_copy_193 := zo_46 (q := 194) zr_dX6_copy_192.2 rfl
noncomputable def dX6_copy_193 := zr_dX6_copy_193.1
noncomputable def zr_dX6_copy_194 := zo_79 (q := 195) zr_dX6_copy_193.2 rfl
noncomputable def dX6_copy_194 := zr_dX6_copy_194.1
noncomputable def zr_dX6_copy_195 := zo_132 (k := 8) (o := 1)  (q := 198) zr_dX6_copy_194.2 rfl (by decide +kernel) rfl
noncomputable def dX6_copy_195 := zr_dX6_copy_195.1
noncomputable def zr_dX6_copy_198 := zo_167 (k := -51)  (q := 201) zr_dX6_copy_195.2 (by decide +kernel) rfl
noncomputable def dX6_copy_198 := zr_dX6_copy_198.1
noncomputable def zr_dX6_copy_201 := zo_21 (k := 5)  (q := 203) zr_dX6_copy_198.2 rfl rfl
noncomputable def dX6_copy_201 := zr_dX6_copy_201.1
noncomputable def zr_dX6_copy_203 := zo_172 (q := 204) zr_dX6_copy_201.2 rfl
noncomputable def dX6_copy_203 := zr_dX6_copy_203.1
theorem zs_dX6_pebblesBy_0 : zsuf cX6_pebblesBy 0 cX6_pebblesBy.data.toList := rfl
noncomputable def zr_dX6_pebblesBy_0 := zo_27 (q := 1) zs_dX6_pebblesBy_0 rfl
noncomputable def dX6_pebblesBy_0 := zr_dX6_pebblesBy_0.1
noncomputable def zr_dX6_pebblesBy_1 := zo_3 (q := 2) zr_dX6_pebblesBy_0.2 rfl
noncomputable def dX6_pebblesBy_1 := zr_dX6_pebblesBy_1.1
noncomputable def zr_dX6_pebblesBy_2 := zo_6 (q := 3) zr_dX6_pebblesBy_1.2 rfl
noncomputable def dX6_pebblesBy_2 := zr_dX6_pebblesBy_2.1
noncomputable def zr_dX6_pebblesBy_3 := zo_184 (k := 91)  (q := 6) zr_dX6_pebblesBy_2.2 rfl rfl
noncomputable def dX6_pebblesBy_3 := zr_dX6_pebblesBy_3.1
noncomputable def zr_dX6_pebblesBy_6 := zo_153 (k := 23)  (q := 9) zr_dX6_pebblesBy_3.2 (by decide +kernel) rfl
noncomputable def dX6_pebblesBy_6 := zr_dX6_pebblesBy_6.1
noncomputable def zr_dX6_pebblesBy_9 := zo_28 (q := 10) zr_dX6_pebblesBy_6.2 rfl
noncomputable def dX6_pebblesBy_9 := zr_dX6_pebblesBy_9.1
noncomputable def zr_dX6_pebblesBy_10 := zo_3 (q := 11) zr_dX6_pebblesBy_9.2 rfl
noncomputable def dX6_pebblesBy_10 := zr_dX6_pebblesBy_10.1
noncomputable def zr_dX6_pebblesBy_11 := zo_5 (q := 12) zr_dX6_pebblesBy_10.2 rfl
noncomputable def dX6_pebblesBy_11 := zr_dX6_pebblesBy_11.1
noncomputable def zr_dX6_pebblesBy_12 := zo_184 (k := 91)  (q := 15) zr_dX6_pebblesBy_11.2 rfl rfl
noncomputable def dX6_pebblesBy_12 := zr_dX6_pebblesBy_12.1
noncomputable def zr_dX6_pebblesBy_15 := zo_153 (k := 14)  (q := 18) zr_dX6_pebblesBy_12.2 (by decide +kernel) rfl
noncomputable def dX6_pebblesBy_15 := zr_dX6_pebblesBy_15.1
noncomputable def zr_dX6_pebblesBy_18 := zo_21 (k := 4)  (q := 20) zr_dX6_pebblesBy_15.2 rfl rfl
noncomputable def dX6_pebblesBy_18 := zr_dX6_pebblesBy_18.1
noncomputable def zr_dX6_pebblesBy_20 := zo_3 (q := 21) zr_dX6_pebblesBy_18.2 rfl
noncomputable def dX6_pebblesBy_20 := zr_dX6_pebblesBy_20.1
noncomputable def zr_dX6_pebblesBy_21 := zo_16 (k := 6)  (q := 23) zr_dX6_pebblesBy_20.2 (by decide +kernel) rfl
noncomputable def dX6_pebblesBy_21 := zr_dX6_pebblesBy_21.1
noncomputable def zr_dX6_pebblesBy_23 := zo_184 (k := 91)  (q := 26) zr_dX6_pebblesBy_21.2 rfl rfl
noncomputable def dX6_pebblesBy_23 := zr_dX6_pebblesBy_23.1
noncomputable def zr_dX6_pebblesBy_26 := zo_154 (k := 6)  (q := 29) zr_dX6_pebblesBy_23.2 (by decide +kernel) rfl
noncomputable def dX6_pebblesBy_26 := zr_dX6_pebblesBy_26.1
noncomputable def zr_dX6_pebblesBy_29 := zo_16 (k := -2)  (q := 31) zr_dX6_pebblesBy_26.2 (by decide +kernel) rfl
noncomputable def dX6_pebblesBy_29 := zr_dX6_pebblesBy_29.1
noncomputable def zr_dX6_pebblesBy_31 := zo_172 (q := 32) zr_dX6_pebblesBy_29.2 rfl
noncomputable def dX6_pebblesBy_31 := zr_dX6_pebblesBy_31.1
noncomputable def zr_dX6_pebblesBy_32 := zo_42 (q := 33) zr_dX6_pebblesBy_31.2 rfl
noncomputable def dX6_pebblesBy_32 := zr_dX6_pebblesBy_32.1
noncomputable def zr_dX6_pebblesBy_33 := zo_180 (k := 37)  (q := 36) zr_dX6_pebblesBy_32.2 rfl rfl
noncomputable def dX6_pebblesBy_33 := zr_dX6_pebblesBy_33.1
noncomputable def zr_dX6_pebblesBy_36 := zo_27 (q := 37) zr_dX6_pebblesBy_33.2 rfl
noncomputable def dX6_pebblesBy_36 := zr_dX6_pebblesBy_36.1
noncomputable def zr_dX6_pebblesBy_37 := zo_46 (q := 38) zr_dX6_pebblesBy_36.2 rfl
noncomputable def dX6_pebblesBy_37 := zr_dX6_pebblesBy_37.1
noncomputable def zr_dX6_pebblesBy_38 := zo_2 (q := 39) zr_dX6_pebblesBy_37.2 rfl
noncomputable def dX6_pebblesBy_38 := zr_dX6_pebblesBy_38.1
noncomputable def zr_dX6_pebblesBy_39 := zo_160 (k := 6)  (q := 42) zr_dX6_pebblesBy_38.2 (by decide +kernel) rfl
noncomputable def dX6_pebblesBy_39 := zr_dX6_pebblesBy_39.1
noncomputable def zr_dX6_pebblesBy_42 := zo_16 (k := -11)  (q := 44) zr_dX6_pebblesBy_39.2 (by decide +kernel) rfl
noncomputable def dX6_pebblesBy_42 := zr_dX6_pebblesBy_42.1
noncomputable def zr_dX6_pebblesBy_44 := zo_172 (q := 45) zr_dX6_pebblesBy_42.2 rfl
noncomputable def dX6_pebblesBy_44 := zr_dX6_pebblesBy_44.1
noncomputable def zr_dX6_pebblesBy_45 := zo_42 (q := 46) zr_dX6_pebblesBy_44.2 rfl
noncomputable def dX6_pebblesBy_45 := zr_dX6_pebblesBy_45.1
noncomputable def zr_dX6_pebblesBy_46 := zo_180 (k := 37)  (q := 49) zr_dX6_pebblesBy_45.2 rfl rfl
noncomputable def dX6_pebblesBy_46 := zr_dX6_pebblesBy_46.1
noncomputable def zr_dX6_pebblesBy_49 := zo_27 (q := 50) zr_dX6_pebblesBy_46.2 rfl
noncomputable def dX6_pebblesBy_49 := zr_dX6_pebblesBy_49.1
noncomputable def zr_dX6_pebblesBy_50 := zo_46 (q := 51) zr_dX6_pebblesBy_49.2 rfl
noncomputable def dX6_pebblesBy_50 := zr_dX6_pebblesBy_50.1
noncomputable def zr_dX6_pebblesBy_51 := zo_28 (q := 52) zr_dX6_pebblesBy_50.2 rfl
noncomputable def dX6_pebblesBy_51 := zr_dX6_pebblesBy_51.1
noncomputable def zr_dX6_pebblesBy_52 := zo_159 (k := 6)  (q := 55) zr_dX6_pebblesBy_51.2 (by decide +kernel) rfl
noncomputable def dX6_pebblesBy_52 := zr_dX6_pebblesBy_52.1
noncomputable def zr_dX6_pebblesBy_55 := zo_16 (k := -13)  (q := 57) zr_dX6_pebblesBy_52.2 (by decide +kernel) rfl
noncomputable def dX6_pebblesBy_55 := zr_dX6_pebblesBy_55.1
noncomputable def zr_dX6_pebblesBy_57 := zo_172 (q := 58) zr_dX6_pebblesBy_55.2 rfl
noncomputable def dX6_pebblesBy_57 := zr_dX6_pebblesBy_57.1
noncomputable def zr_dX6_pebblesBy_58 := zo_3 (q := 59) zr_dX6_pebblesBy_57.2 rfl
noncomputable def dX6_pebblesBy_58 := zr_dX6_pebblesBy_58.1
noncomputable def zr_dX6_pebblesBy_59 := zo_54 (k := 5)  (q := 61) zr_dX6_pebblesBy_58.2 rfl rfl
noncomputable def dX6_pebblesBy_59 := zr_dX6_pebblesBy_59.1
noncomputable def zr_dX6_pebblesBy_61 := zo_3 (q := 62) zr_dX6_pebblesBy_59.2 rfl
noncomputable def dX6_pebblesBy_61 := zr_dX6_pebblesBy_61.1
noncomputable def zr_dX6_pebblesBy_62 := zo_54 (k := 6)  (q := 64) zr_dX6_pebblesBy_61.2 rfl rfl
noncomputable def dX6_pebblesBy_62 := zr_dX6_pebblesBy_62.1
noncomputable def zr_dX6_pebblesBy_64 := zo_21 (k := 6)  (q := 66) zr_dX6_pebblesBy_62.2 rfl rfl
noncomputable def dX6_pebblesBy_64 := zr_dX6_pebblesBy_64.1
noncomputable def zr_dX6_pebblesBy_66 := zo_21 (k := 4)  (q := 68) zr_dX6_pebblesBy_64.2 rfl rfl
noncomputable def dX6_pebblesBy_66 := zr_dX6_pebblesBy_66.1
noncomputable def zr_dX6_pebblesBy_68 := zo_162 (k := 85)  (q := 71) zr_dX6_pebblesBy_66.2 (by decide +kernel) rfl
noncomputable def dX6_pebblesBy_68 := zr_dX6_pebblesBy_68.1
noncomputable def zr_dX6_pebblesBy_71 := zo_29 (q := 72) zr_dX6_pebblesBy_68.2 rfl
noncomputable def dX6_pebblesBy_71 := zr_dX6_pebblesBy_71.1
noncomputable def zr_dX6_pebblesBy_72 := zo_5 (q := 73) zr_dX6_pebblesBy_71.2 rfl
noncomputable def dX6_pebblesBy_72 := zr_dX6_pebblesBy_72.1
noncomputable def zr_dX6_pebblesBy_73 := zo_21 (k := 6)  (q := 75) zr_dX6_pebblesBy_72.2 rfl rfl
noncomputable def dX6_pebblesBy_73 := zr_dX6_pebblesBy_73.1
noncomputable def zr_dX6_pebblesBy_75 := zo_104 (q := 76) zr_dX6_pebblesBy_73.2 rfl
noncomputable def dX6_pebblesBy_75 := zr_dX6_pebblesBy_75.1
noncomputable def zr_dX6_pebblesBy_76 := zo_96 (q := 77) zr_dX6_pebblesBy_75.2 rfl
noncomputable def dX6_pebblesBy_76 := zr_dX6_pebblesBy_76.1
noncomputable def zr_dX6_pebblesBy_77 := zo_54 (k := 7)  (q := 79) zr_dX6_pebblesBy_76.2 rfl rfl
noncomputable def dX6_pebblesBy_77 := zr_dX6_pebblesBy_77.1
noncomputable def zr_dX6_pebblesBy_79 := zo_29 (q := 80) zr_dX6_pebblesBy_77.2 rfl
noncomputable def dX6_pebblesBy_79 := zr_dX6_pebblesBy_79.1
noncomputable def zr_dX6_pebblesBy_80 := zo_155 (k := 22)  (q := 83) zr_dX6_pebblesBy_79.2 (by decide +kernel) rfl
noncomputable def dX6_pebblesBy_80 := zr_dX6_pebblesBy_80.1
noncomputable def zr_dX6_pebblesBy_83 := zo_21 (k := 7)  (q := 85) zr_dX6_pebblesBy_80.2 rfl rfl
noncomputable def dX6_pebblesBy_83 := zr_dX6_pebblesBy_83.1
noncomputable def zr_dX6_pebblesBy_85 := zo_29 (q := 86) zr_dX6_pebblesBy_83.2 rfl
noncomputable def dX6_pebblesBy_85 := zr_dX6_pebblesBy_85.1
noncomputable def zr_dX6_pebblesBy_86 := zo_161 (k := 16)  (q := 89) zr_dX6_pebblesBy_85.2 (by decide +kernel) rfl
noncomputable def dX6_pebblesBy_86 := zr_dX6_pebblesBy_86.1
noncomputable def zr_dX6_pebblesBy_89 := zo_21 (k := 7)  (q := 91) zr_dX6_pebblesBy_86.2 rfl rfl
noncomputable def dX6_pebblesBy_89 := zr_dX6_pebblesBy_89.1
noncomputable def zr_dX6_pebblesBy_91 := zo_42 (q := 92) zr_dX6_pebblesBy_89.2 rfl
noncomputable def dX6_pebblesBy_91 := zr_dX6_pebblesBy_91.1
noncomputable def zr_dX6_pebblesBy_92 := zo_180 (k := 40)  (q := 95) zr_dX6_pebblesBy_91.2 rfl rfl
noncomputable def dX6_pebblesBy_92 := zr_dX6_pebblesBy_92.1
noncomputable def zr_dX6_pebblesBy_95 := zo_27 (q := 96) zr_dX6_pebblesBy_92.2 rfl
noncomputable def dX6_pebblesBy_95 := zr_dX6_pebblesBy_95.1
noncomputable def zr_dX6_pebblesBy_96 := zo_46 (q := 97) zr_dX6_pebblesBy_95.2 rfl
noncomputable def dX6_pebblesBy_96 := zr_dX6_pebblesBy_96.1
noncomputable def zr_dX6_pebblesBy_97 := zo_5 (q := 98) zr_dX6_pebblesBy_96.2 rfl
noncomputable def dX6_pebblesBy_97 := zr_dX6_pebblesBy_97.1
noncomputable def zr_dX6_pebblesBy_98 := zo_100 (q := 99) zr_dX6_pebblesBy_97.2 rfl
noncomputable def dX6_pebblesBy_98 := zr_dX6_pebblesBy_98.1
noncomputable def zr_dX6_pebblesBy_99 := zo_164 (k := 6)  (q := 102) zr_dX6_pebblesBy_98.2 (by decide +kernel) rfl
noncomputable def dX6_pebblesBy_99 := zr_dX6_pebblesBy_99.1
noncomputable def zr_dX6_pebblesBy_102 := zo_16 (k := -12)  (q := 104) zr_dX6_pebblesBy_99.2 (by decide +kernel) rfl
noncomputable def dX6_pebblesBy_102 := zr_dX6_pebblesBy_102.1
noncomputable def zr_dX6_pebblesBy_104 := zo_172 (q := 105) zr_dX6_pebblesBy_102.2 rfl
noncomputable def dX6_pebblesBy_104 := zr_dX6_pebblesBy_104.1
noncomputable def zr_dX6_pebblesBy_105 := zo_16 (k := 40)  (q := 107) zr_dX6_pebblesBy_104.2 (by decide +kernel) rfl
noncomputable def dX6_pebblesBy_105 := zr_dX6_pebblesBy_105.1
noncomputable def zr_dX6_pebblesBy_107 := zo_27 (q := 108) zr_dX6_pebblesBy_105.2 rfl
noncomputable def dX6_pebblesBy_107 := zr_dX6_pebblesBy_107.1
noncomputable def zr_dX6_pebblesBy_108 := zo_104 (q := 109) zr_dX6_pebblesBy_107.2 rfl
noncomputable def dX6_pebblesBy_108 := zr_dX6_pebblesBy_108.1
noncomputable def zr_dX6_pebblesBy_109 := zo_21 (k := 7)  (q := 111) zr_dX6_pebblesBy_108.2 rfl rfl
noncomputable def dX6_pebblesBy_109 := zr_dX6_pebblesBy_109.1
noncomputable def zr_dX6_pebblesBy_111 := zo_96 (q := 112) zr_dX6_pebblesBy_109.2 rfl
noncomputable def dX6_pebblesBy_111 := zr_dX6_pebblesBy_111.1
noncomputable def zr_dX6_pebblesBy_112 := zo_54 (k := 8)  (q := 114) zr_dX6_pebblesBy_111.2 rfl rfl
noncomputable def dX6_pebblesBy_112 := zr_dX6_pebblesBy_112.1
noncomputable def zr_dX6_pebblesBy_114 := zo_21 (k := 5)  (q := 116) zr_dX6_pebblesBy_112.2 rfl rfl
noncomputable def dX6_pebblesBy_114 := zr_dX6_pebblesBy_114.1
noncomputable def zr_dX6_pebblesBy_116 := zo_42 (q := 117) zr_dX6_pebblesBy_114.2 rfl
noncomputable def dX6_pebblesBy_116 := zr_dX6_pebblesBy_116.1
noncomputable def zr_dX6_pebblesBy_117 := zo_42 (q := 118) zr_dX6_pebblesBy_116.2 rfl
noncomputable def dX6_pebblesBy_117 := zr_dX6_pebblesBy_117.1
noncomputable def zr_dX6_pebblesBy_118 := zo_180 (k := 43)  (q := 121) zr_dX6_pebblesBy_117.2 rfl rfl
noncomputable def dX6_pebblesBy_118 := zr_dX6_pebblesBy_118.1
noncomputable def zr_dX6_pebblesBy_121 := zo_21 (k := 8)  (q := 123) zr_dX6_pebblesBy_118.2 rfl rfl
noncomputable def dX6_pebblesBy_121 := zr_dX6_pebblesBy_121.1
noncomputable def zr_dX6_pebblesBy_123 := zo_46 (q := 124) zr_dX6_pebblesBy_121.2 rfl
noncomputable def dX6_pebblesBy_123 := zr_dX6_pebblesBy_123.1
noncomputable def zr_dX6_pebblesBy_124 := zo_42 (q := 125) zr_dX6_pebblesBy_123.2 rfl
noncomputable def dX6_pebblesBy_124 := zr_dX6_pebblesBy_124.1
noncomputable def zr_dX6_pebblesBy_125 := zo_180 (k := 43)  (q := 128) zr_dX6_pebblesBy_124.2 rfl rfl
noncomputable def dX6_pebblesBy_125 := zr_dX6_pebblesBy_125.1
noncomputable def zr_dX6_pebblesBy_128 := zo_21 (k := 8)  (q := 130) zr_dX6_pebblesBy_125.2 rfl rfl
noncomputable def dX6_pebblesBy_128 := zr_dX6_pebblesBy_128.1
noncomputable def zr_dX6_pebblesBy_130 := zo_4 (q := 131) zr_dX6_pebblesBy_128.2 rfl
noncomputable def dX6_pebblesBy_130 := zr_dX6_pebblesBy_130.1
noncomputable def zr_dX6_pebblesBy_131 := zo_96 (q := 132) zr_dX6_pebblesBy_130.2 rfl
noncomputable def dX6_pebblesBy_131 := zr_dX6_pebblesBy_131.1
noncomputable def zr_dX6_pebblesBy_132 := zo_46 (q := 133) zr_dX6_pebblesBy_131.2 rfl
noncomputable def dX6_pebblesBy_132 := zr_dX6_pebblesBy_132.1
noncomputable def zr_dX6_pebblesBy_133 := zo_182 (k := 277)  (q := 136) zr_dX6_pebblesBy_132.2 rfl rfl
noncomputable def dX6_pebblesBy_133 := zr_dX6_pebblesBy_133.1
noncomputable def zr_dX6_pebblesBy_136 := zo_155 (k := 7)  (q := 139) zr_dX6_pebblesBy_133.2 (by decide +kernel) rfl
noncomputable def dX6_pebblesBy_136 := zr_dX6_pebblesBy_136.1
noncomputable def zr_dX6_pebblesBy_139 := zo_4 (q := 140) zr_dX6_pebblesBy_136.2 rfl
noncomputable def dX6_pebblesBy_139 := zr_dX6_pebblesBy_139.1
noncomputable def zr_dX6_pebblesBy_140 := zo_167 (k := 4)  (q := 143) zr_dX6_pebblesBy_139.2 (by decide +kernel) rfl
noncomputable def dX6_pebblesBy_140 := zr_dX6_pebblesBy_140.1
noncomputable def zr_dX6_pebblesBy_143 := zo_3 (q := 144) zr_dX6_pebblesBy_140.2 rfl
noncomputable def dX6_pebblesBy_143 := zr_dX6_pebblesBy_143.1
noncomputable def zr_dX6_pebblesBy_144 := zo_96 (q := 145) zr_dX6_pebblesBy_143.2 rfl
noncomputable def dX6_pebblesBy_144 := zr_dX6_pebblesBy_144.1
noncomputable def zr_dX6_pebblesBy_145 := zo_54 (k := 5)  (q := 147) zr_dX6_pebblesBy_144.2 rfl rfl
noncomputable def dX6_pebblesBy_145 := zr_dX6_pebblesBy_145.1
noncomputable def zr_dX6_pebblesBy_147 := zo_132 (k := 6) (o := 1)  (q := 150) zr_dX6_pebblesBy_145.2 rfl (by decide +kernel) rfl
noncomputable def dX6_pebblesBy_147 := zr_dX6_pebblesBy_147.1
noncomputable def zr_dX6_pebblesBy_150 := zo_167 (k := -86)  (q := 153) zr_dX6_pebblesBy_147.2 (by decide +kernel) rfl
noncomputable def dX6_pebblesBy_150 := zr_dX6_pebblesBy_150.1
noncomputable def zr_dX6_pebblesBy_153 := zo_21 (k := 5)  (q := 155) zr_dX6_pebblesBy_150.2 rfl rfl
noncomputable def dX6_pebblesBy_153 := zr_dX6_pebblesBy_153.1
noncomputable def zr_dX6_pebblesBy_155 := zo_172 (q := 156) zr_dX6_pebblesBy_153.2 rfl
noncomputable def dX6_pebblesBy_155 := zr_dX6_pebblesBy_155.1
theorem zs_dX6_isUnder_0 : zsuf cX6_isUnder 0 cX6_isUnder.data.toList := rfl
noncomputable def zr_dX6_isUnder_0 := zo_27 (q := 1) zs_dX6_isUnder_0 rfl
noncomputable def dX6_isUnder_0 := zr_dX6_isUnder_0.1
noncomputable def zr_dX6_isUnder_1 := zo_153 (k := 28)  (q := 4) zr_dX6_isUnder_0.2 (by decide +kernel) rfl
noncomputable def dX6_isUnder_1 := zr_dX6_isUnder_1.1
noncomputable def zr_dX6_isUnder_4 := zo_26 (q := 5) zr_dX6_isUnder_1.2 rfl
noncomputable def dX6_isUnder_4 := zr_dX6_isUnder_4.1
noncomputable def zr_dX6_isUnder_5 := zo_27 (q := 6) zr_dX6_isUnder_4.2 rfl
noncomputable def dX6_isUnder_5 := zr_dX6_isUnder_5.1
noncomputable def zr_dX6_isUnder_6 := zo_159 (k := 23)  (q := 9) zr_dX6_isUnder_5.2 (by decide +kernel) rfl
noncomputable def dX6_isUnder_6 := zr_dX6_isUnder_6.1
noncomputable def zr_dX6_isUnder_9 := zo_27 (q := 10) zr_dX6_isUnder_6.2 rfl
noncomputable def dX6_isUnder_9 := zr_dX6_isUnder_9.1
noncomputable def zr_dX6_isUnder_10 := zo_4 (q := 11) zr_dX6_isUnder_9.2 rfl
noncomputable def dX6_isUnder_10 := zr_dX6_isUnder_10.1
noncomputable def zr_dX6_isUnder_11 := zo_160 (k := 8)  (q := 14) zr_dX6_isUnder_10.2 (by decide +kernel) rfl
noncomputable def dX6_isUnder_11 := zr_dX6_isUnder_11.1
noncomputable def zr_dX6_isUnder_14 := zo_26 (q := 15) zr_dX6_isUnder_11.2 rfl
noncomputable def dX6_isUnder_14 := zr_dX6_isUnder_14.1
noncomputable def zr_dX6_isUnder_15 := zo_6 (q := 16) zr_dX6_isUnder_14.2 rfl
noncomputable def dX6_isUnder_15 := zr_dX6_isUnder_15.1
noncomputable def zr_dX6_isUnder_16 := zo_159 (k := 13)  (q := 19) zr_dX6_isUnder_15.2 (by decide +kernel) rfl
noncomputable def dX6_isUnder_16 := zr_dX6_isUnder_16.1
noncomputable def zr_dX6_isUnder_19 := zo_27 (q := 20) zr_dX6_isUnder_16.2 rfl
noncomputable def dX6_isUnder_19 := zr_dX6_isUnder_19.1
noncomputable def zr_dX6_isUnder_20 := zo_5 (q := 21) zr_dX6_isUnder_19.2 rfl
noncomputable def dX6_isUnder_20 := zr_dX6_isUnder_20.1
noncomputable def zr_dX6_isUnder_21 := zo_160 (k := 12)  (q := 24) zr_dX6_isUnder_20.2 (by decide +kernel) rfl
noncomputable def dX6_isUnder_21 := zr_dX6_isUnder_21.1
noncomputable def zr_dX6_isUnder_24 := zo_26 (q := 25) zr_dX6_isUnder_21.2 rfl
noncomputable def dX6_isUnder_24 := zr_dX6_isUnder_24.1
noncomputable def zr_dX6_isUnder_25 := zo_7 (q := 26) zr_dX6_isUnder_24.2 rfl
noncomputable def dX6_isUnder_25 := zr_dX6_isUnder_25.1
noncomputable def zr_dX6_isUnder_26 := zo_160 (k := 7)  (q := 29) zr_dX6_isUnder_25.2 (by decide +kernel) rfl
noncomputable def dX6_isUnder_26 := zr_dX6_isUnder_26.1
noncomputable def zr_dX6_isUnder_29 := zo_4 (q := 30) zr_dX6_isUnder_26.2 rfl
noncomputable def dX6_isUnder_29 := zr_dX6_isUnder_29.1
noncomputable def zr_dX6_isUnder_30 := zo_167 (k := 4)  (q := 33) zr_dX6_isUnder_29.2 (by decide +kernel) rfl
noncomputable def dX6_isUnder_30 := zr_dX6_isUnder_30.1
noncomputable def zr_dX6_isUnder_33 := zo_3 (q := 34) zr_dX6_isUnder_30.2 rfl
noncomputable def dX6_isUnder_33 := zr_dX6_isUnder_33.1
noncomputable def zr_dX6_isUnder_34 := zo_172 (q := 35) zr_dX6_isUnder_33.2 rfl
noncomputable def dX6_isUnder_34 := zr_dX6_isUnder_34.1
theorem zs_dX6_taken_0 : zsuf cX6_taken 0 cX6_taken.data.toList := rfl
noncomputable def zr_dX6_taken_0 := zo_28 (q := 1) zs_dX6_taken_0 rfl
noncomputable def dX6_taken_0 := zr_dX6_taken_0.1
noncomputable def zr_dX6_taken_1 := zo_3 (q := 2) zr_dX6_taken_0.2 rfl
noncomputable def dX6_taken_1 := zr_dX6_taken_1.1
noncomputable def zr_dX6_taken_2 := zo_16 (k := 6)  (q := 4) zr_dX6_taken_1.2 (by decide +kernel) rfl
noncomputable def dX6_taken_2 := zr_dX6_taken_2.1
noncomputable def zr_dX6_taken_4 := zo_184 (k := 91)  (q := 7) zr_dX6_taken_2.2 rfl rfl
noncomputable def dX6_taken_4 := zr_dX6_taken_4.1
noncomputable def zr_dX6_taken_7 := zo_154 (k := 7)  (q := 10) zr_dX6_taken_4.2 (by decide +kernel) rfl
noncomputable def dX6_taken_7 := zr_dX6_taken_7.1
noncomputable def zr_dX6_taken_10 := zo_20 (k := 280)  (q := 13) zr_dX6_taken_7.2 rfl rfl
noncomputable def dX6_taken_10 := zr_dX6_taken_10.1
noncomputable def zr_dX6_taken_13 := zo_173 (q := 14) zr_dX6_taken_10.2 rfl
noncomputable def dX6_taken_13 := zr_dX6_taken_13.1
noncomputable def zr_dX6_taken_14 := zo_27 (q := 15) zr_dX6_taken_13.2 rfl
noncomputable def dX6_taken_14 := zr_dX6_taken_14.1
noncomputable def zr_dX6_taken_15 := zo_3 (q := 16) zr_dX6_taken_14.2 rfl
noncomputable def dX6_taken_15 := zr_dX6_taken_15.1
noncomputable def zr_dX6_taken_16 := zo_16 (k := 9)  (q := 18) zr_dX6_taken_15.2 (by decide +kernel) rfl
noncomputable def dX6_taken_16 := zr_dX6_taken_16.1
noncomputable def zr_dX6_taken_18 := zo_184 (k := 91)  (q := 21) zr_dX6_taken_16.2 rfl rfl
noncomputable def dX6_taken_18 := zr_dX6_taken_18.1
noncomputable def zr_dX6_taken_21 := zo_154 (k := 7)  (q := 24) zr_dX6_taken_18.2 (by decide +kernel) rfl
noncomputable def dX6_taken_21 := zr_dX6_taken_21.1
noncomputable def zr_dX6_taken_24 := zo_20 (k := 282)  (q := 27) zr_dX6_taken_21.2 rfl rfl
noncomputable def dX6_taken_24 := zr_dX6_taken_24.1
noncomputable def zr_dX6_taken_27 := zo_173 (q := 28) zr_dX6_taken_24.2 rfl
noncomputable def dX6_taken_27 := zr_dX6_taken_27.1
noncomputable def zr_dX6_taken_28 := zo_27 (q := 29) zr_dX6_taken_27.2 rfl
noncomputable def dX6_taken_28 := zr_dX6_taken_28.1
noncomputable def zr_dX6_taken_29 := zo_16 (k := 6)  (q := 31) zr_dX6_taken_28.2 (by decide +kernel) rfl
noncomputable def dX6_taken_29 := zr_dX6_taken_29.1
noncomputable def zr_dX6_taken_31 := zo_161 (k := 47)  (q := 34) zr_dX6_taken_29.2 (by decide +kernel) rfl
noncomputable def dX6_taken_31 := zr_dX6_taken_31.1
noncomputable def zr_dX6_taken_34 := zo_27 (q := 35) zr_dX6_taken_31.2 rfl
noncomputable def dX6_taken_34 := zr_dX6_taken_34.1
noncomputable def zr_dX6_taken_35 := zo_16 (k := 6)  (q := 37) zr_dX6_taken_34.2 (by decide +kernel) rfl
noncomputable def dX6_taken_35 := zr_dX6_taken_35.1
noncomputable def zr_dX6_taken_37 := zo_100 (q := 38) zr_dX6_taken_35.2 rfl
noncomputable def dX6_taken_37 := zr_dX6_taken_37.1
noncomputable def zr_dX6_taken_38 := zo_42 (q := 39) zr_dX6_taken_37.2 rfl
noncomputable def dX6_taken_38 := zr_dX6_taken_38.1
noncomputable def zr_dX6_taken_39 := zo_180 (k := 95)  (q := 42) zr_dX6_taken_38.2 rfl rfl
noncomputable def dX6_taken_39 := zr_dX6_taken_39.1
noncomputable def zr_dX6_taken_42 := zo_161 (k := 9)  (q := 45) zr_dX6_taken_39.2 (by decide +kernel) rfl
noncomputable def dX6_taken_42 := zr_dX6_taken_42.1
noncomputable def zr_dX6_taken_45 := zo_20 (k := 284)  (q := 48) zr_dX6_taken_42.2 rfl rfl
noncomputable def dX6_taken_45 := zr_dX6_taken_45.1
noncomputable def zr_dX6_taken_48 := zo_167 (k := 29)  (q := 51) zr_dX6_taken_45.2 (by decide +kernel) rfl
noncomputable def dX6_taken_48 := zr_dX6_taken_48.1
noncomputable def zr_dX6_taken_51 := zo_28 (q := 52) zr_dX6_taken_48.2 rfl
noncomputable def dX6_taken_51 := zr_dX6_taken_51.1
noncomputable def zr_dX6_taken_52 := zo_16 (k := 6)  (q := 54) zr_dX6_taken_51.2 (by decide +kernel) rfl
noncomputable def dX6_taken_52 := zr_dX6_taken_52.1
noncomputable def zr_dX6_taken_54 := zo_160 (k := 20)  (q := 57) zr_dX6_taken_52.2 (by decide +kernel) rfl
noncomputable def dX6_taken_54 := zr_dX6_taken_54.1
noncomputable def zr_dX6_taken_57 := zo_42 (q := 58) zr_dX6_taken_54.2 rfl
noncomputable def dX6_taken_57 := zr_dX6_taken_57.1
noncomputable def zr_dX6_taken_58 := zo_180 (k := 19)  (q := 61) zr_dX6_taken_57.2 rfl rfl
noncomputable def dX6_taken_58 := zr_dX6_taken_58.1
noncomputable def zr_dX6_taken_61 := zo_6 (q := 62) zr_dX6_taken_58.2 rfl
noncomputable def dX6_taken_61 := zr_dX6_taken_61.1
noncomputable def zr_dX6_taken_62 := zo_27 (q := 63) zr_dX6_taken_61.2 rfl
noncomputable def dX6_taken_62 := zr_dX6_taken_62.1
noncomputable def zr_dX6_taken_63 := zo_16 (k := 6)  (q := 65) zr_dX6_taken_62.2 (by decide +kernel) rfl
noncomputable def dX6_taken_63 := zr_dX6_taken_63.1
noncomputable def zr_dX6_taken_65 := zo_100 (q := 66) zr_dX6_taken_63.2 rfl
noncomputable def dX6_taken_65 := zr_dX6_taken_65.1
noncomputable def zr_dX6_taken_66 := zo_104 (q := 67) zr_dX6_taken_65.2 rfl
noncomputable def dX6_taken_66 := zr_dX6_taken_66.1
noncomputable def zr_dX6_taken_67 := zo_5 (q := 68) zr_dX6_taken_66.2 rfl
noncomputable def dX6_taken_67 := zr_dX6_taken_67.1
noncomputable def zr_dX6_taken_68 := zo_96 (q := 69) zr_dX6_taken_67.2 rfl
noncomputable def dX6_taken_68 := zr_dX6_taken_68.1
noncomputable def zr_dX6_taken_69 := zo_46 (q := 70) zr_dX6_taken_68.2 rfl
noncomputable def dX6_taken_69 := zr_dX6_taken_69.1
noncomputable def zr_dX6_taken_70 := zo_133 (q := 71) zr_dX6_taken_69.2 rfl
noncomputable def dX6_taken_70 := zr_dX6_taken_70.1
noncomputable def zr_dX6_taken_71 := zo_167 (k := 6)  (q := 74) zr_dX6_taken_70.2 (by decide +kernel) rfl
noncomputable def dX6_taken_71 := zr_dX6_taken_71.1
noncomputable def zr_dX6_taken_74 := zo_20 (k := 286)  (q := 77) zr_dX6_taken_71.2 rfl rfl
noncomputable def dX6_taken_74 := zr_dX6_taken_74.1
noncomputable def zr_dX6_taken_77 := zo_173 (q := 78) zr_dX6_taken_74.2 rfl
noncomputable def dX6_taken_77 := zr_dX6_taken_77.1
noncomputable def zr_dX6_taken_78 := zo_27 (q := 79) zr_dX6_taken_77.2 rfl
noncomputable def dX6_taken_78 := zr_dX6_taken_78.1
noncomputable def zr_dX6_taken_79 := zo_42 (q := 80) zr_dX6_taken_78.2 rfl
noncomputable def dX6_taken_79 := zr_dX6_taken_79.1
noncomputable def zr_dX6_taken_80 := zo_180 (k := 88)  (q := 83) zr_dX6_taken_79.2 rfl rfl
noncomputable def dX6_taken_80 := zr_dX6_taken_80.1
noncomputable def zr_dX6_taken_83 := zo_161 (k := 9)  (q := 86) zr_dX6_taken_80.2 (by decide +kernel) rfl
noncomputable def dX6_taken_83 := zr_dX6_taken_83.1
noncomputable def zr_dX6_taken_86 := zo_20 (k := 284)  (q := 89) zr_dX6_taken_83.2 rfl rfl
noncomputable def dX6_taken_86 := zr_dX6_taken_86.1
noncomputable def zr_dX6_taken_89 := zo_167 (k := 30)  (q := 92) zr_dX6_taken_86.2 (by decide +kernel) rfl
noncomputable def dX6_taken_89 := zr_dX6_taken_89.1
noncomputable def zr_dX6_taken_92 := zo_28 (q := 93) zr_dX6_taken_89.2 rfl
noncomputable def dX6_taken_92 := zr_dX6_taken_92.1
noncomputable def zr_dX6_taken_93 := zo_16 (k := 6)  (q := 95) zr_dX6_taken_92.2 (by decide +kernel) rfl
noncomputable def dX6_taken_93 := zr_dX6_taken_93.1
noncomputable def zr_dX6_taken_95 := zo_162 (k := 21)  (q := 98) zr_dX6_taken_93.2 (by decide +kernel) rfl
noncomputable def dX6_taken_95 := zr_dX6_taken_95.1
noncomputable def zr_dX6_taken_98 := zo_42 (q := 99) zr_dX6_taken_95.2 rfl
noncomputable def dX6_taken_98 := zr_dX6_taken_98.1
noncomputable def zr_dX6_taken_99 := zo_180 (k := 7)  (q := 102) zr_dX6_taken_98.2 rfl rfl
noncomputable def dX6_taken_99 := zr_dX6_taken_99.1
noncomputable def zr_dX6_taken_102 := zo_27 (q := 103) zr_dX6_taken_99.2 rfl
noncomputable def dX6_taken_102 := zr_dX6_taken_102.1
noncomputable def zr_dX6_taken_103 := zo_46 (q := 104) zr_dX6_taken_102.2 rfl
noncomputable def dX6_taken_103 := zr_dX6_taken_103.1
noncomputable def zr_dX6_taken_104 := zo_28 (q := 105) zr_dX6_taken_103.2 rfl
noncomputable def dX6_taken_104 := zr_dX6_taken_104.1
noncomputable def zr_dX6_taken_105 := zo_184 (k := 288)  (q := 108) zr_dX6_taken_104.2 rfl rfl
noncomputable def dX6_taken_105 := zr_dX6_taken_105.1
noncomputable def zr_dX6_taken_108 := zo_153 (k := 8)  (q := 111) zr_dX6_taken_105.2 (by decide +kernel) rfl
noncomputable def dX6_taken_108 := zr_dX6_taken_108.1
noncomputable def zr_dX6_taken_111 := zo_27 (q := 112) zr_dX6_taken_108.2 rfl
noncomputable def dX6_taken_111 := zr_dX6_taken_111.1
noncomputable def zr_dX6_taken_112 := zo_133 (q := 113) zr_dX6_taken_111.2 rfl
noncomputable def dX6_taken_112 := zr_dX6_taken_112.1
noncomputable def zr_dX6_taken_113 := zo_167 (k := 6)  (q := 116) zr_dX6_taken_112.2 (by decide +kernel) rfl
noncomputable def dX6_taken_113 := zr_dX6_taken_113.1
noncomputable def zr_dX6_taken_116 := zo_20 (k := 286)  (q := 119) zr_dX6_taken_113.2 rfl rfl
noncomputable def dX6_taken_116 := zr_dX6_taken_116.1
noncomputable def zr_dX6_taken_119 := zo_173 (q := 120) zr_dX6_taken_116.2 rfl
noncomputable def dX6_taken_119 := zr_dX6_taken_119.1
theorem zs_dJ11_isValidCodePoint_9a6ad_0 : zsuf cJ11_isValidCodePoint_9a6ad 0 cJ11_isValidCodePoint_9a6ad.data.toList := rfl
noncomputable def zr_dJ11_isValidCodePoint_9a6ad_0 := zo_26 (q := 1) zs_dJ11_isValidCodePoint_9a6ad_0 rfl
noncomputable def dJ11_isValidCodePoint_9a6ad_0 := zr_dJ11_isValidCodePoint_9a6ad_0.1
noncomputable def zr_dJ11_isValidCodePoint_9a6ad_1 := zo_16 (k := 16)  (q := 3) zr_dJ11_isValidCodePoint_9a6ad_0.2 (by decide +kernel) rfl
noncomputable def dJ11_isValidCodePoint_9a6ad_1 := zr_dJ11_isValidCodePoint_9a6ad_1.1
theorem zo_124 {c : ByteArray} {p q : Nat} {L : List UInt8} (h : zsuf c p (124 :: L)) (hq : p + 1 = q) : zD c p .iushr 1 ∧ zsuf c q L := zfin hq (Eq.trans (zbd (zu1 (v := 124) h rfl)) rfl) (zsuf_tl h)
noncomputable def zr_dJ11_isValidCodePoint_9a6ad_3 := zo_124 (q := 4) zr_dJ11_isValidCodePoint_9a6ad_1.2 rfl
noncomputable def dJ11_isValidCodePoint_9a6ad_3 := zr_dJ11_isValidCodePoint_9a6ad_3.1
noncomputable def zr_dJ11_isValidCodePoint_9a6ad_4 := zo_60 (q := 5) zr_dJ11_isValidCodePoint_9a6ad_3.2 rfl
noncomputable def dJ11_isValidCodePoint_9a6ad_4 := zr_dJ11_isValidCodePoint_9a6ad_4.1
noncomputable def zr_dJ11_isValidCodePoint_9a6ad_5 := zo_27 (q := 6) zr_dJ11_isValidCodePoint_9a6ad_4.2 rfl
noncomputable def dJ11_isValidCodePoint_9a6ad_5 := zr_dJ11_isValidCodePoint_9a6ad_5.1
noncomputable def zr_dJ11_isValidCodePoint_9a6ad_6 := zo_16 (k := 17)  (q := 8) zr_dJ11_isValidCodePoint_9a6ad_5.2 (by decide +kernel) rfl
noncomputable def dJ11_isValidCodePoint_9a6ad_6 := zr_dJ11_isValidCodePoint_9a6ad_6.1
noncomputable def zr_dJ11_isValidCodePoint_9a6ad_8 := zo_162 (k := 7)  (q := 11) zr_dJ11_isValidCodePoint_9a6ad_6.2 (by decide +kernel) rfl
noncomputable def dJ11_isValidCodePoint_9a6ad_8 := zr_dJ11_isValidCodePoint_9a6ad_8.1
noncomputable def zr_dJ11_isValidCodePoint_9a6ad_11 := zo_4 (q := 12) zr_dJ11_isValidCodePoint_9a6ad_8.2 rfl
noncomputable def dJ11_isValidCodePoint_9a6ad_11 := zr_dJ11_isValidCodePoint_9a6ad_11.1
noncomputable def zr_dJ11_isValidCodePoint_9a6ad_12 := zo_167 (k := 4)  (q := 15) zr_dJ11_isValidCodePoint_9a6ad_11.2 (by decide +kernel) rfl
noncomputable def dJ11_isValidCodePoint_9a6ad_12 := zr_dJ11_isValidCodePoint_9a6ad_12.1
noncomputable def zr_dJ11_isValidCodePoint_9a6ad_15 := zo_3 (q := 16) zr_dJ11_isValidCodePoint_9a6ad_12.2 rfl
noncomputable def dJ11_isValidCodePoint_9a6ad_15 := zr_dJ11_isValidCodePoint_9a6ad_15.1
noncomputable def zr_dJ11_isValidCodePoint_9a6ad_16 := zo_172 (q := 17) zr_dJ11_isValidCodePoint_9a6ad_15.2 rfl
noncomputable def dJ11_isValidCodePoint_9a6ad_16 := zr_dJ11_isValidCodePoint_9a6ad_16.1
theorem zs_dJ11_highSurrogate_5068e_0 : zsuf cJ11_highSurrogate_5068e 0 cJ11_highSurrogate_5068e.data.toList := rfl
noncomputable def zr_dJ11_highSurrogate_5068e_0 := zo_26 (q := 1) zs_dJ11_highSurrogate_5068e_0 rfl
noncomputable def dJ11_highSurrogate_5068e_0 := zr_dJ11_highSurrogate_5068e_0.1
noncomputable def zr_dJ11_highSurrogate_5068e_1 := zo_16 (k := 10)  (q := 3) zr_dJ11_highSurrogate_5068e_0.2 (by decide +kernel) rfl
noncomputable def dJ11_highSurrogate_5068e_1 := zr_dJ11_highSurrogate_5068e_1.1
noncomputable def zr_dJ11_highSurrogate_5068e_3 := zo_124 (q := 4) zr_dJ11_highSurrogate_5068e_1.2 rfl
noncomputable def dJ11_highSurrogate_5068e_3 := zr_dJ11_highSurrogate_5068e_3.1
noncomputable def zr_dJ11_highSurrogate_5068e_4 := zo_18 (k := 110)  (q := 6) zr_dJ11_highSurrogate_5068e_3.2 rfl rfl
noncomputable def dJ11_highSurrogate_5068e_4 := zr_dJ11_highSurrogate_5068e_4.1
noncomputable def zr_dJ11_highSurrogate_5068e_6 := zo_96 (q := 7) zr_dJ11_highSurrogate_5068e_4.2 rfl
noncomputable def dJ11_highSurrogate_5068e_6 := zr_dJ11_highSurrogate_5068e_6.1
noncomputable def zr_dJ11_highSurrogate_5068e_7 := zo_146 (q := 8) zr_dJ11_highSurrogate_5068e_6.2 rfl
noncomputable def dJ11_highSurrogate_5068e_7 := zr_dJ11_highSurrogate_5068e_7.1
noncomputable def zr_dJ11_highSurrogate_5068e_8 := zo_172 (q := 9) zr_dJ11_highSurrogate_5068e_7.2 rfl
noncomputable def dJ11_highSurrogate_5068e_8 := zr_dJ11_highSurrogate_5068e_8.1
theorem zs_dJ11_lowSurrogate_5068e_0 : zsuf cJ11_lowSurrogate_5068e 0 cJ11_lowSurrogate_5068e.data.toList := rfl
noncomputable def zr_dJ11_lowSurrogate_5068e_0 := zo_26 (q := 1) zs_dJ11_lowSurrogate_5068e_0 rfl
noncomputable def dJ11_lowSurrogate_5068e_0 := zr_dJ11_lowSurrogate_5068e_0.1
noncomputable def zr_dJ11_lowSurrogate_5068e_1 := zo_17 (k := 1023)  (q := 4) zr_dJ11_lowSurrogate_5068e_0.2 (by decide +kernel) rfl
noncomputable def dJ11_lowSurrogate_5068e_1 := zr_dJ11_lowSurrogate_5068e_1.1
noncomputable def zr_dJ11_lowSurrogate_5068e_4 := zo_126 (q := 5) zr_dJ11_lowSurrogate_5068e_1.2 rfl
noncomputable def dJ11_lowSurrogate_5068e_4 := zr_dJ11_lowSurrogate_5068e_4.1
noncomputable def zr_dJ11_lowSurrogate_5068e_5 := zo_18 (k := 76)  (q := 7) zr_dJ11_lowSurrogate_5068e_4.2 rfl rfl
noncomputable def dJ11_lowSurrogate_5068e_5 := zr_dJ11_lowSurrogate_5068e_5.1
noncomputable def zr_dJ11_lowSurrogate_5068e_7 := zo_96 (q := 8) zr_dJ11_lowSurrogate_5068e_5.2 rfl
noncomputable def dJ11_lowSurrogate_5068e_7 := zr_dJ11_lowSurrogate_5068e_7.1
noncomputable def zr_dJ11_lowSurrogate_5068e_8 := zo_146 (q := 9) zr_dJ11_lowSurrogate_5068e_7.2 rfl
noncomputable def dJ11_lowSurrogate_5068e_8 := zr_dJ11_lowSurrogate_5068e_8.1
noncomputable def zr_dJ11_lowSurrogate_5068e_9 := zo_172 (q := 10) zr_dJ11_lowSurrogate_5068e_8.2 rfl
noncomputable def dJ11_lowSurrogate_5068e_9 := zr_dJ11_lowSurrogate_5068e_9.1
theorem zs_dJ6_bitCount_0f7a4_0 : zsuf cJ6_bitCount_0f7a4 0 cJ6_bitCount_0f7a4.data.toList := rfl
noncomputable def zr_dJ6_bitCount_0f7a4_0 := zo_26 (q := 1) zs_dJ6_bitCount_0f7a4_0 rfl
noncomputable def dJ6_bitCount_0f7a4_0 := zr_dJ6_bitCount_0f7a4_0.1
noncomputable def zr_dJ6_bitCount_0f7a4_1 := zo_26 (q := 2) zr_dJ6_bitCount_0f7a4_0.2 rfl
noncomputable def dJ6_bitCount_0f7a4_1 := zr_dJ6_bitCount_0f7a4_1.1
noncomputable def zr_dJ6_bitCount_0f7a4_2 := zo_4 (q := 3) zr_dJ6_bitCount_0f7a4_1.2 rfl
noncomputable def dJ6_bitCount_0f7a4_2 := zr_dJ6_bitCount_0f7a4_2.1
noncomputable def zr_dJ6_bitCount_0f7a4_3 := zo_124 (q := 4) zr_dJ6_bitCount_0f7a4_2.2 rfl
noncomputable def dJ6_bitCount_0f7a4_3 := zr_dJ6_bitCount_0f7a4_3.1
theorem zo_19 {c : ByteArray} {p q : Nat} {x y : UInt8} {L : List UInt8} {k : Nat} (h : zsuf c p (19 :: x :: y :: L)) (hk : x.toNat * 256 + y.toNat = k) (hq : p + 3 = q) : zD c p (.ldc_w k) 3 ∧ zsuf c q L := zfin hq (Eq.trans (zbd (zu1 (v := 19) h rfl)) (Eq.trans (zbd (zu2 (zsuf_tl h) hk)) rfl)) (zsuf_tl (zsuf_tl (zsuf_tl h)))
noncomputable def zr_dJ6_bitCount_0f7a4_4 := zo_19 (k := 265)  (q := 7) zr_dJ6_bitCount_0f7a4_3.2 rfl rfl
noncomputable def dJ6_bitCount_0f7a4_4 := zr_dJ6_bitCount_0f7a4_4.1
noncomputable def zr_dJ6_bitCount_0f7a4_7 := zo_126 (q := 8) zr_dJ6_bitCount_0f7a4_4.2 rfl
noncomputable def dJ6_bitCount_0f7a4_7 := zr_dJ6_bitCount_0f7a4_7.1
noncomputable def zr_dJ6_bitCount_0f7a4_8 := zo_100 (q := 9) zr_dJ6_bitCount_0f7a4_7.2 rfl
noncomputable def dJ6_bitCount_0f7a4_8 := zr_dJ6_bitCount_0f7a4_8.1
theorem zo_59 {c : ByteArray} {p q : Nat} {L : List UInt8} (h : zsuf c p (59 :: L)) (hq : p + 1 = q) : zD c p (.istore_n 0) 1 ∧ zsuf c q L := zfin hq (Eq.trans (zbd (zu1 (v := 59) h rfl)) rfl) (zsuf_tl h)
noncomputable def zr_dJ6_bitCount_0f7a4_9 := zo_59 (q := 10) zr_dJ6_bitCount_0f7a4_8.2 rfl
noncomputable def dJ6_bitCount_0f7a4_9 := zr_dJ6_bitCount_0f7a4_9.1
noncomputable def zr_dJ6_bitCount_0f7a4_10 := zo_26 (q := 11) zr_dJ6_bitCount_0f7a4_9.2 rfl
noncomputable def dJ6_bitCount_0f7a4_10 := zr_dJ6_bitCount_0f7a4_10.1
noncomputable def zr_dJ6_bitCount_0f7a4_11 := zo_19 (k := 266)  (q := 14) zr_dJ6_bitCount_0f7a4_10.2 rfl rfl
noncomputable def dJ6_bitCount_0f7a4_11 := zr_dJ6_bitCount_0f7a4_11.1
noncomputable def zr_dJ6_bitCount_0f7a4_14 := zo_126 (q := 15) zr_dJ6_bitCount_0f7a4_11.2 rfl
noncomputable def dJ6_bitCount_0f7a4_14 := zr_dJ6_bitCount_0f7a4_14.1
noncomputable def zr_dJ6_bitCount_0f7a4_15 := zo_26 (q := 16) zr_dJ6_bitCount_0f7a4_14.2 rfl
noncomputable def dJ6_bitCount_0f7a4_15 := zr_dJ6_bitCount_0f7a4_15.1
noncomputable def zr_dJ6_bitCount_0f7a4_16 := zo_5 (q := 17) zr_dJ6_bitCount_0f7a4_15.2 rfl
noncomputable def dJ6_bitCount_0f7a4_16 := zr_dJ6_bitCount_0f7a4_16.1
noncomputable def zr_dJ6_bitCount_0f7a4_17 := zo_124 (q := 18) zr_dJ6_bitCount_0f7a4_16.2 rfl
noncomputable def dJ6_bitCount_0f7a4_17 := zr_dJ6_bitCount_0f7a4_17.1
noncomputable def zr_dJ6_bitCount_0f7a4_18 := zo_19 (k := 266)  (q := 21) zr_dJ6_bitCount_0f7a4_17.2 rfl rfl
noncomputable def dJ6_bitCount_0f7a4_18 := zr_dJ6_bitCount_0f7a4_18.1
noncomputable def zr_dJ6_bitCount_0f7a4_21 := zo_126 (q := 22) zr_dJ6_bitCount_0f7a4_18.2 rfl
noncomputable def dJ6_bitCount_0f7a4_21 := zr_dJ6_bitCount_0f7a4_21.1
noncomputable def zr_dJ6_bitCount_0f7a4_22 := zo_96 (q := 23) zr_dJ6_bitCount_0f7a4_21.2 rfl
noncomputable def dJ6_bitCount_0f7a4_22 := zr_dJ6_bitCount_0f7a4_22.1
noncomputable def zr_dJ6_bitCount_0f7a4_23 := zo_59 (q := 24) zr_dJ6_bitCount_0f7a4_22.2 rfl
noncomputable def dJ6_bitCount_0f7a4_23 := zr_dJ6_bitCount_0f7a4_23.1
noncomputable def zr_dJ6_bitCount_0f7a4_24 := zo_26 (q := 25) zr_dJ6_bitCount_0f7a4_23.2 rfl
noncomputable def dJ6_bitCount_0f7a4_24 := zr_dJ6_bitCount_0f7a4_24.1
noncomputable def zr_dJ6_bitCount_0f7a4_25 := zo_26 (q := 26) zr_dJ6_bitCount_0f7a4_24.2 rfl
noncomputable def dJ6_bitCount_0f7a4_25 := zr_dJ6_bitCount_0f7a4_25.1
noncomputable def zr_dJ6_bitCount_0f7a4_26 := zo_7 (q := 27) zr_dJ6_bitCount_0f7a4_25.2 rfl
noncomputable def dJ6_bitCount_0f7a4_26 := zr_dJ6_bitCount_0f7a4_26.1
noncomputable def zr_dJ6_bitCount_0f7a4_27 := zo_124 (q := 28) zr_dJ6_bitCount_0f7a4_26.2 rfl
noncomputable def dJ6_bitCount_0f7a4_27 := zr_dJ6_bitCount_0f7a4_27.1
noncomputable def zr_dJ6_bitCount_0f7a4_28 := zo_96 (q := 29) zr_dJ6_bitCount_0f7a4_27.2 rfl
noncomputable def dJ6_bitCount_0f7a4_28 := zr_dJ6_bitCount_0f7a4_28.1
noncomputable def zr_dJ6_bitCount_0f7a4_29 := zo_19 (k := 267)  (q := 32) zr_dJ6_bitCount_0f7a4_28.2 rfl rfl
noncomputable def dJ6_bitCount_0f7a4_29 := zr_dJ6_bitCount_0f7a4_29.1
noncomputable def zr_dJ6_bitCount_0f7a4_32 := zo_126 (q := 33) zr_dJ6_bitCount_0f7a4_29.2 rfl
noncomputable def dJ6_bitCount_0f7a4_32 := zr_dJ6_bitCount_0f7a4_32.1
noncomputable def zr_dJ6_bitCount_0f7a4_33 := zo_59 (q := 34) zr_dJ6_bitCount_0f7a4_32.2 rfl
noncomputable def dJ6_bitCount_0f7a4_33 := zr_dJ6_bitCount_0f7a4_33.1
noncomputable def zr_dJ6_bitCount_0f7a4_34 := zo_26 (q := 35) zr_dJ6_bitCount_0f7a4_33.2 rfl
noncomputable def dJ6_bitCount_0f7a4_34 := zr_dJ6_bitCount_0f7a4_34.1
noncomputable def zr_dJ6_bitCount_0f7a4_35 := zo_26 (q := 36) zr_dJ6_bitCount_0f7a4_34.2 rfl
noncomputable def dJ6_bitCount_0f7a4_35 := zr_dJ6_bitCount_0f7a4_35.1
noncomputable def zr_dJ6_bitCount_0f7a4_36 := zo_16 (k := 8)  (q := 38) zr_dJ6_bitCount_0f7a4_35.2 (by decide +kernel) rfl
noncomputable def dJ6_bitCount_0f7a4_36 := zr_dJ6_bitCount_0f7a4_36.1
noncomputable def zr_dJ6_bitCount_0f7a4_38 := zo_124 (q := 39) zr_dJ6_bitCount_0f7a4_36.2 rfl
noncomputable def dJ6_bitCount_0f7a4_38 := zr_dJ6_bitCount_0f7a4_38.1
noncomputable def zr_dJ6_bitCount_0f7a4_39 := zo_96 (q := 40) zr_dJ6_bitCount_0f7a4_38.2 rfl
noncomputable def dJ6_bitCount_0f7a4_39 := zr_dJ6_bitCount_0f7a4_39.1
noncomputable def zr_dJ6_bitCount_0f7a4_40 := zo_59 (q := 41) zr_dJ6_bitCount_0f7a4_39.2 rfl
noncomputable def dJ6_bitCount_0f7a4_40 := zr_dJ6_bitCount_0f7a4_40.1
noncomputable def zr_dJ6_bitCount_0f7a4_41 := zo_26 (q := 42) zr_dJ6_bitCount_0f7a4_40.2 rfl
noncomputable def dJ6_bitCount_0f7a4_41 := zr_dJ6_bitCount_0f7a4_41.1
noncomputable def zr_dJ6_bitCount_0f7a4_42 := zo_26 (q := 43) zr_dJ6_bitCount_0f7a4_41.2 rfl
noncomputable def dJ6_bitCount_0f7a4_42 := zr_dJ6_bitCount_0f7a4_42.1
noncomputable def zr_dJ6_bitCount_0f7a4_43 := zo_16 (k := 16)  (q := 45) zr_dJ6_bitCount_0f7a4_42.2 (by decide +kernel) rfl
noncomputable def dJ6_bitCount_0f7a4_43 := zr_dJ6_bitCount_0f7a4_43.1
noncomputable def zr_dJ6_bitCount_0f7a4_45 := zo_124 (q := 46) zr_dJ6_bitCount_0f7a4_43.2 rfl
noncomputable def dJ6_bitCount_0f7a4_45 := zr_dJ6_bitCount_0f7a4_45.1
noncomputable def zr_dJ6_bitCount_0f7a4_46 := zo_96 (q := 47) zr_dJ6_bitCount_0f7a4_45.2 rfl
noncomputable def dJ6_bitCount_0f7a4_46 := zr_dJ6_bitCount_0f7a4_46.1
noncomputable def zr_dJ6_bitCount_0f7a4_47 := zo_59 (q := 48) zr_dJ6_bitCount_0f7a4_46.2 rfl
noncomputable def dJ6_bitCount_0f7a4_47 := zr_dJ6_bitCount_0f7a4_47.1
noncomputable def zr_dJ6_bitCount_0f7a4_48 := zo_26 (q := 49) zr_dJ6_bitCount_0f7a4_47.2 rfl
noncomputable def dJ6_bitCount_0f7a4_48 := zr_dJ6_bitCount_0f7a4_48.1
noncomputable def zr_dJ6_bitCount_0f7a4_49 := zo_16 (k := 63)  (q := 51) zr_dJ6_bitCount_0f7a4_48.2 (by decide +kernel) rfl
noncomputable def dJ6_bitCount_0f7a4_49 := zr_dJ6_bitCount_0f7a4_49.1
noncomputable def zr_dJ6_bitCount_0f7a4_51 := zo_126 (q := 52) zr_dJ6_bitCount_0f7a4_49.2 rfl
noncomputable def dJ6_bitCount_0f7a4_51 := zr_dJ6_bitCount_0f7a4_51.1
noncomputable def zr_dJ6_bitCount_0f7a4_52 := zo_172 (q := 53) zr_dJ6_bitCount_0f7a4_51.2 rfl
noncomputable def dJ6_bitCount_0f7a4_52 := zr_dJ6_bitCount_0f7a4_52.1
theorem zs_dJ9_max_7cf53_0 : zsuf cJ9_max_7cf53 0 cJ9_max_7cf53.data.toList := rfl
noncomputable def zr_dJ9_max_7cf53_0 := zo_26 (q := 1) zs_dJ9_max_7cf53_0 rfl
noncomputable def dJ9_max_7cf53_0 := zr_dJ9_max_7cf53_0.1
noncomputable def zr_dJ9_max_7cf53_1 := zo_27 (q := 2) zr_dJ9_max_7cf53_0.2 rfl
noncomputable def dJ9_max_7cf53_1 := zr_dJ9_max_7cf53_1.1
noncomputable def zr_dJ9_max_7cf53_2 := zo_161 (k := 7)  (q := 5) zr_dJ9_max_7cf53_1.2 (by decide +kernel) rfl
noncomputable def dJ9_max_7cf53_2 := zr_dJ9_max_7cf53_2.1
noncomputable def zr_dJ9_max_7cf53_5 := zo_26 (q := 6) zr_dJ9_max_7cf53_2.2 rfl
noncomputable def dJ9_max_7cf53_5 := zr_dJ9_max_7cf53_5.1
noncomputable def zr_dJ9_max_7cf53_6 := zo_167 (k := 4)  (q := 9) zr_dJ9_max_7cf53_5.2 (by decide +kernel) rfl
noncomputable def dJ9_max_7cf53_6 := zr_dJ9_max_7cf53_6.1
noncomputable def zr_dJ9_max_7cf53_9 := zo_27 (q := 10) zr_dJ9_max_7cf53_6.2 rfl
noncomputable def dJ9_max_7cf53_9 := zr_dJ9_max_7cf53_9.1
noncomputable def zr_dJ9_max_7cf53_10 := zo_172 (q := 11) zr_dJ9_max_7cf53_9.2 rfl
noncomputable def dJ9_max_7cf53_10 := zr_dJ9_max_7cf53_10.1
theorem zs_dJ9_min_7cf53_0 : zsuf cJ9_min_7cf53 0 cJ9_min_7cf53.data.toList := rfl
noncomputable def zr_dJ9_min_7cf53_0 := zo_26 (q := 1) zs_dJ9_min_7cf53_0 rfl
noncomputable def dJ9_min_7cf53_0 := zr_dJ9_min_7cf53_0.1
noncomputable def zr_dJ9_min_7cf53_1 := zo_27 (q := 2) zr_dJ9_min_7cf53_0.2 rfl
noncomputable def dJ9_min_7cf53_1 := zr_dJ9_min_7cf53_1.1
noncomputable def zr_dJ9_min_7cf53_2 := zo_163 (k := 7)  (q := 5) zr_dJ9_min_7cf53_1.2 (by decide +kernel) rfl
noncomputable def dJ9_min_7cf53_2 := zr_dJ9_min_7cf53_2.1
noncomputable def zr_dJ9_min_7cf53_5 := zo_26 (q := 6) zr_dJ9_min_7cf53_2.2 rfl
noncomputable def dJ9_min_7cf53_5 := zr_dJ9_min_7cf53_5.1
noncomputable def zr_dJ9_min_7cf53_6 := zo_167 (k := 4)  (q := 9) zr_dJ9_min_7cf53_5.2 (by decide +kernel) rfl
noncomputable def dJ9_min_7cf53_6 := zr_dJ9_min_7cf53_6.1
noncomputable def zr_dJ9_min_7cf53_9 := zo_27 (q := 10) zr_dJ9_min_7cf53_6.2 rfl
noncomputable def dJ9_min_7cf53_9 := zr_dJ9_min_7cf53_9.1
noncomputable def zr_dJ9_min_7cf53_10 := zo_172 (q := 11) zr_dJ9_min_7cf53_9.2 rfl
noncomputable def dJ9_min_7cf53_10 := zr_dJ9_min_7cf53_10.1
theorem zs_dJ0_length_8abf5_0 : zsuf cJ0_length_8abf5 0 cJ0_length_8abf5.data.toList := rfl
noncomputable def zr_dJ0_length_8abf5_0 := zo_42 (q := 1) zs_dJ0_length_8abf5_0 rfl
noncomputable def dJ0_length_8abf5_0 := zr_dJ0_length_8abf5_0.1
noncomputable def zr_dJ0_length_8abf5_1 := zo_180 (k := 9)  (q := 4) zr_dJ0_length_8abf5_0.2 rfl rfl
noncomputable def dJ0_length_8abf5_1 := zr_dJ0_length_8abf5_1.1
theorem zo_190 {c : ByteArray} {p q : Nat} {L : List UInt8} (h : zsuf c p (190 :: L)) (hq : p + 1 = q) : zD c p .arraylength 1 ∧ zsuf c q L := zfin hq (Eq.trans (zbd (zu1 (v := 190) h rfl)) rfl) (zsuf_tl h)
noncomputable def zr_dJ0_length_8abf5_4 := zo_190 (q := 5) zr_dJ0_length_8abf5_1.2 rfl
noncomputable def dJ0_length_8abf5_4 := zr_dJ0_length_8abf5_4.1
noncomputable def zr_dJ0_length_8abf5_5 := zo_42 (q := 6) zr_dJ0_length_8abf5_4.2 rfl
noncomputable def dJ0_length_8abf5_5 := zr_dJ0_length_8abf5_5.1
noncomputable def zr_dJ0_length_8abf5_6 := zo_182 (k := 335)  (q := 9) zr_dJ0_length_8abf5_5.2 rfl rfl
noncomputable def dJ0_length_8abf5_6 := zr_dJ0_length_8abf5_6.1
noncomputable def zr_dJ0_length_8abf5_9 := zo_122 (q := 10) zr_dJ0_length_8abf5_6.2 rfl
noncomputable def dJ0_length_8abf5_9 := zr_dJ0_length_8abf5_9.1
noncomputable def zr_dJ0_length_8abf5_10 := zo_172 (q := 11) zr_dJ0_length_8abf5_9.2 rfl
noncomputable def dJ0_length_8abf5_10 := zr_dJ0_length_8abf5_10.1
theorem zs_dJ0_charAt_5068e_0 : zsuf cJ0_charAt_5068e 0 cJ0_charAt_5068e.data.toList := rfl
noncomputable def zr_dJ0_charAt_5068e_0 := zo_42 (q := 1) zs_dJ0_charAt_5068e_0 rfl
noncomputable def dJ0_charAt_5068e_0 := zr_dJ0_charAt_5068e_0.1
noncomputable def zr_dJ0_charAt_5068e_1 := zo_182 (k := 492)  (q := 4) zr_dJ0_charAt_5068e_0.2 rfl rfl
noncomputable def dJ0_charAt_5068e_1 := zr_dJ0_charAt_5068e_1.1
noncomputable def zr_dJ0_charAt_5068e_4 := zo_153 (k := 12)  (q := 7) zr_dJ0_charAt_5068e_1.2 (by decide +kernel) rfl
noncomputable def dJ0_charAt_5068e_4 := zr_dJ0_charAt_5068e_4.1
noncomputable def zr_dJ0_charAt_5068e_7 := zo_42 (q := 8) zr_dJ0_charAt_5068e_4.2 rfl
noncomputable def dJ0_charAt_5068e_7 := zr_dJ0_charAt_5068e_7.1
noncomputable def zr_dJ0_charAt_5068e_8 := zo_180 (k := 9)  (q := 11) zr_dJ0_charAt_5068e_7.2 rfl rfl
noncomputable def dJ0_charAt_5068e_8 := zr_dJ0_charAt_5068e_8.1
noncomputable def zr_dJ0_charAt_5068e_11 := zo_27 (q := 12) zr_dJ0_charAt_5068e_8.2 rfl
noncomputable def dJ0_charAt_5068e_11 := zr_dJ0_charAt_5068e_11.1
noncomputable def zr_dJ0_charAt_5068e_12 := zo_184 (k := 495)  (q := 15) zr_dJ0_charAt_5068e_11.2 rfl rfl
noncomputable def dJ0_charAt_5068e_12 := zr_dJ0_charAt_5068e_12.1
noncomputable def zr_dJ0_charAt_5068e_15 := zo_172 (q := 16) zr_dJ0_charAt_5068e_12.2 rfl
noncomputable def dJ0_charAt_5068e_15 := zr_dJ0_charAt_5068e_15.1
noncomputable def zr_dJ0_charAt_5068e_16 := zo_42 (q := 17) zr_dJ0_charAt_5068e_15.2 rfl
noncomputable def dJ0_charAt_5068e_16 := zr_dJ0_charAt_5068e_16.1
noncomputable def zr_dJ0_charAt_5068e_17 := zo_180 (k := 9)  (q := 20) zr_dJ0_charAt_5068e_16.2 rfl rfl
noncomputable def dJ0_charAt_5068e_17 := zr_dJ0_charAt_5068e_17.1
noncomputable def zr_dJ0_charAt_5068e_20 := zo_27 (q := 21) zr_dJ0_charAt_5068e_17.2 rfl
noncomputable def dJ0_charAt_5068e_20 := zr_dJ0_charAt_5068e_20.1
noncomputable def zr_dJ0_charAt_5068e_21 := zo_184 (k := 498)  (q := 24) zr_dJ0_charAt_5068e_20.2 rfl rfl
noncomputable def dJ0_charAt_5068e_21 := zr_dJ0_charAt_5068e_21.1
noncomputable def zr_dJ0_charAt_5068e_24 := zo_172 (q := 25) zr_dJ0_charAt_5068e_21.2 rfl
noncomputable def dJ0_charAt_5068e_24 := zr_dJ0_charAt_5068e_24.1
theorem zs_dJ0_indexOf_0f7a4_0 : zsuf cJ0_indexOf_0f7a4 0 cJ0_indexOf_0f7a4.data.toList := rfl
noncomputable def zr_dJ0_indexOf_0f7a4_0 := zo_42 (q := 1) zs_dJ0_indexOf_0f7a4_0 rfl
noncomputable def dJ0_indexOf_0f7a4_0 := zr_dJ0_indexOf_0f7a4_0.1
noncomputable def zr_dJ0_indexOf_0f7a4_1 := zo_27 (q := 2) zr_dJ0_indexOf_0f7a4_0.2 rfl
noncomputable def dJ0_indexOf_0f7a4_1 := zr_dJ0_indexOf_0f7a4_1.1
noncomputable def zr_dJ0_indexOf_0f7a4_2 := zo_3 (q := 3) zr_dJ0_indexOf_0f7a4_1.2 rfl
noncomputable def dJ0_indexOf_0f7a4_2 := zr_dJ0_indexOf_0f7a4_2.1
noncomputable def zr_dJ0_indexOf_0f7a4_3 := zo_182 (k := 633)  (q := 6) zr_dJ0_indexOf_0f7a4_2.2 rfl rfl
noncomputable def dJ0_indexOf_0f7a4_3 := zr_dJ0_indexOf_0f7a4_3.1
noncomputable def zr_dJ0_indexOf_0f7a4_6 := zo_172 (q := 7) zr_dJ0_indexOf_0f7a4_3.2 rfl
noncomputable def dJ0_indexOf_0f7a4_6 := zr_dJ0_indexOf_0f7a4_6.1
theorem zs_dJ0_indexOf_7cf53_0 : zsuf cJ0_indexOf_7cf53 0 cJ0_indexOf_7cf53.data.toList := rfl
noncomputable def zr_dJ0_indexOf_7cf53_0 := zo_42 (q := 1) zs_dJ0_indexOf_7cf53_0 rfl
noncomputable def dJ0_indexOf_7cf53_0 := zr_dJ0_indexOf_7cf53_0.1
noncomputable def zr_dJ0_indexOf_7cf53_1 := zo_182 (k := 492)  (q := 4) zr_dJ0_indexOf_7cf53_0.2 rfl rfl
noncomputable def dJ0_indexOf_7cf53_1 := zr_dJ0_indexOf_7cf53_1.1
noncomputable def zr_dJ0_indexOf_7cf53_4 := zo_153 (k := 19)  (q := 7) zr_dJ0_indexOf_7cf53_1.2 (by decide +kernel) rfl
noncomputable def dJ0_indexOf_7cf53_4 := zr_dJ0_indexOf_7cf53_4.1
noncomputable def zr_dJ0_indexOf_7cf53_7 := zo_42 (q := 8) zr_dJ0_indexOf_7cf53_4.2 rfl
noncomputable def dJ0_indexOf_7cf53_7 := zr_dJ0_indexOf_7cf53_7.1
noncomputable def zr_dJ0_indexOf_7cf53_8 := zo_180 (k := 9)  (q := 11) zr_dJ0_indexOf_7cf53_7.2 rfl rfl
noncomputable def dJ0_indexOf_7cf53_8 := zr_dJ0_indexOf_7cf53_8.1
noncomputable def zr_dJ0_indexOf_7cf53_11 := zo_27 (q := 12) zr_dJ0_indexOf_7cf53_8.2 rfl
noncomputable def dJ0_indexOf_7cf53_11 := zr_dJ0_indexOf_7cf53_11.1
noncomputable def zr_dJ0_indexOf_7cf53_12 := zo_28 (q := 13) zr_dJ0_indexOf_7cf53_11.2 rfl
noncomputable def dJ0_indexOf_7cf53_12 := zr_dJ0_indexOf_7cf53_12.1
noncomputable def zr_dJ0_indexOf_7cf53_13 := zo_42 (q := 14) zr_dJ0_indexOf_7cf53_12.2 rfl
noncomputable def dJ0_indexOf_7cf53_13 := zr_dJ0_indexOf_7cf53_13.1
noncomputable def zr_dJ0_indexOf_7cf53_14 := zo_182 (k := 505)  (q := 17) zr_dJ0_indexOf_7cf53_13.2 rfl rfl
noncomputable def dJ0_indexOf_7cf53_14 := zr_dJ0_indexOf_7cf53_14.1
noncomputable def zr_dJ0_indexOf_7cf53_17 := zo_184 (k := 637)  (q := 20) zr_dJ0_indexOf_7cf53_14.2 rfl rfl
noncomputable def dJ0_indexOf_7cf53_17 := zr_dJ0_indexOf_7cf53_17.1
noncomputable def zr_dJ0_indexOf_7cf53_20 := zo_167 (k := 16)  (q := 23) zr_dJ0_indexOf_7cf53_17.2 (by decide +kernel) rfl
noncomputable def dJ0_indexOf_7cf53_20 := zr_dJ0_indexOf_7cf53_20.1
noncomputable def zr_dJ0_indexOf_7cf53_23 := zo_42 (q := 24) zr_dJ0_indexOf_7cf53_20.2 rfl
noncomputable def dJ0_indexOf_7cf53_23 := zr_dJ0_indexOf_7cf53_23.1
noncomputable def zr_dJ0_indexOf_7cf53_24 := zo_180 (k := 9)  (q := 27) zr_dJ0_indexOf_7cf53_23.2 rfl rfl
noncomputable def dJ0_indexOf_7cf53_24 := zr_dJ0_indexOf_7cf53_24.1
noncomputable def zr_dJ0_indexOf_7cf53_27 := zo_27 (q := 28) zr_dJ0_indexOf_7cf53_24.2 rfl
noncomputable def dJ0_indexOf_7cf53_27 := zr_dJ0_indexOf_7cf53_27.1
noncomputable def zr_dJ0_indexOf_7cf53_28 := zo_28 (q := 29) zr_dJ0_indexOf_7cf53_27.2 rfl
noncomputable def dJ0_indexOf_7cf53_28 := zr_dJ0_indexOf_7cf53_28.1
noncomputable def zr_dJ0_indexOf_7cf53_29 := zo_42 (q := 30) zr_dJ0_indexOf_7cf53_28.2 rfl
noncomputable def dJ0_indexOf_7cf53_29 := zr_dJ0_indexOf_7cf53_29.1
noncomputable def zr_dJ0_indexOf_7cf53_30 := zo_182 (k := 505)  (q := 33) zr_dJ0_indexOf_7cf53_29.2 rfl rfl
noncomputable def dJ0_indexOf_7cf53_30 := zr_dJ0_indexOf_7cf53_30.1
noncomputable def zr_dJ0_indexOf_7cf53_33 := zo_184 (k := 640)  (q := 36) zr_dJ0_indexOf_7cf53_30.2 rfl rfl
noncomputable def dJ0_indexOf_7cf53_33 := zr_dJ0_indexOf_7cf53_33.1
noncomputable def zr_dJ0_indexOf_7cf53_36 := zo_172 (q := 37) zr_dJ0_indexOf_7cf53_33.2 rfl
noncomputable def dJ0_indexOf_7cf53_36 := zr_dJ0_indexOf_7cf53_36.1
theorem zs_dJ0_coder_7d493_0 : zsuf cJ0_coder_7d493 0 cJ0_coder_7d493.data.toList := rfl
theorem zo_178 {c : ByteArray} {p q : Nat} {x y : UInt8} {L : List UInt8} {k : Nat} (h : zsuf c p (178 :: x :: y :: L)) (hk : x.toNat * 256 + y.toNat = k) (hq : p + 3 = q) : zD c p (.getstatic k) 3 ∧ zsuf c q L := zfin hq (Eq.trans (zbd (zu1 (v := 178) h rfl)) (Eq.trans (zbd (zu2 (zsuf_tl h) hk)) rfl)) (zsuf_tl (zsuf_tl (zsuf_tl h)))
noncomputable def zr_dJ0_coder_7d493_0 := zo_178 (k := 38)  (q := 3) zs_dJ0_coder_7d493_0 rfl rfl
noncomputable def dJ0_coder_7d493_0 := zr_dJ0_coder_7d493_0.1
noncomputable def zr_dJ0_coder_7d493_3 := zo_153 (k := 10)  (q := 6) zr_dJ0_coder_7d493_0.2 (by decide +kernel) rfl
noncomputable def dJ0_coder_7d493_3 := zr_dJ0_coder_7d493_3.1
noncomputable def zr_dJ0_coder_7d493_6 := zo_42 (q := 7) zr_dJ0_coder_7d493_3.2 rfl
noncomputable def dJ0_coder_7d493_6 := zr_dJ0_coder_7d493_6.1
noncomputable def zr_dJ0_coder_7d493_7 := zo_180 (k := 15)  (q := 10) zr_dJ0_coder_7d493_6.2 rfl rfl
noncomputable def dJ0_coder_7d493_7 := zr_dJ0_coder_7d493_7.1
noncomputable def zr_dJ0_coder_7d493_10 := zo_167 (k := 4)  (q := 13) zr_dJ0_coder_7d493_7.2 (by decide +kernel) rfl
noncomputable def dJ0_coder_7d493_10 := zr_dJ0_coder_7d493_10.1
noncomputable def zr_dJ0_coder_7d493_13 := zo_4 (q := 14) zr_dJ0_coder_7d493_10.2 rfl
noncomputable def dJ0_coder_7d493_13 := zr_dJ0_coder_7d493_13.1
noncomputable def zr_dJ0_coder_7d493_14 := zo_172 (q := 15) zr_dJ0_coder_7d493_13.2 rfl
noncomputable def dJ0_coder_7d493_14 := zr_dJ0_coder_7d493_14.1
theorem zs_dJ0_isLatin1_aae02_0 : zsuf cJ0_isLatin1_aae02 0 cJ0_isLatin1_aae02.data.toList := rfl
noncomputable def zr_dJ0_isLatin1_aae02_0 := zo_178 (k := 38)  (q := 3) zs_dJ0_isLatin1_aae02_0 rfl rfl
noncomputable def dJ0_isLatin1_aae02_0 := zr_dJ0_isLatin1_aae02_0.1
noncomputable def zr_dJ0_isLatin1_aae02_3 := zo_153 (k := 14)  (q := 6) zr_dJ0_isLatin1_aae02_0.2 (by decide +kernel) rfl
noncomputable def dJ0_isLatin1_aae02_3 := zr_dJ0_isLatin1_aae02_3.1
noncomputable def zr_dJ0_isLatin1_aae02_6 := zo_42 (q := 7) zr_dJ0_isLatin1_aae02_3.2 rfl
noncomputable def dJ0_isLatin1_aae02_6 := zr_dJ0_isLatin1_aae02_6.1
noncomputable def zr_dJ0_isLatin1_aae02_7 := zo_180 (k := 15)  (q := 10) zr_dJ0_isLatin1_aae02_6.2 rfl rfl
noncomputable def dJ0_isLatin1_aae02_7 := zr_dJ0_isLatin1_aae02_7.1
noncomputable def zr_dJ0_isLatin1_aae02_10 := zo_154 (k := 7)  (q := 13) zr_dJ0_isLatin1_aae02_7.2 (by decide +kernel) rfl
noncomputable def dJ0_isLatin1_aae02_10 := zr_dJ0_isLatin1_aae02_10.1
noncomputable def zr_dJ0_isLatin1_aae02_13 := zo_4 (q := 14) zr_dJ0_isLatin1_aae02_10.2 rfl
noncomputable def dJ0_isLatin1_aae02_13 := zr_dJ0_isLatin1_aae02_13.1
noncomputable def zr_dJ0_isLatin1_aae02_14 := zo_167 (k := 4)  (q := 17) zr_dJ0_isLatin1_aae02_13.2 (by decide +kernel) rfl
noncomputable def dJ0_isLatin1_aae02_14 := zr_dJ0_isLatin1_aae02_14.1
noncomputable def zr_dJ0_isLatin1_aae02_17 := zo_3 (q := 18) zr_dJ0_isLatin1_aae02_14.2 rfl
noncomputable def dJ0_isLatin1_aae02_17 := zr_dJ0_isLatin1_aae02_17.1
noncomputable def zr_dJ0_isLatin1_aae02_18 := zo_172 (q := 19) zr_dJ0_isLatin1_aae02_17.2 rfl
noncomputable def dJ0_isLatin1_aae02_18 := zr_dJ0_isLatin1_aae02_18.1
theorem zs_dJ0_checkIndex_df160_0 : zsuf cJ0_checkIndex_df160 0 cJ0_checkIndex_df160.data.toList := rfl
noncomputable def zr_dJ0_checkIndex_df160_0 := zo_26 (q := 1) zs_dJ0_checkIndex_df160_0 rfl
noncomputable def dJ0_checkIndex_df160_0 := zr_dJ0_checkIndex_df160_0.1
noncomputable def zr_dJ0_checkIndex_df160_1 := zo_27 (q := 2) zr_dJ0_checkIndex_df160_0.2 rfl
noncomputable def dJ0_checkIndex_df160_1 := zr_dJ0_checkIndex_df160_1.1
noncomputable def zr_dJ0_checkIndex_df160_2 := zo_178 (k := 1053)  (q := 5) zr_dJ0_checkIndex_df160_1.2 rfl rfl
noncomputable def dJ0_checkIndex_df160_2 := zr_dJ0_checkIndex_df160_2.1
noncomputable def zr_dJ0_checkIndex_df160_5 := zo_184 (k := 1059)  (q := 8) zr_dJ0_checkIndex_df160_2.2 rfl rfl
noncomputable def dJ0_checkIndex_df160_5 := zr_dJ0_checkIndex_df160_5.1
noncomputable def zr_dJ0_checkIndex_df160_8 := zo_87 (q := 9) zr_dJ0_checkIndex_df160_5.2 rfl
noncomputable def dJ0_checkIndex_df160_8 := zr_dJ0_checkIndex_df160_8.1
noncomputable def zr_dJ0_checkIndex_df160_9 := zo_177 (q := 10) zr_dJ0_checkIndex_df160_8.2 rfl
noncomputable def dJ0_checkIndex_df160_9 := zr_dJ0_checkIndex_df160_9.1
theorem zs_dJ0_checkBoundsBeginEnd_23922_0 : zsuf cJ0_checkBoundsBeginEnd_23922 0 cJ0_checkBoundsBeginEnd_23922.data.toList := rfl
noncomputable def zr_dJ0_checkBoundsBeginEnd_23922_0 := zo_26 (q := 1) zs_dJ0_checkBoundsBeginEnd_23922_0 rfl
noncomputable def dJ0_checkBoundsBeginEnd_23922_0 := zr_dJ0_checkBoundsBeginEnd_23922_0.1
noncomputable def zr_dJ0_checkBoundsBeginEnd_23922_1 := zo_27 (q := 2) zr_dJ0_checkBoundsBeginEnd_23922_0.2 rfl
noncomputable def dJ0_checkBoundsBeginEnd_23922_1 := zr_dJ0_checkBoundsBeginEnd_23922_1.1
noncomputable def zr_dJ0_checkBoundsBeginEnd_23922_2 := zo_28 (q := 3) zr_dJ0_checkBoundsBeginEnd_23922_1.2 rfl
noncomputable def dJ0_checkBoundsBeginEnd_23922_2 := zr_dJ0_checkBoundsBeginEnd_23922_2.1
noncomputable def zr_dJ0_checkBoundsBeginEnd_23922_3 := zo_178 (k := 1053)  (q := 6) zr_dJ0_checkBoundsBeginEnd_23922_2.2 rfl rfl
noncomputable def dJ0_checkBoundsBeginEnd_23922_3 := zr_dJ0_checkBoundsBeginEnd_23922_3.1
noncomputable def zr_dJ0_checkBoundsBeginEnd_23922_6 := zo_184 (k := 1062)  (q := 9) zr_dJ0_checkBoundsBeginEnd_23922_3.2 rfl rfl
noncomputable def dJ0_checkBoundsBeginEnd_23922_6 := zr_dJ0_checkBoundsBeginEnd_23922_6.1
noncomputable def zr_dJ0_checkBoundsBeginEnd_23922_9 := zo_87 (q := 10) zr_dJ0_checkBoundsBeginEnd_23922_6.2 rfl
noncomputable def dJ0_checkBoundsBeginEnd_23922_9 := zr_dJ0_checkBoundsBeginEnd_23922_9.1
noncomputable def zr_dJ0_checkBoundsBeginEnd_23922_10 := zo_177 (q := 11) zr_dJ0_checkBoundsBeginEnd_23922_9.2 rfl
noncomputable def dJ0_checkBoundsBeginEnd_23922_10 := zr_dJ0_checkBoundsBeginEnd_23922_10.1
theorem zs_dJ1_charAt_3b067_0 : zsuf cJ1_charAt_3b067 0 cJ1_charAt_3b067.data.toList := rfl
noncomputable def zr_dJ1_charAt_3b067_0 := zo_27 (q := 1) zs_dJ1_charAt_3b067_0 rfl
noncomputable def dJ1_charAt_3b067_0 := zr_dJ1_charAt_3b067_0.1
noncomputable def zr_dJ1_charAt_3b067_1 := zo_42 (q := 2) zr_dJ1_charAt_3b067_0.2 rfl
noncomputable def dJ1_charAt_3b067_1 := zr_dJ1_charAt_3b067_1.1
noncomputable def zr_dJ1_charAt_3b067_2 := zo_190 (q := 3) zr_dJ1_charAt_3b067_1.2 rfl
noncomputable def dJ1_charAt_3b067_2 := zr_dJ1_charAt_3b067_2.1
noncomputable def zr_dJ1_charAt_3b067_3 := zo_184 (k := 9)  (q := 6) zr_dJ1_charAt_3b067_2.2 rfl rfl
noncomputable def dJ1_charAt_3b067_3 := zr_dJ1_charAt_3b067_3.1
noncomputable def zr_dJ1_charAt_3b067_6 := zo_42 (q := 7) zr_dJ1_charAt_3b067_3.2 rfl
noncomputable def dJ1_charAt_3b067_6 := zr_dJ1_charAt_3b067_6.1
noncomputable def zr_dJ1_charAt_3b067_7 := zo_27 (q := 8) zr_dJ1_charAt_3b067_6.2 rfl
noncomputable def dJ1_charAt_3b067_7 := zr_dJ1_charAt_3b067_7.1
noncomputable def zr_dJ1_charAt_3b067_8 := zo_51 (q := 9) zr_dJ1_charAt_3b067_7.2 rfl
noncomputable def dJ1_charAt_3b067_8 := zr_dJ1_charAt_3b067_8.1
noncomputable def zr_dJ1_charAt_3b067_9 := zo_17 (k := 255)  (q := 12) zr_dJ1_charAt_3b067_8.2 (by decide +kernel) rfl
noncomputable def dJ1_charAt_3b067_9 := zr_dJ1_charAt_3b067_9.1
noncomputable def zr_dJ1_charAt_3b067_12 := zo_126 (q := 13) zr_dJ1_charAt_3b067_9.2 rfl
noncomputable def dJ1_charAt_3b067_12 := zr_dJ1_charAt_3b067_12.1
noncomputable def zr_dJ1_charAt_3b067_13 := zo_146 (q := 14) zr_dJ1_charAt_3b067_12.2 rfl
noncomputable def dJ1_charAt_3b067_13 := zr_dJ1_charAt_3b067_13.1
noncomputable def zr_dJ1_charAt_3b067_14 := zo_172 (q := 15) zr_dJ1_charAt_3b067_13.2 rfl
noncomputable def dJ1_charAt_3b067_14 := zr_dJ1_charAt_3b067_14.1
theorem zs_dJ1_canEncode_9a6ad_0 : zsuf cJ1_canEncode_9a6ad 0 cJ1_canEncode_9a6ad.data.toList := rfl
noncomputable def zr_dJ1_canEncode_9a6ad_0 := zo_26 (q := 1) zs_dJ1_canEncode_9a6ad_0 rfl
noncomputable def dJ1_canEncode_9a6ad_0 := zr_dJ1_canEncode_9a6ad_0.1
noncomputable def zr_dJ1_canEncode_9a6ad_1 := zo_155 (k := 14)  (q := 4) zr_dJ1_canEncode_9a6ad_0.2 (by decide +kernel) rfl
noncomputable def dJ1_canEncode_9a6ad_1 := zr_dJ1_canEncode_9a6ad_1.1
noncomputable def zr_dJ1_canEncode_9a6ad_4 := zo_26 (q := 5) zr_dJ1_canEncode_9a6ad_1.2 rfl
noncomputable def dJ1_canEncode_9a6ad_4 := zr_dJ1_canEncode_9a6ad_4.1
noncomputable def zr_dJ1_canEncode_9a6ad_5 := zo_17 (k := 255)  (q := 8) zr_dJ1_canEncode_9a6ad_4.2 (by decide +kernel) rfl
noncomputable def dJ1_canEncode_9a6ad_5 := zr_dJ1_canEncode_9a6ad_5.1
noncomputable def zr_dJ1_canEncode_9a6ad_8 := zo_163 (k := 7)  (q := 11) zr_dJ1_canEncode_9a6ad_5.2 (by decide +kernel) rfl
noncomputable def dJ1_canEncode_9a6ad_8 := zr_dJ1_canEncode_9a6ad_8.1
noncomputable def zr_dJ1_canEncode_9a6ad_11 := zo_4 (q := 12) zr_dJ1_canEncode_9a6ad_8.2 rfl
noncomputable def dJ1_canEncode_9a6ad_11 := zr_dJ1_canEncode_9a6ad_11.1
noncomputable def zr_dJ1_canEncode_9a6ad_12 := zo_167 (k := 4)  (q := 15) zr_dJ1_canEncode_9a6ad_11.2 (by decide +kernel) rfl
noncomputable def dJ1_canEncode_9a6ad_12 := zr_dJ1_canEncode_9a6ad_12.1
noncomputable def zr_dJ1_canEncode_9a6ad_15 := zo_3 (q := 16) zr_dJ1_canEncode_9a6ad_12.2 rfl
noncomputable def dJ1_canEncode_9a6ad_15 := zr_dJ1_canEncode_9a6ad_15.1
noncomputable def zr_dJ1_canEncode_9a6ad_16 := zo_172 (q := 17) zr_dJ1_canEncode_9a6ad_15.2 rfl
noncomputable def dJ1_canEncode_9a6ad_16 := zr_dJ1_canEncode_9a6ad_16.1
theorem zs_dJ1_indexOf_4cfef_0 : zsuf cJ1_indexOf_4cfef 0 cJ1_indexOf_4cfef.data.toList := rfl
noncomputable def zr_dJ1_indexOf_4cfef_0 := zo_27 (q := 1) zs_dJ1_indexOf_4cfef_0 rfl
noncomputable def dJ1_indexOf_4cfef_0 := zr_dJ1_indexOf_4cfef_0.1
noncomputable def zr_dJ1_indexOf_4cfef_1 := zo_184 (k := 88)  (q := 4) zr_dJ1_indexOf_4cfef_0.2 rfl rfl
noncomputable def dJ1_indexOf_4cfef_1 := zr_dJ1_indexOf_4cfef_1.1
noncomputable def zr_dJ1_indexOf_4cfef_4 := zo_154 (k := 5)  (q := 7) zr_dJ1_indexOf_4cfef_1.2 (by decide +kernel) rfl
noncomputable def dJ1_indexOf_4cfef_4 := zr_dJ1_indexOf_4cfef_4.1
noncomputable def zr_dJ1_indexOf_4cfef_7 := zo_2 (q := 8) zr_dJ1_indexOf_4cfef_4.2 rfl
noncomputable def dJ1_indexOf_4cfef_7 := zr_dJ1_indexOf_4cfef_7.1
noncomputable def zr_dJ1_indexOf_4cfef_8 := zo_172 (q := 9) zr_dJ1_indexOf_4cfef_7.2 rfl
noncomputable def dJ1_indexOf_4cfef_8 := zr_dJ1_indexOf_4cfef_8.1
noncomputable def zr_dJ1_indexOf_4cfef_9 := zo_28 (q := 10) zr_dJ1_indexOf_4cfef_8.2 rfl
noncomputable def dJ1_indexOf_4cfef_9 := zr_dJ1_indexOf_4cfef_9.1
noncomputable def zr_dJ1_indexOf_4cfef_10 := zo_3 (q := 11) zr_dJ1_indexOf_4cfef_9.2 rfl
noncomputable def dJ1_indexOf_4cfef_10 := zr_dJ1_indexOf_4cfef_10.1
noncomputable def zr_dJ1_indexOf_4cfef_11 := zo_184 (k := 92)  (q := 14) zr_dJ1_indexOf_4cfef_10.2 rfl rfl
noncomputable def dJ1_indexOf_4cfef_11 := zr_dJ1_indexOf_4cfef_11.1
noncomputable def zr_dJ1_indexOf_4cfef_14 := zo_61 (q := 15) zr_dJ1_indexOf_4cfef_11.2 rfl
noncomputable def dJ1_indexOf_4cfef_14 := zr_dJ1_indexOf_4cfef_14.1
noncomputable def zr_dJ1_indexOf_4cfef_15 := zo_29 (q := 16) zr_dJ1_indexOf_4cfef_14.2 rfl
noncomputable def dJ1_indexOf_4cfef_15 := zr_dJ1_indexOf_4cfef_15.1
noncomputable def zr_dJ1_indexOf_4cfef_16 := zo_42 (q := 17) zr_dJ1_indexOf_4cfef_15.2 rfl
noncomputable def dJ1_indexOf_4cfef_16 := zr_dJ1_indexOf_4cfef_16.1
noncomputable def zr_dJ1_indexOf_4cfef_17 := zo_190 (q := 18) zr_dJ1_indexOf_4cfef_16.2 rfl
noncomputable def dJ1_indexOf_4cfef_17 := zr_dJ1_indexOf_4cfef_17.1
noncomputable def zr_dJ1_indexOf_4cfef_18 := zo_184 (k := 38)  (q := 21) zr_dJ1_indexOf_4cfef_17.2 rfl rfl
noncomputable def dJ1_indexOf_4cfef_18 := zr_dJ1_indexOf_4cfef_18.1
noncomputable def zr_dJ1_indexOf_4cfef_21 := zo_62 (q := 22) zr_dJ1_indexOf_4cfef_18.2 rfl
noncomputable def dJ1_indexOf_4cfef_21 := zr_dJ1_indexOf_4cfef_21.1
noncomputable def zr_dJ1_indexOf_4cfef_22 := zo_28 (q := 23) zr_dJ1_indexOf_4cfef_21.2 rfl
noncomputable def dJ1_indexOf_4cfef_22 := zr_dJ1_indexOf_4cfef_22.1
noncomputable def zr_dJ1_indexOf_4cfef_23 := zo_29 (q := 24) zr_dJ1_indexOf_4cfef_22.2 rfl
noncomputable def dJ1_indexOf_4cfef_23 := zr_dJ1_indexOf_4cfef_23.1
noncomputable def zr_dJ1_indexOf_4cfef_24 := zo_161 (k := 5)  (q := 27) zr_dJ1_indexOf_4cfef_23.2 (by decide +kernel) rfl
noncomputable def dJ1_indexOf_4cfef_24 := zr_dJ1_indexOf_4cfef_24.1
noncomputable def zr_dJ1_indexOf_4cfef_27 := zo_2 (q := 28) zr_dJ1_indexOf_4cfef_24.2 rfl
noncomputable def dJ1_indexOf_4cfef_27 := zr_dJ1_indexOf_4cfef_27.1
noncomputable def zr_dJ1_indexOf_4cfef_28 := zo_172 (q := 29) zr_dJ1_indexOf_4cfef_27.2 rfl
noncomputable def dJ1_indexOf_4cfef_28 := zr_dJ1_indexOf_4cfef_28.1
noncomputable def zr_dJ1_indexOf_4cfef_29 := zo_42 (q := 30) zr_dJ1_indexOf_4cfef_28.2 rfl
noncomputable def dJ1_indexOf_4cfef_29 := zr_dJ1_indexOf_4cfef_29.1
noncomputable def zr_dJ1_indexOf_4cfef_30 := zo_27 (q := 31) zr_dJ1_indexOf_4cfef_29.2 rfl
noncomputable def dJ1_indexOf_4cfef_30 := zr_dJ1_indexOf_4cfef_30.1
noncomputable def zr_dJ1_indexOf_4cfef_31 := zo_28 (q := 32) zr_dJ1_indexOf_4cfef_30.2 rfl
noncomputable def dJ1_indexOf_4cfef_31 := zr_dJ1_indexOf_4cfef_31.1
noncomputable def zr_dJ1_indexOf_4cfef_32 := zo_29 (q := 33) zr_dJ1_indexOf_4cfef_31.2 rfl
noncomputable def dJ1_indexOf_4cfef_32 := zr_dJ1_indexOf_4cfef_32.1
noncomputable def zr_dJ1_indexOf_4cfef_33 := zo_184 (k := 95)  (q := 36) zr_dJ1_indexOf_4cfef_32.2 rfl rfl
noncomputable def dJ1_indexOf_4cfef_33 := zr_dJ1_indexOf_4cfef_33.1
noncomputable def zr_dJ1_indexOf_4cfef_36 := zo_172 (q := 37) zr_dJ1_indexOf_4cfef_33.2 rfl
noncomputable def dJ1_indexOf_4cfef_36 := zr_dJ1_indexOf_4cfef_36.1
theorem zs_dJ1_indexOfChar_4cfef_0 : zsuf cJ1_indexOfChar_4cfef 0 cJ1_indexOfChar_4cfef.data.toList := rfl
noncomputable def zr_dJ1_indexOfChar_4cfef_0 := zo_27 (q := 1) zs_dJ1_indexOfChar_4cfef_0 rfl
noncomputable def dJ1_indexOfChar_4cfef_0 := zr_dJ1_indexOfChar_4cfef_0.1
noncomputable def zr_dJ1_indexOfChar_4cfef_1 := zo_145 (q := 2) zr_dJ1_indexOfChar_4cfef_0.2 rfl
noncomputable def dJ1_indexOfChar_4cfef_1 := zr_dJ1_indexOfChar_4cfef_1.1
noncomputable def zr_dJ1_indexOfChar_4cfef_2 := zo_54 (k := 4)  (q := 4) zr_dJ1_indexOfChar_4cfef_1.2 rfl rfl
noncomputable def dJ1_indexOfChar_4cfef_2 := zr_dJ1_indexOfChar_4cfef_2.1
noncomputable def zr_dJ1_indexOfChar_4cfef_4 := zo_28 (q := 5) zr_dJ1_indexOfChar_4cfef_2.2 rfl
noncomputable def dJ1_indexOfChar_4cfef_4 := zr_dJ1_indexOfChar_4cfef_4.1
noncomputable def zr_dJ1_indexOfChar_4cfef_5 := zo_54 (k := 5)  (q := 7) zr_dJ1_indexOfChar_4cfef_4.2 rfl rfl
noncomputable def dJ1_indexOfChar_4cfef_5 := zr_dJ1_indexOfChar_4cfef_5.1
noncomputable def zr_dJ1_indexOfChar_4cfef_7 := zo_21 (k := 5)  (q := 9) zr_dJ1_indexOfChar_4cfef_5.2 rfl rfl
noncomputable def dJ1_indexOfChar_4cfef_7 := zr_dJ1_indexOfChar_4cfef_7.1
noncomputable def zr_dJ1_indexOfChar_4cfef_9 := zo_29 (q := 10) zr_dJ1_indexOfChar_4cfef_7.2 rfl
noncomputable def dJ1_indexOfChar_4cfef_9 := zr_dJ1_indexOfChar_4cfef_9.1
noncomputable def zr_dJ1_indexOfChar_4cfef_10 := zo_162 (k := 21)  (q := 13) zr_dJ1_indexOfChar_4cfef_9.2 (by decide +kernel) rfl
noncomputable def dJ1_indexOfChar_4cfef_10 := zr_dJ1_indexOfChar_4cfef_10.1
noncomputable def zr_dJ1_indexOfChar_4cfef_13 := zo_42 (q := 14) zr_dJ1_indexOfChar_4cfef_10.2 rfl
noncomputable def dJ1_indexOfChar_4cfef_13 := zr_dJ1_indexOfChar_4cfef_13.1
noncomputable def zr_dJ1_indexOfChar_4cfef_14 := zo_21 (k := 5)  (q := 16) zr_dJ1_indexOfChar_4cfef_13.2 rfl rfl
noncomputable def dJ1_indexOfChar_4cfef_14 := zr_dJ1_indexOfChar_4cfef_14.1
noncomputable def zr_dJ1_indexOfChar_4cfef_16 := zo_51 (q := 17) zr_dJ1_indexOfChar_4cfef_14.2 rfl
noncomputable def dJ1_indexOfChar_4cfef_16 := zr_dJ1_indexOfChar_4cfef_16.1
noncomputable def zr_dJ1_indexOfChar_4cfef_17 := zo_21 (k := 4)  (q := 19) zr_dJ1_indexOfChar_4cfef_16.2 rfl rfl
noncomputable def dJ1_indexOfChar_4cfef_17 := zr_dJ1_indexOfChar_4cfef_17.1
noncomputable def zr_dJ1_indexOfChar_4cfef_19 := zo_160 (k := 6)  (q := 22) zr_dJ1_indexOfChar_4cfef_17.2 (by decide +kernel) rfl
noncomputable def dJ1_indexOfChar_4cfef_19 := zr_dJ1_indexOfChar_4cfef_19.1
noncomputable def zr_dJ1_indexOfChar_4cfef_22 := zo_21 (k := 5)  (q := 24) zr_dJ1_indexOfChar_4cfef_19.2 rfl rfl
noncomputable def dJ1_indexOfChar_4cfef_22 := zr_dJ1_indexOfChar_4cfef_22.1
noncomputable def zr_dJ1_indexOfChar_4cfef_24 := zo_172 (q := 25) zr_dJ1_indexOfChar_4cfef_22.2 rfl
noncomputable def dJ1_indexOfChar_4cfef_24 := zr_dJ1_indexOfChar_4cfef_24.1
noncomputable def zr_dJ1_indexOfChar_4cfef_25 := zo_132 (k := 5) (o := 1)  (q := 28) zr_dJ1_indexOfChar_4cfef_24.2 rfl (by decide +kernel) rfl
noncomputable def dJ1_indexOfChar_4cfef_25 := zr_dJ1_indexOfChar_4cfef_25.1
noncomputable def zr_dJ1_indexOfChar_4cfef_28 := zo_167 (k := -21)  (q := 31) zr_dJ1_indexOfChar_4cfef_25.2 (by decide +kernel) rfl
noncomputable def dJ1_indexOfChar_4cfef_28 := zr_dJ1_indexOfChar_4cfef_28.1
noncomputable def zr_dJ1_indexOfChar_4cfef_31 := zo_2 (q := 32) zr_dJ1_indexOfChar_4cfef_28.2 rfl
noncomputable def dJ1_indexOfChar_4cfef_31 := zr_dJ1_indexOfChar_4cfef_31.1
noncomputable def zr_dJ1_indexOfChar_4cfef_32 := zo_172 (q := 33) zr_dJ1_indexOfChar_4cfef_31.2 rfl
noncomputable def dJ1_indexOfChar_4cfef_32 := zr_dJ1_indexOfChar_4cfef_32.1
theorem zs_dJ2_getChar_3b067_0 : zsuf cJ2_getChar_3b067 0 cJ2_getChar_3b067.data.toList := rfl
noncomputable def zr_dJ2_getChar_3b067_0 := zo_178 (k := 44)  (q := 3) zs_dJ2_getChar_3b067_0 rfl rfl
noncomputable def dJ2_getChar_3b067_0 := zr_dJ2_getChar_3b067_0.1
noncomputable def zr_dJ2_getChar_3b067_3 := zo_154 (k := 25)  (q := 6) zr_dJ2_getChar_3b067_0.2 (by decide +kernel) rfl
noncomputable def dJ2_getChar_3b067_3 := zr_dJ2_getChar_3b067_3.1
noncomputable def zr_dJ2_getChar_3b067_6 := zo_27 (q := 7) zr_dJ2_getChar_3b067_3.2 rfl
noncomputable def dJ2_getChar_3b067_6 := zr_dJ2_getChar_3b067_6.1
noncomputable def zr_dJ2_getChar_3b067_7 := zo_155 (k := 11)  (q := 10) zr_dJ2_getChar_3b067_6.2 (by decide +kernel) rfl
noncomputable def dJ2_getChar_3b067_7 := zr_dJ2_getChar_3b067_7.1
noncomputable def zr_dJ2_getChar_3b067_10 := zo_27 (q := 11) zr_dJ2_getChar_3b067_7.2 rfl
noncomputable def dJ2_getChar_3b067_10 := zr_dJ2_getChar_3b067_10.1
noncomputable def zr_dJ2_getChar_3b067_11 := zo_42 (q := 12) zr_dJ2_getChar_3b067_10.2 rfl
noncomputable def dJ2_getChar_3b067_11 := zr_dJ2_getChar_3b067_11.1
noncomputable def zr_dJ2_getChar_3b067_12 := zo_184 (k := 48)  (q := 15) zr_dJ2_getChar_3b067_11.2 rfl rfl
noncomputable def dJ2_getChar_3b067_12 := zr_dJ2_getChar_3b067_12.1
noncomputable def zr_dJ2_getChar_3b067_15 := zo_161 (k := 13)  (q := 18) zr_dJ2_getChar_3b067_12.2 (by decide +kernel) rfl
noncomputable def dJ2_getChar_3b067_15 := zr_dJ2_getChar_3b067_15.1
noncomputable def zr_dJ2_getChar_3b067_18 := zo_187 (k := 52)  (q := 21) zr_dJ2_getChar_3b067_15.2 rfl rfl
noncomputable def dJ2_getChar_3b067_18 := zr_dJ2_getChar_3b067_18.1
noncomputable def zr_dJ2_getChar_3b067_21 := zo_89 (q := 22) zr_dJ2_getChar_3b067_18.2 rfl
noncomputable def dJ2_getChar_3b067_21 := zr_dJ2_getChar_3b067_21.1
noncomputable def zr_dJ2_getChar_3b067_22 := zo_18 (k := 54)  (q := 24) zr_dJ2_getChar_3b067_21.2 rfl rfl
noncomputable def dJ2_getChar_3b067_22 := zr_dJ2_getChar_3b067_22.1
noncomputable def zr_dJ2_getChar_3b067_24 := zo_183 (k := 56)  (q := 27) zr_dJ2_getChar_3b067_22.2 rfl rfl
noncomputable def dJ2_getChar_3b067_24 := zr_dJ2_getChar_3b067_24.1
theorem zo_191 {c : ByteArray} {p q : Nat} {L : List UInt8} (h : zsuf c p (191 :: L)) (hq : p + 1 = q) : zD c p .athrow 1 ∧ zsuf c q L := zfin hq (Eq.trans (zbd (zu1 (v := 191) h rfl)) rfl) (zsuf_tl h)
noncomputable def zr_dJ2_getChar_3b067_27 := zo_191 (q := 28) zr_dJ2_getChar_3b067_24.2 rfl
noncomputable def dJ2_getChar_3b067_27 := zr_dJ2_getChar_3b067_27.1
noncomputable def zr_dJ2_getChar_3b067_28 := zo_27 (q := 29) zr_dJ2_getChar_3b067_27.2 rfl
noncomputable def dJ2_getChar_3b067_28 := zr_dJ2_getChar_3b067_28.1
noncomputable def zr_dJ2_getChar_3b067_29 := zo_4 (q := 30) zr_dJ2_getChar_3b067_28.2 rfl
noncomputable def dJ2_getChar_3b067_29 := zr_dJ2_getChar_3b067_29.1
noncomputable def zr_dJ2_getChar_3b067_30 := zo_120 (q := 31) zr_dJ2_getChar_3b067_29.2 rfl
noncomputable def dJ2_getChar_3b067_30 := zr_dJ2_getChar_3b067_30.1
noncomputable def zr_dJ2_getChar_3b067_31 := zo_60 (q := 32) zr_dJ2_getChar_3b067_30.2 rfl
noncomputable def dJ2_getChar_3b067_31 := zr_dJ2_getChar_3b067_31.1
noncomputable def zr_dJ2_getChar_3b067_32 := zo_42 (q := 33) zr_dJ2_getChar_3b067_31.2 rfl
noncomputable def dJ2_getChar_3b067_32 := zr_dJ2_getChar_3b067_32.1
noncomputable def zr_dJ2_getChar_3b067_33 := zo_27 (q := 34) zr_dJ2_getChar_3b067_32.2 rfl
noncomputable def dJ2_getChar_3b067_33 := zr_dJ2_getChar_3b067_33.1
noncomputable def zr_dJ2_getChar_3b067_34 := zo_132 (k := 1) (o := 1)  (q := 37) zr_dJ2_getChar_3b067_33.2 rfl (by decide +kernel) rfl
noncomputable def dJ2_getChar_3b067_34 := zr_dJ2_getChar_3b067_34.1
noncomputable def zr_dJ2_getChar_3b067_37 := zo_51 (q := 38) zr_dJ2_getChar_3b067_34.2 rfl
noncomputable def dJ2_getChar_3b067_37 := zr_dJ2_getChar_3b067_37.1
noncomputable def zr_dJ2_getChar_3b067_38 := zo_17 (k := 255)  (q := 41) zr_dJ2_getChar_3b067_37.2 (by decide +kernel) rfl
noncomputable def dJ2_getChar_3b067_38 := zr_dJ2_getChar_3b067_38.1
noncomputable def zr_dJ2_getChar_3b067_41 := zo_126 (q := 42) zr_dJ2_getChar_3b067_38.2 rfl
noncomputable def dJ2_getChar_3b067_41 := zr_dJ2_getChar_3b067_41.1
noncomputable def zr_dJ2_getChar_3b067_42 := zo_178 (k := 59)  (q := 45) zr_dJ2_getChar_3b067_41.2 rfl rfl
noncomputable def dJ2_getChar_3b067_42 := zr_dJ2_getChar_3b067_42.1
noncomputable def zr_dJ2_getChar_3b067_45 := zo_120 (q := 46) zr_dJ2_getChar_3b067_42.2 rfl
noncomputable def dJ2_getChar_3b067_45 := zr_dJ2_getChar_3b067_45.1
noncomputable def zr_dJ2_getChar_3b067_46 := zo_42 (q := 47) zr_dJ2_getChar_3b067_45.2 rfl
noncomputable def dJ2_getChar_3b067_46 := zr_dJ2_getChar_3b067_46.1
noncomputable def zr_dJ2_getChar_3b067_47 := zo_27 (q := 48) zr_dJ2_getChar_3b067_46.2 rfl
noncomputable def dJ2_getChar_3b067_47 := zr_dJ2_getChar_3b067_47.1
noncomputable def zr_dJ2_getChar_3b067_48 := zo_51 (q := 49) zr_dJ2_getChar_3b067_47.2 rfl
noncomputable def dJ2_getChar_3b067_48 := zr_dJ2_getChar_3b067_48.1
noncomputable def zr_dJ2_getChar_3b067_49 := zo_17 (k := 255)  (q := 52) zr_dJ2_getChar_3b067_48.2 (by decide +kernel) rfl
noncomputable def dJ2_getChar_3b067_49 := zr_dJ2_getChar_3b067_49.1
noncomputable def zr_dJ2_getChar_3b067_52 := zo_126 (q := 53) zr_dJ2_getChar_3b067_49.2 rfl
noncomputable def dJ2_getChar_3b067_52 := zr_dJ2_getChar_3b067_52.1
noncomputable def zr_dJ2_getChar_3b067_53 := zo_178 (k := 63)  (q := 56) zr_dJ2_getChar_3b067_52.2 rfl rfl
noncomputable def dJ2_getChar_3b067_53 := zr_dJ2_getChar_3b067_53.1
noncomputable def zr_dJ2_getChar_3b067_56 := zo_120 (q := 57) zr_dJ2_getChar_3b067_53.2 rfl
noncomputable def dJ2_getChar_3b067_56 := zr_dJ2_getChar_3b067_56.1
noncomputable def zr_dJ2_getChar_3b067_57 := zo_128 (q := 58) zr_dJ2_getChar_3b067_56.2 rfl
noncomputable def dJ2_getChar_3b067_57 := zr_dJ2_getChar_3b067_57.1
noncomputable def zr_dJ2_getChar_3b067_58 := zo_146 (q := 59) zr_dJ2_getChar_3b067_57.2 rfl
noncomputable def dJ2_getChar_3b067_58 := zr_dJ2_getChar_3b067_58.1
noncomputable def zr_dJ2_getChar_3b067_59 := zo_172 (q := 60) zr_dJ2_getChar_3b067_58.2 rfl
noncomputable def dJ2_getChar_3b067_59 := zr_dJ2_getChar_3b067_59.1
theorem zs_dJ2_length_9d52b_0 : zsuf cJ2_length_9d52b 0 cJ2_length_9d52b.data.toList := rfl
noncomputable def zr_dJ2_length_9d52b_0 := zo_42 (q := 1) zs_dJ2_length_9d52b_0 rfl
noncomputable def dJ2_length_9d52b_0 := zr_dJ2_length_9d52b_0.1
noncomputable def zr_dJ2_length_9d52b_1 := zo_190 (q := 2) zr_dJ2_length_9d52b_0.2 rfl
noncomputable def dJ2_length_9d52b_1 := zr_dJ2_length_9d52b_1.1
noncomputable def zr_dJ2_length_9d52b_2 := zo_4 (q := 3) zr_dJ2_length_9d52b_1.2 rfl
noncomputable def dJ2_length_9d52b_2 := zr_dJ2_length_9d52b_2.1
noncomputable def zr_dJ2_length_9d52b_3 := zo_122 (q := 4) zr_dJ2_length_9d52b_2.2 rfl
noncomputable def dJ2_length_9d52b_3 := zr_dJ2_length_9d52b_3.1
noncomputable def zr_dJ2_length_9d52b_4 := zo_172 (q := 5) zr_dJ2_length_9d52b_3.2 rfl
noncomputable def dJ2_length_9d52b_4 := zr_dJ2_length_9d52b_4.1
theorem zs_dJ2_indexOf_4cfef_0 : zsuf cJ2_indexOf_4cfef 0 cJ2_indexOf_4cfef.data.toList := rfl
noncomputable def zr_dJ2_indexOf_4cfef_0 := zo_28 (q := 1) zs_dJ2_indexOf_4cfef_0 rfl
noncomputable def dJ2_indexOf_4cfef_0 := zr_dJ2_indexOf_4cfef_0.1
noncomputable def zr_dJ2_indexOf_4cfef_1 := zo_3 (q := 2) zr_dJ2_indexOf_4cfef_0.2 rfl
noncomputable def dJ2_indexOf_4cfef_1 := zr_dJ2_indexOf_4cfef_1.1
noncomputable def zr_dJ2_indexOf_4cfef_2 := zo_184 (k := 224)  (q := 5) zr_dJ2_indexOf_4cfef_1.2 rfl rfl
noncomputable def dJ2_indexOf_4cfef_2 := zr_dJ2_indexOf_4cfef_2.1
noncomputable def zr_dJ2_indexOf_4cfef_5 := zo_61 (q := 6) zr_dJ2_indexOf_4cfef_2.2 rfl
noncomputable def dJ2_indexOf_4cfef_5 := zr_dJ2_indexOf_4cfef_5.1
noncomputable def zr_dJ2_indexOf_4cfef_6 := zo_29 (q := 7) zr_dJ2_indexOf_4cfef_5.2 rfl
noncomputable def dJ2_indexOf_4cfef_6 := zr_dJ2_indexOf_4cfef_6.1
noncomputable def zr_dJ2_indexOf_4cfef_7 := zo_42 (q := 8) zr_dJ2_indexOf_4cfef_6.2 rfl
noncomputable def dJ2_indexOf_4cfef_7 := zr_dJ2_indexOf_4cfef_7.1
noncomputable def zr_dJ2_indexOf_4cfef_8 := zo_190 (q := 9) zr_dJ2_indexOf_4cfef_7.2 rfl
noncomputable def dJ2_indexOf_4cfef_8 := zr_dJ2_indexOf_4cfef_8.1
noncomputable def zr_dJ2_indexOf_4cfef_9 := zo_4 (q := 10) zr_dJ2_indexOf_4cfef_8.2 rfl
noncomputable def dJ2_indexOf_4cfef_9 := zr_dJ2_indexOf_4cfef_9.1
noncomputable def zr_dJ2_indexOf_4cfef_10 := zo_122 (q := 11) zr_dJ2_indexOf_4cfef_9.2 rfl
noncomputable def dJ2_indexOf_4cfef_10 := zr_dJ2_indexOf_4cfef_10.1
noncomputable def zr_dJ2_indexOf_4cfef_11 := zo_184 (k := 183)  (q := 14) zr_dJ2_indexOf_4cfef_10.2 rfl rfl
noncomputable def dJ2_indexOf_4cfef_11 := zr_dJ2_indexOf_4cfef_11.1
noncomputable def zr_dJ2_indexOf_4cfef_14 := zo_62 (q := 15) zr_dJ2_indexOf_4cfef_11.2 rfl
noncomputable def dJ2_indexOf_4cfef_14 := zr_dJ2_indexOf_4cfef_14.1
noncomputable def zr_dJ2_indexOf_4cfef_15 := zo_28 (q := 16) zr_dJ2_indexOf_4cfef_14.2 rfl
noncomputable def dJ2_indexOf_4cfef_15 := zr_dJ2_indexOf_4cfef_15.1
noncomputable def zr_dJ2_indexOf_4cfef_16 := zo_29 (q := 17) zr_dJ2_indexOf_4cfef_15.2 rfl
noncomputable def dJ2_indexOf_4cfef_16 := zr_dJ2_indexOf_4cfef_16.1
noncomputable def zr_dJ2_indexOf_4cfef_17 := zo_161 (k := 5)  (q := 20) zr_dJ2_indexOf_4cfef_16.2 (by decide +kernel) rfl
noncomputable def dJ2_indexOf_4cfef_17 := zr_dJ2_indexOf_4cfef_17.1
noncomputable def zr_dJ2_indexOf_4cfef_20 := zo_2 (q := 21) zr_dJ2_indexOf_4cfef_17.2 rfl
noncomputable def dJ2_indexOf_4cfef_20 := zr_dJ2_indexOf_4cfef_20.1
noncomputable def zr_dJ2_indexOf_4cfef_21 := zo_172 (q := 22) zr_dJ2_indexOf_4cfef_20.2 rfl
noncomputable def dJ2_indexOf_4cfef_21 := zr_dJ2_indexOf_4cfef_21.1
noncomputable def zr_dJ2_indexOf_4cfef_22 := zo_27 (q := 23) zr_dJ2_indexOf_4cfef_21.2 rfl
noncomputable def dJ2_indexOf_4cfef_22 := zr_dJ2_indexOf_4cfef_22.1
noncomputable def zr_dJ2_indexOf_4cfef_23 := zo_18 (k := 227)  (q := 25) zr_dJ2_indexOf_4cfef_22.2 rfl rfl
noncomputable def dJ2_indexOf_4cfef_23 := zr_dJ2_indexOf_4cfef_23.1
noncomputable def zr_dJ2_indexOf_4cfef_25 := zo_162 (k := 11)  (q := 28) zr_dJ2_indexOf_4cfef_23.2 (by decide +kernel) rfl
noncomputable def dJ2_indexOf_4cfef_25 := zr_dJ2_indexOf_4cfef_25.1
noncomputable def zr_dJ2_indexOf_4cfef_28 := zo_42 (q := 29) zr_dJ2_indexOf_4cfef_25.2 rfl
noncomputable def dJ2_indexOf_4cfef_28 := zr_dJ2_indexOf_4cfef_28.1
noncomputable def zr_dJ2_indexOf_4cfef_29 := zo_27 (q := 30) zr_dJ2_indexOf_4cfef_28.2 rfl
noncomputable def dJ2_indexOf_4cfef_29 := zr_dJ2_indexOf_4cfef_29.1
noncomputable def zr_dJ2_indexOf_4cfef_30 := zo_28 (q := 31) zr_dJ2_indexOf_4cfef_29.2 rfl
noncomputable def dJ2_indexOf_4cfef_30 := zr_dJ2_indexOf_4cfef_30.1
noncomputable def zr_dJ2_indexOf_4cfef_31 := zo_29 (q := 32) zr_dJ2_indexOf_4cfef_30.2 rfl
noncomputable def dJ2_indexOf_4cfef_31 := zr_dJ2_indexOf_4cfef_31.1
noncomputable def zr_dJ2_indexOf_4cfef_32 := zo_184 (k := 228)  (q := 35) zr_dJ2_indexOf_4cfef_31.2 rfl rfl
noncomputable def dJ2_indexOf_4cfef_32 := zr_dJ2_indexOf_4cfef_32.1
noncomputable def zr_dJ2_indexOf_4cfef_35 := zo_172 (q := 36) zr_dJ2_indexOf_4cfef_32.2 rfl
noncomputable def dJ2_indexOf_4cfef_35 := zr_dJ2_indexOf_4cfef_35.1
noncomputable def zr_dJ2_indexOf_4cfef_36 := zo_42 (q := 37) zr_dJ2_indexOf_4cfef_35.2 rfl
noncomputable def dJ2_indexOf_4cfef_36 := zr_dJ2_indexOf_4cfef_36.1
noncomputable def zr_dJ2_indexOf_4cfef_37 := zo_27 (q := 38) zr_dJ2_indexOf_4cfef_36.2 rfl
noncomputable def dJ2_indexOf_4cfef_37 := zr_dJ2_indexOf_4cfef_37.1
noncomputable def zr_dJ2_indexOf_4cfef_38 := zo_28 (q := 39) zr_dJ2_indexOf_4cfef_37.2 rfl
noncomputable def dJ2_indexOf_4cfef_38 := zr_dJ2_indexOf_4cfef_38.1
noncomputable def zr_dJ2_indexOf_4cfef_39 := zo_29 (q := 40) zr_dJ2_indexOf_4cfef_38.2 rfl
noncomputable def dJ2_indexOf_4cfef_39 := zr_dJ2_indexOf_4cfef_39.1
noncomputable def zr_dJ2_indexOf_4cfef_40 := zo_184 (k := 232)  (q := 43) zr_dJ2_indexOf_4cfef_39.2 rfl rfl
noncomputable def dJ2_indexOf_4cfef_40 := zr_dJ2_indexOf_4cfef_40.1
noncomputable def zr_dJ2_indexOf_4cfef_43 := zo_172 (q := 44) zr_dJ2_indexOf_4cfef_40.2 rfl
noncomputable def dJ2_indexOf_4cfef_43 := zr_dJ2_indexOf_4cfef_43.1
theorem zs_dJ2_indexOfChar_4cfef_0 : zsuf cJ2_indexOfChar_4cfef 0 cJ2_indexOfChar_4cfef.data.toList := rfl
noncomputable def zr_dJ2_indexOfChar_4cfef_0 := zo_28 (q := 1) zs_dJ2_indexOfChar_4cfef_0 rfl
noncomputable def dJ2_indexOfChar_4cfef_0 := zr_dJ2_indexOfChar_4cfef_0.1
noncomputable def zr_dJ2_indexOfChar_4cfef_1 := zo_29 (q := 2) zr_dJ2_indexOfChar_4cfef_0.2 rfl
noncomputable def dJ2_indexOfChar_4cfef_1 := zr_dJ2_indexOfChar_4cfef_1.1
noncomputable def zr_dJ2_indexOfChar_4cfef_2 := zo_42 (q := 3) zr_dJ2_indexOfChar_4cfef_1.2 rfl
noncomputable def dJ2_indexOfChar_4cfef_2 := zr_dJ2_indexOfChar_4cfef_2.1
noncomputable def zr_dJ2_indexOfChar_4cfef_3 := zo_184 (k := 96)  (q := 6) zr_dJ2_indexOfChar_4cfef_2.2 rfl rfl
noncomputable def dJ2_indexOfChar_4cfef_3 := zr_dJ2_indexOfChar_4cfef_3.1
noncomputable def zr_dJ2_indexOfChar_4cfef_6 := zo_42 (q := 7) zr_dJ2_indexOfChar_4cfef_3.2 rfl
noncomputable def dJ2_indexOfChar_4cfef_6 := zr_dJ2_indexOfChar_4cfef_6.1
noncomputable def zr_dJ2_indexOfChar_4cfef_7 := zo_27 (q := 8) zr_dJ2_indexOfChar_4cfef_6.2 rfl
noncomputable def dJ2_indexOfChar_4cfef_7 := zr_dJ2_indexOfChar_4cfef_7.1
noncomputable def zr_dJ2_indexOfChar_4cfef_8 := zo_28 (q := 9) zr_dJ2_indexOfChar_4cfef_7.2 rfl
noncomputable def dJ2_indexOfChar_4cfef_8 := zr_dJ2_indexOfChar_4cfef_8.1
noncomputable def zr_dJ2_indexOfChar_4cfef_9 := zo_29 (q := 10) zr_dJ2_indexOfChar_4cfef_8.2 rfl
noncomputable def dJ2_indexOfChar_4cfef_9 := zr_dJ2_indexOfChar_4cfef_9.1
noncomputable def zr_dJ2_indexOfChar_4cfef_10 := zo_184 (k := 244)  (q := 13) zr_dJ2_indexOfChar_4cfef_9.2 rfl rfl
noncomputable def dJ2_indexOfChar_4cfef_10 := zr_dJ2_indexOfChar_4cfef_10.1
noncomputable def zr_dJ2_indexOfChar_4cfef_13 := zo_172 (q := 14) zr_dJ2_indexOfChar_4cfef_10.2 rfl
noncomputable def dJ2_indexOfChar_4cfef_13 := zr_dJ2_indexOfChar_4cfef_13.1
theorem zs_dJ2_indexOfCharUnsafe_4cfef_0 : zsuf cJ2_indexOfCharUnsafe_4cfef 0 cJ2_indexOfCharUnsafe_4cfef.data.toList := rfl
noncomputable def zr_dJ2_indexOfCharUnsafe_4cfef_0 := zo_28 (q := 1) zs_dJ2_indexOfCharUnsafe_4cfef_0 rfl
noncomputable def dJ2_indexOfCharUnsafe_4cfef_0 := zr_dJ2_indexOfCharUnsafe_4cfef_0.1
noncomputable def zr_dJ2_indexOfCharUnsafe_4cfef_1 := zo_54 (k := 4)  (q := 3) zr_dJ2_indexOfCharUnsafe_4cfef_0.2 rfl rfl
noncomputable def dJ2_indexOfCharUnsafe_4cfef_1 := zr_dJ2_indexOfCharUnsafe_4cfef_1.1
noncomputable def zr_dJ2_indexOfCharUnsafe_4cfef_3 := zo_21 (k := 4)  (q := 5) zr_dJ2_indexOfCharUnsafe_4cfef_1.2 rfl rfl
noncomputable def dJ2_indexOfCharUnsafe_4cfef_3 := zr_dJ2_indexOfCharUnsafe_4cfef_3.1
noncomputable def zr_dJ2_indexOfCharUnsafe_4cfef_5 := zo_29 (q := 6) zr_dJ2_indexOfCharUnsafe_4cfef_3.2 rfl
noncomputable def dJ2_indexOfCharUnsafe_4cfef_5 := zr_dJ2_indexOfCharUnsafe_4cfef_5.1
noncomputable def zr_dJ2_indexOfCharUnsafe_4cfef_6 := zo_162 (k := 22)  (q := 9) zr_dJ2_indexOfCharUnsafe_4cfef_5.2 (by decide +kernel) rfl
noncomputable def dJ2_indexOfCharUnsafe_4cfef_6 := zr_dJ2_indexOfCharUnsafe_4cfef_6.1
noncomputable def zr_dJ2_indexOfCharUnsafe_4cfef_9 := zo_42 (q := 10) zr_dJ2_indexOfCharUnsafe_4cfef_6.2 rfl
noncomputable def dJ2_indexOfCharUnsafe_4cfef_9 := zr_dJ2_indexOfCharUnsafe_4cfef_9.1
noncomputable def zr_dJ2_indexOfCharUnsafe_4cfef_10 := zo_21 (k := 4)  (q := 12) zr_dJ2_indexOfCharUnsafe_4cfef_9.2 rfl rfl
noncomputable def dJ2_indexOfCharUnsafe_4cfef_10 := zr_dJ2_indexOfCharUnsafe_4cfef_10.1
noncomputable def zr_dJ2_indexOfCharUnsafe_4cfef_12 := zo_184 (k := 71)  (q := 15) zr_dJ2_indexOfCharUnsafe_4cfef_10.2 rfl rfl
noncomputable def dJ2_indexOfCharUnsafe_4cfef_12 := zr_dJ2_indexOfCharUnsafe_4cfef_12.1
noncomputable def zr_dJ2_indexOfCharUnsafe_4cfef_15 := zo_27 (q := 16) zr_dJ2_indexOfCharUnsafe_4cfef_12.2 rfl
noncomputable def dJ2_indexOfCharUnsafe_4cfef_15 := zr_dJ2_indexOfCharUnsafe_4cfef_15.1
noncomputable def zr_dJ2_indexOfCharUnsafe_4cfef_16 := zo_160 (k := 6)  (q := 19) zr_dJ2_indexOfCharUnsafe_4cfef_15.2 (by decide +kernel) rfl
noncomputable def dJ2_indexOfCharUnsafe_4cfef_16 := zr_dJ2_indexOfCharUnsafe_4cfef_16.1
noncomputable def zr_dJ2_indexOfCharUnsafe_4cfef_19 := zo_21 (k := 4)  (q := 21) zr_dJ2_indexOfCharUnsafe_4cfef_16.2 rfl rfl
noncomputable def dJ2_indexOfCharUnsafe_4cfef_19 := zr_dJ2_indexOfCharUnsafe_4cfef_19.1
noncomputable def zr_dJ2_indexOfCharUnsafe_4cfef_21 := zo_172 (q := 22) zr_dJ2_indexOfCharUnsafe_4cfef_19.2 rfl
noncomputable def dJ2_indexOfCharUnsafe_4cfef_21 := zr_dJ2_indexOfCharUnsafe_4cfef_21.1
noncomputable def zr_dJ2_indexOfCharUnsafe_4cfef_22 := zo_132 (k := 4) (o := 1)  (q := 25) zr_dJ2_indexOfCharUnsafe_4cfef_21.2 rfl (by decide +kernel) rfl
noncomputable def dJ2_indexOfCharUnsafe_4cfef_22 := zr_dJ2_indexOfCharUnsafe_4cfef_22.1
noncomputable def zr_dJ2_indexOfCharUnsafe_4cfef_25 := zo_167 (k := -22)  (q := 28) zr_dJ2_indexOfCharUnsafe_4cfef_22.2 (by decide +kernel) rfl
noncomputable def dJ2_indexOfCharUnsafe_4cfef_25 := zr_dJ2_indexOfCharUnsafe_4cfef_25.1
noncomputable def zr_dJ2_indexOfCharUnsafe_4cfef_28 := zo_2 (q := 29) zr_dJ2_indexOfCharUnsafe_4cfef_25.2 rfl
noncomputable def dJ2_indexOfCharUnsafe_4cfef_28 := zr_dJ2_indexOfCharUnsafe_4cfef_28.1
noncomputable def zr_dJ2_indexOfCharUnsafe_4cfef_29 := zo_172 (q := 30) zr_dJ2_indexOfCharUnsafe_4cfef_28.2 rfl
noncomputable def dJ2_indexOfCharUnsafe_4cfef_29 := zr_dJ2_indexOfCharUnsafe_4cfef_29.1
theorem zs_dJ2_indexOfSupplementary_4cfef_0 : zsuf cJ2_indexOfSupplementary_4cfef 0 cJ2_indexOfSupplementary_4cfef.data.toList := rfl
noncomputable def zr_dJ2_indexOfSupplementary_4cfef_0 := zo_27 (q := 1) zs_dJ2_indexOfSupplementary_4cfef_0 rfl
noncomputable def dJ2_indexOfSupplementary_4cfef_0 := zr_dJ2_indexOfSupplementary_4cfef_0.1
noncomputable def zr_dJ2_indexOfSupplementary_4cfef_1 := zo_184 (k := 164)  (q := 4) zr_dJ2_indexOfSupplementary_4cfef_0.2 rfl rfl
noncomputable def dJ2_indexOfSupplementary_4cfef_1 := zr_dJ2_indexOfSupplementary_4cfef_1.1
noncomputable def zr_dJ2_indexOfSupplementary_4cfef_4 := zo_153 (k := 65)  (q := 7) zr_dJ2_indexOfSupplementary_4cfef_1.2 (by decide +kernel) rfl
noncomputable def dJ2_indexOfSupplementary_4cfef_4 := zr_dJ2_indexOfSupplementary_4cfef_4.1
noncomputable def zr_dJ2_indexOfSupplementary_4cfef_7 := zo_27 (q := 8) zr_dJ2_indexOfSupplementary_4cfef_4.2 rfl
noncomputable def dJ2_indexOfSupplementary_4cfef_7 := zr_dJ2_indexOfSupplementary_4cfef_7.1
noncomputable def zr_dJ2_indexOfSupplementary_4cfef_8 := zo_184 (k := 157)  (q := 11) zr_dJ2_indexOfSupplementary_4cfef_7.2 rfl rfl
noncomputable def dJ2_indexOfSupplementary_4cfef_8 := zr_dJ2_indexOfSupplementary_4cfef_8.1
noncomputable def zr_dJ2_indexOfSupplementary_4cfef_11 := zo_54 (k := 4)  (q := 13) zr_dJ2_indexOfSupplementary_4cfef_8.2 rfl rfl
noncomputable def dJ2_indexOfSupplementary_4cfef_11 := zr_dJ2_indexOfSupplementary_4cfef_11.1
noncomputable def zr_dJ2_indexOfSupplementary_4cfef_13 := zo_27 (q := 14) zr_dJ2_indexOfSupplementary_4cfef_11.2 rfl
noncomputable def dJ2_indexOfSupplementary_4cfef_13 := zr_dJ2_indexOfSupplementary_4cfef_13.1
noncomputable def zr_dJ2_indexOfSupplementary_4cfef_14 := zo_184 (k := 161)  (q := 17) zr_dJ2_indexOfSupplementary_4cfef_13.2 rfl rfl
noncomputable def dJ2_indexOfSupplementary_4cfef_14 := zr_dJ2_indexOfSupplementary_4cfef_14.1
noncomputable def zr_dJ2_indexOfSupplementary_4cfef_17 := zo_54 (k := 5)  (q := 19) zr_dJ2_indexOfSupplementary_4cfef_14.2 rfl rfl
noncomputable def dJ2_indexOfSupplementary_4cfef_17 := zr_dJ2_indexOfSupplementary_4cfef_17.1
noncomputable def zr_dJ2_indexOfSupplementary_4cfef_19 := zo_28 (q := 20) zr_dJ2_indexOfSupplementary_4cfef_17.2 rfl
noncomputable def dJ2_indexOfSupplementary_4cfef_19 := zr_dJ2_indexOfSupplementary_4cfef_19.1
noncomputable def zr_dJ2_indexOfSupplementary_4cfef_20 := zo_29 (q := 21) zr_dJ2_indexOfSupplementary_4cfef_19.2 rfl
noncomputable def dJ2_indexOfSupplementary_4cfef_20 := zr_dJ2_indexOfSupplementary_4cfef_20.1
noncomputable def zr_dJ2_indexOfSupplementary_4cfef_21 := zo_42 (q := 22) zr_dJ2_indexOfSupplementary_4cfef_20.2 rfl
noncomputable def dJ2_indexOfSupplementary_4cfef_21 := zr_dJ2_indexOfSupplementary_4cfef_21.1
noncomputable def zr_dJ2_indexOfSupplementary_4cfef_22 := zo_184 (k := 96)  (q := 25) zr_dJ2_indexOfSupplementary_4cfef_21.2 rfl rfl
noncomputable def dJ2_indexOfSupplementary_4cfef_22 := zr_dJ2_indexOfSupplementary_4cfef_22.1
noncomputable def zr_dJ2_indexOfSupplementary_4cfef_25 := zo_28 (q := 26) zr_dJ2_indexOfSupplementary_4cfef_22.2 rfl
noncomputable def dJ2_indexOfSupplementary_4cfef_25 := zr_dJ2_indexOfSupplementary_4cfef_25.1
noncomputable def zr_dJ2_indexOfSupplementary_4cfef_26 := zo_54 (k := 6)  (q := 28) zr_dJ2_indexOfSupplementary_4cfef_25.2 rfl rfl
noncomputable def dJ2_indexOfSupplementary_4cfef_26 := zr_dJ2_indexOfSupplementary_4cfef_26.1
noncomputable def zr_dJ2_indexOfSupplementary_4cfef_28 := zo_21 (k := 6)  (q := 30) zr_dJ2_indexOfSupplementary_4cfef_26.2 rfl rfl
noncomputable def dJ2_indexOfSupplementary_4cfef_28 := zr_dJ2_indexOfSupplementary_4cfef_28.1
noncomputable def zr_dJ2_indexOfSupplementary_4cfef_30 := zo_29 (q := 31) zr_dJ2_indexOfSupplementary_4cfef_28.2 rfl
noncomputable def dJ2_indexOfSupplementary_4cfef_30 := zr_dJ2_indexOfSupplementary_4cfef_30.1
noncomputable def zr_dJ2_indexOfSupplementary_4cfef_31 := zo_4 (q := 32) zr_dJ2_indexOfSupplementary_4cfef_30.2 rfl
noncomputable def dJ2_indexOfSupplementary_4cfef_31 := zr_dJ2_indexOfSupplementary_4cfef_31.1
noncomputable def zr_dJ2_indexOfSupplementary_4cfef_32 := zo_100 (q := 33) zr_dJ2_indexOfSupplementary_4cfef_31.2 rfl
noncomputable def dJ2_indexOfSupplementary_4cfef_32 := zr_dJ2_indexOfSupplementary_4cfef_32.1
noncomputable def zr_dJ2_indexOfSupplementary_4cfef_33 := zo_162 (k := 36)  (q := 36) zr_dJ2_indexOfSupplementary_4cfef_32.2 (by decide +kernel) rfl
noncomputable def dJ2_indexOfSupplementary_4cfef_33 := zr_dJ2_indexOfSupplementary_4cfef_33.1
noncomputable def zr_dJ2_indexOfSupplementary_4cfef_36 := zo_42 (q := 37) zr_dJ2_indexOfSupplementary_4cfef_33.2 rfl
noncomputable def dJ2_indexOfSupplementary_4cfef_36 := zr_dJ2_indexOfSupplementary_4cfef_36.1
noncomputable def zr_dJ2_indexOfSupplementary_4cfef_37 := zo_21 (k := 6)  (q := 39) zr_dJ2_indexOfSupplementary_4cfef_36.2 rfl rfl
noncomputable def dJ2_indexOfSupplementary_4cfef_37 := zr_dJ2_indexOfSupplementary_4cfef_37.1
noncomputable def zr_dJ2_indexOfSupplementary_4cfef_39 := zo_184 (k := 71)  (q := 42) zr_dJ2_indexOfSupplementary_4cfef_37.2 rfl rfl
noncomputable def dJ2_indexOfSupplementary_4cfef_39 := zr_dJ2_indexOfSupplementary_4cfef_39.1
noncomputable def zr_dJ2_indexOfSupplementary_4cfef_42 := zo_21 (k := 4)  (q := 44) zr_dJ2_indexOfSupplementary_4cfef_39.2 rfl rfl
noncomputable def dJ2_indexOfSupplementary_4cfef_42 := zr_dJ2_indexOfSupplementary_4cfef_42.1
noncomputable def zr_dJ2_indexOfSupplementary_4cfef_44 := zo_160 (k := 19)  (q := 47) zr_dJ2_indexOfSupplementary_4cfef_42.2 (by decide +kernel) rfl
noncomputable def dJ2_indexOfSupplementary_4cfef_44 := zr_dJ2_indexOfSupplementary_4cfef_44.1
noncomputable def zr_dJ2_indexOfSupplementary_4cfef_47 := zo_42 (q := 48) zr_dJ2_indexOfSupplementary_4cfef_44.2 rfl
noncomputable def dJ2_indexOfSupplementary_4cfef_47 := zr_dJ2_indexOfSupplementary_4cfef_47.1
noncomputable def zr_dJ2_indexOfSupplementary_4cfef_48 := zo_21 (k := 6)  (q := 50) zr_dJ2_indexOfSupplementary_4cfef_47.2 rfl rfl
noncomputable def dJ2_indexOfSupplementary_4cfef_48 := zr_dJ2_indexOfSupplementary_4cfef_48.1
noncomputable def zr_dJ2_indexOfSupplementary_4cfef_50 := zo_4 (q := 51) zr_dJ2_indexOfSupplementary_4cfef_48.2 rfl
noncomputable def dJ2_indexOfSupplementary_4cfef_50 := zr_dJ2_indexOfSupplementary_4cfef_50.1
noncomputable def zr_dJ2_indexOfSupplementary_4cfef_51 := zo_96 (q := 52) zr_dJ2_indexOfSupplementary_4cfef_50.2 rfl
noncomputable def dJ2_indexOfSupplementary_4cfef_51 := zr_dJ2_indexOfSupplementary_4cfef_51.1
noncomputable def zr_dJ2_indexOfSupplementary_4cfef_52 := zo_184 (k := 71)  (q := 55) zr_dJ2_indexOfSupplementary_4cfef_51.2 rfl rfl
noncomputable def dJ2_indexOfSupplementary_4cfef_52 := zr_dJ2_indexOfSupplementary_4cfef_52.1
noncomputable def zr_dJ2_indexOfSupplementary_4cfef_55 := zo_21 (k := 5)  (q := 57) zr_dJ2_indexOfSupplementary_4cfef_52.2 rfl rfl
noncomputable def dJ2_indexOfSupplementary_4cfef_55 := zr_dJ2_indexOfSupplementary_4cfef_55.1
noncomputable def zr_dJ2_indexOfSupplementary_4cfef_57 := zo_160 (k := 6)  (q := 60) zr_dJ2_indexOfSupplementary_4cfef_55.2 (by decide +kernel) rfl
noncomputable def dJ2_indexOfSupplementary_4cfef_57 := zr_dJ2_indexOfSupplementary_4cfef_57.1
noncomputable def zr_dJ2_indexOfSupplementary_4cfef_60 := zo_21 (k := 6)  (q := 62) zr_dJ2_indexOfSupplementary_4cfef_57.2 rfl rfl
noncomputable def dJ2_indexOfSupplementary_4cfef_60 := zr_dJ2_indexOfSupplementary_4cfef_60.1
noncomputable def zr_dJ2_indexOfSupplementary_4cfef_62 := zo_172 (q := 63) zr_dJ2_indexOfSupplementary_4cfef_60.2 rfl
noncomputable def dJ2_indexOfSupplementary_4cfef_62 := zr_dJ2_indexOfSupplementary_4cfef_62.1
noncomputable def zr_dJ2_indexOfSupplementary_4cfef_63 := zo_132 (k := 6) (o := 1)  (q := 66) zr_dJ2_indexOfSupplementary_4cfef_62.2 rfl (by decide +kernel) rfl
noncomputable def dJ2_indexOfSupplementary_4cfef_63 := zr_dJ2_indexOfSupplementary_4cfef_63.1
noncomputable def zr_dJ2_indexOfSupplementary_4cfef_66 := zo_167 (k := -38)  (q := 69) zr_dJ2_indexOfSupplementary_4cfef_63.2 (by decide +kernel) rfl
noncomputable def dJ2_indexOfSupplementary_4cfef_66 := zr_dJ2_indexOfSupplementary_4cfef_66.1
noncomputable def zr_dJ2_indexOfSupplementary_4cfef_69 := zo_2 (q := 70) zr_dJ2_indexOfSupplementary_4cfef_66.2 rfl
noncomputable def dJ2_indexOfSupplementary_4cfef_69 := zr_dJ2_indexOfSupplementary_4cfef_69.1
noncomputable def zr_dJ2_indexOfSupplementary_4cfef_70 := zo_172 (q := 71) zr_dJ2_indexOfSupplementary_4cfef_69.2 rfl
noncomputable def dJ2_indexOfSupplementary_4cfef_70 := zr_dJ2_indexOfSupplementary_4cfef_70.1
theorem zs_dJ2_charAt_3b067_0 : zsuf cJ2_charAt_3b067 0 cJ2_charAt_3b067.data.toList := rfl
noncomputable def zr_dJ2_charAt_3b067_0 := zo_27 (q := 1) zs_dJ2_charAt_3b067_0 rfl
noncomputable def dJ2_charAt_3b067_0 := zr_dJ2_charAt_3b067_0.1
noncomputable def zr_dJ2_charAt_3b067_1 := zo_42 (q := 2) zr_dJ2_charAt_3b067_0.2 rfl
noncomputable def dJ2_charAt_3b067_1 := zr_dJ2_charAt_3b067_1.1
noncomputable def zr_dJ2_charAt_3b067_2 := zo_184 (k := 67)  (q := 5) zr_dJ2_charAt_3b067_1.2 rfl rfl
noncomputable def dJ2_charAt_3b067_2 := zr_dJ2_charAt_3b067_2.1
noncomputable def zr_dJ2_charAt_3b067_5 := zo_42 (q := 6) zr_dJ2_charAt_3b067_2.2 rfl
noncomputable def dJ2_charAt_3b067_5 := zr_dJ2_charAt_3b067_5.1
noncomputable def zr_dJ2_charAt_3b067_6 := zo_27 (q := 7) zr_dJ2_charAt_3b067_5.2 rfl
noncomputable def dJ2_charAt_3b067_6 := zr_dJ2_charAt_3b067_6.1
noncomputable def zr_dJ2_charAt_3b067_7 := zo_184 (k := 71)  (q := 10) zr_dJ2_charAt_3b067_6.2 rfl rfl
noncomputable def dJ2_charAt_3b067_7 := zr_dJ2_charAt_3b067_7.1
noncomputable def zr_dJ2_charAt_3b067_10 := zo_172 (q := 11) zr_dJ2_charAt_3b067_7.2 rfl
noncomputable def dJ2_charAt_3b067_10 := zr_dJ2_charAt_3b067_10.1
theorem zs_dJ2_checkIndex_2214a_0 : zsuf cJ2_checkIndex_2214a 0 cJ2_checkIndex_2214a.data.toList := rfl
noncomputable def zr_dJ2_checkIndex_2214a_0 := zo_26 (q := 1) zs_dJ2_checkIndex_2214a_0 rfl
noncomputable def dJ2_checkIndex_2214a_0 := zr_dJ2_checkIndex_2214a_0.1
noncomputable def zr_dJ2_checkIndex_2214a_1 := zo_43 (q := 2) zr_dJ2_checkIndex_2214a_0.2 rfl
noncomputable def dJ2_checkIndex_2214a_1 := zr_dJ2_checkIndex_2214a_1.1
noncomputable def zr_dJ2_checkIndex_2214a_2 := zo_184 (k := 48)  (q := 5) zr_dJ2_checkIndex_2214a_1.2 rfl rfl
noncomputable def dJ2_checkIndex_2214a_2 := zr_dJ2_checkIndex_2214a_2.1
noncomputable def zr_dJ2_checkIndex_2214a_5 := zo_184 (k := 414)  (q := 8) zr_dJ2_checkIndex_2214a_2.2 rfl rfl
noncomputable def dJ2_checkIndex_2214a_5 := zr_dJ2_checkIndex_2214a_5.1
noncomputable def zr_dJ2_checkIndex_2214a_8 := zo_177 (q := 9) zr_dJ2_checkIndex_2214a_5.2 rfl
noncomputable def dJ2_checkIndex_2214a_8 := zr_dJ2_checkIndex_2214a_8.1
theorem zs_dJ2_checkBoundsBeginEnd_d044e_0 : zsuf cJ2_checkBoundsBeginEnd_d044e 0 cJ2_checkBoundsBeginEnd_d044e.data.toList := rfl
noncomputable def zr_dJ2_checkBoundsBeginEnd_d044e_0 := zo_26 (q := 1) zs_dJ2_checkBoundsBeginEnd_d044e_0 rfl
noncomputable def dJ2_checkBoundsBeginEnd_d044e_0 := zr_dJ2_checkBoundsBeginEnd_d044e_0.1
noncomputable def zr_dJ2_checkBoundsBeginEnd_d044e_1 := zo_27 (q := 2) zr_dJ2_checkBoundsBeginEnd_d044e_0.2 rfl
noncomputable def dJ2_checkBoundsBeginEnd_d044e_1 := zr_dJ2_checkBoundsBeginEnd_d044e_1.1
theorem zo_44 {c : ByteArray} {p q : Nat} {L : List UInt8} (h : zsuf c p (44 :: L)) (hq : p + 1 = q) : zD c p (.aload_n 2) 1 ∧ zsuf c q L := zfin hq (Eq.trans (zbd (zu1 (v := 44) h rfl)) rfl) (zsuf_tl h)
noncomputable def zr_dJ2_checkBoundsBeginEnd_d044e_2 := zo_44 (q := 3) zr_dJ2_checkBoundsBeginEnd_d044e_1.2 rfl
noncomputable def dJ2_checkBoundsBeginEnd_d044e_2 := zr_dJ2_checkBoundsBeginEnd_d044e_2.1
noncomputable def zr_dJ2_checkBoundsBeginEnd_d044e_3 := zo_184 (k := 48)  (q := 6) zr_dJ2_checkBoundsBeginEnd_d044e_2.2 rfl rfl
noncomputable def dJ2_checkBoundsBeginEnd_d044e_3 := zr_dJ2_checkBoundsBeginEnd_d044e_3.1
noncomputable def zr_dJ2_checkBoundsBeginEnd_d044e_6 := zo_184 (k := 241)  (q := 9) zr_dJ2_checkBoundsBeginEnd_d044e_3.2 rfl rfl
noncomputable def dJ2_checkBoundsBeginEnd_d044e_6 := zr_dJ2_checkBoundsBeginEnd_d044e_6.1
noncomputable def zr_dJ2_checkBoundsBeginEnd_d044e_9 := zo_177 (q := 10) zr_dJ2_checkBoundsBeginEnd_d044e_6.2 rfl
noncomputable def dJ2_checkBoundsBeginEnd_d044e_9 := zr_dJ2_checkBoundsBeginEnd_d044e_9.1
theorem zs_dJ7_fill_53178_0 : zsuf cJ7_fill_53178 0 cJ7_fill_53178.data.toList := rfl
noncomputable def zr_dJ7_fill_53178_0 := zo_3 (q := 1) zs_dJ7_fill_53178_0 rfl
noncomputable def dJ7_fill_53178_0 := zr_dJ7_fill_53178_0.1
noncomputable def zr_dJ7_fill_53178_1 := zo_61 (q := 2) zr_dJ7_fill_53178_0.2 rfl
noncomputable def dJ7_fill_53178_1 := zr_dJ7_fill_53178_1.1
noncomputable def zr_dJ7_fill_53178_2 := zo_42 (q := 3) zr_dJ7_fill_53178_1.2 rfl
noncomputable def dJ7_fill_53178_2 := zr_dJ7_fill_53178_2.1
noncomputable def zr_dJ7_fill_53178_3 := zo_190 (q := 4) zr_dJ7_fill_53178_2.2 rfl
noncomputable def dJ7_fill_53178_3 := zr_dJ7_fill_53178_3.1
noncomputable def zr_dJ7_fill_53178_4 := zo_62 (q := 5) zr_dJ7_fill_53178_3.2 rfl
noncomputable def dJ7_fill_53178_4 := zr_dJ7_fill_53178_4.1
noncomputable def zr_dJ7_fill_53178_5 := zo_28 (q := 6) zr_dJ7_fill_53178_4.2 rfl
noncomputable def dJ7_fill_53178_5 := zr_dJ7_fill_53178_5.1
noncomputable def zr_dJ7_fill_53178_6 := zo_29 (q := 7) zr_dJ7_fill_53178_5.2 rfl
noncomputable def dJ7_fill_53178_6 := zr_dJ7_fill_53178_6.1
noncomputable def zr_dJ7_fill_53178_7 := zo_162 (k := 13)  (q := 10) zr_dJ7_fill_53178_6.2 (by decide +kernel) rfl
noncomputable def dJ7_fill_53178_7 := zr_dJ7_fill_53178_7.1
noncomputable def zr_dJ7_fill_53178_10 := zo_42 (q := 11) zr_dJ7_fill_53178_7.2 rfl
noncomputable def dJ7_fill_53178_10 := zr_dJ7_fill_53178_10.1
noncomputable def zr_dJ7_fill_53178_11 := zo_28 (q := 12) zr_dJ7_fill_53178_10.2 rfl
noncomputable def dJ7_fill_53178_11 := zr_dJ7_fill_53178_11.1
noncomputable def zr_dJ7_fill_53178_12 := zo_27 (q := 13) zr_dJ7_fill_53178_11.2 rfl
noncomputable def dJ7_fill_53178_12 := zr_dJ7_fill_53178_12.1
noncomputable def zr_dJ7_fill_53178_13 := zo_79 (q := 14) zr_dJ7_fill_53178_12.2 rfl
noncomputable def dJ7_fill_53178_13 := zr_dJ7_fill_53178_13.1
noncomputable def zr_dJ7_fill_53178_14 := zo_132 (k := 2) (o := 1)  (q := 17) zr_dJ7_fill_53178_13.2 rfl (by decide +kernel) rfl
noncomputable def dJ7_fill_53178_14 := zr_dJ7_fill_53178_14.1
noncomputable def zr_dJ7_fill_53178_17 := zo_167 (k := -12)  (q := 20) zr_dJ7_fill_53178_14.2 (by decide +kernel) rfl
noncomputable def dJ7_fill_53178_17 := zr_dJ7_fill_53178_17.1
noncomputable def zr_dJ7_fill_53178_20 := zo_177 (q := 21) zr_dJ7_fill_53178_17.2 rfl
noncomputable def dJ7_fill_53178_20 := zr_dJ7_fill_53178_20.1
theorem zs_dJ3_checkIndex_8e157_0 : zsuf cJ3_checkIndex_8e157 0 cJ3_checkIndex_8e157.data.toList := rfl
noncomputable def zr_dJ3_checkIndex_8e157_0 := zo_26 (q := 1) zs_dJ3_checkIndex_8e157_0 rfl
noncomputable def dJ3_checkIndex_8e157_0 := zr_dJ3_checkIndex_8e157_0.1
noncomputable def zr_dJ3_checkIndex_8e157_1 := zo_155 (k := 8)  (q := 4) zr_dJ3_checkIndex_8e157_0.2 (by decide +kernel) rfl
noncomputable def dJ3_checkIndex_8e157_1 := zr_dJ3_checkIndex_8e157_1.1
noncomputable def zr_dJ3_checkIndex_8e157_4 := zo_26 (q := 5) zr_dJ3_checkIndex_8e157_1.2 rfl
noncomputable def dJ3_checkIndex_8e157_4 := zr_dJ3_checkIndex_8e157_4.1
noncomputable def zr_dJ3_checkIndex_8e157_5 := zo_27 (q := 6) zr_dJ3_checkIndex_8e157_4.2 rfl
noncomputable def dJ3_checkIndex_8e157_5 := zr_dJ3_checkIndex_8e157_5.1
noncomputable def zr_dJ3_checkIndex_8e157_6 := zo_161 (k := 10)  (q := 9) zr_dJ3_checkIndex_8e157_5.2 (by decide +kernel) rfl
noncomputable def dJ3_checkIndex_8e157_6 := zr_dJ3_checkIndex_8e157_6.1
noncomputable def zr_dJ3_checkIndex_8e157_9 := zo_44 (q := 10) zr_dJ3_checkIndex_8e157_6.2 rfl
noncomputable def dJ3_checkIndex_8e157_9 := zr_dJ3_checkIndex_8e157_9.1
noncomputable def zr_dJ3_checkIndex_8e157_10 := zo_26 (q := 11) zr_dJ3_checkIndex_8e157_9.2 rfl
noncomputable def dJ3_checkIndex_8e157_10 := zr_dJ3_checkIndex_8e157_10.1
noncomputable def zr_dJ3_checkIndex_8e157_11 := zo_27 (q := 12) zr_dJ3_checkIndex_8e157_10.2 rfl
noncomputable def dJ3_checkIndex_8e157_11 := zr_dJ3_checkIndex_8e157_11.1
noncomputable def zr_dJ3_checkIndex_8e157_12 := zo_184 (k := 95)  (q := 15) zr_dJ3_checkIndex_8e157_11.2 rfl rfl
noncomputable def dJ3_checkIndex_8e157_12 := zr_dJ3_checkIndex_8e157_12.1
noncomputable def zr_dJ3_checkIndex_8e157_15 := zo_191 (q := 16) zr_dJ3_checkIndex_8e157_12.2 rfl
noncomputable def dJ3_checkIndex_8e157_15 := zr_dJ3_checkIndex_8e157_15.1
noncomputable def zr_dJ3_checkIndex_8e157_16 := zo_26 (q := 17) zr_dJ3_checkIndex_8e157_15.2 rfl
noncomputable def dJ3_checkIndex_8e157_16 := zr_dJ3_checkIndex_8e157_16.1
noncomputable def zr_dJ3_checkIndex_8e157_17 := zo_172 (q := 18) zr_dJ3_checkIndex_8e157_16.2 rfl
noncomputable def dJ3_checkIndex_8e157_17 := zr_dJ3_checkIndex_8e157_17.1
theorem zs_dJ3_checkFromToIndex_8c36e_0 : zsuf cJ3_checkFromToIndex_8c36e 0 cJ3_checkFromToIndex_8c36e.data.toList := rfl
noncomputable def zr_dJ3_checkFromToIndex_8c36e_0 := zo_26 (q := 1) zs_dJ3_checkFromToIndex_8c36e_0 rfl
noncomputable def dJ3_checkFromToIndex_8c36e_0 := zr_dJ3_checkFromToIndex_8c36e_0.1
noncomputable def zr_dJ3_checkFromToIndex_8c36e_1 := zo_155 (k := 13)  (q := 4) zr_dJ3_checkFromToIndex_8c36e_0.2 (by decide +kernel) rfl
noncomputable def dJ3_checkFromToIndex_8c36e_1 := zr_dJ3_checkFromToIndex_8c36e_1.1
noncomputable def zr_dJ3_checkFromToIndex_8c36e_4 := zo_26 (q := 5) zr_dJ3_checkFromToIndex_8c36e_1.2 rfl
noncomputable def dJ3_checkFromToIndex_8c36e_4 := zr_dJ3_checkFromToIndex_8c36e_4.1
noncomputable def zr_dJ3_checkFromToIndex_8c36e_5 := zo_27 (q := 6) zr_dJ3_checkFromToIndex_8c36e_4.2 rfl
noncomputable def dJ3_checkFromToIndex_8c36e_5 := zr_dJ3_checkFromToIndex_8c36e_5.1
noncomputable def zr_dJ3_checkFromToIndex_8c36e_6 := zo_163 (k := 8)  (q := 9) zr_dJ3_checkFromToIndex_8c36e_5.2 (by decide +kernel) rfl
noncomputable def dJ3_checkFromToIndex_8c36e_6 := zr_dJ3_checkFromToIndex_8c36e_6.1
noncomputable def zr_dJ3_checkFromToIndex_8c36e_9 := zo_27 (q := 10) zr_dJ3_checkFromToIndex_8c36e_6.2 rfl
noncomputable def dJ3_checkFromToIndex_8c36e_9 := zr_dJ3_checkFromToIndex_8c36e_9.1
noncomputable def zr_dJ3_checkFromToIndex_8c36e_10 := zo_28 (q := 11) zr_dJ3_checkFromToIndex_8c36e_9.2 rfl
noncomputable def dJ3_checkFromToIndex_8c36e_10 := zr_dJ3_checkFromToIndex_8c36e_10.1
noncomputable def zr_dJ3_checkFromToIndex_8c36e_11 := zo_164 (k := 11)  (q := 14) zr_dJ3_checkFromToIndex_8c36e_10.2 (by decide +kernel) rfl
noncomputable def dJ3_checkFromToIndex_8c36e_11 := zr_dJ3_checkFromToIndex_8c36e_11.1
noncomputable def zr_dJ3_checkFromToIndex_8c36e_14 := zo_45 (q := 15) zr_dJ3_checkFromToIndex_8c36e_11.2 rfl
noncomputable def dJ3_checkFromToIndex_8c36e_14 := zr_dJ3_checkFromToIndex_8c36e_14.1
noncomputable def zr_dJ3_checkFromToIndex_8c36e_15 := zo_26 (q := 16) zr_dJ3_checkFromToIndex_8c36e_14.2 rfl
noncomputable def dJ3_checkFromToIndex_8c36e_15 := zr_dJ3_checkFromToIndex_8c36e_15.1
noncomputable def zr_dJ3_checkFromToIndex_8c36e_16 := zo_27 (q := 17) zr_dJ3_checkFromToIndex_8c36e_15.2 rfl
noncomputable def dJ3_checkFromToIndex_8c36e_16 := zr_dJ3_checkFromToIndex_8c36e_16.1
noncomputable def zr_dJ3_checkFromToIndex_8c36e_17 := zo_28 (q := 18) zr_dJ3_checkFromToIndex_8c36e_16.2 rfl
noncomputable def dJ3_checkFromToIndex_8c36e_17 := zr_dJ3_checkFromToIndex_8c36e_17.1
noncomputable def zr_dJ3_checkFromToIndex_8c36e_18 := zo_184 (k := 99)  (q := 21) zr_dJ3_checkFromToIndex_8c36e_17.2 rfl rfl
noncomputable def dJ3_checkFromToIndex_8c36e_18 := zr_dJ3_checkFromToIndex_8c36e_18.1
noncomputable def zr_dJ3_checkFromToIndex_8c36e_21 := zo_191 (q := 22) zr_dJ3_checkFromToIndex_8c36e_18.2 rfl
noncomputable def dJ3_checkFromToIndex_8c36e_21 := zr_dJ3_checkFromToIndex_8c36e_21.1
noncomputable def zr_dJ3_checkFromToIndex_8c36e_22 := zo_26 (q := 23) zr_dJ3_checkFromToIndex_8c36e_21.2 rfl
noncomputable def dJ3_checkFromToIndex_8c36e_22 := zr_dJ3_checkFromToIndex_8c36e_22.1
noncomputable def zr_dJ3_checkFromToIndex_8c36e_23 := zo_172 (q := 24) zr_dJ3_checkFromToIndex_8c36e_22.2 rfl
noncomputable def dJ3_checkFromToIndex_8c36e_23 := zr_dJ3_checkFromToIndex_8c36e_23.1
