theorem zd02dec4_0 : decode cX6_tellsPlaces 102 = .ok (.istore 6, 2) ∧ decode cX6_tellsPlaces 104 = .ok (.iload 6, 2) ∧ decode cX6_tellsPlaces 106 = .ok (.iload_n 2, 1) ∧ decode cX6_tellsPlaces 107 = .ok (.if_icmp .ge 74, 3) ∧ decode cX6_tellsPlaces 110 = .ok (.aload_n 0, 1) ∧ decode cX6_tellsPlaces 111 = .ok (.getfield 19, 3) ∧ decode cX6_tellsPlaces 114 = .ok (.iconst 3, 1) ∧ decode cX6_tellsPlaces 115 = .ok (.iload_n 1, 1) ∧ decode cX6_tellsPlaces 116 = .ok (.imul, 1) ∧ decode cX6_tellsPlaces 117 = .ok (.iconst 1, 1) ∧ decode cX6_tellsPlaces 118 = .ok (.iadd, 1) ∧ decode cX6_tellsPlaces 119 = .ok (.dup2, 1) := by decide +kernel
theorem dX6_tellsPlaces_102 : decode cX6_tellsPlaces 102 = .ok (.istore 6, 2) := zd02dec4_0.1
theorem dX6_tellsPlaces_104 : decode cX6_tellsPlaces 104 = .ok (.iload 6, 2) := zd02dec4_0.2.1
theorem dX6_tellsPlaces_106 : decode cX6_tellsPlaces 106 = .ok (.iload_n 2, 1) := zd02dec4_0.2.2.1
theorem dX6_tellsPlaces_107 : decode cX6_tellsPlaces 107 = .ok (.if_icmp .ge 74, 3) := zd02dec4_0.2.2.2.1
theorem dX6_tellsPlaces_110 : decode cX6_tellsPlaces 110 = .ok (.aload_n 0, 1) := zd02dec4_0.2.2.2.2.1
theorem dX6_tellsPlaces_111 : decode cX6_tellsPlaces 111 = .ok (.getfield 19, 3) := zd02dec4_0.2.2.2.2.2.1
theorem dX6_tellsPlaces_114 : decode cX6_tellsPlaces 114 = .ok (.iconst 3, 1) := zd02dec4_0.2.2.2.2.2.2.1
theorem dX6_tellsPlaces_115 : decode cX6_tellsPlaces 115 = .ok (.iload_n 1, 1) := zd02dec4_0.2.2.2.2.2.2.2.1
theorem dX6_tellsPlaces_116 : decode cX6_tellsPlaces 116 = .ok (.imul, 1) := zd02dec4_0.2.2.2.2.2.2.2.2.1
theorem dX6_tellsPlaces_117 : decode cX6_tellsPlaces 117 = .ok (.iconst 1, 1) := zd02dec4_0.2.2.2.2.2.2.2.2.2.1
theorem dX6_tellsPlaces_118 : decode cX6_tellsPlaces 118 = .ok (.iadd, 1) := zd02dec4_0.2.2.2.2.2.2.2.2.2.2.1
theorem dX6_tellsPlaces_119 : decode cX6_tellsPlaces 119 = .ok (.dup2, 1) := zd02dec4_0.2.2.2.2.2.2.2.2.2.2.2
theorem zd02dec4_1 : decode cX6_tellsPlaces 120 = .ok (.iaload, 1) ∧ decode cX6_tellsPlaces 121 = .ok (.iconst 1, 1) ∧ decode cX6_tellsPlaces 122 = .ok (.iadd, 1) ∧ decode cX6_tellsPlaces 123 = .ok (.iastore, 1) ∧ decode cX6_tellsPlaces 124 = .ok (.aload_n 0, 1) ∧ decode cX6_tellsPlaces 125 = .ok (.getfield 19, 3) ∧ decode cX6_tellsPlaces 128 = .ok (.iconst 3, 1) ∧ decode cX6_tellsPlaces 129 = .ok (.iload_n 1, 1) ∧ decode cX6_tellsPlaces 130 = .ok (.imul, 1) ∧ decode cX6_tellsPlaces 131 = .ok (.aload_n 0, 1) ∧ decode cX6_tellsPlaces 132 = .ok (.getfield 19, 3) ∧ decode cX6_tellsPlaces 135 = .ok (.iconst 3, 1) := by decide +kernel
theorem dX6_tellsPlaces_120 : decode cX6_tellsPlaces 120 = .ok (.iaload, 1) := zd02dec4_1.1
theorem dX6_tellsPlaces_121 : decode cX6_tellsPlaces 121 = .ok (.iconst 1, 1) := zd02dec4_1.2.1
theorem dX6_tellsPlaces_122 : decode cX6_tellsPlaces 122 = .ok (.iadd, 1) := zd02dec4_1.2.2.1
theorem dX6_tellsPlaces_123 : decode cX6_tellsPlaces 123 = .ok (.iastore, 1) := zd02dec4_1.2.2.2.1
theorem dX6_tellsPlaces_124 : decode cX6_tellsPlaces 124 = .ok (.aload_n 0, 1) := zd02dec4_1.2.2.2.2.1
theorem dX6_tellsPlaces_125 : decode cX6_tellsPlaces 125 = .ok (.getfield 19, 3) := zd02dec4_1.2.2.2.2.2.1
theorem dX6_tellsPlaces_128 : decode cX6_tellsPlaces 128 = .ok (.iconst 3, 1) := zd02dec4_1.2.2.2.2.2.2.1
theorem dX6_tellsPlaces_129 : decode cX6_tellsPlaces 129 = .ok (.iload_n 1, 1) := zd02dec4_1.2.2.2.2.2.2.2.1
theorem dX6_tellsPlaces_130 : decode cX6_tellsPlaces 130 = .ok (.imul, 1) := zd02dec4_1.2.2.2.2.2.2.2.2.1
theorem dX6_tellsPlaces_131 : decode cX6_tellsPlaces 131 = .ok (.aload_n 0, 1) := zd02dec4_1.2.2.2.2.2.2.2.2.2.1
theorem dX6_tellsPlaces_132 : decode cX6_tellsPlaces 132 = .ok (.getfield 19, 3) := zd02dec4_1.2.2.2.2.2.2.2.2.2.2.1
theorem dX6_tellsPlaces_135 : decode cX6_tellsPlaces 135 = .ok (.iconst 3, 1) := zd02dec4_1.2.2.2.2.2.2.2.2.2.2.2
theorem zd02dec4_2 : decode cX6_tellsPlaces 136 = .ok (.iload_n 1, 1) ∧ decode cX6_tellsPlaces 137 = .ok (.imul, 1) ∧ decode cX6_tellsPlaces 138 = .ok (.iconst 1, 1) ∧ decode cX6_tellsPlaces 139 = .ok (.iadd, 1) ∧ decode cX6_tellsPlaces 140 = .ok (.iaload, 1) ∧ decode cX6_tellsPlaces 141 = .ok (.bipush 10, 2) ∧ decode cX6_tellsPlaces 143 = .ok (.irem, 1) ∧ decode cX6_tellsPlaces 144 = .ok (.ifCond .ne 22, 3) ∧ decode cX6_tellsPlaces 147 = .ok (.aload_n 0, 1) ∧ decode cX6_tellsPlaces 148 = .ok (.getfield 19, 3) ∧ decode cX6_tellsPlaces 151 = .ok (.iconst 3, 1) ∧ decode cX6_tellsPlaces 152 = .ok (.iload_n 1, 1) := by decide +kernel
theorem dX6_tellsPlaces_136 : decode cX6_tellsPlaces 136 = .ok (.iload_n 1, 1) := zd02dec4_2.1
theorem dX6_tellsPlaces_137 : decode cX6_tellsPlaces 137 = .ok (.imul, 1) := zd02dec4_2.2.1
theorem dX6_tellsPlaces_138 : decode cX6_tellsPlaces 138 = .ok (.iconst 1, 1) := zd02dec4_2.2.2.1
theorem dX6_tellsPlaces_139 : decode cX6_tellsPlaces 139 = .ok (.iadd, 1) := zd02dec4_2.2.2.2.1
theorem dX6_tellsPlaces_140 : decode cX6_tellsPlaces 140 = .ok (.iaload, 1) := zd02dec4_2.2.2.2.2.1
theorem dX6_tellsPlaces_141 : decode cX6_tellsPlaces 141 = .ok (.bipush 10, 2) := zd02dec4_2.2.2.2.2.2.1
theorem dX6_tellsPlaces_143 : decode cX6_tellsPlaces 143 = .ok (.irem, 1) := zd02dec4_2.2.2.2.2.2.2.1
theorem dX6_tellsPlaces_144 : decode cX6_tellsPlaces 144 = .ok (.ifCond .ne 22, 3) := zd02dec4_2.2.2.2.2.2.2.2.1
theorem dX6_tellsPlaces_147 : decode cX6_tellsPlaces 147 = .ok (.aload_n 0, 1) := zd02dec4_2.2.2.2.2.2.2.2.2.1
theorem dX6_tellsPlaces_148 : decode cX6_tellsPlaces 148 = .ok (.getfield 19, 3) := zd02dec4_2.2.2.2.2.2.2.2.2.2.1
theorem dX6_tellsPlaces_151 : decode cX6_tellsPlaces 151 = .ok (.iconst 3, 1) := zd02dec4_2.2.2.2.2.2.2.2.2.2.2.1
theorem dX6_tellsPlaces_152 : decode cX6_tellsPlaces 152 = .ok (.iload_n 1, 1) := zd02dec4_2.2.2.2.2.2.2.2.2.2.2.2
theorem zd02dec4_3 : decode cX6_tellsPlaces 153 = .ok (.imul, 1) ∧ decode cX6_tellsPlaces 154 = .ok (.iaload, 1) ∧ decode cX6_tellsPlaces 155 = .ok (.iconst 1, 1) ∧ decode cX6_tellsPlaces 156 = .ok (.iadd, 1) ∧ decode cX6_tellsPlaces 157 = .ok (.iconst 0, 1) ∧ decode cX6_tellsPlaces 158 = .ok (.bipush 20, 2) ∧ decode cX6_tellsPlaces 160 = .ok (.invokestatic 174, 3) ∧ decode cX6_tellsPlaces 163 = .ok (.goto 11, 3) ∧ decode cX6_tellsPlaces 166 = .ok (.aload_n 0, 1) ∧ decode cX6_tellsPlaces 167 = .ok (.getfield 19, 3) ∧ decode cX6_tellsPlaces 170 = .ok (.iconst 3, 1) ∧ decode cX6_tellsPlaces 171 = .ok (.iload_n 1, 1) := by decide +kernel
theorem dX6_tellsPlaces_153 : decode cX6_tellsPlaces 153 = .ok (.imul, 1) := zd02dec4_3.1
theorem dX6_tellsPlaces_154 : decode cX6_tellsPlaces 154 = .ok (.iaload, 1) := zd02dec4_3.2.1
theorem dX6_tellsPlaces_155 : decode cX6_tellsPlaces 155 = .ok (.iconst 1, 1) := zd02dec4_3.2.2.1
theorem dX6_tellsPlaces_156 : decode cX6_tellsPlaces 156 = .ok (.iadd, 1) := zd02dec4_3.2.2.2.1
theorem dX6_tellsPlaces_157 : decode cX6_tellsPlaces 157 = .ok (.iconst 0, 1) := zd02dec4_3.2.2.2.2.1
theorem dX6_tellsPlaces_158 : decode cX6_tellsPlaces 158 = .ok (.bipush 20, 2) := zd02dec4_3.2.2.2.2.2.1
theorem dX6_tellsPlaces_160 : decode cX6_tellsPlaces 160 = .ok (.invokestatic 174, 3) := zd02dec4_3.2.2.2.2.2.2.1
theorem dX6_tellsPlaces_163 : decode cX6_tellsPlaces 163 = .ok (.goto 11, 3) := zd02dec4_3.2.2.2.2.2.2.2.1
theorem dX6_tellsPlaces_166 : decode cX6_tellsPlaces 166 = .ok (.aload_n 0, 1) := zd02dec4_3.2.2.2.2.2.2.2.2.1
theorem dX6_tellsPlaces_167 : decode cX6_tellsPlaces 167 = .ok (.getfield 19, 3) := zd02dec4_3.2.2.2.2.2.2.2.2.2.1
theorem dX6_tellsPlaces_170 : decode cX6_tellsPlaces 170 = .ok (.iconst 3, 1) := zd02dec4_3.2.2.2.2.2.2.2.2.2.2.1
theorem dX6_tellsPlaces_171 : decode cX6_tellsPlaces 171 = .ok (.iload_n 1, 1) := zd02dec4_3.2.2.2.2.2.2.2.2.2.2.2
theorem zd02dec4_4 : decode cX6_tellsPlaces 172 = .ok (.imul, 1) ∧ decode cX6_tellsPlaces 173 = .ok (.iaload, 1) ∧ decode cX6_tellsPlaces 174 = .ok (.iastore, 1) ∧ decode cX6_tellsPlaces 175 = .ok (.iinc 6 1, 3) ∧ decode cX6_tellsPlaces 178 = .ok (.goto (-74), 3) ∧ decode cX6_tellsPlaces 181 = .ok (.iinc 5 1, 3) ∧ decode cX6_tellsPlaces 184 = .ok (.goto (-160), 3) ∧ decode cX6_tellsPlaces 187 = .ok (.aload_n 0, 1) ∧ decode cX6_tellsPlaces 188 = .ok (.getfield 19, 3) ∧ decode cX6_tellsPlaces 191 = .ok (.iconst 3, 1) ∧ decode cX6_tellsPlaces 192 = .ok (.iload_n 1, 1) ∧ decode cX6_tellsPlaces 193 = .ok (.imul, 1) := by decide +kernel
theorem dX6_tellsPlaces_172 : decode cX6_tellsPlaces 172 = .ok (.imul, 1) := zd02dec4_4.1
theorem dX6_tellsPlaces_173 : decode cX6_tellsPlaces 173 = .ok (.iaload, 1) := zd02dec4_4.2.1
theorem dX6_tellsPlaces_174 : decode cX6_tellsPlaces 174 = .ok (.iastore, 1) := zd02dec4_4.2.2.1
theorem dX6_tellsPlaces_175 : decode cX6_tellsPlaces 175 = .ok (.iinc 6 1, 3) := zd02dec4_4.2.2.2.1
theorem dX6_tellsPlaces_178 : decode cX6_tellsPlaces 178 = .ok (.goto (-74), 3) := zd02dec4_4.2.2.2.2.1
theorem dX6_tellsPlaces_181 : decode cX6_tellsPlaces 181 = .ok (.iinc 5 1, 3) := zd02dec4_4.2.2.2.2.2.1
theorem dX6_tellsPlaces_184 : decode cX6_tellsPlaces 184 = .ok (.goto (-160), 3) := zd02dec4_4.2.2.2.2.2.2.1
theorem dX6_tellsPlaces_187 : decode cX6_tellsPlaces 187 = .ok (.aload_n 0, 1) := zd02dec4_4.2.2.2.2.2.2.2.1
theorem dX6_tellsPlaces_188 : decode cX6_tellsPlaces 188 = .ok (.getfield 19, 3) := zd02dec4_4.2.2.2.2.2.2.2.2.1
theorem dX6_tellsPlaces_191 : decode cX6_tellsPlaces 191 = .ok (.iconst 3, 1) := zd02dec4_4.2.2.2.2.2.2.2.2.2.1
theorem dX6_tellsPlaces_192 : decode cX6_tellsPlaces 192 = .ok (.iload_n 1, 1) := zd02dec4_4.2.2.2.2.2.2.2.2.2.2.1
theorem dX6_tellsPlaces_193 : decode cX6_tellsPlaces 193 = .ok (.imul, 1) := zd02dec4_4.2.2.2.2.2.2.2.2.2.2.2
theorem zd02dec4_5 : decode cX6_tellsPlaces 194 = .ok (.iload_n 3, 1) ∧ decode cX6_tellsPlaces 195 = .ok (.iastore, 1) ∧ decode cX6_tellsPlaces 196 = .ok (.aload_n 0, 1) ∧ decode cX6_tellsPlaces 197 = .ok (.getfield 19, 3) ∧ decode cX6_tellsPlaces 200 = .ok (.iconst 3, 1) ∧ decode cX6_tellsPlaces 201 = .ok (.iload_n 1, 1) ∧ decode cX6_tellsPlaces 202 = .ok (.imul, 1) ∧ decode cX6_tellsPlaces 203 = .ok (.iconst 1, 1) ∧ decode cX6_tellsPlaces 204 = .ok (.iadd, 1) ∧ decode cX6_tellsPlaces 205 = .ok (.iload 4, 2) ∧ decode cX6_tellsPlaces 207 = .ok (.iastore, 1) ∧ decode cX6_tellsPlaces 208 = .ok (.return_, 1) := by decide +kernel
theorem dX6_tellsPlaces_194 : decode cX6_tellsPlaces 194 = .ok (.iload_n 3, 1) := zd02dec4_5.1
theorem dX6_tellsPlaces_195 : decode cX6_tellsPlaces 195 = .ok (.iastore, 1) := zd02dec4_5.2.1
theorem dX6_tellsPlaces_196 : decode cX6_tellsPlaces 196 = .ok (.aload_n 0, 1) := zd02dec4_5.2.2.1
theorem dX6_tellsPlaces_197 : decode cX6_tellsPlaces 197 = .ok (.getfield 19, 3) := zd02dec4_5.2.2.2.1
theorem dX6_tellsPlaces_200 : decode cX6_tellsPlaces 200 = .ok (.iconst 3, 1) := zd02dec4_5.2.2.2.2.1
theorem dX6_tellsPlaces_201 : decode cX6_tellsPlaces 201 = .ok (.iload_n 1, 1) := zd02dec4_5.2.2.2.2.2.1
theorem dX6_tellsPlaces_202 : decode cX6_tellsPlaces 202 = .ok (.imul, 1) := zd02dec4_5.2.2.2.2.2.2.1
theorem dX6_tellsPlaces_203 : decode cX6_tellsPlaces 203 = .ok (.iconst 1, 1) := zd02dec4_5.2.2.2.2.2.2.2.1
theorem dX6_tellsPlaces_204 : decode cX6_tellsPlaces 204 = .ok (.iadd, 1) := zd02dec4_5.2.2.2.2.2.2.2.2.1
theorem dX6_tellsPlaces_205 : decode cX6_tellsPlaces 205 = .ok (.iload 4, 2) := zd02dec4_5.2.2.2.2.2.2.2.2.2.1
theorem dX6_tellsPlaces_207 : decode cX6_tellsPlaces 207 = .ok (.iastore, 1) := zd02dec4_5.2.2.2.2.2.2.2.2.2.2.1
theorem dX6_tellsPlaces_208 : decode cX6_tellsPlaces 208 = .ok (.return_, 1) := zd02dec4_5.2.2.2.2.2.2.2.2.2.2.2
theorem zd02dec4_6 : decode cX6_tells 0 = .ok (.iload_n 1, 1) ∧ decode cX6_tells 1 = .ok (.istore_n 3, 1) ∧ decode cX6_tells 2 = .ok (.iconst 0, 1) ∧ decode cX6_tells 3 = .ok (.istore 4, 2) ∧ decode cX6_tells 5 = .ok (.iconst 1, 1) ∧ decode cX6_tells 6 = .ok (.istore 5, 2) ∧ decode cX6_tells 8 = .ok (.aload_n 0, 1) ∧ decode cX6_tells 9 = .ok (.iconst 0, 1) ∧ decode cX6_tells 10 = .ok (.putfield 231, 3) ∧ decode cX6_tells 13 = .ok (.aload_n 0, 1) ∧ decode cX6_tells 14 = .ok (.iconst 0, 1) ∧ decode cX6_tells 15 = .ok (.putfield 234, 3) := by decide +kernel
theorem dX6_tells_0 : decode cX6_tells 0 = .ok (.iload_n 1, 1) := zd02dec4_6.1
theorem dX6_tells_1 : decode cX6_tells 1 = .ok (.istore_n 3, 1) := zd02dec4_6.2.1
theorem dX6_tells_2 : decode cX6_tells 2 = .ok (.iconst 0, 1) := zd02dec4_6.2.2.1
theorem dX6_tells_3 : decode cX6_tells 3 = .ok (.istore 4, 2) := zd02dec4_6.2.2.2.1
theorem dX6_tells_5 : decode cX6_tells 5 = .ok (.iconst 1, 1) := zd02dec4_6.2.2.2.2.1
theorem dX6_tells_6 : decode cX6_tells 6 = .ok (.istore 5, 2) := zd02dec4_6.2.2.2.2.2.1
theorem dX6_tells_8 : decode cX6_tells 8 = .ok (.aload_n 0, 1) := zd02dec4_6.2.2.2.2.2.2.1
theorem dX6_tells_9 : decode cX6_tells 9 = .ok (.iconst 0, 1) := zd02dec4_6.2.2.2.2.2.2.2.1
theorem dX6_tells_10 : decode cX6_tells 10 = .ok (.putfield 231, 3) := zd02dec4_6.2.2.2.2.2.2.2.2.1
theorem dX6_tells_13 : decode cX6_tells 13 = .ok (.aload_n 0, 1) := zd02dec4_6.2.2.2.2.2.2.2.2.2.1
theorem dX6_tells_14 : decode cX6_tells 14 = .ok (.iconst 0, 1) := zd02dec4_6.2.2.2.2.2.2.2.2.2.2.1
theorem dX6_tells_15 : decode cX6_tells 15 = .ok (.putfield 234, 3) := zd02dec4_6.2.2.2.2.2.2.2.2.2.2.2
theorem zd02dec4_7 : decode cX6_tells 18 = .ok (.aload_n 0, 1) ∧ decode cX6_tells 19 = .ok (.getfield 88, 3) ∧ decode cX6_tells 22 = .ok (.iconst 1, 1) ∧ decode cX6_tells 23 = .ok (.isub, 1) ∧ decode cX6_tells 24 = .ok (.istore 6, 2) ∧ decode cX6_tells 26 = .ok (.iload 6, 2) ∧ decode cX6_tells 28 = .ok (.ifCond .lt 98, 3) ∧ decode cX6_tells 31 = .ok (.iload_n 3, 1) ∧ decode cX6_tells 32 = .ok (.aload_n 0, 1) ∧ decode cX6_tells 33 = .ok (.getfield 88, 3) ∧ decode cX6_tells 36 = .ok (.irem, 1) ∧ decode cX6_tells 37 = .ok (.istore 7, 2) := by decide +kernel
theorem dX6_tells_18 : decode cX6_tells 18 = .ok (.aload_n 0, 1) := zd02dec4_7.1
theorem dX6_tells_19 : decode cX6_tells 19 = .ok (.getfield 88, 3) := zd02dec4_7.2.1
theorem dX6_tells_22 : decode cX6_tells 22 = .ok (.iconst 1, 1) := zd02dec4_7.2.2.1
theorem dX6_tells_23 : decode cX6_tells 23 = .ok (.isub, 1) := zd02dec4_7.2.2.2.1
theorem dX6_tells_24 : decode cX6_tells 24 = .ok (.istore 6, 2) := zd02dec4_7.2.2.2.2.1
theorem dX6_tells_26 : decode cX6_tells 26 = .ok (.iload 6, 2) := zd02dec4_7.2.2.2.2.2.1
theorem dX6_tells_28 : decode cX6_tells 28 = .ok (.ifCond .lt 98, 3) := zd02dec4_7.2.2.2.2.2.2.1
theorem dX6_tells_31 : decode cX6_tells 31 = .ok (.iload_n 3, 1) := zd02dec4_7.2.2.2.2.2.2.2.1
theorem dX6_tells_32 : decode cX6_tells 32 = .ok (.aload_n 0, 1) := zd02dec4_7.2.2.2.2.2.2.2.2.1
theorem dX6_tells_33 : decode cX6_tells 33 = .ok (.getfield 88, 3) := zd02dec4_7.2.2.2.2.2.2.2.2.2.1
theorem dX6_tells_36 : decode cX6_tells 36 = .ok (.irem, 1) := zd02dec4_7.2.2.2.2.2.2.2.2.2.2.1
theorem dX6_tells_37 : decode cX6_tells 37 = .ok (.istore 7, 2) := zd02dec4_7.2.2.2.2.2.2.2.2.2.2.2
theorem zd02dec4_8 : decode cX6_tells 39 = .ok (.iload_n 3, 1) ∧ decode cX6_tells 40 = .ok (.aload_n 0, 1) ∧ decode cX6_tells 41 = .ok (.getfield 88, 3) ∧ decode cX6_tells 44 = .ok (.idiv, 1) ∧ decode cX6_tells 45 = .ok (.istore_n 3, 1) ∧ decode cX6_tells 46 = .ok (.iload 4, 2) ∧ decode cX6_tells 48 = .ok (.iconst 1, 1) ∧ decode cX6_tells 49 = .ok (.iload 7, 2) ∧ decode cX6_tells 51 = .ok (.ishl, 1) ∧ decode cX6_tells 52 = .ok (.ior, 1) ∧ decode cX6_tells 53 = .ok (.istore 4, 2) ∧ decode cX6_tells 55 = .ok (.aload_n 0, 1) := by decide +kernel
theorem dX6_tells_39 : decode cX6_tells 39 = .ok (.iload_n 3, 1) := zd02dec4_8.1
theorem dX6_tells_40 : decode cX6_tells 40 = .ok (.aload_n 0, 1) := zd02dec4_8.2.1
theorem dX6_tells_41 : decode cX6_tells 41 = .ok (.getfield 88, 3) := zd02dec4_8.2.2.1
theorem dX6_tells_44 : decode cX6_tells 44 = .ok (.idiv, 1) := zd02dec4_8.2.2.2.1
theorem dX6_tells_45 : decode cX6_tells 45 = .ok (.istore_n 3, 1) := zd02dec4_8.2.2.2.2.1
theorem dX6_tells_46 : decode cX6_tells 46 = .ok (.iload 4, 2) := zd02dec4_8.2.2.2.2.2.1
theorem dX6_tells_48 : decode cX6_tells 48 = .ok (.iconst 1, 1) := zd02dec4_8.2.2.2.2.2.2.1
theorem dX6_tells_49 : decode cX6_tells 49 = .ok (.iload 7, 2) := zd02dec4_8.2.2.2.2.2.2.2.1
theorem dX6_tells_51 : decode cX6_tells 51 = .ok (.ishl, 1) := zd02dec4_8.2.2.2.2.2.2.2.2.1
theorem dX6_tells_52 : decode cX6_tells 52 = .ok (.ior, 1) := zd02dec4_8.2.2.2.2.2.2.2.2.2.1
theorem dX6_tells_53 : decode cX6_tells 53 = .ok (.istore 4, 2) := zd02dec4_8.2.2.2.2.2.2.2.2.2.2.1
theorem dX6_tells_55 : decode cX6_tells 55 = .ok (.aload_n 0, 1) := zd02dec4_8.2.2.2.2.2.2.2.2.2.2.2
theorem zd02dec4_9 : decode cX6_tells 56 = .ok (.dup, 1) ∧ decode cX6_tells 57 = .ok (.getfield 234, 3) ∧ decode cX6_tells 60 = .ok (.iload 5, 2) ∧ decode cX6_tells 62 = .ok (.iload 7, 2) ∧ decode cX6_tells 64 = .ok (.iconst 1, 1) ∧ decode cX6_tells 65 = .ok (.iadd, 1) ∧ decode cX6_tells 66 = .ok (.imul, 1) ∧ decode cX6_tells 67 = .ok (.iadd, 1) ∧ decode cX6_tells 68 = .ok (.putfield 234, 3) ∧ decode cX6_tells 71 = .ok (.iload 5, 2) ∧ decode cX6_tells 73 = .ok (.bipush 10, 2) ∧ decode cX6_tells 75 = .ok (.imul, 1) := by decide +kernel
theorem dX6_tells_56 : decode cX6_tells 56 = .ok (.dup, 1) := zd02dec4_9.1
theorem dX6_tells_57 : decode cX6_tells 57 = .ok (.getfield 234, 3) := zd02dec4_9.2.1
theorem dX6_tells_60 : decode cX6_tells 60 = .ok (.iload 5, 2) := zd02dec4_9.2.2.1
theorem dX6_tells_62 : decode cX6_tells 62 = .ok (.iload 7, 2) := zd02dec4_9.2.2.2.1
theorem dX6_tells_64 : decode cX6_tells 64 = .ok (.iconst 1, 1) := zd02dec4_9.2.2.2.2.1
theorem dX6_tells_65 : decode cX6_tells 65 = .ok (.iadd, 1) := zd02dec4_9.2.2.2.2.2.1
theorem dX6_tells_66 : decode cX6_tells 66 = .ok (.imul, 1) := zd02dec4_9.2.2.2.2.2.2.1
theorem dX6_tells_67 : decode cX6_tells 67 = .ok (.iadd, 1) := zd02dec4_9.2.2.2.2.2.2.2.1
theorem dX6_tells_68 : decode cX6_tells 68 = .ok (.putfield 234, 3) := zd02dec4_9.2.2.2.2.2.2.2.2.1
theorem dX6_tells_71 : decode cX6_tells 71 = .ok (.iload 5, 2) := zd02dec4_9.2.2.2.2.2.2.2.2.2.1
theorem dX6_tells_73 : decode cX6_tells 73 = .ok (.bipush 10, 2) := zd02dec4_9.2.2.2.2.2.2.2.2.2.2.1
theorem dX6_tells_75 : decode cX6_tells 75 = .ok (.imul, 1) := zd02dec4_9.2.2.2.2.2.2.2.2.2.2.2
theorem zd02dec4_10 : decode cX6_tells 76 = .ok (.istore 5, 2) ∧ decode cX6_tells 78 = .ok (.aload_n 0, 1) ∧ decode cX6_tells 79 = .ok (.dup, 1) ∧ decode cX6_tells 80 = .ok (.getfield 231, 3) ∧ decode cX6_tells 83 = .ok (.iload_n 2, 1) ∧ decode cX6_tells 84 = .ok (.ifCond .ne 19, 3) ∧ decode cX6_tells 87 = .ok (.aload_n 0, 1) ∧ decode cX6_tells 88 = .ok (.getfield 71, 3) ∧ decode cX6_tells 91 = .ok (.bipush 6, 2) ∧ decode cX6_tells 93 = .ok (.iload 6, 2) ∧ decode cX6_tells 95 = .ok (.imul, 1) ∧ decode cX6_tells 96 = .ok (.iload 7, 2) := by decide +kernel
theorem dX6_tells_76 : decode cX6_tells 76 = .ok (.istore 5, 2) := zd02dec4_10.1
theorem dX6_tells_78 : decode cX6_tells 78 = .ok (.aload_n 0, 1) := zd02dec4_10.2.1
theorem dX6_tells_79 : decode cX6_tells 79 = .ok (.dup, 1) := zd02dec4_10.2.2.1
theorem dX6_tells_80 : decode cX6_tells 80 = .ok (.getfield 231, 3) := zd02dec4_10.2.2.2.1
theorem dX6_tells_83 : decode cX6_tells 83 = .ok (.iload_n 2, 1) := zd02dec4_10.2.2.2.2.1
theorem dX6_tells_84 : decode cX6_tells 84 = .ok (.ifCond .ne 19, 3) := zd02dec4_10.2.2.2.2.2.1
theorem dX6_tells_87 : decode cX6_tells 87 = .ok (.aload_n 0, 1) := zd02dec4_10.2.2.2.2.2.2.1
theorem dX6_tells_88 : decode cX6_tells 88 = .ok (.getfield 71, 3) := zd02dec4_10.2.2.2.2.2.2.2.1
theorem dX6_tells_91 : decode cX6_tells 91 = .ok (.bipush 6, 2) := zd02dec4_10.2.2.2.2.2.2.2.2.1
theorem dX6_tells_93 : decode cX6_tells 93 = .ok (.iload 6, 2) := zd02dec4_10.2.2.2.2.2.2.2.2.2.1
theorem dX6_tells_95 : decode cX6_tells 95 = .ok (.imul, 1) := zd02dec4_10.2.2.2.2.2.2.2.2.2.2.1
theorem dX6_tells_96 : decode cX6_tells 96 = .ok (.iload 7, 2) := zd02dec4_10.2.2.2.2.2.2.2.2.2.2.2
theorem zd02dec4_11 : decode cX6_tells 98 = .ok (.iadd, 1) ∧ decode cX6_tells 99 = .ok (.iaload, 1) ∧ decode cX6_tells 100 = .ok (.goto 16, 3) ∧ decode cX6_tells 103 = .ok (.aload_n 0, 1) ∧ decode cX6_tells 104 = .ok (.getfield 74, 3) ∧ decode cX6_tells 107 = .ok (.bipush 6, 2) ∧ decode cX6_tells 109 = .ok (.iload 6, 2) ∧ decode cX6_tells 111 = .ok (.imul, 1) ∧ decode cX6_tells 112 = .ok (.iload 7, 2) ∧ decode cX6_tells 114 = .ok (.iadd, 1) ∧ decode cX6_tells 115 = .ok (.iaload, 1) ∧ decode cX6_tells 116 = .ok (.iadd, 1) := by decide +kernel
theorem dX6_tells_98 : decode cX6_tells 98 = .ok (.iadd, 1) := zd02dec4_11.1
theorem dX6_tells_99 : decode cX6_tells 99 = .ok (.iaload, 1) := zd02dec4_11.2.1
theorem dX6_tells_100 : decode cX6_tells 100 = .ok (.goto 16, 3) := zd02dec4_11.2.2.1
theorem dX6_tells_103 : decode cX6_tells 103 = .ok (.aload_n 0, 1) := zd02dec4_11.2.2.2.1
theorem dX6_tells_104 : decode cX6_tells 104 = .ok (.getfield 74, 3) := zd02dec4_11.2.2.2.2.1
theorem dX6_tells_107 : decode cX6_tells 107 = .ok (.bipush 6, 2) := zd02dec4_11.2.2.2.2.2.1
theorem dX6_tells_109 : decode cX6_tells 109 = .ok (.iload 6, 2) := zd02dec4_11.2.2.2.2.2.2.1
theorem dX6_tells_111 : decode cX6_tells 111 = .ok (.imul, 1) := zd02dec4_11.2.2.2.2.2.2.2.1
theorem dX6_tells_112 : decode cX6_tells 112 = .ok (.iload 7, 2) := zd02dec4_11.2.2.2.2.2.2.2.2.1
theorem dX6_tells_114 : decode cX6_tells 114 = .ok (.iadd, 1) := zd02dec4_11.2.2.2.2.2.2.2.2.2.1
theorem dX6_tells_115 : decode cX6_tells 115 = .ok (.iaload, 1) := zd02dec4_11.2.2.2.2.2.2.2.2.2.2.1
theorem dX6_tells_116 : decode cX6_tells 116 = .ok (.iadd, 1) := zd02dec4_11.2.2.2.2.2.2.2.2.2.2.2
theorem zd02dec4_12 : decode cX6_tells 117 = .ok (.putfield 231, 3) ∧ decode cX6_tells 120 = .ok (.iinc 6 (-1), 3) ∧ decode cX6_tells 123 = .ok (.goto (-97), 3) ∧ decode cX6_tells 126 = .ok (.iload 4, 2) ∧ decode cX6_tells 128 = .ok (.iconst 1, 1) ∧ decode cX6_tells 129 = .ok (.aload_n 0, 1) ∧ decode cX6_tells 130 = .ok (.getfield 88, 3) ∧ decode cX6_tells 133 = .ok (.ishl, 1) ∧ decode cX6_tells 134 = .ok (.iconst 1, 1) ∧ decode cX6_tells 135 = .ok (.isub, 1) ∧ decode cX6_tells 136 = .ok (.if_icmp .ne 7, 3) ∧ decode cX6_tells 139 = .ok (.iconst 1, 1) := by decide +kernel
theorem dX6_tells_117 : decode cX6_tells 117 = .ok (.putfield 231, 3) := zd02dec4_12.1
theorem dX6_tells_120 : decode cX6_tells 120 = .ok (.iinc 6 (-1), 3) := zd02dec4_12.2.1
theorem dX6_tells_123 : decode cX6_tells 123 = .ok (.goto (-97), 3) := zd02dec4_12.2.2.1
theorem dX6_tells_126 : decode cX6_tells 126 = .ok (.iload 4, 2) := zd02dec4_12.2.2.2.1
theorem dX6_tells_128 : decode cX6_tells 128 = .ok (.iconst 1, 1) := zd02dec4_12.2.2.2.2.1
theorem dX6_tells_129 : decode cX6_tells 129 = .ok (.aload_n 0, 1) := zd02dec4_12.2.2.2.2.2.1
theorem dX6_tells_130 : decode cX6_tells 130 = .ok (.getfield 88, 3) := zd02dec4_12.2.2.2.2.2.2.1
theorem dX6_tells_133 : decode cX6_tells 133 = .ok (.ishl, 1) := zd02dec4_12.2.2.2.2.2.2.2.1
theorem dX6_tells_134 : decode cX6_tells 134 = .ok (.iconst 1, 1) := zd02dec4_12.2.2.2.2.2.2.2.2.1
theorem dX6_tells_135 : decode cX6_tells 135 = .ok (.isub, 1) := zd02dec4_12.2.2.2.2.2.2.2.2.2.1
theorem dX6_tells_136 : decode cX6_tells 136 = .ok (.if_icmp .ne 7, 3) := zd02dec4_12.2.2.2.2.2.2.2.2.2.2.1
theorem dX6_tells_139 : decode cX6_tells 139 = .ok (.iconst 1, 1) := zd02dec4_12.2.2.2.2.2.2.2.2.2.2.2
theorem zd02dec4_13 : decode cX6_tells 140 = .ok (.goto 4, 3) ∧ decode cX6_tells 143 = .ok (.iconst 0, 1) ∧ decode cX6_tells 144 = .ok (.ireturn, 1) := by decide +kernel
theorem dX6_tells_140 : decode cX6_tells 140 = .ok (.goto 4, 3) := zd02dec4_13.1
theorem dX6_tells_143 : decode cX6_tells 143 = .ok (.iconst 0, 1) := zd02dec4_13.2.1
theorem dX6_tells_144 : decode cX6_tells 144 = .ok (.ireturn, 1) := zd02dec4_13.2.2
theorem zd02dec4_14 : decode cX6_order 0 = .ok (.aload_n 0, 1) ∧ decode cX6_order 1 = .ok (.iload_n 1, 1) ∧ decode cX6_order 2 = .ok (.invokevirtual 104, 3) ∧ decode cX6_order 5 = .ok (.ifCond .ne 6, 3) ∧ decode cX6_order 8 = .ok (.bipush (-5), 2) ∧ decode cX6_order 10 = .ok (.ireturn, 1) ∧ decode cX6_order 11 = .ok (.iload_n 2, 1) ∧ decode cX6_order 12 = .ok (.invokestatic 196, 3) ∧ decode cX6_order 15 = .ok (.ifCond .eq 21, 3) ∧ decode cX6_order 18 = .ok (.iload_n 3, 1) ∧ decode cX6_order 19 = .ok (.iconst 0, 1) ∧ decode cX6_order 20 = .ok (.bipush 11, 2) := by decide +kernel
theorem dX6_order_0 : decode cX6_order 0 = .ok (.aload_n 0, 1) := zd02dec4_14.1
theorem dX6_order_1 : decode cX6_order 1 = .ok (.iload_n 1, 1) := zd02dec4_14.2.1
theorem dX6_order_2 : decode cX6_order 2 = .ok (.invokevirtual 104, 3) := zd02dec4_14.2.2.1
theorem dX6_order_5 : decode cX6_order 5 = .ok (.ifCond .ne 6, 3) := zd02dec4_14.2.2.2.1
theorem dX6_order_8 : decode cX6_order 8 = .ok (.bipush (-5), 2) := zd02dec4_14.2.2.2.2.1
theorem dX6_order_10 : decode cX6_order 10 = .ok (.ireturn, 1) := zd02dec4_14.2.2.2.2.2.1
theorem dX6_order_11 : decode cX6_order 11 = .ok (.iload_n 2, 1) := zd02dec4_14.2.2.2.2.2.2.1
theorem dX6_order_12 : decode cX6_order 12 = .ok (.invokestatic 196, 3) := zd02dec4_14.2.2.2.2.2.2.2.1
theorem dX6_order_15 : decode cX6_order 15 = .ok (.ifCond .eq 21, 3) := zd02dec4_14.2.2.2.2.2.2.2.2.1
theorem dX6_order_18 : decode cX6_order 18 = .ok (.iload_n 3, 1) := zd02dec4_14.2.2.2.2.2.2.2.2.2.1
theorem dX6_order_19 : decode cX6_order 19 = .ok (.iconst 0, 1) := zd02dec4_14.2.2.2.2.2.2.2.2.2.2.1
theorem dX6_order_20 : decode cX6_order 20 = .ok (.bipush 11, 2) := zd02dec4_14.2.2.2.2.2.2.2.2.2.2.2
theorem zd02dec4_15 : decode cX6_order 22 = .ok (.invokestatic 91, 3) ∧ decode cX6_order 25 = .ok (.ifCond .eq 11, 3) ∧ decode cX6_order 28 = .ok (.iload_n 3, 1) ∧ decode cX6_order 29 = .ok (.bipush 10, 2) ∧ decode cX6_order 31 = .ok (.irem, 1) ∧ decode cX6_order 32 = .ok (.iconst 1, 1) ∧ decode cX6_order 33 = .ok (.if_icmp .le 6, 3) ∧ decode cX6_order 36 = .ok (.bipush (-7), 2) ∧ decode cX6_order 38 = .ok (.ireturn, 1) ∧ decode cX6_order 39 = .ok (.iconst (-1), 1) ∧ decode cX6_order 40 = .ok (.istore 4, 2) ∧ decode cX6_order 42 = .ok (.iconst 0, 1) := by decide +kernel
theorem dX6_order_22 : decode cX6_order 22 = .ok (.invokestatic 91, 3) := zd02dec4_15.1
theorem dX6_order_25 : decode cX6_order 25 = .ok (.ifCond .eq 11, 3) := zd02dec4_15.2.1
theorem dX6_order_28 : decode cX6_order 28 = .ok (.iload_n 3, 1) := zd02dec4_15.2.2.1
theorem dX6_order_29 : decode cX6_order 29 = .ok (.bipush 10, 2) := zd02dec4_15.2.2.2.1
theorem dX6_order_31 : decode cX6_order 31 = .ok (.irem, 1) := zd02dec4_15.2.2.2.2.1
theorem dX6_order_32 : decode cX6_order 32 = .ok (.iconst 1, 1) := zd02dec4_15.2.2.2.2.2.1
theorem dX6_order_33 : decode cX6_order 33 = .ok (.if_icmp .le 6, 3) := zd02dec4_15.2.2.2.2.2.2.1
theorem dX6_order_36 : decode cX6_order 36 = .ok (.bipush (-7), 2) := zd02dec4_15.2.2.2.2.2.2.2.1
theorem dX6_order_38 : decode cX6_order 38 = .ok (.ireturn, 1) := zd02dec4_15.2.2.2.2.2.2.2.2.1
theorem dX6_order_39 : decode cX6_order 39 = .ok (.iconst (-1), 1) := zd02dec4_15.2.2.2.2.2.2.2.2.2.1
theorem dX6_order_40 : decode cX6_order 40 = .ok (.istore 4, 2) := zd02dec4_15.2.2.2.2.2.2.2.2.2.2.1
theorem dX6_order_42 : decode cX6_order 42 = .ok (.iconst 0, 1) := zd02dec4_15.2.2.2.2.2.2.2.2.2.2.2
theorem zd02dec4_16 : decode cX6_order 43 = .ok (.istore 5, 2) ∧ decode cX6_order 45 = .ok (.aload_n 0, 1) ∧ decode cX6_order 46 = .ok (.getfield 88, 3) ∧ decode cX6_order 49 = .ok (.ifCond .ne 7, 3) ∧ decode cX6_order 52 = .ok (.iconst 0, 1) ∧ decode cX6_order 53 = .ok (.goto 4, 3) ∧ decode cX6_order 56 = .ok (.iconst 1, 1) ∧ decode cX6_order 57 = .ok (.istore 6, 2) ∧ decode cX6_order 59 = .ok (.iconst 0, 1) ∧ decode cX6_order 60 = .ok (.istore 7, 2) ∧ decode cX6_order 62 = .ok (.iload 7, 2) ∧ decode cX6_order 64 = .ok (.aload_n 0, 1) := by decide +kernel
theorem dX6_order_43 : decode cX6_order 43 = .ok (.istore 5, 2) := zd02dec4_16.1
theorem dX6_order_45 : decode cX6_order 45 = .ok (.aload_n 0, 1) := zd02dec4_16.2.1
theorem dX6_order_46 : decode cX6_order 46 = .ok (.getfield 88, 3) := zd02dec4_16.2.2.1
theorem dX6_order_49 : decode cX6_order 49 = .ok (.ifCond .ne 7, 3) := zd02dec4_16.2.2.2.1
theorem dX6_order_52 : decode cX6_order 52 = .ok (.iconst 0, 1) := zd02dec4_16.2.2.2.2.1
theorem dX6_order_53 : decode cX6_order 53 = .ok (.goto 4, 3) := zd02dec4_16.2.2.2.2.2.1
theorem dX6_order_56 : decode cX6_order 56 = .ok (.iconst 1, 1) := zd02dec4_16.2.2.2.2.2.2.1
theorem dX6_order_57 : decode cX6_order 57 = .ok (.istore 6, 2) := zd02dec4_16.2.2.2.2.2.2.2.1
theorem dX6_order_59 : decode cX6_order 59 = .ok (.iconst 0, 1) := zd02dec4_16.2.2.2.2.2.2.2.2.1
theorem dX6_order_60 : decode cX6_order 60 = .ok (.istore 7, 2) := zd02dec4_16.2.2.2.2.2.2.2.2.2.1
theorem dX6_order_62 : decode cX6_order 62 = .ok (.iload 7, 2) := zd02dec4_16.2.2.2.2.2.2.2.2.2.2.1
theorem dX6_order_64 : decode cX6_order 64 = .ok (.aload_n 0, 1) := zd02dec4_16.2.2.2.2.2.2.2.2.2.2.2
theorem zd02dec4_17 : decode cX6_order 65 = .ok (.getfield 88, 3) ∧ decode cX6_order 68 = .ok (.if_icmp .ge 18, 3) ∧ decode cX6_order 71 = .ok (.iload 6, 2) ∧ decode cX6_order 73 = .ok (.aload_n 0, 1) ∧ decode cX6_order 74 = .ok (.getfield 88, 3) ∧ decode cX6_order 77 = .ok (.imul, 1) ∧ decode cX6_order 78 = .ok (.istore 6, 2) ∧ decode cX6_order 80 = .ok (.iinc 7 1, 3) ∧ decode cX6_order 83 = .ok (.goto (-21), 3) ∧ decode cX6_order 86 = .ok (.aload_n 0, 1) ∧ decode cX6_order 87 = .ok (.iload_n 1, 1) ∧ decode cX6_order 88 = .ok (.iload_n 2, 1) := by decide +kernel
theorem dX6_order_65 : decode cX6_order 65 = .ok (.getfield 88, 3) := zd02dec4_17.1
theorem dX6_order_68 : decode cX6_order 68 = .ok (.if_icmp .ge 18, 3) := zd02dec4_17.2.1
theorem dX6_order_71 : decode cX6_order 71 = .ok (.iload 6, 2) := zd02dec4_17.2.2.1
theorem dX6_order_73 : decode cX6_order 73 = .ok (.aload_n 0, 1) := zd02dec4_17.2.2.2.1
theorem dX6_order_74 : decode cX6_order 74 = .ok (.getfield 88, 3) := zd02dec4_17.2.2.2.2.1
theorem dX6_order_77 : decode cX6_order 77 = .ok (.imul, 1) := zd02dec4_17.2.2.2.2.2.1
theorem dX6_order_78 : decode cX6_order 78 = .ok (.istore 6, 2) := zd02dec4_17.2.2.2.2.2.2.1
theorem dX6_order_80 : decode cX6_order 80 = .ok (.iinc 7 1, 3) := zd02dec4_17.2.2.2.2.2.2.2.1
theorem dX6_order_83 : decode cX6_order 83 = .ok (.goto (-21), 3) := zd02dec4_17.2.2.2.2.2.2.2.2.1
theorem dX6_order_86 : decode cX6_order 86 = .ok (.aload_n 0, 1) := zd02dec4_17.2.2.2.2.2.2.2.2.2.1
theorem dX6_order_87 : decode cX6_order 87 = .ok (.iload_n 1, 1) := zd02dec4_17.2.2.2.2.2.2.2.2.2.2.1
theorem dX6_order_88 : decode cX6_order 88 = .ok (.iload_n 2, 1) := zd02dec4_17.2.2.2.2.2.2.2.2.2.2.2
theorem zd02dec4_18 : decode cX6_order 89 = .ok (.invokevirtual 237, 3) ∧ decode cX6_order 92 = .ok (.iconst 0, 1) ∧ decode cX6_order 93 = .ok (.istore 7, 2) ∧ decode cX6_order 95 = .ok (.iload 7, 2) ∧ decode cX6_order 97 = .ok (.iload 6, 2) ∧ decode cX6_order 99 = .ok (.if_icmp .ge 49, 3) ∧ decode cX6_order 102 = .ok (.aload_n 0, 1) ∧ decode cX6_order 103 = .ok (.iload 7, 2) ∧ decode cX6_order 105 = .ok (.iload_n 3, 1) ∧ decode cX6_order 106 = .ok (.bipush 10, 2) ∧ decode cX6_order 108 = .ok (.idiv, 1) ∧ decode cX6_order 109 = .ok (.invokevirtual 241, 3) := by decide +kernel
theorem dX6_order_89 : decode cX6_order 89 = .ok (.invokevirtual 237, 3) := zd02dec4_18.1
theorem dX6_order_92 : decode cX6_order 92 = .ok (.iconst 0, 1) := zd02dec4_18.2.1
theorem dX6_order_93 : decode cX6_order 93 = .ok (.istore 7, 2) := zd02dec4_18.2.2.1
theorem dX6_order_95 : decode cX6_order 95 = .ok (.iload 7, 2) := zd02dec4_18.2.2.2.1
theorem dX6_order_97 : decode cX6_order 97 = .ok (.iload 6, 2) := zd02dec4_18.2.2.2.2.1
theorem dX6_order_99 : decode cX6_order 99 = .ok (.if_icmp .ge 49, 3) := zd02dec4_18.2.2.2.2.2.1
theorem dX6_order_102 : decode cX6_order 102 = .ok (.aload_n 0, 1) := zd02dec4_18.2.2.2.2.2.2.1
theorem dX6_order_103 : decode cX6_order 103 = .ok (.iload 7, 2) := zd02dec4_18.2.2.2.2.2.2.2.1
theorem dX6_order_105 : decode cX6_order 105 = .ok (.iload_n 3, 1) := zd02dec4_18.2.2.2.2.2.2.2.2.1
theorem dX6_order_106 : decode cX6_order 106 = .ok (.bipush 10, 2) := zd02dec4_18.2.2.2.2.2.2.2.2.2.1
theorem dX6_order_108 : decode cX6_order 108 = .ok (.idiv, 1) := zd02dec4_18.2.2.2.2.2.2.2.2.2.2.1
theorem dX6_order_109 : decode cX6_order 109 = .ok (.invokevirtual 241, 3) := zd02dec4_18.2.2.2.2.2.2.2.2.2.2.2
theorem zd02dec4_19 : decode cX6_order 112 = .ok (.ifCond .eq 30, 3) ∧ decode cX6_order 115 = .ok (.iload 4, 2) ∧ decode cX6_order 117 = .ok (.iconst (-1), 1) ∧ decode cX6_order 118 = .ok (.if_icmp .eq 12, 3) ∧ decode cX6_order 121 = .ok (.aload_n 0, 1) ∧ decode cX6_order 122 = .ok (.getfield 231, 3) ∧ decode cX6_order 125 = .ok (.iload 5, 2) ∧ decode cX6_order 127 = .ok (.if_icmp .ge 15, 3) ∧ decode cX6_order 130 = .ok (.aload_n 0, 1) ∧ decode cX6_order 131 = .ok (.getfield 234, 3) ∧ decode cX6_order 134 = .ok (.istore 4, 2) ∧ decode cX6_order 136 = .ok (.aload_n 0, 1) := by decide +kernel
theorem dX6_order_112 : decode cX6_order 112 = .ok (.ifCond .eq 30, 3) := zd02dec4_19.1
theorem dX6_order_115 : decode cX6_order 115 = .ok (.iload 4, 2) := zd02dec4_19.2.1
theorem dX6_order_117 : decode cX6_order 117 = .ok (.iconst (-1), 1) := zd02dec4_19.2.2.1
theorem dX6_order_118 : decode cX6_order 118 = .ok (.if_icmp .eq 12, 3) := zd02dec4_19.2.2.2.1
theorem dX6_order_121 : decode cX6_order 121 = .ok (.aload_n 0, 1) := zd02dec4_19.2.2.2.2.1
theorem dX6_order_122 : decode cX6_order 122 = .ok (.getfield 231, 3) := zd02dec4_19.2.2.2.2.2.1
theorem dX6_order_125 : decode cX6_order 125 = .ok (.iload 5, 2) := zd02dec4_19.2.2.2.2.2.2.1
theorem dX6_order_127 : decode cX6_order 127 = .ok (.if_icmp .ge 15, 3) := zd02dec4_19.2.2.2.2.2.2.2.1
theorem dX6_order_130 : decode cX6_order 130 = .ok (.aload_n 0, 1) := zd02dec4_19.2.2.2.2.2.2.2.2.1
theorem dX6_order_131 : decode cX6_order 131 = .ok (.getfield 234, 3) := zd02dec4_19.2.2.2.2.2.2.2.2.2.1
theorem dX6_order_134 : decode cX6_order 134 = .ok (.istore 4, 2) := zd02dec4_19.2.2.2.2.2.2.2.2.2.2.1
theorem dX6_order_136 : decode cX6_order 136 = .ok (.aload_n 0, 1) := zd02dec4_19.2.2.2.2.2.2.2.2.2.2.2
theorem zd02dec4_20 : decode cX6_order 137 = .ok (.getfield 231, 3) ∧ decode cX6_order 140 = .ok (.istore 5, 2) ∧ decode cX6_order 142 = .ok (.iinc 7 1, 3) ∧ decode cX6_order 145 = .ok (.goto (-50), 3) ∧ decode cX6_order 148 = .ok (.iload_n 3, 1) ∧ decode cX6_order 149 = .ok (.bipush 10, 2) ∧ decode cX6_order 151 = .ok (.irem, 1) ∧ decode cX6_order 152 = .ok (.ifCond .ne 8, 3) ∧ decode cX6_order 155 = .ok (.iload 4, 2) ∧ decode cX6_order 157 = .ok (.goto 5, 3) ∧ decode cX6_order 160 = .ok (.iload 5, 2) ∧ decode cX6_order 162 = .ok (.ireturn, 1) := by decide +kernel
theorem dX6_order_137 : decode cX6_order 137 = .ok (.getfield 231, 3) := zd02dec4_20.1
theorem dX6_order_140 : decode cX6_order 140 = .ok (.istore 5, 2) := zd02dec4_20.2.1
theorem dX6_order_142 : decode cX6_order 142 = .ok (.iinc 7 1, 3) := zd02dec4_20.2.2.1
theorem dX6_order_145 : decode cX6_order 145 = .ok (.goto (-50), 3) := zd02dec4_20.2.2.2.1
theorem dX6_order_148 : decode cX6_order 148 = .ok (.iload_n 3, 1) := zd02dec4_20.2.2.2.2.1
theorem dX6_order_149 : decode cX6_order 149 = .ok (.bipush 10, 2) := zd02dec4_20.2.2.2.2.2.1
theorem dX6_order_151 : decode cX6_order 151 = .ok (.irem, 1) := zd02dec4_20.2.2.2.2.2.2.1
theorem dX6_order_152 : decode cX6_order 152 = .ok (.ifCond .ne 8, 3) := zd02dec4_20.2.2.2.2.2.2.2.1
theorem dX6_order_155 : decode cX6_order 155 = .ok (.iload 4, 2) := zd02dec4_20.2.2.2.2.2.2.2.2.1
theorem dX6_order_157 : decode cX6_order 157 = .ok (.goto 5, 3) := zd02dec4_20.2.2.2.2.2.2.2.2.2.1
theorem dX6_order_160 : decode cX6_order 160 = .ok (.iload 5, 2) := zd02dec4_20.2.2.2.2.2.2.2.2.2.2.1
theorem dX6_order_162 : decode cX6_order 162 = .ok (.ireturn, 1) := zd02dec4_20.2.2.2.2.2.2.2.2.2.2.2
theorem zd02dec4_21 : decode cX6_ones 0 = .ok (.iconst 0, 1) ∧ decode cX6_ones 1 = .ok (.istore_n 1, 1) ∧ decode cX6_ones 2 = .ok (.iconst 0, 1) ∧ decode cX6_ones 3 = .ok (.istore_n 2, 1) ∧ decode cX6_ones 4 = .ok (.iload_n 2, 1) ∧ decode cX6_ones 5 = .ok (.bipush 6, 2) ∧ decode cX6_ones 7 = .ok (.if_icmp .ge 17, 3) ∧ decode cX6_ones 10 = .ok (.iload_n 1, 1) ∧ decode cX6_ones 11 = .ok (.iload_n 0, 1) ∧ decode cX6_ones 12 = .ok (.iload_n 2, 1) ∧ decode cX6_ones 13 = .ok (.ishr, 1) ∧ decode cX6_ones 14 = .ok (.iconst 1, 1) := by decide +kernel
theorem dX6_ones_0 : decode cX6_ones 0 = .ok (.iconst 0, 1) := zd02dec4_21.1
theorem dX6_ones_1 : decode cX6_ones 1 = .ok (.istore_n 1, 1) := zd02dec4_21.2.1
theorem dX6_ones_2 : decode cX6_ones 2 = .ok (.iconst 0, 1) := zd02dec4_21.2.2.1
theorem dX6_ones_3 : decode cX6_ones 3 = .ok (.istore_n 2, 1) := zd02dec4_21.2.2.2.1
theorem dX6_ones_4 : decode cX6_ones 4 = .ok (.iload_n 2, 1) := zd02dec4_21.2.2.2.2.1
theorem dX6_ones_5 : decode cX6_ones 5 = .ok (.bipush 6, 2) := zd02dec4_21.2.2.2.2.2.1
theorem dX6_ones_7 : decode cX6_ones 7 = .ok (.if_icmp .ge 17, 3) := zd02dec4_21.2.2.2.2.2.2.1
theorem dX6_ones_10 : decode cX6_ones 10 = .ok (.iload_n 1, 1) := zd02dec4_21.2.2.2.2.2.2.2.1
theorem dX6_ones_11 : decode cX6_ones 11 = .ok (.iload_n 0, 1) := zd02dec4_21.2.2.2.2.2.2.2.2.1
theorem dX6_ones_12 : decode cX6_ones 12 = .ok (.iload_n 2, 1) := zd02dec4_21.2.2.2.2.2.2.2.2.2.1
theorem dX6_ones_13 : decode cX6_ones 13 = .ok (.ishr, 1) := zd02dec4_21.2.2.2.2.2.2.2.2.2.2.1
theorem dX6_ones_14 : decode cX6_ones 14 = .ok (.iconst 1, 1) := zd02dec4_21.2.2.2.2.2.2.2.2.2.2.2
theorem zd02dec4_22 : decode cX6_ones 15 = .ok (.iand, 1) ∧ decode cX6_ones 16 = .ok (.iadd, 1) ∧ decode cX6_ones 17 = .ok (.istore_n 1, 1) ∧ decode cX6_ones 18 = .ok (.iinc 2 1, 3) ∧ decode cX6_ones 21 = .ok (.goto (-17), 3) ∧ decode cX6_ones 24 = .ok (.iload_n 1, 1) ∧ decode cX6_ones 25 = .ok (.ireturn, 1) := by decide +kernel
theorem dX6_ones_15 : decode cX6_ones 15 = .ok (.iand, 1) := zd02dec4_22.1
theorem dX6_ones_16 : decode cX6_ones 16 = .ok (.iadd, 1) := zd02dec4_22.2.1
theorem dX6_ones_17 : decode cX6_ones 17 = .ok (.istore_n 1, 1) := zd02dec4_22.2.2.1
theorem dX6_ones_18 : decode cX6_ones 18 = .ok (.iinc 2 1, 3) := zd02dec4_22.2.2.2.1
theorem dX6_ones_21 : decode cX6_ones 21 = .ok (.goto (-17), 3) := zd02dec4_22.2.2.2.2.1
theorem dX6_ones_24 : decode cX6_ones 24 = .ok (.iload_n 1, 1) := zd02dec4_22.2.2.2.2.2.1
theorem dX6_ones_25 : decode cX6_ones 25 = .ok (.ireturn, 1) := zd02dec4_22.2.2.2.2.2.2
theorem zd02dec4_23 : decode cX6_counsel 0 = .ok (.aload_n 0, 1) ∧ decode cX6_counsel 1 = .ok (.iload_n 1, 1) ∧ decode cX6_counsel 2 = .ok (.invokevirtual 104, 3) ∧ decode cX6_counsel 5 = .ok (.ifCond .ne 6, 3) ∧ decode cX6_counsel 8 = .ok (.bipush (-5), 2) ∧ decode cX6_counsel 10 = .ok (.ireturn, 1) ∧ decode cX6_counsel 11 = .ok (.iload_n 2, 1) ∧ decode cX6_counsel 12 = .ok (.invokestatic 196, 3) ∧ decode cX6_counsel 15 = .ok (.ifCond .eq 12, 3) ∧ decode cX6_counsel 18 = .ok (.iload_n 3, 1) ∧ decode cX6_counsel 19 = .ok (.iconst 0, 1) ∧ decode cX6_counsel 20 = .ok (.iconst 1, 1) := by decide +kernel
theorem dX6_counsel_0 : decode cX6_counsel 0 = .ok (.aload_n 0, 1) := zd02dec4_23.1
theorem dX6_counsel_1 : decode cX6_counsel 1 = .ok (.iload_n 1, 1) := zd02dec4_23.2.1
theorem dX6_counsel_2 : decode cX6_counsel 2 = .ok (.invokevirtual 104, 3) := zd02dec4_23.2.2.1
theorem dX6_counsel_5 : decode cX6_counsel 5 = .ok (.ifCond .ne 6, 3) := zd02dec4_23.2.2.2.1
theorem dX6_counsel_8 : decode cX6_counsel 8 = .ok (.bipush (-5), 2) := zd02dec4_23.2.2.2.2.1
theorem dX6_counsel_10 : decode cX6_counsel 10 = .ok (.ireturn, 1) := zd02dec4_23.2.2.2.2.2.1
theorem dX6_counsel_11 : decode cX6_counsel 11 = .ok (.iload_n 2, 1) := zd02dec4_23.2.2.2.2.2.2.1
theorem dX6_counsel_12 : decode cX6_counsel 12 = .ok (.invokestatic 196, 3) := zd02dec4_23.2.2.2.2.2.2.2.1
theorem dX6_counsel_15 : decode cX6_counsel 15 = .ok (.ifCond .eq 12, 3) := zd02dec4_23.2.2.2.2.2.2.2.2.1
theorem dX6_counsel_18 : decode cX6_counsel 18 = .ok (.iload_n 3, 1) := zd02dec4_23.2.2.2.2.2.2.2.2.2.1
theorem dX6_counsel_19 : decode cX6_counsel 19 = .ok (.iconst 0, 1) := zd02dec4_23.2.2.2.2.2.2.2.2.2.2.1
theorem dX6_counsel_20 : decode cX6_counsel 20 = .ok (.iconst 1, 1) := zd02dec4_23.2.2.2.2.2.2.2.2.2.2.2
theorem zd02dec4_24 : decode cX6_counsel 21 = .ok (.invokestatic 91, 3) ∧ decode cX6_counsel 24 = .ok (.ifCond .ne 6, 3) ∧ decode cX6_counsel 27 = .ok (.bipush (-7), 2) ∧ decode cX6_counsel 29 = .ok (.ireturn, 1) ∧ decode cX6_counsel 30 = .ok (.aload_n 0, 1) ∧ decode cX6_counsel 31 = .ok (.iload_n 1, 1) ∧ decode cX6_counsel 32 = .ok (.iload_n 2, 1) ∧ decode cX6_counsel 33 = .ok (.invokevirtual 237, 3) ∧ decode cX6_counsel 36 = .ok (.iconst (-1), 1) ∧ decode cX6_counsel 37 = .ok (.istore 4, 2) ∧ decode cX6_counsel 39 = .ok (.iconst 1, 1) ∧ decode cX6_counsel 40 = .ok (.aload_n 0, 1) := by decide +kernel
theorem dX6_counsel_21 : decode cX6_counsel 21 = .ok (.invokestatic 91, 3) := zd02dec4_24.1
theorem dX6_counsel_24 : decode cX6_counsel 24 = .ok (.ifCond .ne 6, 3) := zd02dec4_24.2.1
theorem dX6_counsel_27 : decode cX6_counsel 27 = .ok (.bipush (-7), 2) := zd02dec4_24.2.2.1
theorem dX6_counsel_29 : decode cX6_counsel 29 = .ok (.ireturn, 1) := zd02dec4_24.2.2.2.1
theorem dX6_counsel_30 : decode cX6_counsel 30 = .ok (.aload_n 0, 1) := zd02dec4_24.2.2.2.2.1
theorem dX6_counsel_31 : decode cX6_counsel 31 = .ok (.iload_n 1, 1) := zd02dec4_24.2.2.2.2.2.1
theorem dX6_counsel_32 : decode cX6_counsel 32 = .ok (.iload_n 2, 1) := zd02dec4_24.2.2.2.2.2.2.1
theorem dX6_counsel_33 : decode cX6_counsel 33 = .ok (.invokevirtual 237, 3) := zd02dec4_24.2.2.2.2.2.2.2.1
theorem dX6_counsel_36 : decode cX6_counsel 36 = .ok (.iconst (-1), 1) := zd02dec4_24.2.2.2.2.2.2.2.2.1
theorem dX6_counsel_37 : decode cX6_counsel 37 = .ok (.istore 4, 2) := zd02dec4_24.2.2.2.2.2.2.2.2.2.1
theorem dX6_counsel_39 : decode cX6_counsel 39 = .ok (.iconst 1, 1) := zd02dec4_24.2.2.2.2.2.2.2.2.2.2.1
theorem dX6_counsel_40 : decode cX6_counsel 40 = .ok (.aload_n 0, 1) := zd02dec4_24.2.2.2.2.2.2.2.2.2.2.2
theorem zd02dec4_25 : decode cX6_counsel 41 = .ok (.getfield 88, 3) ∧ decode cX6_counsel 44 = .ok (.ishl, 1) ∧ decode cX6_counsel 45 = .ok (.iconst 1, 1) ∧ decode cX6_counsel 46 = .ok (.isub, 1) ∧ decode cX6_counsel 47 = .ok (.istore 5, 2) ∧ decode cX6_counsel 49 = .ok (.aload_n 0, 1) ∧ decode cX6_counsel 50 = .ok (.getfield 77, 3) ∧ decode cX6_counsel 53 = .ok (.iload 5, 2) ∧ decode cX6_counsel 55 = .ok (.iconst 0, 1) ∧ decode cX6_counsel 56 = .ok (.iastore, 1) ∧ decode cX6_counsel 57 = .ok (.iload 5, 2) ∧ decode cX6_counsel 59 = .ok (.iconst 1, 1) := by decide +kernel
theorem dX6_counsel_41 : decode cX6_counsel 41 = .ok (.getfield 88, 3) := zd02dec4_25.1
theorem dX6_counsel_44 : decode cX6_counsel 44 = .ok (.ishl, 1) := zd02dec4_25.2.1
theorem dX6_counsel_45 : decode cX6_counsel 45 = .ok (.iconst 1, 1) := zd02dec4_25.2.2.1
theorem dX6_counsel_46 : decode cX6_counsel 46 = .ok (.isub, 1) := zd02dec4_25.2.2.2.1
theorem dX6_counsel_47 : decode cX6_counsel 47 = .ok (.istore 5, 2) := zd02dec4_25.2.2.2.2.1
theorem dX6_counsel_49 : decode cX6_counsel 49 = .ok (.aload_n 0, 1) := zd02dec4_25.2.2.2.2.2.1
theorem dX6_counsel_50 : decode cX6_counsel 50 = .ok (.getfield 77, 3) := zd02dec4_25.2.2.2.2.2.2.1
theorem dX6_counsel_53 : decode cX6_counsel 53 = .ok (.iload 5, 2) := zd02dec4_25.2.2.2.2.2.2.2.1
theorem dX6_counsel_55 : decode cX6_counsel 55 = .ok (.iconst 0, 1) := zd02dec4_25.2.2.2.2.2.2.2.2.1
theorem dX6_counsel_56 : decode cX6_counsel 56 = .ok (.iastore, 1) := zd02dec4_25.2.2.2.2.2.2.2.2.2.1
theorem dX6_counsel_57 : decode cX6_counsel 57 = .ok (.iload 5, 2) := zd02dec4_25.2.2.2.2.2.2.2.2.2.2.1
theorem dX6_counsel_59 : decode cX6_counsel 59 = .ok (.iconst 1, 1) := zd02dec4_25.2.2.2.2.2.2.2.2.2.2.2
theorem zd02dec4_26 : decode cX6_counsel 60 = .ok (.isub, 1) ∧ decode cX6_counsel 61 = .ok (.istore 6, 2) ∧ decode cX6_counsel 63 = .ok (.iload 6, 2) ∧ decode cX6_counsel 65 = .ok (.ifCond .lt 159, 3) ∧ decode cX6_counsel 68 = .ok (.iload 6, 2) ∧ decode cX6_counsel 70 = .ok (.invokestatic 245, 3) ∧ decode cX6_counsel 73 = .ok (.istore 7, 2) ∧ decode cX6_counsel 75 = .ok (.iload 7, 2) ∧ decode cX6_counsel 77 = .ok (.iconst 2, 1) ∧ decode cX6_counsel 78 = .ok (.irem, 1) ∧ decode cX6_counsel 79 = .ok (.ifCond .ne 7, 3) ∧ decode cX6_counsel 82 = .ok (.iconst 1, 1) := by decide +kernel
theorem dX6_counsel_60 : decode cX6_counsel 60 = .ok (.isub, 1) := zd02dec4_26.1
theorem dX6_counsel_61 : decode cX6_counsel 61 = .ok (.istore 6, 2) := zd02dec4_26.2.1
theorem dX6_counsel_63 : decode cX6_counsel 63 = .ok (.iload 6, 2) := zd02dec4_26.2.2.1
theorem dX6_counsel_65 : decode cX6_counsel 65 = .ok (.ifCond .lt 159, 3) := zd02dec4_26.2.2.2.1
theorem dX6_counsel_68 : decode cX6_counsel 68 = .ok (.iload 6, 2) := zd02dec4_26.2.2.2.2.1
theorem dX6_counsel_70 : decode cX6_counsel 70 = .ok (.invokestatic 245, 3) := zd02dec4_26.2.2.2.2.2.1
theorem dX6_counsel_73 : decode cX6_counsel 73 = .ok (.istore 7, 2) := zd02dec4_26.2.2.2.2.2.2.1
theorem dX6_counsel_75 : decode cX6_counsel 75 = .ok (.iload 7, 2) := zd02dec4_26.2.2.2.2.2.2.2.1
theorem dX6_counsel_77 : decode cX6_counsel 77 = .ok (.iconst 2, 1) := zd02dec4_26.2.2.2.2.2.2.2.2.1
theorem dX6_counsel_78 : decode cX6_counsel 78 = .ok (.irem, 1) := zd02dec4_26.2.2.2.2.2.2.2.2.2.1
theorem dX6_counsel_79 : decode cX6_counsel 79 = .ok (.ifCond .ne 7, 3) := zd02dec4_26.2.2.2.2.2.2.2.2.2.2.1
theorem dX6_counsel_82 : decode cX6_counsel 82 = .ok (.iconst 1, 1) := zd02dec4_26.2.2.2.2.2.2.2.2.2.2.2
theorem zd02dec4_27 : decode cX6_counsel 83 = .ok (.goto 4, 3) ∧ decode cX6_counsel 86 = .ok (.iconst (-1), 1) ∧ decode cX6_counsel 87 = .ok (.istore 8, 2) ∧ decode cX6_counsel 89 = .ok (.iconst (-1), 1) ∧ decode cX6_counsel 90 = .ok (.istore 9, 2) ∧ decode cX6_counsel 92 = .ok (.iconst 0, 1) ∧ decode cX6_counsel 93 = .ok (.istore 10, 2) ∧ decode cX6_counsel 95 = .ok (.iconst 0, 1) ∧ decode cX6_counsel 96 = .ok (.istore 11, 2) ∧ decode cX6_counsel 98 = .ok (.iload 11, 2) ∧ decode cX6_counsel 100 = .ok (.aload_n 0, 1) ∧ decode cX6_counsel 101 = .ok (.getfield 88, 3) := by decide +kernel
theorem dX6_counsel_83 : decode cX6_counsel 83 = .ok (.goto 4, 3) := zd02dec4_27.1
theorem dX6_counsel_86 : decode cX6_counsel 86 = .ok (.iconst (-1), 1) := zd02dec4_27.2.1
theorem dX6_counsel_87 : decode cX6_counsel 87 = .ok (.istore 8, 2) := zd02dec4_27.2.2.1
theorem dX6_counsel_89 : decode cX6_counsel 89 = .ok (.iconst (-1), 1) := zd02dec4_27.2.2.2.1
theorem dX6_counsel_90 : decode cX6_counsel 90 = .ok (.istore 9, 2) := zd02dec4_27.2.2.2.2.1
theorem dX6_counsel_92 : decode cX6_counsel 92 = .ok (.iconst 0, 1) := zd02dec4_27.2.2.2.2.2.1
theorem dX6_counsel_93 : decode cX6_counsel 93 = .ok (.istore 10, 2) := zd02dec4_27.2.2.2.2.2.2.1
theorem dX6_counsel_95 : decode cX6_counsel 95 = .ok (.iconst 0, 1) := zd02dec4_27.2.2.2.2.2.2.2.1
theorem dX6_counsel_96 : decode cX6_counsel 96 = .ok (.istore 11, 2) := zd02dec4_27.2.2.2.2.2.2.2.2.1
theorem dX6_counsel_98 : decode cX6_counsel 98 = .ok (.iload 11, 2) := zd02dec4_27.2.2.2.2.2.2.2.2.2.1
theorem dX6_counsel_100 : decode cX6_counsel 100 = .ok (.aload_n 0, 1) := zd02dec4_27.2.2.2.2.2.2.2.2.2.2.1
theorem dX6_counsel_101 : decode cX6_counsel 101 = .ok (.getfield 88, 3) := zd02dec4_27.2.2.2.2.2.2.2.2.2.2.2
theorem zd02dec4_28 : decode cX6_counsel 104 = .ok (.if_icmp .ge 98, 3) ∧ decode cX6_counsel 107 = .ok (.iload 6, 2) ∧ decode cX6_counsel 109 = .ok (.iload 11, 2) ∧ decode cX6_counsel 111 = .ok (.ishr, 1) ∧ decode cX6_counsel 112 = .ok (.iconst 1, 1) ∧ decode cX6_counsel 113 = .ok (.iand, 1) ∧ decode cX6_counsel 114 = .ok (.ifCond .ne 82, 3) ∧ decode cX6_counsel 117 = .ok (.iload 8, 2) ∧ decode cX6_counsel 119 = .ok (.aload_n 0, 1) ∧ decode cX6_counsel 120 = .ok (.getfield 74, 3) ∧ decode cX6_counsel 123 = .ok (.bipush 6, 2) ∧ decode cX6_counsel 125 = .ok (.iload 7, 2) := by decide +kernel
theorem dX6_counsel_104 : decode cX6_counsel 104 = .ok (.if_icmp .ge 98, 3) := zd02dec4_28.1
theorem dX6_counsel_107 : decode cX6_counsel 107 = .ok (.iload 6, 2) := zd02dec4_28.2.1
theorem dX6_counsel_109 : decode cX6_counsel 109 = .ok (.iload 11, 2) := zd02dec4_28.2.2.1
theorem dX6_counsel_111 : decode cX6_counsel 111 = .ok (.ishr, 1) := zd02dec4_28.2.2.2.1
theorem dX6_counsel_112 : decode cX6_counsel 112 = .ok (.iconst 1, 1) := zd02dec4_28.2.2.2.2.1
theorem dX6_counsel_113 : decode cX6_counsel 113 = .ok (.iand, 1) := zd02dec4_28.2.2.2.2.2.1
theorem dX6_counsel_114 : decode cX6_counsel 114 = .ok (.ifCond .ne 82, 3) := zd02dec4_28.2.2.2.2.2.2.1
theorem dX6_counsel_117 : decode cX6_counsel 117 = .ok (.iload 8, 2) := zd02dec4_28.2.2.2.2.2.2.2.1
theorem dX6_counsel_119 : decode cX6_counsel 119 = .ok (.aload_n 0, 1) := zd02dec4_28.2.2.2.2.2.2.2.2.1
theorem dX6_counsel_120 : decode cX6_counsel 120 = .ok (.getfield 74, 3) := zd02dec4_28.2.2.2.2.2.2.2.2.2.1
theorem dX6_counsel_123 : decode cX6_counsel 123 = .ok (.bipush 6, 2) := zd02dec4_28.2.2.2.2.2.2.2.2.2.2.1
theorem dX6_counsel_125 : decode cX6_counsel 125 = .ok (.iload 7, 2) := zd02dec4_28.2.2.2.2.2.2.2.2.2.2.2
theorem zd02dec4_29 : decode cX6_counsel 127 = .ok (.imul, 1) ∧ decode cX6_counsel 128 = .ok (.iload 11, 2) ∧ decode cX6_counsel 130 = .ok (.iadd, 1) ∧ decode cX6_counsel 131 = .ok (.iaload, 1) ∧ decode cX6_counsel 132 = .ok (.aload_n 0, 1) ∧ decode cX6_counsel 133 = .ok (.getfield 77, 3) ∧ decode cX6_counsel 136 = .ok (.iload 6, 2) ∧ decode cX6_counsel 138 = .ok (.iconst 1, 1) ∧ decode cX6_counsel 139 = .ok (.iload 11, 2) ∧ decode cX6_counsel 141 = .ok (.ishl, 1) ∧ decode cX6_counsel 142 = .ok (.ior, 1) ∧ decode cX6_counsel 143 = .ok (.iaload, 1) := by decide +kernel
theorem dX6_counsel_127 : decode cX6_counsel 127 = .ok (.imul, 1) := zd02dec4_29.1
theorem dX6_counsel_128 : decode cX6_counsel 128 = .ok (.iload 11, 2) := zd02dec4_29.2.1
theorem dX6_counsel_130 : decode cX6_counsel 130 = .ok (.iadd, 1) := zd02dec4_29.2.2.1
theorem dX6_counsel_131 : decode cX6_counsel 131 = .ok (.iaload, 1) := zd02dec4_29.2.2.2.1
theorem dX6_counsel_132 : decode cX6_counsel 132 = .ok (.aload_n 0, 1) := zd02dec4_29.2.2.2.2.1
theorem dX6_counsel_133 : decode cX6_counsel 133 = .ok (.getfield 77, 3) := zd02dec4_29.2.2.2.2.2.1
theorem dX6_counsel_136 : decode cX6_counsel 136 = .ok (.iload 6, 2) := zd02dec4_29.2.2.2.2.2.2.1
theorem dX6_counsel_138 : decode cX6_counsel 138 = .ok (.iconst 1, 1) := zd02dec4_29.2.2.2.2.2.2.2.1
theorem dX6_counsel_139 : decode cX6_counsel 139 = .ok (.iload 11, 2) := zd02dec4_29.2.2.2.2.2.2.2.2.1
theorem dX6_counsel_141 : decode cX6_counsel 141 = .ok (.ishl, 1) := zd02dec4_29.2.2.2.2.2.2.2.2.2.1
theorem dX6_counsel_142 : decode cX6_counsel 142 = .ok (.ior, 1) := zd02dec4_29.2.2.2.2.2.2.2.2.2.2.1
theorem dX6_counsel_143 : decode cX6_counsel 143 = .ok (.iaload, 1) := zd02dec4_29.2.2.2.2.2.2.2.2.2.2.2
theorem zd02dec4_30 : decode cX6_counsel 144 = .ok (.iadd, 1) ∧ decode cX6_counsel 145 = .ok (.imul, 1) ∧ decode cX6_counsel 146 = .ok (.istore 12, 2) ∧ decode cX6_counsel 148 = .ok (.iload 9, 2) ∧ decode cX6_counsel 150 = .ok (.iconst (-1), 1) ∧ decode cX6_counsel 151 = .ok (.if_icmp .eq 10, 3) ∧ decode cX6_counsel 154 = .ok (.iload 12, 2) ∧ decode cX6_counsel 156 = .ok (.iload 10, 2) ∧ decode cX6_counsel 158 = .ok (.if_icmp .le 7, 3) ∧ decode cX6_counsel 161 = .ok (.iconst 1, 1) ∧ decode cX6_counsel 162 = .ok (.goto 4, 3) ∧ decode cX6_counsel 165 = .ok (.iconst 0, 1) := by decide +kernel
theorem dX6_counsel_144 : decode cX6_counsel 144 = .ok (.iadd, 1) := zd02dec4_30.1
theorem dX6_counsel_145 : decode cX6_counsel 145 = .ok (.imul, 1) := zd02dec4_30.2.1
theorem dX6_counsel_146 : decode cX6_counsel 146 = .ok (.istore 12, 2) := zd02dec4_30.2.2.1
theorem dX6_counsel_148 : decode cX6_counsel 148 = .ok (.iload 9, 2) := zd02dec4_30.2.2.2.1
theorem dX6_counsel_150 : decode cX6_counsel 150 = .ok (.iconst (-1), 1) := zd02dec4_30.2.2.2.2.1
theorem dX6_counsel_151 : decode cX6_counsel 151 = .ok (.if_icmp .eq 10, 3) := zd02dec4_30.2.2.2.2.2.1
theorem dX6_counsel_154 : decode cX6_counsel 154 = .ok (.iload 12, 2) := zd02dec4_30.2.2.2.2.2.2.1
theorem dX6_counsel_156 : decode cX6_counsel 156 = .ok (.iload 10, 2) := zd02dec4_30.2.2.2.2.2.2.2.1
theorem dX6_counsel_158 : decode cX6_counsel 158 = .ok (.if_icmp .le 7, 3) := zd02dec4_30.2.2.2.2.2.2.2.2.1
theorem dX6_counsel_161 : decode cX6_counsel 161 = .ok (.iconst 1, 1) := zd02dec4_30.2.2.2.2.2.2.2.2.2.1
theorem dX6_counsel_162 : decode cX6_counsel 162 = .ok (.goto 4, 3) := zd02dec4_30.2.2.2.2.2.2.2.2.2.2.1
theorem dX6_counsel_165 : decode cX6_counsel 165 = .ok (.iconst 0, 1) := zd02dec4_30.2.2.2.2.2.2.2.2.2.2.2
theorem zd02dec4_31 : decode cX6_counsel 166 = .ok (.istore 13, 2) ∧ decode cX6_counsel 168 = .ok (.iload 13, 2) ∧ decode cX6_counsel 170 = .ok (.ifCond .eq 8, 3) ∧ decode cX6_counsel 173 = .ok (.iload 11, 2) ∧ decode cX6_counsel 175 = .ok (.goto 5, 3) ∧ decode cX6_counsel 178 = .ok (.iload 9, 2) ∧ decode cX6_counsel 180 = .ok (.istore 9, 2) ∧ decode cX6_counsel 182 = .ok (.iload 13, 2) ∧ decode cX6_counsel 184 = .ok (.ifCond .eq 8, 3) ∧ decode cX6_counsel 187 = .ok (.iload 12, 2) ∧ decode cX6_counsel 189 = .ok (.goto 5, 3) ∧ decode cX6_counsel 192 = .ok (.iload 10, 2) := by decide +kernel
theorem dX6_counsel_166 : decode cX6_counsel 166 = .ok (.istore 13, 2) := zd02dec4_31.1
theorem dX6_counsel_168 : decode cX6_counsel 168 = .ok (.iload 13, 2) := zd02dec4_31.2.1
theorem dX6_counsel_170 : decode cX6_counsel 170 = .ok (.ifCond .eq 8, 3) := zd02dec4_31.2.2.1
theorem dX6_counsel_173 : decode cX6_counsel 173 = .ok (.iload 11, 2) := zd02dec4_31.2.2.2.1
theorem dX6_counsel_175 : decode cX6_counsel 175 = .ok (.goto 5, 3) := zd02dec4_31.2.2.2.2.1
theorem dX6_counsel_178 : decode cX6_counsel 178 = .ok (.iload 9, 2) := zd02dec4_31.2.2.2.2.2.1
theorem dX6_counsel_180 : decode cX6_counsel 180 = .ok (.istore 9, 2) := zd02dec4_31.2.2.2.2.2.2.1
theorem dX6_counsel_182 : decode cX6_counsel 182 = .ok (.iload 13, 2) := zd02dec4_31.2.2.2.2.2.2.2.1
theorem dX6_counsel_184 : decode cX6_counsel 184 = .ok (.ifCond .eq 8, 3) := zd02dec4_31.2.2.2.2.2.2.2.2.1
theorem dX6_counsel_187 : decode cX6_counsel 187 = .ok (.iload 12, 2) := zd02dec4_31.2.2.2.2.2.2.2.2.2.1
theorem dX6_counsel_189 : decode cX6_counsel 189 = .ok (.goto 5, 3) := zd02dec4_31.2.2.2.2.2.2.2.2.2.2.1
theorem dX6_counsel_192 : decode cX6_counsel 192 = .ok (.iload 10, 2) := zd02dec4_31.2.2.2.2.2.2.2.2.2.2.2
theorem zd02dec4_32 : decode cX6_counsel 194 = .ok (.istore 10, 2) ∧ decode cX6_counsel 196 = .ok (.iinc 11 1, 3) ∧ decode cX6_counsel 199 = .ok (.goto (-101), 3) ∧ decode cX6_counsel 202 = .ok (.aload_n 0, 1) ∧ decode cX6_counsel 203 = .ok (.getfield 77, 3) ∧ decode cX6_counsel 206 = .ok (.iload 6, 2) ∧ decode cX6_counsel 208 = .ok (.iload 8, 2) ∧ decode cX6_counsel 210 = .ok (.iload 10, 2) ∧ decode cX6_counsel 212 = .ok (.imul, 1) ∧ decode cX6_counsel 213 = .ok (.iastore, 1) ∧ decode cX6_counsel 214 = .ok (.iload 9, 2) ∧ decode cX6_counsel 216 = .ok (.istore 4, 2) := by decide +kernel
theorem dX6_counsel_194 : decode cX6_counsel 194 = .ok (.istore 10, 2) := zd02dec4_32.1
theorem dX6_counsel_196 : decode cX6_counsel 196 = .ok (.iinc 11 1, 3) := zd02dec4_32.2.1
theorem dX6_counsel_199 : decode cX6_counsel 199 = .ok (.goto (-101), 3) := zd02dec4_32.2.2.1
theorem dX6_counsel_202 : decode cX6_counsel 202 = .ok (.aload_n 0, 1) := zd02dec4_32.2.2.2.1
theorem dX6_counsel_203 : decode cX6_counsel 203 = .ok (.getfield 77, 3) := zd02dec4_32.2.2.2.2.1
theorem dX6_counsel_206 : decode cX6_counsel 206 = .ok (.iload 6, 2) := zd02dec4_32.2.2.2.2.2.1
theorem dX6_counsel_208 : decode cX6_counsel 208 = .ok (.iload 8, 2) := zd02dec4_32.2.2.2.2.2.2.1
theorem dX6_counsel_210 : decode cX6_counsel 210 = .ok (.iload 10, 2) := zd02dec4_32.2.2.2.2.2.2.2.1
theorem dX6_counsel_212 : decode cX6_counsel 212 = .ok (.imul, 1) := zd02dec4_32.2.2.2.2.2.2.2.2.1
theorem dX6_counsel_213 : decode cX6_counsel 213 = .ok (.iastore, 1) := zd02dec4_32.2.2.2.2.2.2.2.2.2.1
theorem dX6_counsel_214 : decode cX6_counsel 214 = .ok (.iload 9, 2) := zd02dec4_32.2.2.2.2.2.2.2.2.2.2.1
theorem dX6_counsel_216 : decode cX6_counsel 216 = .ok (.istore 4, 2) := zd02dec4_32.2.2.2.2.2.2.2.2.2.2.2
theorem zd02dec4_33 : decode cX6_counsel 218 = .ok (.iinc 6 (-1), 3) ∧ decode cX6_counsel 221 = .ok (.goto (-158), 3) ∧ decode cX6_counsel 224 = .ok (.iload_n 3, 1) ∧ decode cX6_counsel 225 = .ok (.ifCond .ne 12, 3) ∧ decode cX6_counsel 228 = .ok (.aload_n 0, 1) ∧ decode cX6_counsel 229 = .ok (.getfield 77, 3) ∧ decode cX6_counsel 232 = .ok (.iconst 0, 1) ∧ decode cX6_counsel 233 = .ok (.iaload, 1) ∧ decode cX6_counsel 234 = .ok (.goto 5, 3) ∧ decode cX6_counsel 237 = .ok (.iload 4, 2) ∧ decode cX6_counsel 239 = .ok (.ireturn, 1) := by decide +kernel
theorem dX6_counsel_218 : decode cX6_counsel 218 = .ok (.iinc 6 (-1), 3) := zd02dec4_33.1
theorem dX6_counsel_221 : decode cX6_counsel 221 = .ok (.goto (-158), 3) := zd02dec4_33.2.1
theorem dX6_counsel_224 : decode cX6_counsel 224 = .ok (.iload_n 3, 1) := zd02dec4_33.2.2.1
theorem dX6_counsel_225 : decode cX6_counsel 225 = .ok (.ifCond .ne 12, 3) := zd02dec4_33.2.2.2.1
theorem dX6_counsel_228 : decode cX6_counsel 228 = .ok (.aload_n 0, 1) := zd02dec4_33.2.2.2.2.1
theorem dX6_counsel_229 : decode cX6_counsel 229 = .ok (.getfield 77, 3) := zd02dec4_33.2.2.2.2.2.1
theorem dX6_counsel_232 : decode cX6_counsel 232 = .ok (.iconst 0, 1) := zd02dec4_33.2.2.2.2.2.2.1
theorem dX6_counsel_233 : decode cX6_counsel 233 = .ok (.iaload, 1) := zd02dec4_33.2.2.2.2.2.2.2.1
theorem dX6_counsel_234 : decode cX6_counsel 234 = .ok (.goto 5, 3) := zd02dec4_33.2.2.2.2.2.2.2.2.1
theorem dX6_counsel_237 : decode cX6_counsel 237 = .ok (.iload 4, 2) := zd02dec4_33.2.2.2.2.2.2.2.2.2.1
theorem dX6_counsel_239 : decode cX6_counsel 239 = .ok (.ireturn, 1) := zd02dec4_33.2.2.2.2.2.2.2.2.2.2
theorem zd02dec4_34 : decode cX6_sheetWrong 0 = .ok (.iload_n 1, 1) ∧ decode cX6_sheetWrong 1 = .ok (.iconst 0, 1) ∧ decode cX6_sheetWrong 2 = .ok (.iconst 3, 1) ∧ decode cX6_sheetWrong 3 = .ok (.invokestatic 91, 3) ∧ decode cX6_sheetWrong 6 = .ok (.ifCond .ne 6, 3) ∧ decode cX6_sheetWrong 9 = .ok (.bipush (-2), 2) ∧ decode cX6_sheetWrong 11 = .ok (.ireturn, 1) ∧ decode cX6_sheetWrong 12 = .ok (.aload_n 0, 1) ∧ decode cX6_sheetWrong 13 = .ok (.getfield 37, 3) ∧ decode cX6_sheetWrong 16 = .ok (.iload_n 1, 1) ∧ decode cX6_sheetWrong 17 = .ok (.iaload, 1) ∧ decode cX6_sheetWrong 18 = .ok (.iconst (-1), 1) := by decide +kernel
theorem dX6_sheetWrong_0 : decode cX6_sheetWrong 0 = .ok (.iload_n 1, 1) := zd02dec4_34.1
theorem dX6_sheetWrong_1 : decode cX6_sheetWrong 1 = .ok (.iconst 0, 1) := zd02dec4_34.2.1
theorem dX6_sheetWrong_2 : decode cX6_sheetWrong 2 = .ok (.iconst 3, 1) := zd02dec4_34.2.2.1
theorem dX6_sheetWrong_3 : decode cX6_sheetWrong 3 = .ok (.invokestatic 91, 3) := zd02dec4_34.2.2.2.1
theorem dX6_sheetWrong_6 : decode cX6_sheetWrong 6 = .ok (.ifCond .ne 6, 3) := zd02dec4_34.2.2.2.2.1
theorem dX6_sheetWrong_9 : decode cX6_sheetWrong 9 = .ok (.bipush (-2), 2) := zd02dec4_34.2.2.2.2.2.1
theorem dX6_sheetWrong_11 : decode cX6_sheetWrong 11 = .ok (.ireturn, 1) := zd02dec4_34.2.2.2.2.2.2.1
theorem dX6_sheetWrong_12 : decode cX6_sheetWrong 12 = .ok (.aload_n 0, 1) := zd02dec4_34.2.2.2.2.2.2.2.1
theorem dX6_sheetWrong_13 : decode cX6_sheetWrong 13 = .ok (.getfield 37, 3) := zd02dec4_34.2.2.2.2.2.2.2.2.1
theorem dX6_sheetWrong_16 : decode cX6_sheetWrong 16 = .ok (.iload_n 1, 1) := zd02dec4_34.2.2.2.2.2.2.2.2.2.1
theorem dX6_sheetWrong_17 : decode cX6_sheetWrong 17 = .ok (.iaload, 1) := zd02dec4_34.2.2.2.2.2.2.2.2.2.2.1
theorem dX6_sheetWrong_18 : decode cX6_sheetWrong 18 = .ok (.iconst (-1), 1) := zd02dec4_34.2.2.2.2.2.2.2.2.2.2.2
theorem zd02dec4_35 : decode cX6_sheetWrong 19 = .ok (.if_icmp .ne 6, 3) ∧ decode cX6_sheetWrong 22 = .ok (.bipush (-11), 2) ∧ decode cX6_sheetWrong 24 = .ok (.ireturn, 1) ∧ decode cX6_sheetWrong 25 = .ok (.aload_n 0, 1) ∧ decode cX6_sheetWrong 26 = .ok (.getfield 40, 3) ∧ decode cX6_sheetWrong 29 = .ok (.iload_n 1, 1) ∧ decode cX6_sheetWrong 30 = .ok (.iaload, 1) ∧ decode cX6_sheetWrong 31 = .ok (.iconst 3, 1) ∧ decode cX6_sheetWrong 32 = .ok (.irem, 1) ∧ decode cX6_sheetWrong 33 = .ok (.ifCond .ne 7, 3) ∧ decode cX6_sheetWrong 36 = .ok (.iconst 1, 1) ∧ decode cX6_sheetWrong 37 = .ok (.goto 4, 3) := by decide +kernel
theorem dX6_sheetWrong_19 : decode cX6_sheetWrong 19 = .ok (.if_icmp .ne 6, 3) := zd02dec4_35.1
theorem dX6_sheetWrong_22 : decode cX6_sheetWrong 22 = .ok (.bipush (-11), 2) := zd02dec4_35.2.1
theorem dX6_sheetWrong_24 : decode cX6_sheetWrong 24 = .ok (.ireturn, 1) := zd02dec4_35.2.2.1
theorem dX6_sheetWrong_25 : decode cX6_sheetWrong 25 = .ok (.aload_n 0, 1) := zd02dec4_35.2.2.2.1
theorem dX6_sheetWrong_26 : decode cX6_sheetWrong 26 = .ok (.getfield 40, 3) := zd02dec4_35.2.2.2.2.1
theorem dX6_sheetWrong_29 : decode cX6_sheetWrong 29 = .ok (.iload_n 1, 1) := zd02dec4_35.2.2.2.2.2.1
theorem dX6_sheetWrong_30 : decode cX6_sheetWrong 30 = .ok (.iaload, 1) := zd02dec4_35.2.2.2.2.2.2.1
theorem dX6_sheetWrong_31 : decode cX6_sheetWrong 31 = .ok (.iconst 3, 1) := zd02dec4_35.2.2.2.2.2.2.2.1
theorem dX6_sheetWrong_32 : decode cX6_sheetWrong 32 = .ok (.irem, 1) := zd02dec4_35.2.2.2.2.2.2.2.2.1
theorem dX6_sheetWrong_33 : decode cX6_sheetWrong 33 = .ok (.ifCond .ne 7, 3) := zd02dec4_35.2.2.2.2.2.2.2.2.2.1
theorem dX6_sheetWrong_36 : decode cX6_sheetWrong 36 = .ok (.iconst 1, 1) := zd02dec4_35.2.2.2.2.2.2.2.2.2.2.1
theorem dX6_sheetWrong_37 : decode cX6_sheetWrong 37 = .ok (.goto 4, 3) := zd02dec4_35.2.2.2.2.2.2.2.2.2.2.2
theorem zd02dec4_36 : decode cX6_sheetWrong 40 = .ok (.iconst 0, 1) ∧ decode cX6_sheetWrong 41 = .ok (.istore_n 2, 1) ∧ decode cX6_sheetWrong 42 = .ok (.iconst 0, 1) ∧ decode cX6_sheetWrong 43 = .ok (.istore_n 3, 1) ∧ decode cX6_sheetWrong 44 = .ok (.iload_n 3, 1) ∧ decode cX6_sheetWrong 45 = .ok (.iconst 2, 1) ∧ decode cX6_sheetWrong 46 = .ok (.iadd, 1) ∧ decode cX6_sheetWrong 47 = .ok (.aload_n 0, 1) ∧ decode cX6_sheetWrong 48 = .ok (.getfield 40, 3) ∧ decode cX6_sheetWrong 51 = .ok (.iload_n 1, 1) ∧ decode cX6_sheetWrong 52 = .ok (.iaload, 1) ∧ decode cX6_sheetWrong 53 = .ok (.if_icmp .ge 71, 3) := by decide +kernel
theorem dX6_sheetWrong_40 : decode cX6_sheetWrong 40 = .ok (.iconst 0, 1) := zd02dec4_36.1
theorem dX6_sheetWrong_41 : decode cX6_sheetWrong 41 = .ok (.istore_n 2, 1) := zd02dec4_36.2.1
theorem dX6_sheetWrong_42 : decode cX6_sheetWrong 42 = .ok (.iconst 0, 1) := zd02dec4_36.2.2.1
theorem dX6_sheetWrong_43 : decode cX6_sheetWrong 43 = .ok (.istore_n 3, 1) := zd02dec4_36.2.2.2.1
theorem dX6_sheetWrong_44 : decode cX6_sheetWrong 44 = .ok (.iload_n 3, 1) := zd02dec4_36.2.2.2.2.1
theorem dX6_sheetWrong_45 : decode cX6_sheetWrong 45 = .ok (.iconst 2, 1) := zd02dec4_36.2.2.2.2.2.1
theorem dX6_sheetWrong_46 : decode cX6_sheetWrong 46 = .ok (.iadd, 1) := zd02dec4_36.2.2.2.2.2.2.1
theorem dX6_sheetWrong_47 : decode cX6_sheetWrong 47 = .ok (.aload_n 0, 1) := zd02dec4_36.2.2.2.2.2.2.2.1
theorem dX6_sheetWrong_48 : decode cX6_sheetWrong 48 = .ok (.getfield 40, 3) := zd02dec4_36.2.2.2.2.2.2.2.2.1
theorem dX6_sheetWrong_51 : decode cX6_sheetWrong 51 = .ok (.iload_n 1, 1) := zd02dec4_36.2.2.2.2.2.2.2.2.2.1
theorem dX6_sheetWrong_52 : decode cX6_sheetWrong 52 = .ok (.iaload, 1) := zd02dec4_36.2.2.2.2.2.2.2.2.2.2.1
theorem dX6_sheetWrong_53 : decode cX6_sheetWrong 53 = .ok (.if_icmp .ge 71, 3) := zd02dec4_36.2.2.2.2.2.2.2.2.2.2.2
theorem zd02dec4_37 : decode cX6_sheetWrong 56 = .ok (.bipush 40, 2) ∧ decode cX6_sheetWrong 58 = .ok (.iload_n 1, 1) ∧ decode cX6_sheetWrong 59 = .ok (.imul, 1) ∧ decode cX6_sheetWrong 60 = .ok (.iload_n 3, 1) ∧ decode cX6_sheetWrong 61 = .ok (.iadd, 1) ∧ decode cX6_sheetWrong 62 = .ok (.istore 4, 2) ∧ decode cX6_sheetWrong 64 = .ok (.iload_n 2, 1) ∧ decode cX6_sheetWrong 65 = .ok (.aload_n 0, 1) ∧ decode cX6_sheetWrong 66 = .ok (.aload_n 0, 1) ∧ decode cX6_sheetWrong 67 = .ok (.getfield 43, 3) ∧ decode cX6_sheetWrong 70 = .ok (.iload 4, 2) ∧ decode cX6_sheetWrong 72 = .ok (.iaload, 1) := by decide +kernel
theorem dX6_sheetWrong_56 : decode cX6_sheetWrong 56 = .ok (.bipush 40, 2) := zd02dec4_37.1
theorem dX6_sheetWrong_58 : decode cX6_sheetWrong 58 = .ok (.iload_n 1, 1) := zd02dec4_37.2.1
theorem dX6_sheetWrong_59 : decode cX6_sheetWrong 59 = .ok (.imul, 1) := zd02dec4_37.2.2.1
theorem dX6_sheetWrong_60 : decode cX6_sheetWrong 60 = .ok (.iload_n 3, 1) := zd02dec4_37.2.2.2.1
theorem dX6_sheetWrong_61 : decode cX6_sheetWrong 61 = .ok (.iadd, 1) := zd02dec4_37.2.2.2.2.1
theorem dX6_sheetWrong_62 : decode cX6_sheetWrong 62 = .ok (.istore 4, 2) := zd02dec4_37.2.2.2.2.2.1
theorem dX6_sheetWrong_64 : decode cX6_sheetWrong 64 = .ok (.iload_n 2, 1) := zd02dec4_37.2.2.2.2.2.2.1
theorem dX6_sheetWrong_65 : decode cX6_sheetWrong 65 = .ok (.aload_n 0, 1) := zd02dec4_37.2.2.2.2.2.2.2.1
theorem dX6_sheetWrong_66 : decode cX6_sheetWrong 66 = .ok (.aload_n 0, 1) := zd02dec4_37.2.2.2.2.2.2.2.2.1
theorem dX6_sheetWrong_67 : decode cX6_sheetWrong 67 = .ok (.getfield 43, 3) := zd02dec4_37.2.2.2.2.2.2.2.2.2.1
theorem dX6_sheetWrong_70 : decode cX6_sheetWrong 70 = .ok (.iload 4, 2) := zd02dec4_37.2.2.2.2.2.2.2.2.2.2.1
theorem dX6_sheetWrong_72 : decode cX6_sheetWrong 72 = .ok (.iaload, 1) := zd02dec4_37.2.2.2.2.2.2.2.2.2.2.2
theorem zd02dec4_38 : decode cX6_sheetWrong 73 = .ok (.invokevirtual 177, 3) ∧ decode cX6_sheetWrong 76 = .ok (.ifCond .eq 39, 3) ∧ decode cX6_sheetWrong 79 = .ok (.aload_n 0, 1) ∧ decode cX6_sheetWrong 80 = .ok (.getfield 43, 3) ∧ decode cX6_sheetWrong 83 = .ok (.iload 4, 2) ∧ decode cX6_sheetWrong 85 = .ok (.iconst 1, 1) ∧ decode cX6_sheetWrong 86 = .ok (.iadd, 1) ∧ decode cX6_sheetWrong 87 = .ok (.iaload, 1) ∧ decode cX6_sheetWrong 88 = .ok (.invokestatic 196, 3) ∧ decode cX6_sheetWrong 91 = .ok (.ifCond .eq 24, 3) ∧ decode cX6_sheetWrong 94 = .ok (.aload_n 0, 1) ∧ decode cX6_sheetWrong 95 = .ok (.getfield 43, 3) := by decide +kernel
theorem dX6_sheetWrong_73 : decode cX6_sheetWrong 73 = .ok (.invokevirtual 177, 3) := zd02dec4_38.1
theorem dX6_sheetWrong_76 : decode cX6_sheetWrong 76 = .ok (.ifCond .eq 39, 3) := zd02dec4_38.2.1
theorem dX6_sheetWrong_79 : decode cX6_sheetWrong 79 = .ok (.aload_n 0, 1) := zd02dec4_38.2.2.1
theorem dX6_sheetWrong_80 : decode cX6_sheetWrong 80 = .ok (.getfield 43, 3) := zd02dec4_38.2.2.2.1
theorem dX6_sheetWrong_83 : decode cX6_sheetWrong 83 = .ok (.iload 4, 2) := zd02dec4_38.2.2.2.2.1
theorem dX6_sheetWrong_85 : decode cX6_sheetWrong 85 = .ok (.iconst 1, 1) := zd02dec4_38.2.2.2.2.2.1
theorem dX6_sheetWrong_86 : decode cX6_sheetWrong 86 = .ok (.iadd, 1) := zd02dec4_38.2.2.2.2.2.2.1
theorem dX6_sheetWrong_87 : decode cX6_sheetWrong 87 = .ok (.iaload, 1) := zd02dec4_38.2.2.2.2.2.2.2.1
theorem dX6_sheetWrong_88 : decode cX6_sheetWrong 88 = .ok (.invokestatic 196, 3) := zd02dec4_38.2.2.2.2.2.2.2.2.1
theorem dX6_sheetWrong_91 : decode cX6_sheetWrong 91 = .ok (.ifCond .eq 24, 3) := zd02dec4_38.2.2.2.2.2.2.2.2.2.1
theorem dX6_sheetWrong_94 : decode cX6_sheetWrong 94 = .ok (.aload_n 0, 1) := zd02dec4_38.2.2.2.2.2.2.2.2.2.2.1
theorem dX6_sheetWrong_95 : decode cX6_sheetWrong 95 = .ok (.getfield 43, 3) := zd02dec4_38.2.2.2.2.2.2.2.2.2.2.2
theorem zd02dec4_39 : decode cX6_sheetWrong 98 = .ok (.iload 4, 2) ∧ decode cX6_sheetWrong 100 = .ok (.iconst 2, 1) ∧ decode cX6_sheetWrong 101 = .ok (.iadd, 1) ∧ decode cX6_sheetWrong 102 = .ok (.iaload, 1) ∧ decode cX6_sheetWrong 103 = .ok (.iconst 0, 1) ∧ decode cX6_sheetWrong 104 = .ok (.iconst 1, 1) ∧ decode cX6_sheetWrong 105 = .ok (.invokestatic 91, 3) ∧ decode cX6_sheetWrong 108 = .ok (.ifCond .eq 7, 3) ∧ decode cX6_sheetWrong 111 = .ok (.iconst 1, 1) ∧ decode cX6_sheetWrong 112 = .ok (.goto 4, 3) ∧ decode cX6_sheetWrong 115 = .ok (.iconst 0, 1) ∧ decode cX6_sheetWrong 116 = .ok (.iand, 1) := by decide +kernel
theorem dX6_sheetWrong_98 : decode cX6_sheetWrong 98 = .ok (.iload 4, 2) := zd02dec4_39.1
theorem dX6_sheetWrong_100 : decode cX6_sheetWrong 100 = .ok (.iconst 2, 1) := zd02dec4_39.2.1
theorem dX6_sheetWrong_101 : decode cX6_sheetWrong 101 = .ok (.iadd, 1) := zd02dec4_39.2.2.1
theorem dX6_sheetWrong_102 : decode cX6_sheetWrong 102 = .ok (.iaload, 1) := zd02dec4_39.2.2.2.1
theorem dX6_sheetWrong_103 : decode cX6_sheetWrong 103 = .ok (.iconst 0, 1) := zd02dec4_39.2.2.2.2.1
theorem dX6_sheetWrong_104 : decode cX6_sheetWrong 104 = .ok (.iconst 1, 1) := zd02dec4_39.2.2.2.2.2.1
theorem dX6_sheetWrong_105 : decode cX6_sheetWrong 105 = .ok (.invokestatic 91, 3) := zd02dec4_39.2.2.2.2.2.2.1
theorem dX6_sheetWrong_108 : decode cX6_sheetWrong 108 = .ok (.ifCond .eq 7, 3) := zd02dec4_39.2.2.2.2.2.2.2.1
theorem dX6_sheetWrong_111 : decode cX6_sheetWrong 111 = .ok (.iconst 1, 1) := zd02dec4_39.2.2.2.2.2.2.2.2.1
theorem dX6_sheetWrong_112 : decode cX6_sheetWrong 112 = .ok (.goto 4, 3) := zd02dec4_39.2.2.2.2.2.2.2.2.2.1
theorem dX6_sheetWrong_115 : decode cX6_sheetWrong 115 = .ok (.iconst 0, 1) := zd02dec4_39.2.2.2.2.2.2.2.2.2.2.1
theorem dX6_sheetWrong_116 : decode cX6_sheetWrong 116 = .ok (.iand, 1) := zd02dec4_39.2.2.2.2.2.2.2.2.2.2.2
theorem zd02dec4_40 : decode cX6_sheetWrong 117 = .ok (.istore_n 2, 1) ∧ decode cX6_sheetWrong 118 = .ok (.iinc 3 3, 3) ∧ decode cX6_sheetWrong 121 = .ok (.goto (-77), 3) ∧ decode cX6_sheetWrong 124 = .ok (.iload_n 2, 1) ∧ decode cX6_sheetWrong 125 = .ok (.ifCond .eq 7, 3) ∧ decode cX6_sheetWrong 128 = .ok (.iconst 0, 1) ∧ decode cX6_sheetWrong 129 = .ok (.goto 5, 3) ∧ decode cX6_sheetWrong 132 = .ok (.bipush (-2), 2) ∧ decode cX6_sheetWrong 134 = .ok (.ireturn, 1) := by decide +kernel
theorem dX6_sheetWrong_117 : decode cX6_sheetWrong 117 = .ok (.istore_n 2, 1) := zd02dec4_40.1
theorem dX6_sheetWrong_118 : decode cX6_sheetWrong 118 = .ok (.iinc 3 3, 3) := zd02dec4_40.2.1
theorem dX6_sheetWrong_121 : decode cX6_sheetWrong 121 = .ok (.goto (-77), 3) := zd02dec4_40.2.2.1
theorem dX6_sheetWrong_124 : decode cX6_sheetWrong 124 = .ok (.iload_n 2, 1) := zd02dec4_40.2.2.2.1
theorem dX6_sheetWrong_125 : decode cX6_sheetWrong 125 = .ok (.ifCond .eq 7, 3) := zd02dec4_40.2.2.2.2.1
theorem dX6_sheetWrong_128 : decode cX6_sheetWrong 128 = .ok (.iconst 0, 1) := zd02dec4_40.2.2.2.2.2.1
theorem dX6_sheetWrong_129 : decode cX6_sheetWrong 129 = .ok (.goto 5, 3) := zd02dec4_40.2.2.2.2.2.2.1
theorem dX6_sheetWrong_132 : decode cX6_sheetWrong 132 = .ok (.bipush (-2), 2) := zd02dec4_40.2.2.2.2.2.2.2.1
theorem dX6_sheetWrong_134 : decode cX6_sheetWrong 134 = .ok (.ireturn, 1) := zd02dec4_40.2.2.2.2.2.2.2.2
theorem zd02dec4_41 : decode cX6_toldWrong 0 = .ok (.aload_n 0, 1) ∧ decode cX6_toldWrong 1 = .ok (.iload_n 1, 1) ∧ decode cX6_toldWrong 2 = .ok (.invokevirtual 248, 3) ∧ decode cX6_toldWrong 5 = .ok (.istore_n 3, 1) ∧ decode cX6_toldWrong 6 = .ok (.iload_n 3, 1) ∧ decode cX6_toldWrong 7 = .ok (.ifCond .eq 7, 3) ∧ decode cX6_toldWrong 10 = .ok (.iload_n 3, 1) ∧ decode cX6_toldWrong 11 = .ok (.goto 17, 3) ∧ decode cX6_toldWrong 14 = .ok (.aload_n 0, 1) ∧ decode cX6_toldWrong 15 = .ok (.iload_n 2, 1) ∧ decode cX6_toldWrong 16 = .ok (.invokevirtual 104, 3) ∧ decode cX6_toldWrong 19 = .ok (.ifCond .eq 7, 3) := by decide +kernel
theorem dX6_toldWrong_0 : decode cX6_toldWrong 0 = .ok (.aload_n 0, 1) := zd02dec4_41.1
theorem dX6_toldWrong_1 : decode cX6_toldWrong 1 = .ok (.iload_n 1, 1) := zd02dec4_41.2.1
theorem dX6_toldWrong_2 : decode cX6_toldWrong 2 = .ok (.invokevirtual 248, 3) := zd02dec4_41.2.2.1
theorem dX6_toldWrong_5 : decode cX6_toldWrong 5 = .ok (.istore_n 3, 1) := zd02dec4_41.2.2.2.1
theorem dX6_toldWrong_6 : decode cX6_toldWrong 6 = .ok (.iload_n 3, 1) := zd02dec4_41.2.2.2.2.1
theorem dX6_toldWrong_7 : decode cX6_toldWrong 7 = .ok (.ifCond .eq 7, 3) := zd02dec4_41.2.2.2.2.2.1
theorem dX6_toldWrong_10 : decode cX6_toldWrong 10 = .ok (.iload_n 3, 1) := zd02dec4_41.2.2.2.2.2.2.1
theorem dX6_toldWrong_11 : decode cX6_toldWrong 11 = .ok (.goto 17, 3) := zd02dec4_41.2.2.2.2.2.2.2.1
theorem dX6_toldWrong_14 : decode cX6_toldWrong 14 = .ok (.aload_n 0, 1) := zd02dec4_41.2.2.2.2.2.2.2.2.1
theorem dX6_toldWrong_15 : decode cX6_toldWrong 15 = .ok (.iload_n 2, 1) := zd02dec4_41.2.2.2.2.2.2.2.2.2.1
theorem dX6_toldWrong_16 : decode cX6_toldWrong 16 = .ok (.invokevirtual 104, 3) := zd02dec4_41.2.2.2.2.2.2.2.2.2.2.1
theorem dX6_toldWrong_19 : decode cX6_toldWrong 19 = .ok (.ifCond .eq 7, 3) := zd02dec4_41.2.2.2.2.2.2.2.2.2.2.2
theorem zd02dec4_42 : decode cX6_toldWrong 22 = .ok (.iconst 0, 1) ∧ decode cX6_toldWrong 23 = .ok (.goto 5, 3) ∧ decode cX6_toldWrong 26 = .ok (.bipush (-5), 2) ∧ decode cX6_toldWrong 28 = .ok (.ireturn, 1) := by decide +kernel
theorem dX6_toldWrong_22 : decode cX6_toldWrong 22 = .ok (.iconst 0, 1) := zd02dec4_42.1
theorem dX6_toldWrong_23 : decode cX6_toldWrong 23 = .ok (.goto 5, 3) := zd02dec4_42.2.1
theorem dX6_toldWrong_26 : decode cX6_toldWrong 26 = .ok (.bipush (-5), 2) := zd02dec4_42.2.2.1
theorem dX6_toldWrong_28 : decode cX6_toldWrong 28 = .ok (.ireturn, 1) := zd02dec4_42.2.2.2
theorem zd02dec4_43 : decode cX6_firstOther 0 = .ok (.iconst (-1), 1) ∧ decode cX6_firstOther 1 = .ok (.istore_n 3, 1) ∧ decode cX6_firstOther 2 = .ok (.aload_n 0, 1) ∧ decode cX6_firstOther 3 = .ok (.invokevirtual 202, 3) ∧ decode cX6_firstOther 6 = .ok (.iconst 0, 1) ∧ decode cX6_firstOther 7 = .ok (.istore 4, 2) ∧ decode cX6_firstOther 9 = .ok (.iload 4, 2) ∧ decode cX6_firstOther 11 = .ok (.aload_n 0, 1) ∧ decode cX6_firstOther 12 = .ok (.getfield 40, 3) ∧ decode cX6_firstOther 15 = .ok (.iload_n 1, 1) ∧ decode cX6_firstOther 16 = .ok (.iaload, 1) ∧ decode cX6_firstOther 17 = .ok (.iconst 3, 1) := by decide +kernel
theorem dX6_firstOther_0 : decode cX6_firstOther 0 = .ok (.iconst (-1), 1) := zd02dec4_43.1
theorem dX6_firstOther_1 : decode cX6_firstOther 1 = .ok (.istore_n 3, 1) := zd02dec4_43.2.1
theorem dX6_firstOther_2 : decode cX6_firstOther 2 = .ok (.aload_n 0, 1) := zd02dec4_43.2.2.1
theorem dX6_firstOther_3 : decode cX6_firstOther 3 = .ok (.invokevirtual 202, 3) := zd02dec4_43.2.2.2.1
theorem dX6_firstOther_6 : decode cX6_firstOther 6 = .ok (.iconst 0, 1) := zd02dec4_43.2.2.2.2.1
theorem dX6_firstOther_7 : decode cX6_firstOther 7 = .ok (.istore 4, 2) := zd02dec4_43.2.2.2.2.2.1
theorem dX6_firstOther_9 : decode cX6_firstOther 9 = .ok (.iload 4, 2) := zd02dec4_43.2.2.2.2.2.2.1
theorem dX6_firstOther_11 : decode cX6_firstOther 11 = .ok (.aload_n 0, 1) := zd02dec4_43.2.2.2.2.2.2.2.1
theorem dX6_firstOther_12 : decode cX6_firstOther 12 = .ok (.getfield 40, 3) := zd02dec4_43.2.2.2.2.2.2.2.2.1
theorem dX6_firstOther_15 : decode cX6_firstOther 15 = .ok (.iload_n 1, 1) := zd02dec4_43.2.2.2.2.2.2.2.2.2.1
theorem dX6_firstOther_16 : decode cX6_firstOther 16 = .ok (.iaload, 1) := zd02dec4_43.2.2.2.2.2.2.2.2.2.2.1
theorem dX6_firstOther_17 : decode cX6_firstOther 17 = .ok (.iconst 3, 1) := zd02dec4_43.2.2.2.2.2.2.2.2.2.2.2
theorem zd02dec4_44 : decode cX6_firstOther 18 = .ok (.idiv, 1) ∧ decode cX6_firstOther 19 = .ok (.if_icmp .ge 94, 3) ∧ decode cX6_firstOther 22 = .ok (.iload_n 3, 1) ∧ decode cX6_firstOther 23 = .ok (.iconst (-1), 1) ∧ decode cX6_firstOther 24 = .ok (.if_icmp .ne 89, 3) ∧ decode cX6_firstOther 27 = .ok (.bipush 40, 2) ∧ decode cX6_firstOther 29 = .ok (.iload_n 1, 1) ∧ decode cX6_firstOther 30 = .ok (.imul, 1) ∧ decode cX6_firstOther 31 = .ok (.iconst 3, 1) ∧ decode cX6_firstOther 32 = .ok (.iload 4, 2) ∧ decode cX6_firstOther 34 = .ok (.imul, 1) ∧ decode cX6_firstOther 35 = .ok (.iadd, 1) := by decide +kernel
theorem dX6_firstOther_18 : decode cX6_firstOther 18 = .ok (.idiv, 1) := zd02dec4_44.1
theorem dX6_firstOther_19 : decode cX6_firstOther 19 = .ok (.if_icmp .ge 94, 3) := zd02dec4_44.2.1
theorem dX6_firstOther_22 : decode cX6_firstOther 22 = .ok (.iload_n 3, 1) := zd02dec4_44.2.2.1
theorem dX6_firstOther_23 : decode cX6_firstOther 23 = .ok (.iconst (-1), 1) := zd02dec4_44.2.2.2.1
theorem dX6_firstOther_24 : decode cX6_firstOther 24 = .ok (.if_icmp .ne 89, 3) := zd02dec4_44.2.2.2.2.1
theorem dX6_firstOther_27 : decode cX6_firstOther 27 = .ok (.bipush 40, 2) := zd02dec4_44.2.2.2.2.2.1
theorem dX6_firstOther_29 : decode cX6_firstOther 29 = .ok (.iload_n 1, 1) := zd02dec4_44.2.2.2.2.2.2.1
theorem dX6_firstOther_30 : decode cX6_firstOther 30 = .ok (.imul, 1) := zd02dec4_44.2.2.2.2.2.2.2.1
theorem dX6_firstOther_31 : decode cX6_firstOther 31 = .ok (.iconst 3, 1) := zd02dec4_44.2.2.2.2.2.2.2.2.1
theorem dX6_firstOther_32 : decode cX6_firstOther 32 = .ok (.iload 4, 2) := zd02dec4_44.2.2.2.2.2.2.2.2.2.1
theorem dX6_firstOther_34 : decode cX6_firstOther 34 = .ok (.imul, 1) := zd02dec4_44.2.2.2.2.2.2.2.2.2.2.1
theorem dX6_firstOther_35 : decode cX6_firstOther 35 = .ok (.iadd, 1) := zd02dec4_44.2.2.2.2.2.2.2.2.2.2.2
theorem zd02dec4_45 : decode cX6_firstOther 36 = .ok (.istore 5, 2) ∧ decode cX6_firstOther 38 = .ok (.aload_n 0, 1) ∧ decode cX6_firstOther 39 = .ok (.iload_n 2, 1) ∧ decode cX6_firstOther 40 = .ok (.aload_n 0, 1) ∧ decode cX6_firstOther 41 = .ok (.getfield 43, 3) ∧ decode cX6_firstOther 44 = .ok (.iload 5, 2) ∧ decode cX6_firstOther 46 = .ok (.iaload, 1) ∧ decode cX6_firstOther 47 = .ok (.aload_n 0, 1) ∧ decode cX6_firstOther 48 = .ok (.getfield 43, 3) ∧ decode cX6_firstOther 51 = .ok (.iload 5, 2) ∧ decode cX6_firstOther 53 = .ok (.iconst 1, 1) ∧ decode cX6_firstOther 54 = .ok (.iadd, 1) := by decide +kernel
theorem dX6_firstOther_36 : decode cX6_firstOther 36 = .ok (.istore 5, 2) := zd02dec4_45.1
theorem dX6_firstOther_38 : decode cX6_firstOther 38 = .ok (.aload_n 0, 1) := zd02dec4_45.2.1
theorem dX6_firstOther_39 : decode cX6_firstOther 39 = .ok (.iload_n 2, 1) := zd02dec4_45.2.2.1
theorem dX6_firstOther_40 : decode cX6_firstOther 40 = .ok (.aload_n 0, 1) := zd02dec4_45.2.2.2.1
theorem dX6_firstOther_41 : decode cX6_firstOther 41 = .ok (.getfield 43, 3) := zd02dec4_45.2.2.2.2.1
theorem dX6_firstOther_44 : decode cX6_firstOther 44 = .ok (.iload 5, 2) := zd02dec4_45.2.2.2.2.2.1
theorem dX6_firstOther_46 : decode cX6_firstOther 46 = .ok (.iaload, 1) := zd02dec4_45.2.2.2.2.2.2.1
theorem dX6_firstOther_47 : decode cX6_firstOther 47 = .ok (.aload_n 0, 1) := zd02dec4_45.2.2.2.2.2.2.2.1
theorem dX6_firstOther_48 : decode cX6_firstOther 48 = .ok (.getfield 43, 3) := zd02dec4_45.2.2.2.2.2.2.2.2.1
theorem dX6_firstOther_51 : decode cX6_firstOther 51 = .ok (.iload 5, 2) := zd02dec4_45.2.2.2.2.2.2.2.2.2.1
theorem dX6_firstOther_53 : decode cX6_firstOther 53 = .ok (.iconst 1, 1) := zd02dec4_45.2.2.2.2.2.2.2.2.2.2.1
theorem dX6_firstOther_54 : decode cX6_firstOther 54 = .ok (.iadd, 1) := zd02dec4_45.2.2.2.2.2.2.2.2.2.2.2
theorem zd02dec4_46 : decode cX6_firstOther 55 = .ok (.iaload, 1) ∧ decode cX6_firstOther 56 = .ok (.invokevirtual 199, 3) ∧ decode cX6_firstOther 59 = .ok (.istore 6, 2) ∧ decode cX6_firstOther 61 = .ok (.iload 6, 2) ∧ decode cX6_firstOther 63 = .ok (.aload_n 0, 1) ∧ decode cX6_firstOther 64 = .ok (.iconst 2, 1) ∧ decode cX6_firstOther 65 = .ok (.iload_n 2, 1) ∧ decode cX6_firstOther 66 = .ok (.aload_n 0, 1) ∧ decode cX6_firstOther 67 = .ok (.getfield 43, 3) ∧ decode cX6_firstOther 70 = .ok (.iload 5, 2) ∧ decode cX6_firstOther 72 = .ok (.iaload, 1) ∧ decode cX6_firstOther 73 = .ok (.invokevirtual 180, 3) := by decide +kernel
theorem dX6_firstOther_55 : decode cX6_firstOther 55 = .ok (.iaload, 1) := zd02dec4_46.1
theorem dX6_firstOther_56 : decode cX6_firstOther 56 = .ok (.invokevirtual 199, 3) := zd02dec4_46.2.1
theorem dX6_firstOther_59 : decode cX6_firstOther 59 = .ok (.istore 6, 2) := zd02dec4_46.2.2.1
theorem dX6_firstOther_61 : decode cX6_firstOther 61 = .ok (.iload 6, 2) := zd02dec4_46.2.2.2.1
theorem dX6_firstOther_63 : decode cX6_firstOther 63 = .ok (.aload_n 0, 1) := zd02dec4_46.2.2.2.2.1
theorem dX6_firstOther_64 : decode cX6_firstOther 64 = .ok (.iconst 2, 1) := zd02dec4_46.2.2.2.2.2.1
theorem dX6_firstOther_65 : decode cX6_firstOther 65 = .ok (.iload_n 2, 1) := zd02dec4_46.2.2.2.2.2.2.1
theorem dX6_firstOther_66 : decode cX6_firstOther 66 = .ok (.aload_n 0, 1) := zd02dec4_46.2.2.2.2.2.2.2.1
theorem dX6_firstOther_67 : decode cX6_firstOther 67 = .ok (.getfield 43, 3) := zd02dec4_46.2.2.2.2.2.2.2.2.1
theorem dX6_firstOther_70 : decode cX6_firstOther 70 = .ok (.iload 5, 2) := zd02dec4_46.2.2.2.2.2.2.2.2.2.1
theorem dX6_firstOther_72 : decode cX6_firstOther 72 = .ok (.iaload, 1) := zd02dec4_46.2.2.2.2.2.2.2.2.2.2.1
theorem dX6_firstOther_73 : decode cX6_firstOther 73 = .ok (.invokevirtual 180, 3) := zd02dec4_46.2.2.2.2.2.2.2.2.2.2.2
theorem zd02dec4_47 : decode cX6_firstOther 76 = .ok (.if_icmp .lt 7, 3) ∧ decode cX6_firstOther 79 = .ok (.iconst 1, 1) ∧ decode cX6_firstOther 80 = .ok (.goto 4, 3) ∧ decode cX6_firstOther 83 = .ok (.iconst 0, 1) ∧ decode cX6_firstOther 84 = .ok (.istore 7, 2) ∧ decode cX6_firstOther 86 = .ok (.iload 7, 2) ∧ decode cX6_firstOther 88 = .ok (.aload_n 0, 1) ∧ decode cX6_firstOther 89 = .ok (.getfield 43, 3) ∧ decode cX6_firstOther 92 = .ok (.iload 5, 2) ∧ decode cX6_firstOther 94 = .ok (.iconst 2, 1) ∧ decode cX6_firstOther 95 = .ok (.iadd, 1) ∧ decode cX6_firstOther 96 = .ok (.iaload, 1) := by decide +kernel
theorem dX6_firstOther_76 : decode cX6_firstOther 76 = .ok (.if_icmp .lt 7, 3) := zd02dec4_47.1
theorem dX6_firstOther_79 : decode cX6_firstOther 79 = .ok (.iconst 1, 1) := zd02dec4_47.2.1
theorem dX6_firstOther_80 : decode cX6_firstOther 80 = .ok (.goto 4, 3) := zd02dec4_47.2.2.1
theorem dX6_firstOther_83 : decode cX6_firstOther 83 = .ok (.iconst 0, 1) := zd02dec4_47.2.2.2.1
theorem dX6_firstOther_84 : decode cX6_firstOther 84 = .ok (.istore 7, 2) := zd02dec4_47.2.2.2.2.1
theorem dX6_firstOther_86 : decode cX6_firstOther 86 = .ok (.iload 7, 2) := zd02dec4_47.2.2.2.2.2.1
theorem dX6_firstOther_88 : decode cX6_firstOther 88 = .ok (.aload_n 0, 1) := zd02dec4_47.2.2.2.2.2.2.1
theorem dX6_firstOther_89 : decode cX6_firstOther 89 = .ok (.getfield 43, 3) := zd02dec4_47.2.2.2.2.2.2.2.1
theorem dX6_firstOther_92 : decode cX6_firstOther 92 = .ok (.iload 5, 2) := zd02dec4_47.2.2.2.2.2.2.2.2.1
theorem dX6_firstOther_94 : decode cX6_firstOther 94 = .ok (.iconst 2, 1) := zd02dec4_47.2.2.2.2.2.2.2.2.2.1
theorem dX6_firstOther_95 : decode cX6_firstOther 95 = .ok (.iadd, 1) := zd02dec4_47.2.2.2.2.2.2.2.2.2.2.1
theorem dX6_firstOther_96 : decode cX6_firstOther 96 = .ok (.iaload, 1) := zd02dec4_47.2.2.2.2.2.2.2.2.2.2.2
theorem zd02dec4_48 : decode cX6_firstOther 97 = .ok (.if_icmp .ne 7, 3) ∧ decode cX6_firstOther 100 = .ok (.iconst (-1), 1) ∧ decode cX6_firstOther 101 = .ok (.goto 5, 3) ∧ decode cX6_firstOther 104 = .ok (.iload 4, 2) ∧ decode cX6_firstOther 106 = .ok (.istore_n 3, 1) ∧ decode cX6_firstOther 107 = .ok (.iinc 4 1, 3) ∧ decode cX6_firstOther 110 = .ok (.goto (-101), 3) ∧ decode cX6_firstOther 113 = .ok (.aload_n 0, 1) ∧ decode cX6_firstOther 114 = .ok (.invokevirtual 218, 3) ∧ decode cX6_firstOther 117 = .ok (.iload_n 3, 1) ∧ decode cX6_firstOther 118 = .ok (.ireturn, 1) := by decide +kernel
theorem dX6_firstOther_97 : decode cX6_firstOther 97 = .ok (.if_icmp .ne 7, 3) := zd02dec4_48.1
theorem dX6_firstOther_100 : decode cX6_firstOther 100 = .ok (.iconst (-1), 1) := zd02dec4_48.2.1
theorem dX6_firstOther_101 : decode cX6_firstOther 101 = .ok (.goto 5, 3) := zd02dec4_48.2.2.1
theorem dX6_firstOther_104 : decode cX6_firstOther 104 = .ok (.iload 4, 2) := zd02dec4_48.2.2.2.1
theorem dX6_firstOther_106 : decode cX6_firstOther 106 = .ok (.istore_n 3, 1) := zd02dec4_48.2.2.2.2.1
theorem dX6_firstOther_107 : decode cX6_firstOther 107 = .ok (.iinc 4 1, 3) := zd02dec4_48.2.2.2.2.2.1
theorem dX6_firstOther_110 : decode cX6_firstOther 110 = .ok (.goto (-101), 3) := zd02dec4_48.2.2.2.2.2.2.1
theorem dX6_firstOther_113 : decode cX6_firstOther 113 = .ok (.aload_n 0, 1) := zd02dec4_48.2.2.2.2.2.2.2.1
theorem dX6_firstOther_114 : decode cX6_firstOther 114 = .ok (.invokevirtual 218, 3) := zd02dec4_48.2.2.2.2.2.2.2.2.1
theorem dX6_firstOther_117 : decode cX6_firstOther 117 = .ok (.iload_n 3, 1) := zd02dec4_48.2.2.2.2.2.2.2.2.2.1
theorem dX6_firstOther_118 : decode cX6_firstOther 118 = .ok (.ireturn, 1) := zd02dec4_48.2.2.2.2.2.2.2.2.2.2
theorem zd02dec4_49 : decode cX6_reversed 0 = .ok (.aload_n 0, 1) ∧ decode cX6_reversed 1 = .ok (.iload_n 1, 1) ∧ decode cX6_reversed 2 = .ok (.iload_n 2, 1) ∧ decode cX6_reversed 3 = .ok (.invokevirtual 251, 3) ∧ decode cX6_reversed 6 = .ok (.istore_n 3, 1) ∧ decode cX6_reversed 7 = .ok (.iload_n 3, 1) ∧ decode cX6_reversed 8 = .ok (.ifCond .ne 12, 3) ∧ decode cX6_reversed 11 = .ok (.aload_n 0, 1) ∧ decode cX6_reversed 12 = .ok (.iload_n 1, 1) ∧ decode cX6_reversed 13 = .ok (.iload_n 2, 1) ∧ decode cX6_reversed 14 = .ok (.invokevirtual 254, 3) ∧ decode cX6_reversed 17 = .ok (.goto 4, 3) := by decide +kernel
theorem dX6_reversed_0 : decode cX6_reversed 0 = .ok (.aload_n 0, 1) := zd02dec4_49.1
theorem dX6_reversed_1 : decode cX6_reversed 1 = .ok (.iload_n 1, 1) := zd02dec4_49.2.1
theorem dX6_reversed_2 : decode cX6_reversed 2 = .ok (.iload_n 2, 1) := zd02dec4_49.2.2.1
theorem dX6_reversed_3 : decode cX6_reversed 3 = .ok (.invokevirtual 251, 3) := zd02dec4_49.2.2.2.1
theorem dX6_reversed_6 : decode cX6_reversed 6 = .ok (.istore_n 3, 1) := zd02dec4_49.2.2.2.2.1
theorem dX6_reversed_7 : decode cX6_reversed 7 = .ok (.iload_n 3, 1) := zd02dec4_49.2.2.2.2.2.1
theorem dX6_reversed_8 : decode cX6_reversed 8 = .ok (.ifCond .ne 12, 3) := zd02dec4_49.2.2.2.2.2.2.1
theorem dX6_reversed_11 : decode cX6_reversed 11 = .ok (.aload_n 0, 1) := zd02dec4_49.2.2.2.2.2.2.2.1
theorem dX6_reversed_12 : decode cX6_reversed 12 = .ok (.iload_n 1, 1) := zd02dec4_49.2.2.2.2.2.2.2.2.1
theorem dX6_reversed_13 : decode cX6_reversed 13 = .ok (.iload_n 2, 1) := zd02dec4_49.2.2.2.2.2.2.2.2.2.1
theorem dX6_reversed_14 : decode cX6_reversed 14 = .ok (.invokevirtual 254, 3) := zd02dec4_49.2.2.2.2.2.2.2.2.2.2.1
theorem dX6_reversed_17 : decode cX6_reversed 17 = .ok (.goto 4, 3) := zd02dec4_49.2.2.2.2.2.2.2.2.2.2.2
theorem zd02dec4_50 : decode cX6_reversed 20 = .ok (.iload_n 3, 1) ∧ decode cX6_reversed 21 = .ok (.ireturn, 1) := by decide +kernel
theorem dX6_reversed_20 : decode cX6_reversed 20 = .ok (.iload_n 3, 1) := zd02dec4_50.1
theorem dX6_reversed_21 : decode cX6_reversed 21 = .ok (.ireturn, 1) := zd02dec4_50.2
theorem zd02dec4_51 : decode cX6_kinds 0 = .ok (.aload_n 0, 1) ∧ decode cX6_kinds 1 = .ok (.iload_n 1, 1) ∧ decode cX6_kinds 2 = .ok (.iload_n 2, 1) ∧ decode cX6_kinds 3 = .ok (.invokevirtual 251, 3) ∧ decode cX6_kinds 6 = .ok (.istore 5, 2) ∧ decode cX6_kinds 8 = .ok (.iload 5, 2) ∧ decode cX6_kinds 10 = .ok (.ifCond .eq 6, 3) ∧ decode cX6_kinds 13 = .ok (.iload 5, 2) ∧ decode cX6_kinds 15 = .ok (.ireturn, 1) ∧ decode cX6_kinds 16 = .ok (.aload_n 0, 1) ∧ decode cX6_kinds 17 = .ok (.iload_n 3, 1) ∧ decode cX6_kinds 18 = .ok (.invokevirtual 177, 3) := by decide +kernel
theorem dX6_kinds_0 : decode cX6_kinds 0 = .ok (.aload_n 0, 1) := zd02dec4_51.1
theorem dX6_kinds_1 : decode cX6_kinds 1 = .ok (.iload_n 1, 1) := zd02dec4_51.2.1
theorem dX6_kinds_2 : decode cX6_kinds 2 = .ok (.iload_n 2, 1) := zd02dec4_51.2.2.1
theorem dX6_kinds_3 : decode cX6_kinds 3 = .ok (.invokevirtual 251, 3) := zd02dec4_51.2.2.2.1
theorem dX6_kinds_6 : decode cX6_kinds 6 = .ok (.istore 5, 2) := zd02dec4_51.2.2.2.2.1
theorem dX6_kinds_8 : decode cX6_kinds 8 = .ok (.iload 5, 2) := zd02dec4_51.2.2.2.2.2.1
theorem dX6_kinds_10 : decode cX6_kinds 10 = .ok (.ifCond .eq 6, 3) := zd02dec4_51.2.2.2.2.2.2.1
theorem dX6_kinds_13 : decode cX6_kinds 13 = .ok (.iload 5, 2) := zd02dec4_51.2.2.2.2.2.2.2.1
theorem dX6_kinds_15 : decode cX6_kinds 15 = .ok (.ireturn, 1) := zd02dec4_51.2.2.2.2.2.2.2.2.1
theorem dX6_kinds_16 : decode cX6_kinds 16 = .ok (.aload_n 0, 1) := zd02dec4_51.2.2.2.2.2.2.2.2.2.1
theorem dX6_kinds_17 : decode cX6_kinds 17 = .ok (.iload_n 3, 1) := zd02dec4_51.2.2.2.2.2.2.2.2.2.2.1
theorem dX6_kinds_18 : decode cX6_kinds 18 = .ok (.invokevirtual 177, 3) := zd02dec4_51.2.2.2.2.2.2.2.2.2.2.2
theorem zd02dec4_52 : decode cX6_kinds 21 = .ok (.ifCond .ne 6, 3) ∧ decode cX6_kinds 24 = .ok (.bipush (-6), 2) ∧ decode cX6_kinds 26 = .ok (.ireturn, 1) ∧ decode cX6_kinds 27 = .ok (.iload 4, 2) ∧ decode cX6_kinds 29 = .ok (.iconst 0, 1) ∧ decode cX6_kinds 30 = .ok (.iconst 1, 1) ∧ decode cX6_kinds 31 = .ok (.invokestatic 91, 3) ∧ decode cX6_kinds 34 = .ok (.ifCond .ne 6, 3) ∧ decode cX6_kinds 37 = .ok (.bipush (-7), 2) ∧ decode cX6_kinds 39 = .ok (.ireturn, 1) ∧ decode cX6_kinds 40 = .ok (.aload_n 0, 1) ∧ decode cX6_kinds 41 = .ok (.getfield 7, 3) := by decide +kernel
theorem dX6_kinds_21 : decode cX6_kinds 21 = .ok (.ifCond .ne 6, 3) := zd02dec4_52.1
theorem dX6_kinds_24 : decode cX6_kinds 24 = .ok (.bipush (-6), 2) := zd02dec4_52.2.1
theorem dX6_kinds_26 : decode cX6_kinds 26 = .ok (.ireturn, 1) := zd02dec4_52.2.2.1
theorem dX6_kinds_27 : decode cX6_kinds 27 = .ok (.iload 4, 2) := zd02dec4_52.2.2.2.1
theorem dX6_kinds_29 : decode cX6_kinds 29 = .ok (.iconst 0, 1) := zd02dec4_52.2.2.2.2.1
theorem dX6_kinds_30 : decode cX6_kinds 30 = .ok (.iconst 1, 1) := zd02dec4_52.2.2.2.2.2.1
theorem dX6_kinds_31 : decode cX6_kinds 31 = .ok (.invokestatic 91, 3) := zd02dec4_52.2.2.2.2.2.2.1
theorem dX6_kinds_34 : decode cX6_kinds 34 = .ok (.ifCond .ne 6, 3) := zd02dec4_52.2.2.2.2.2.2.2.1
theorem dX6_kinds_37 : decode cX6_kinds 37 = .ok (.bipush (-7), 2) := zd02dec4_52.2.2.2.2.2.2.2.2.1
theorem dX6_kinds_39 : decode cX6_kinds 39 = .ok (.ireturn, 1) := zd02dec4_52.2.2.2.2.2.2.2.2.2.1
theorem dX6_kinds_40 : decode cX6_kinds 40 = .ok (.aload_n 0, 1) := zd02dec4_52.2.2.2.2.2.2.2.2.2.2.1
theorem dX6_kinds_41 : decode cX6_kinds 41 = .ok (.getfield 7, 3) := zd02dec4_52.2.2.2.2.2.2.2.2.2.2.2
theorem zd02dec4_53 : decode cX6_kinds 44 = .ok (.iload_n 3, 1) ∧ decode cX6_kinds 45 = .ok (.iaload, 1) ∧ decode cX6_kinds 46 = .ok (.istore 6, 2) ∧ decode cX6_kinds 48 = .ok (.aload_n 0, 1) ∧ decode cX6_kinds 49 = .ok (.getfield 13, 3) ∧ decode cX6_kinds 52 = .ok (.iload_n 3, 1) ∧ decode cX6_kinds 53 = .ok (.iaload, 1) ∧ decode cX6_kinds 54 = .ok (.istore 7, 2) ∧ decode cX6_kinds 56 = .ok (.iconst 0, 1) ∧ decode cX6_kinds 57 = .ok (.istore 8, 2) ∧ decode cX6_kinds 59 = .ok (.iconst 0, 1) ∧ decode cX6_kinds 60 = .ok (.istore 9, 2) := by decide +kernel
theorem dX6_kinds_44 : decode cX6_kinds 44 = .ok (.iload_n 3, 1) := zd02dec4_53.1
theorem dX6_kinds_45 : decode cX6_kinds 45 = .ok (.iaload, 1) := zd02dec4_53.2.1
theorem dX6_kinds_46 : decode cX6_kinds 46 = .ok (.istore 6, 2) := zd02dec4_53.2.2.1
theorem dX6_kinds_48 : decode cX6_kinds 48 = .ok (.aload_n 0, 1) := zd02dec4_53.2.2.2.1
theorem dX6_kinds_49 : decode cX6_kinds 49 = .ok (.getfield 13, 3) := zd02dec4_53.2.2.2.2.1
theorem dX6_kinds_52 : decode cX6_kinds 52 = .ok (.iload_n 3, 1) := zd02dec4_53.2.2.2.2.2.1
theorem dX6_kinds_53 : decode cX6_kinds 53 = .ok (.iaload, 1) := zd02dec4_53.2.2.2.2.2.2.1
theorem dX6_kinds_54 : decode cX6_kinds 54 = .ok (.istore 7, 2) := zd02dec4_53.2.2.2.2.2.2.2.1
theorem dX6_kinds_56 : decode cX6_kinds 56 = .ok (.iconst 0, 1) := zd02dec4_53.2.2.2.2.2.2.2.2.1
theorem dX6_kinds_57 : decode cX6_kinds 57 = .ok (.istore 8, 2) := zd02dec4_53.2.2.2.2.2.2.2.2.2.1
theorem dX6_kinds_59 : decode cX6_kinds 59 = .ok (.iconst 0, 1) := zd02dec4_53.2.2.2.2.2.2.2.2.2.2.1
theorem dX6_kinds_60 : decode cX6_kinds 60 = .ok (.istore 9, 2) := zd02dec4_53.2.2.2.2.2.2.2.2.2.2.2
theorem zd02dec4_54 : decode cX6_kinds 62 = .ok (.iload 9, 2) ∧ decode cX6_kinds 64 = .ok (.iload 4, 2) ∧ decode cX6_kinds 66 = .ok (.ifCond .ne 8, 3) ∧ decode cX6_kinds 69 = .ok (.bipush 6, 2) ∧ decode cX6_kinds 71 = .ok (.goto 5, 3) ∧ decode cX6_kinds 74 = .ok (.bipush 10, 2) ∧ decode cX6_kinds 76 = .ok (.if_icmp .ge 69, 3) ∧ decode cX6_kinds 79 = .ok (.aload_n 0, 1) ∧ decode cX6_kinds 80 = .ok (.getfield 7, 3) ∧ decode cX6_kinds 83 = .ok (.iload_n 3, 1) ∧ decode cX6_kinds 84 = .ok (.iload 4, 2) ∧ decode cX6_kinds 86 = .ok (.ifCond .ne 8, 3) := by decide +kernel
theorem dX6_kinds_62 : decode cX6_kinds 62 = .ok (.iload 9, 2) := zd02dec4_54.1
theorem dX6_kinds_64 : decode cX6_kinds 64 = .ok (.iload 4, 2) := zd02dec4_54.2.1
theorem dX6_kinds_66 : decode cX6_kinds 66 = .ok (.ifCond .ne 8, 3) := zd02dec4_54.2.2.1
theorem dX6_kinds_69 : decode cX6_kinds 69 = .ok (.bipush 6, 2) := zd02dec4_54.2.2.2.1
theorem dX6_kinds_71 : decode cX6_kinds 71 = .ok (.goto 5, 3) := zd02dec4_54.2.2.2.2.1
theorem dX6_kinds_74 : decode cX6_kinds 74 = .ok (.bipush 10, 2) := zd02dec4_54.2.2.2.2.2.1
theorem dX6_kinds_76 : decode cX6_kinds 76 = .ok (.if_icmp .ge 69, 3) := zd02dec4_54.2.2.2.2.2.2.1
theorem dX6_kinds_79 : decode cX6_kinds 79 = .ok (.aload_n 0, 1) := zd02dec4_54.2.2.2.2.2.2.2.1
theorem dX6_kinds_80 : decode cX6_kinds 80 = .ok (.getfield 7, 3) := zd02dec4_54.2.2.2.2.2.2.2.2.1
theorem dX6_kinds_83 : decode cX6_kinds 83 = .ok (.iload_n 3, 1) := zd02dec4_54.2.2.2.2.2.2.2.2.2.1
theorem dX6_kinds_84 : decode cX6_kinds 84 = .ok (.iload 4, 2) := zd02dec4_54.2.2.2.2.2.2.2.2.2.2.1
theorem dX6_kinds_86 : decode cX6_kinds 86 = .ok (.ifCond .ne 8, 3) := zd02dec4_54.2.2.2.2.2.2.2.2.2.2.2
theorem zd02dec4_55 : decode cX6_kinds 89 = .ok (.iload 9, 2) ∧ decode cX6_kinds 91 = .ok (.goto 5, 3) ∧ decode cX6_kinds 94 = .ok (.iload 6, 2) ∧ decode cX6_kinds 96 = .ok (.iastore, 1) ∧ decode cX6_kinds 97 = .ok (.aload_n 0, 1) ∧ decode cX6_kinds 98 = .ok (.getfield 13, 3) ∧ decode cX6_kinds 101 = .ok (.iload_n 3, 1) ∧ decode cX6_kinds 102 = .ok (.iload 4, 2) ∧ decode cX6_kinds 104 = .ok (.iconst 1, 1) ∧ decode cX6_kinds 105 = .ok (.if_icmp .ne 8, 3) ∧ decode cX6_kinds 108 = .ok (.iload 9, 2) ∧ decode cX6_kinds 110 = .ok (.goto 5, 3) := by decide +kernel
theorem dX6_kinds_89 : decode cX6_kinds 89 = .ok (.iload 9, 2) := zd02dec4_55.1
theorem dX6_kinds_91 : decode cX6_kinds 91 = .ok (.goto 5, 3) := zd02dec4_55.2.1
theorem dX6_kinds_94 : decode cX6_kinds 94 = .ok (.iload 6, 2) := zd02dec4_55.2.2.1
theorem dX6_kinds_96 : decode cX6_kinds 96 = .ok (.iastore, 1) := zd02dec4_55.2.2.2.1
theorem dX6_kinds_97 : decode cX6_kinds 97 = .ok (.aload_n 0, 1) := zd02dec4_55.2.2.2.2.1
theorem dX6_kinds_98 : decode cX6_kinds 98 = .ok (.getfield 13, 3) := zd02dec4_55.2.2.2.2.2.1
theorem dX6_kinds_101 : decode cX6_kinds 101 = .ok (.iload_n 3, 1) := zd02dec4_55.2.2.2.2.2.2.1
theorem dX6_kinds_102 : decode cX6_kinds 102 = .ok (.iload 4, 2) := zd02dec4_55.2.2.2.2.2.2.2.1
theorem dX6_kinds_104 : decode cX6_kinds 104 = .ok (.iconst 1, 1) := zd02dec4_55.2.2.2.2.2.2.2.2.1
theorem dX6_kinds_105 : decode cX6_kinds 105 = .ok (.if_icmp .ne 8, 3) := zd02dec4_55.2.2.2.2.2.2.2.2.2.1
theorem dX6_kinds_108 : decode cX6_kinds 108 = .ok (.iload 9, 2) := zd02dec4_55.2.2.2.2.2.2.2.2.2.2.1
theorem dX6_kinds_110 : decode cX6_kinds 110 = .ok (.goto 5, 3) := zd02dec4_55.2.2.2.2.2.2.2.2.2.2.2
theorem zd02dec4_56 : decode cX6_kinds 113 = .ok (.iload 7, 2) ∧ decode cX6_kinds 115 = .ok (.iastore, 1) ∧ decode cX6_kinds 116 = .ok (.iload 8, 2) ∧ decode cX6_kinds 118 = .ok (.aload_n 0, 1) ∧ decode cX6_kinds 119 = .ok (.iload_n 1, 1) ∧ decode cX6_kinds 120 = .ok (.iload_n 2, 1) ∧ decode cX6_kinds 121 = .ok (.invokevirtual 254, 3) ∧ decode cX6_kinds 124 = .ok (.iconst (-1), 1) ∧ decode cX6_kinds 125 = .ok (.if_icmp .ne 10, 3) ∧ decode cX6_kinds 128 = .ok (.iconst 1, 1) ∧ decode cX6_kinds 129 = .ok (.iload 9, 2) ∧ decode cX6_kinds 131 = .ok (.ishl, 1) := by decide +kernel
theorem dX6_kinds_113 : decode cX6_kinds 113 = .ok (.iload 7, 2) := zd02dec4_56.1
theorem dX6_kinds_115 : decode cX6_kinds 115 = .ok (.iastore, 1) := zd02dec4_56.2.1
theorem dX6_kinds_116 : decode cX6_kinds 116 = .ok (.iload 8, 2) := zd02dec4_56.2.2.1
theorem dX6_kinds_118 : decode cX6_kinds 118 = .ok (.aload_n 0, 1) := zd02dec4_56.2.2.2.1
theorem dX6_kinds_119 : decode cX6_kinds 119 = .ok (.iload_n 1, 1) := zd02dec4_56.2.2.2.2.1
theorem dX6_kinds_120 : decode cX6_kinds 120 = .ok (.iload_n 2, 1) := zd02dec4_56.2.2.2.2.2.1
theorem dX6_kinds_121 : decode cX6_kinds 121 = .ok (.invokevirtual 254, 3) := zd02dec4_56.2.2.2.2.2.2.1
theorem dX6_kinds_124 : decode cX6_kinds 124 = .ok (.iconst (-1), 1) := zd02dec4_56.2.2.2.2.2.2.2.1
theorem dX6_kinds_125 : decode cX6_kinds 125 = .ok (.if_icmp .ne 10, 3) := zd02dec4_56.2.2.2.2.2.2.2.2.1
theorem dX6_kinds_128 : decode cX6_kinds 128 = .ok (.iconst 1, 1) := zd02dec4_56.2.2.2.2.2.2.2.2.2.1
theorem dX6_kinds_129 : decode cX6_kinds 129 = .ok (.iload 9, 2) := zd02dec4_56.2.2.2.2.2.2.2.2.2.2.1
theorem dX6_kinds_131 : decode cX6_kinds 131 = .ok (.ishl, 1) := zd02dec4_56.2.2.2.2.2.2.2.2.2.2.2
theorem zd02dec4_57 : decode cX6_kinds 132 = .ok (.goto 4, 3) ∧ decode cX6_kinds 135 = .ok (.iconst 0, 1) ∧ decode cX6_kinds 136 = .ok (.ior, 1) ∧ decode cX6_kinds 137 = .ok (.istore 8, 2) ∧ decode cX6_kinds 139 = .ok (.iinc 9 1, 3) ∧ decode cX6_kinds 142 = .ok (.goto (-80), 3) ∧ decode cX6_kinds 145 = .ok (.aload_n 0, 1) ∧ decode cX6_kinds 146 = .ok (.getfield 7, 3) ∧ decode cX6_kinds 149 = .ok (.iload_n 3, 1) ∧ decode cX6_kinds 150 = .ok (.iload 6, 2) ∧ decode cX6_kinds 152 = .ok (.iastore, 1) ∧ decode cX6_kinds 153 = .ok (.aload_n 0, 1) := by decide +kernel
theorem dX6_kinds_132 : decode cX6_kinds 132 = .ok (.goto 4, 3) := zd02dec4_57.1
theorem dX6_kinds_135 : decode cX6_kinds 135 = .ok (.iconst 0, 1) := zd02dec4_57.2.1
theorem dX6_kinds_136 : decode cX6_kinds 136 = .ok (.ior, 1) := zd02dec4_57.2.2.1
theorem dX6_kinds_137 : decode cX6_kinds 137 = .ok (.istore 8, 2) := zd02dec4_57.2.2.2.1
theorem dX6_kinds_139 : decode cX6_kinds 139 = .ok (.iinc 9 1, 3) := zd02dec4_57.2.2.2.2.1
theorem dX6_kinds_142 : decode cX6_kinds 142 = .ok (.goto (-80), 3) := zd02dec4_57.2.2.2.2.2.1
theorem dX6_kinds_145 : decode cX6_kinds 145 = .ok (.aload_n 0, 1) := zd02dec4_57.2.2.2.2.2.2.1
theorem dX6_kinds_146 : decode cX6_kinds 146 = .ok (.getfield 7, 3) := zd02dec4_57.2.2.2.2.2.2.2.1
theorem dX6_kinds_149 : decode cX6_kinds 149 = .ok (.iload_n 3, 1) := zd02dec4_57.2.2.2.2.2.2.2.2.1
theorem dX6_kinds_150 : decode cX6_kinds 150 = .ok (.iload 6, 2) := zd02dec4_57.2.2.2.2.2.2.2.2.2.1
theorem dX6_kinds_152 : decode cX6_kinds 152 = .ok (.iastore, 1) := zd02dec4_57.2.2.2.2.2.2.2.2.2.2.1
theorem dX6_kinds_153 : decode cX6_kinds 153 = .ok (.aload_n 0, 1) := zd02dec4_57.2.2.2.2.2.2.2.2.2.2.2
theorem zd02dec4_58 : decode cX6_kinds 154 = .ok (.getfield 13, 3) ∧ decode cX6_kinds 157 = .ok (.iload_n 3, 1) ∧ decode cX6_kinds 158 = .ok (.iload 7, 2) ∧ decode cX6_kinds 160 = .ok (.iastore, 1) ∧ decode cX6_kinds 161 = .ok (.iload 8, 2) ∧ decode cX6_kinds 163 = .ok (.ireturn, 1) := by decide +kernel
theorem dX6_kinds_154 : decode cX6_kinds 154 = .ok (.getfield 13, 3) := zd02dec4_58.1
theorem dX6_kinds_157 : decode cX6_kinds 157 = .ok (.iload_n 3, 1) := zd02dec4_58.2.1
theorem dX6_kinds_158 : decode cX6_kinds 158 = .ok (.iload 7, 2) := zd02dec4_58.2.2.1
theorem dX6_kinds_160 : decode cX6_kinds 160 = .ok (.iastore, 1) := zd02dec4_58.2.2.2.1
theorem dX6_kinds_161 : decode cX6_kinds 161 = .ok (.iload 8, 2) := zd02dec4_58.2.2.2.2.1
theorem dX6_kinds_163 : decode cX6_kinds 163 = .ok (.ireturn, 1) := zd02dec4_58.2.2.2.2.2
theorem zd02dec4_59 : decode cX6_soled 0 = .ok (.aload_n 0, 1) ∧ decode cX6_soled 1 = .ok (.iload_n 1, 1) ∧ decode cX6_soled 2 = .ok (.iload_n 2, 1) ∧ decode cX6_soled 3 = .ok (.invokevirtual 251, 3) ∧ decode cX6_soled 6 = .ok (.istore_n 3, 1) ∧ decode cX6_soled 7 = .ok (.iload_n 3, 1) ∧ decode cX6_soled 8 = .ok (.ifCond .eq 5, 3) ∧ decode cX6_soled 11 = .ok (.iload_n 3, 1) ∧ decode cX6_soled 12 = .ok (.ireturn, 1) ∧ decode cX6_soled 13 = .ok (.aload_n 0, 1) ∧ decode cX6_soled 14 = .ok (.getfield 19, 3) ∧ decode cX6_soled 17 = .ok (.iconst 3, 1) := by decide +kernel
theorem dX6_soled_0 : decode cX6_soled 0 = .ok (.aload_n 0, 1) := zd02dec4_59.1
theorem dX6_soled_1 : decode cX6_soled 1 = .ok (.iload_n 1, 1) := zd02dec4_59.2.1
theorem dX6_soled_2 : decode cX6_soled 2 = .ok (.iload_n 2, 1) := zd02dec4_59.2.2.1
theorem dX6_soled_3 : decode cX6_soled 3 = .ok (.invokevirtual 251, 3) := zd02dec4_59.2.2.2.1
theorem dX6_soled_6 : decode cX6_soled 6 = .ok (.istore_n 3, 1) := zd02dec4_59.2.2.2.2.1
theorem dX6_soled_7 : decode cX6_soled 7 = .ok (.iload_n 3, 1) := zd02dec4_59.2.2.2.2.2.1
theorem dX6_soled_8 : decode cX6_soled 8 = .ok (.ifCond .eq 5, 3) := zd02dec4_59.2.2.2.2.2.2.1
theorem dX6_soled_11 : decode cX6_soled 11 = .ok (.iload_n 3, 1) := zd02dec4_59.2.2.2.2.2.2.2.1
theorem dX6_soled_12 : decode cX6_soled 12 = .ok (.ireturn, 1) := zd02dec4_59.2.2.2.2.2.2.2.2.1
theorem dX6_soled_13 : decode cX6_soled 13 = .ok (.aload_n 0, 1) := zd02dec4_59.2.2.2.2.2.2.2.2.2.1
theorem dX6_soled_14 : decode cX6_soled 14 = .ok (.getfield 19, 3) := zd02dec4_59.2.2.2.2.2.2.2.2.2.2.1
theorem dX6_soled_17 : decode cX6_soled 17 = .ok (.iconst 3, 1) := zd02dec4_59.2.2.2.2.2.2.2.2.2.2.2
theorem zd02dec4_60 : decode cX6_soled 18 = .ok (.iload_n 2, 1) ∧ decode cX6_soled 19 = .ok (.imul, 1) ∧ decode cX6_soled 20 = .ok (.iaload, 1) ∧ decode cX6_soled 21 = .ok (.istore 4, 2) ∧ decode cX6_soled 23 = .ok (.iconst 0, 1) ∧ decode cX6_soled 24 = .ok (.istore 5, 2) ∧ decode cX6_soled 26 = .ok (.iconst 0, 1) ∧ decode cX6_soled 27 = .ok (.istore 6, 2) ∧ decode cX6_soled 29 = .ok (.iload 6, 2) ∧ decode cX6_soled 31 = .ok (.bipush 20, 2) ∧ decode cX6_soled 33 = .ok (.if_icmp .gt 42, 3) ∧ decode cX6_soled 36 = .ok (.aload_n 0, 1) := by decide +kernel
theorem dX6_soled_18 : decode cX6_soled 18 = .ok (.iload_n 2, 1) := zd02dec4_60.1
theorem dX6_soled_19 : decode cX6_soled 19 = .ok (.imul, 1) := zd02dec4_60.2.1
theorem dX6_soled_20 : decode cX6_soled 20 = .ok (.iaload, 1) := zd02dec4_60.2.2.1
theorem dX6_soled_21 : decode cX6_soled 21 = .ok (.istore 4, 2) := zd02dec4_60.2.2.2.1
theorem dX6_soled_23 : decode cX6_soled 23 = .ok (.iconst 0, 1) := zd02dec4_60.2.2.2.2.1
theorem dX6_soled_24 : decode cX6_soled 24 = .ok (.istore 5, 2) := zd02dec4_60.2.2.2.2.2.1
theorem dX6_soled_26 : decode cX6_soled 26 = .ok (.iconst 0, 1) := zd02dec4_60.2.2.2.2.2.2.1
theorem dX6_soled_27 : decode cX6_soled 27 = .ok (.istore 6, 2) := zd02dec4_60.2.2.2.2.2.2.2.1
theorem dX6_soled_29 : decode cX6_soled 29 = .ok (.iload 6, 2) := zd02dec4_60.2.2.2.2.2.2.2.2.1
theorem dX6_soled_31 : decode cX6_soled 31 = .ok (.bipush 20, 2) := zd02dec4_60.2.2.2.2.2.2.2.2.2.1
theorem dX6_soled_33 : decode cX6_soled 33 = .ok (.if_icmp .gt 42, 3) := zd02dec4_60.2.2.2.2.2.2.2.2.2.2.1
theorem dX6_soled_36 : decode cX6_soled 36 = .ok (.aload_n 0, 1) := zd02dec4_60.2.2.2.2.2.2.2.2.2.2.2
theorem zd02dec4_61 : decode cX6_soled 37 = .ok (.getfield 19, 3) ∧ decode cX6_soled 40 = .ok (.iconst 3, 1) ∧ decode cX6_soled 41 = .ok (.iload_n 2, 1) ∧ decode cX6_soled 42 = .ok (.imul, 1) ∧ decode cX6_soled 43 = .ok (.iload 6, 2) ∧ decode cX6_soled 45 = .ok (.iastore, 1) ∧ decode cX6_soled 46 = .ok (.iload 5, 2) ∧ decode cX6_soled 48 = .ok (.aload_n 0, 1) ∧ decode cX6_soled 49 = .ok (.iload_n 1, 1) ∧ decode cX6_soled 50 = .ok (.iload_n 2, 1) ∧ decode cX6_soled 51 = .ok (.invokevirtual 254, 3) ∧ decode cX6_soled 54 = .ok (.iconst (-1), 1) := by decide +kernel
theorem dX6_soled_37 : decode cX6_soled 37 = .ok (.getfield 19, 3) := zd02dec4_61.1
theorem dX6_soled_40 : decode cX6_soled 40 = .ok (.iconst 3, 1) := zd02dec4_61.2.1
theorem dX6_soled_41 : decode cX6_soled 41 = .ok (.iload_n 2, 1) := zd02dec4_61.2.2.1
theorem dX6_soled_42 : decode cX6_soled 42 = .ok (.imul, 1) := zd02dec4_61.2.2.2.1
theorem dX6_soled_43 : decode cX6_soled 43 = .ok (.iload 6, 2) := zd02dec4_61.2.2.2.2.1
theorem dX6_soled_45 : decode cX6_soled 45 = .ok (.iastore, 1) := zd02dec4_61.2.2.2.2.2.1
theorem dX6_soled_46 : decode cX6_soled 46 = .ok (.iload 5, 2) := zd02dec4_61.2.2.2.2.2.2.1
theorem dX6_soled_48 : decode cX6_soled 48 = .ok (.aload_n 0, 1) := zd02dec4_61.2.2.2.2.2.2.2.1
theorem dX6_soled_49 : decode cX6_soled 49 = .ok (.iload_n 1, 1) := zd02dec4_61.2.2.2.2.2.2.2.2.1
theorem dX6_soled_50 : decode cX6_soled 50 = .ok (.iload_n 2, 1) := zd02dec4_61.2.2.2.2.2.2.2.2.2.1
theorem dX6_soled_51 : decode cX6_soled 51 = .ok (.invokevirtual 254, 3) := zd02dec4_61.2.2.2.2.2.2.2.2.2.2.1
theorem dX6_soled_54 : decode cX6_soled 54 = .ok (.iconst (-1), 1) := zd02dec4_61.2.2.2.2.2.2.2.2.2.2.2
theorem zd02dec4_62 : decode cX6_soled 55 = .ok (.if_icmp .ne 10, 3) ∧ decode cX6_soled 58 = .ok (.iconst 1, 1) ∧ decode cX6_soled 59 = .ok (.iload 6, 2) ∧ decode cX6_soled 61 = .ok (.ishl, 1) ∧ decode cX6_soled 62 = .ok (.goto 4, 3) ∧ decode cX6_soled 65 = .ok (.iconst 0, 1) ∧ decode cX6_soled 66 = .ok (.ior, 1) ∧ decode cX6_soled 67 = .ok (.istore 5, 2) ∧ decode cX6_soled 69 = .ok (.iinc 6 1, 3) ∧ decode cX6_soled 72 = .ok (.goto (-43), 3) ∧ decode cX6_soled 75 = .ok (.aload_n 0, 1) ∧ decode cX6_soled 76 = .ok (.getfield 19, 3) := by decide +kernel
theorem dX6_soled_55 : decode cX6_soled 55 = .ok (.if_icmp .ne 10, 3) := zd02dec4_62.1
theorem dX6_soled_58 : decode cX6_soled 58 = .ok (.iconst 1, 1) := zd02dec4_62.2.1
theorem dX6_soled_59 : decode cX6_soled 59 = .ok (.iload 6, 2) := zd02dec4_62.2.2.1
theorem dX6_soled_61 : decode cX6_soled 61 = .ok (.ishl, 1) := zd02dec4_62.2.2.2.1
theorem dX6_soled_62 : decode cX6_soled 62 = .ok (.goto 4, 3) := zd02dec4_62.2.2.2.2.1
theorem dX6_soled_65 : decode cX6_soled 65 = .ok (.iconst 0, 1) := zd02dec4_62.2.2.2.2.2.1
theorem dX6_soled_66 : decode cX6_soled 66 = .ok (.ior, 1) := zd02dec4_62.2.2.2.2.2.2.1
theorem dX6_soled_67 : decode cX6_soled 67 = .ok (.istore 5, 2) := zd02dec4_62.2.2.2.2.2.2.2.1
theorem dX6_soled_69 : decode cX6_soled 69 = .ok (.iinc 6 1, 3) := zd02dec4_62.2.2.2.2.2.2.2.2.1
theorem dX6_soled_72 : decode cX6_soled 72 = .ok (.goto (-43), 3) := zd02dec4_62.2.2.2.2.2.2.2.2.2.1
theorem dX6_soled_75 : decode cX6_soled 75 = .ok (.aload_n 0, 1) := zd02dec4_62.2.2.2.2.2.2.2.2.2.2.1
theorem dX6_soled_76 : decode cX6_soled 76 = .ok (.getfield 19, 3) := zd02dec4_62.2.2.2.2.2.2.2.2.2.2.2
theorem zd02dec4_63 : decode cX6_soled 79 = .ok (.iconst 3, 1) ∧ decode cX6_soled 80 = .ok (.iload_n 2, 1) ∧ decode cX6_soled 81 = .ok (.imul, 1) ∧ decode cX6_soled 82 = .ok (.iload 4, 2) ∧ decode cX6_soled 84 = .ok (.iastore, 1) ∧ decode cX6_soled 85 = .ok (.iload 5, 2) ∧ decode cX6_soled 87 = .ok (.ireturn, 1) := by decide +kernel
theorem dX6_soled_79 : decode cX6_soled 79 = .ok (.iconst 3, 1) := zd02dec4_63.1
theorem dX6_soled_80 : decode cX6_soled 80 = .ok (.iload_n 2, 1) := zd02dec4_63.2.1
theorem dX6_soled_81 : decode cX6_soled 81 = .ok (.imul, 1) := zd02dec4_63.2.2.1
theorem dX6_soled_82 : decode cX6_soled 82 = .ok (.iload 4, 2) := zd02dec4_63.2.2.2.1
theorem dX6_soled_84 : decode cX6_soled 84 = .ok (.iastore, 1) := zd02dec4_63.2.2.2.2.1
theorem dX6_soled_85 : decode cX6_soled 85 = .ok (.iload 5, 2) := zd02dec4_63.2.2.2.2.2.1
theorem dX6_soled_87 : decode cX6_soled 87 = .ok (.ireturn, 1) := zd02dec4_63.2.2.2.2.2.2
theorem zd02dec4_64 : decode cX6_sizes 0 = .ok (.aload_n 0, 1) ∧ decode cX6_sizes 1 = .ok (.iload_n 1, 1) ∧ decode cX6_sizes 2 = .ok (.iload_n 2, 1) ∧ decode cX6_sizes 3 = .ok (.invokevirtual 251, 3) ∧ decode cX6_sizes 6 = .ok (.istore 5, 2) ∧ decode cX6_sizes 8 = .ok (.iload 5, 2) ∧ decode cX6_sizes 10 = .ok (.ifCond .eq 6, 3) ∧ decode cX6_sizes 13 = .ok (.iload 5, 2) ∧ decode cX6_sizes 15 = .ok (.ireturn, 1) ∧ decode cX6_sizes 16 = .ok (.aload_n 0, 1) ∧ decode cX6_sizes 17 = .ok (.iload_n 3, 1) ∧ decode cX6_sizes 18 = .ok (.invokevirtual 177, 3) := by decide +kernel
theorem dX6_sizes_0 : decode cX6_sizes 0 = .ok (.aload_n 0, 1) := zd02dec4_64.1
theorem dX6_sizes_1 : decode cX6_sizes 1 = .ok (.iload_n 1, 1) := zd02dec4_64.2.1
theorem dX6_sizes_2 : decode cX6_sizes 2 = .ok (.iload_n 2, 1) := zd02dec4_64.2.2.1
theorem dX6_sizes_3 : decode cX6_sizes 3 = .ok (.invokevirtual 251, 3) := zd02dec4_64.2.2.2.1
theorem dX6_sizes_6 : decode cX6_sizes 6 = .ok (.istore 5, 2) := zd02dec4_64.2.2.2.2.1
theorem dX6_sizes_8 : decode cX6_sizes 8 = .ok (.iload 5, 2) := zd02dec4_64.2.2.2.2.2.1
theorem dX6_sizes_10 : decode cX6_sizes 10 = .ok (.ifCond .eq 6, 3) := zd02dec4_64.2.2.2.2.2.2.1
theorem dX6_sizes_13 : decode cX6_sizes 13 = .ok (.iload 5, 2) := zd02dec4_64.2.2.2.2.2.2.2.1
theorem dX6_sizes_15 : decode cX6_sizes 15 = .ok (.ireturn, 1) := zd02dec4_64.2.2.2.2.2.2.2.2.1
theorem dX6_sizes_16 : decode cX6_sizes 16 = .ok (.aload_n 0, 1) := zd02dec4_64.2.2.2.2.2.2.2.2.2.1
theorem dX6_sizes_17 : decode cX6_sizes 17 = .ok (.iload_n 3, 1) := zd02dec4_64.2.2.2.2.2.2.2.2.2.2.1
theorem dX6_sizes_18 : decode cX6_sizes 18 = .ok (.invokevirtual 177, 3) := zd02dec4_64.2.2.2.2.2.2.2.2.2.2.2
theorem zd02dec4_65 : decode cX6_sizes 21 = .ok (.ifCond .ne 6, 3) ∧ decode cX6_sizes 24 = .ok (.bipush (-6), 2) ∧ decode cX6_sizes 26 = .ok (.ireturn, 1) ∧ decode cX6_sizes 27 = .ok (.iload 4, 2) ∧ decode cX6_sizes 29 = .ok (.iconst 0, 1) ∧ decode cX6_sizes 30 = .ok (.bipush 11, 2) ∧ decode cX6_sizes 32 = .ok (.invokestatic 91, 3) ∧ decode cX6_sizes 35 = .ok (.ifCond .eq 12, 3) ∧ decode cX6_sizes 38 = .ok (.iload 4, 2) ∧ decode cX6_sizes 40 = .ok (.bipush 10, 2) ∧ decode cX6_sizes 42 = .ok (.irem, 1) ∧ decode cX6_sizes 43 = .ok (.iconst 1, 1) := by decide +kernel
theorem dX6_sizes_21 : decode cX6_sizes 21 = .ok (.ifCond .ne 6, 3) := zd02dec4_65.1
theorem dX6_sizes_24 : decode cX6_sizes 24 = .ok (.bipush (-6), 2) := zd02dec4_65.2.1
theorem dX6_sizes_26 : decode cX6_sizes 26 = .ok (.ireturn, 1) := zd02dec4_65.2.2.1
theorem dX6_sizes_27 : decode cX6_sizes 27 = .ok (.iload 4, 2) := zd02dec4_65.2.2.2.1
theorem dX6_sizes_29 : decode cX6_sizes 29 = .ok (.iconst 0, 1) := zd02dec4_65.2.2.2.2.1
theorem dX6_sizes_30 : decode cX6_sizes 30 = .ok (.bipush 11, 2) := zd02dec4_65.2.2.2.2.2.1
theorem dX6_sizes_32 : decode cX6_sizes 32 = .ok (.invokestatic 91, 3) := zd02dec4_65.2.2.2.2.2.2.1
theorem dX6_sizes_35 : decode cX6_sizes 35 = .ok (.ifCond .eq 12, 3) := zd02dec4_65.2.2.2.2.2.2.2.1
theorem dX6_sizes_38 : decode cX6_sizes 38 = .ok (.iload 4, 2) := zd02dec4_65.2.2.2.2.2.2.2.2.1
theorem dX6_sizes_40 : decode cX6_sizes 40 = .ok (.bipush 10, 2) := zd02dec4_65.2.2.2.2.2.2.2.2.2.1
theorem dX6_sizes_42 : decode cX6_sizes 42 = .ok (.irem, 1) := zd02dec4_65.2.2.2.2.2.2.2.2.2.2.1
theorem dX6_sizes_43 : decode cX6_sizes 43 = .ok (.iconst 1, 1) := zd02dec4_65.2.2.2.2.2.2.2.2.2.2.2
theorem zd02dec4_66 : decode cX6_sizes 44 = .ok (.if_icmp .le 6, 3) ∧ decode cX6_sizes 47 = .ok (.bipush (-7), 2) ∧ decode cX6_sizes 49 = .ok (.ireturn, 1) ∧ decode cX6_sizes 50 = .ok (.iconst 2, 1) ∧ decode cX6_sizes 51 = .ok (.iload_n 3, 1) ∧ decode cX6_sizes 52 = .ok (.imul, 1) ∧ decode cX6_sizes 53 = .ok (.iload 4, 2) ∧ decode cX6_sizes 55 = .ok (.bipush 10, 2) ∧ decode cX6_sizes 57 = .ok (.idiv, 1) ∧ decode cX6_sizes 58 = .ok (.iadd, 1) ∧ decode cX6_sizes 59 = .ok (.istore 6, 2) ∧ decode cX6_sizes 61 = .ok (.aload_n 0, 1) := by decide +kernel
theorem dX6_sizes_44 : decode cX6_sizes 44 = .ok (.if_icmp .le 6, 3) := zd02dec4_66.1
theorem dX6_sizes_47 : decode cX6_sizes 47 = .ok (.bipush (-7), 2) := zd02dec4_66.2.1
theorem dX6_sizes_49 : decode cX6_sizes 49 = .ok (.ireturn, 1) := zd02dec4_66.2.2.1
theorem dX6_sizes_50 : decode cX6_sizes 50 = .ok (.iconst 2, 1) := zd02dec4_66.2.2.2.1
theorem dX6_sizes_51 : decode cX6_sizes 51 = .ok (.iload_n 3, 1) := zd02dec4_66.2.2.2.2.1
theorem dX6_sizes_52 : decode cX6_sizes 52 = .ok (.imul, 1) := zd02dec4_66.2.2.2.2.2.1
theorem dX6_sizes_53 : decode cX6_sizes 53 = .ok (.iload 4, 2) := zd02dec4_66.2.2.2.2.2.2.1
theorem dX6_sizes_55 : decode cX6_sizes 55 = .ok (.bipush 10, 2) := zd02dec4_66.2.2.2.2.2.2.2.1
theorem dX6_sizes_57 : decode cX6_sizes 57 = .ok (.idiv, 1) := zd02dec4_66.2.2.2.2.2.2.2.2.1
theorem dX6_sizes_58 : decode cX6_sizes 58 = .ok (.iadd, 1) := zd02dec4_66.2.2.2.2.2.2.2.2.2.1
theorem dX6_sizes_59 : decode cX6_sizes 59 = .ok (.istore 6, 2) := zd02dec4_66.2.2.2.2.2.2.2.2.2.2.1
theorem dX6_sizes_61 : decode cX6_sizes 61 = .ok (.aload_n 0, 1) := zd02dec4_66.2.2.2.2.2.2.2.2.2.2.2
theorem zd02dec4_67 : decode cX6_sizes 62 = .ok (.getfield 16, 3) ∧ decode cX6_sizes 65 = .ok (.iload 6, 2) ∧ decode cX6_sizes 67 = .ok (.iaload, 1) ∧ decode cX6_sizes 68 = .ok (.istore 7, 2) ∧ decode cX6_sizes 70 = .ok (.iconst 0, 1) ∧ decode cX6_sizes 71 = .ok (.istore 8, 2) ∧ decode cX6_sizes 73 = .ok (.iconst (-1), 1) ∧ decode cX6_sizes 74 = .ok (.istore 9, 2) ∧ decode cX6_sizes 76 = .ok (.iconst 0, 1) ∧ decode cX6_sizes 77 = .ok (.istore 10, 2) ∧ decode cX6_sizes 79 = .ok (.iload 10, 2) ∧ decode cX6_sizes 81 = .ok (.bipush 99, 2) := by decide +kernel
theorem dX6_sizes_62 : decode cX6_sizes 62 = .ok (.getfield 16, 3) := zd02dec4_67.1
theorem dX6_sizes_65 : decode cX6_sizes 65 = .ok (.iload 6, 2) := zd02dec4_67.2.1
theorem dX6_sizes_67 : decode cX6_sizes 67 = .ok (.iaload, 1) := zd02dec4_67.2.2.1
theorem dX6_sizes_68 : decode cX6_sizes 68 = .ok (.istore 7, 2) := zd02dec4_67.2.2.2.1
theorem dX6_sizes_70 : decode cX6_sizes 70 = .ok (.iconst 0, 1) := zd02dec4_67.2.2.2.2.1
theorem dX6_sizes_71 : decode cX6_sizes 71 = .ok (.istore 8, 2) := zd02dec4_67.2.2.2.2.2.1
theorem dX6_sizes_73 : decode cX6_sizes 73 = .ok (.iconst (-1), 1) := zd02dec4_67.2.2.2.2.2.2.1
theorem dX6_sizes_74 : decode cX6_sizes 74 = .ok (.istore 9, 2) := zd02dec4_67.2.2.2.2.2.2.2.1
theorem dX6_sizes_76 : decode cX6_sizes 76 = .ok (.iconst 0, 1) := zd02dec4_67.2.2.2.2.2.2.2.2.1
theorem dX6_sizes_77 : decode cX6_sizes 77 = .ok (.istore 10, 2) := zd02dec4_67.2.2.2.2.2.2.2.2.2.1
theorem dX6_sizes_79 : decode cX6_sizes 79 = .ok (.iload 10, 2) := zd02dec4_67.2.2.2.2.2.2.2.2.2.2.1
theorem dX6_sizes_81 : decode cX6_sizes 81 = .ok (.bipush 99, 2) := zd02dec4_67.2.2.2.2.2.2.2.2.2.2.2
theorem zd02dec4_68 : decode cX6_sizes 83 = .ok (.if_icmp .gt 70, 3) ∧ decode cX6_sizes 86 = .ok (.aload_n 0, 1) ∧ decode cX6_sizes 87 = .ok (.getfield 16, 3) ∧ decode cX6_sizes 90 = .ok (.iload 6, 2) ∧ decode cX6_sizes 92 = .ok (.iload 10, 2) ∧ decode cX6_sizes 94 = .ok (.iastore, 1) ∧ decode cX6_sizes 95 = .ok (.aload_n 0, 1) ∧ decode cX6_sizes 96 = .ok (.iload_n 1, 1) ∧ decode cX6_sizes 97 = .ok (.iload_n 2, 1) ∧ decode cX6_sizes 98 = .ok (.invokevirtual 254, 3) ∧ decode cX6_sizes 101 = .ok (.iconst (-1), 1) ∧ decode cX6_sizes 102 = .ok (.if_icmp .ne 7, 3) := by decide +kernel
theorem dX6_sizes_83 : decode cX6_sizes 83 = .ok (.if_icmp .gt 70, 3) := zd02dec4_68.1
theorem dX6_sizes_86 : decode cX6_sizes 86 = .ok (.aload_n 0, 1) := zd02dec4_68.2.1
theorem dX6_sizes_87 : decode cX6_sizes 87 = .ok (.getfield 16, 3) := zd02dec4_68.2.2.1
theorem dX6_sizes_90 : decode cX6_sizes 90 = .ok (.iload 6, 2) := zd02dec4_68.2.2.2.1
theorem dX6_sizes_92 : decode cX6_sizes 92 = .ok (.iload 10, 2) := zd02dec4_68.2.2.2.2.1
theorem dX6_sizes_94 : decode cX6_sizes 94 = .ok (.iastore, 1) := zd02dec4_68.2.2.2.2.2.1
theorem dX6_sizes_95 : decode cX6_sizes 95 = .ok (.aload_n 0, 1) := zd02dec4_68.2.2.2.2.2.2.1
theorem dX6_sizes_96 : decode cX6_sizes 96 = .ok (.iload_n 1, 1) := zd02dec4_68.2.2.2.2.2.2.2.1
theorem dX6_sizes_97 : decode cX6_sizes 97 = .ok (.iload_n 2, 1) := zd02dec4_68.2.2.2.2.2.2.2.2.1
theorem dX6_sizes_98 : decode cX6_sizes 98 = .ok (.invokevirtual 254, 3) := zd02dec4_68.2.2.2.2.2.2.2.2.2.1
theorem dX6_sizes_101 : decode cX6_sizes 101 = .ok (.iconst (-1), 1) := zd02dec4_68.2.2.2.2.2.2.2.2.2.2.1
theorem dX6_sizes_102 : decode cX6_sizes 102 = .ok (.if_icmp .ne 7, 3) := zd02dec4_68.2.2.2.2.2.2.2.2.2.2.2
theorem zd02dec4_69 : decode cX6_sizes 105 = .ok (.iconst 1, 1) ∧ decode cX6_sizes 106 = .ok (.goto 4, 3) ∧ decode cX6_sizes 109 = .ok (.iconst 0, 1) ∧ decode cX6_sizes 110 = .ok (.istore 11, 2) ∧ decode cX6_sizes 112 = .ok (.iload 8, 2) ∧ decode cX6_sizes 114 = .ok (.iload 11, 2) ∧ decode cX6_sizes 116 = .ok (.ifCond .eq 7, 3) ∧ decode cX6_sizes 119 = .ok (.iconst 1, 1) ∧ decode cX6_sizes 120 = .ok (.goto 4, 3) ∧ decode cX6_sizes 123 = .ok (.iconst 0, 1) ∧ decode cX6_sizes 124 = .ok (.iadd, 1) ∧ decode cX6_sizes 125 = .ok (.istore 8, 2) := by decide +kernel
theorem dX6_sizes_105 : decode cX6_sizes 105 = .ok (.iconst 1, 1) := zd02dec4_69.1
theorem dX6_sizes_106 : decode cX6_sizes 106 = .ok (.goto 4, 3) := zd02dec4_69.2.1
theorem dX6_sizes_109 : decode cX6_sizes 109 = .ok (.iconst 0, 1) := zd02dec4_69.2.2.1
theorem dX6_sizes_110 : decode cX6_sizes 110 = .ok (.istore 11, 2) := zd02dec4_69.2.2.2.1
theorem dX6_sizes_112 : decode cX6_sizes 112 = .ok (.iload 8, 2) := zd02dec4_69.2.2.2.2.1
theorem dX6_sizes_114 : decode cX6_sizes 114 = .ok (.iload 11, 2) := zd02dec4_69.2.2.2.2.2.1
theorem dX6_sizes_116 : decode cX6_sizes 116 = .ok (.ifCond .eq 7, 3) := zd02dec4_69.2.2.2.2.2.2.1
theorem dX6_sizes_119 : decode cX6_sizes 119 = .ok (.iconst 1, 1) := zd02dec4_69.2.2.2.2.2.2.2.1
theorem dX6_sizes_120 : decode cX6_sizes 120 = .ok (.goto 4, 3) := zd02dec4_69.2.2.2.2.2.2.2.2.1
theorem dX6_sizes_123 : decode cX6_sizes 123 = .ok (.iconst 0, 1) := zd02dec4_69.2.2.2.2.2.2.2.2.2.1
theorem dX6_sizes_124 : decode cX6_sizes 124 = .ok (.iadd, 1) := zd02dec4_69.2.2.2.2.2.2.2.2.2.2.1
theorem dX6_sizes_125 : decode cX6_sizes 125 = .ok (.istore 8, 2) := zd02dec4_69.2.2.2.2.2.2.2.2.2.2.2
theorem zd02dec4_70 : decode cX6_sizes 127 = .ok (.iload 11, 2) ∧ decode cX6_sizes 129 = .ok (.ifCond .eq 14, 3) ∧ decode cX6_sizes 132 = .ok (.iload 9, 2) ∧ decode cX6_sizes 134 = .ok (.iconst (-1), 1) ∧ decode cX6_sizes 135 = .ok (.if_icmp .ne 8, 3) ∧ decode cX6_sizes 138 = .ok (.iload 10, 2) ∧ decode cX6_sizes 140 = .ok (.goto 5, 3) ∧ decode cX6_sizes 143 = .ok (.iload 9, 2) ∧ decode cX6_sizes 145 = .ok (.istore 9, 2) ∧ decode cX6_sizes 147 = .ok (.iinc 10 1, 3) ∧ decode cX6_sizes 150 = .ok (.goto (-71), 3) ∧ decode cX6_sizes 153 = .ok (.aload_n 0, 1) := by decide +kernel
theorem dX6_sizes_127 : decode cX6_sizes 127 = .ok (.iload 11, 2) := zd02dec4_70.1
theorem dX6_sizes_129 : decode cX6_sizes 129 = .ok (.ifCond .eq 14, 3) := zd02dec4_70.2.1
theorem dX6_sizes_132 : decode cX6_sizes 132 = .ok (.iload 9, 2) := zd02dec4_70.2.2.1
theorem dX6_sizes_134 : decode cX6_sizes 134 = .ok (.iconst (-1), 1) := zd02dec4_70.2.2.2.1
theorem dX6_sizes_135 : decode cX6_sizes 135 = .ok (.if_icmp .ne 8, 3) := zd02dec4_70.2.2.2.2.1
theorem dX6_sizes_138 : decode cX6_sizes 138 = .ok (.iload 10, 2) := zd02dec4_70.2.2.2.2.2.1
theorem dX6_sizes_140 : decode cX6_sizes 140 = .ok (.goto 5, 3) := zd02dec4_70.2.2.2.2.2.2.1
theorem dX6_sizes_143 : decode cX6_sizes 143 = .ok (.iload 9, 2) := zd02dec4_70.2.2.2.2.2.2.2.1
theorem dX6_sizes_145 : decode cX6_sizes 145 = .ok (.istore 9, 2) := zd02dec4_70.2.2.2.2.2.2.2.2.1
theorem dX6_sizes_147 : decode cX6_sizes 147 = .ok (.iinc 10 1, 3) := zd02dec4_70.2.2.2.2.2.2.2.2.2.1
theorem dX6_sizes_150 : decode cX6_sizes 150 = .ok (.goto (-71), 3) := zd02dec4_70.2.2.2.2.2.2.2.2.2.2.1
theorem dX6_sizes_153 : decode cX6_sizes 153 = .ok (.aload_n 0, 1) := zd02dec4_70.2.2.2.2.2.2.2.2.2.2.2
theorem zd02dec4_71 : decode cX6_sizes 154 = .ok (.getfield 16, 3) ∧ decode cX6_sizes 157 = .ok (.iload 6, 2) ∧ decode cX6_sizes 159 = .ok (.iload 7, 2) ∧ decode cX6_sizes 161 = .ok (.iastore, 1) ∧ decode cX6_sizes 162 = .ok (.iload 4, 2) ∧ decode cX6_sizes 164 = .ok (.bipush 10, 2) ∧ decode cX6_sizes 166 = .ok (.irem, 1) ∧ decode cX6_sizes 167 = .ok (.ifCond .ne 8, 3) ∧ decode cX6_sizes 170 = .ok (.iload 8, 2) ∧ decode cX6_sizes 172 = .ok (.goto 5, 3) ∧ decode cX6_sizes 175 = .ok (.iload 9, 2) ∧ decode cX6_sizes 177 = .ok (.ireturn, 1) := by decide +kernel
theorem dX6_sizes_154 : decode cX6_sizes 154 = .ok (.getfield 16, 3) := zd02dec4_71.1
theorem dX6_sizes_157 : decode cX6_sizes 157 = .ok (.iload 6, 2) := zd02dec4_71.2.1
theorem dX6_sizes_159 : decode cX6_sizes 159 = .ok (.iload 7, 2) := zd02dec4_71.2.2.1
theorem dX6_sizes_161 : decode cX6_sizes 161 = .ok (.iastore, 1) := zd02dec4_71.2.2.2.1
theorem dX6_sizes_162 : decode cX6_sizes 162 = .ok (.iload 4, 2) := zd02dec4_71.2.2.2.2.1
theorem dX6_sizes_164 : decode cX6_sizes 164 = .ok (.bipush 10, 2) := zd02dec4_71.2.2.2.2.2.1
theorem dX6_sizes_166 : decode cX6_sizes 166 = .ok (.irem, 1) := zd02dec4_71.2.2.2.2.2.2.1
theorem dX6_sizes_167 : decode cX6_sizes 167 = .ok (.ifCond .ne 8, 3) := zd02dec4_71.2.2.2.2.2.2.2.1
theorem dX6_sizes_170 : decode cX6_sizes 170 = .ok (.iload 8, 2) := zd02dec4_71.2.2.2.2.2.2.2.2.1
theorem dX6_sizes_172 : decode cX6_sizes 172 = .ok (.goto 5, 3) := zd02dec4_71.2.2.2.2.2.2.2.2.2.1
theorem dX6_sizes_175 : decode cX6_sizes 175 = .ok (.iload 9, 2) := zd02dec4_71.2.2.2.2.2.2.2.2.2.2.1
theorem dX6_sizes_177 : decode cX6_sizes 177 = .ok (.ireturn, 1) := zd02dec4_71.2.2.2.2.2.2.2.2.2.2.2
theorem zd02dec4_72 : decode cX6_whose 0 = .ok (.aload_n 0, 1) ∧ decode cX6_whose 1 = .ok (.iload_n 1, 1) ∧ decode cX6_whose 2 = .ok (.invokevirtual 248, 3) ∧ decode cX6_whose 5 = .ok (.istore_n 2, 1) ∧ decode cX6_whose 6 = .ok (.iload_n 2, 1) ∧ decode cX6_whose 7 = .ok (.ifCond .eq 5, 3) ∧ decode cX6_whose 10 = .ok (.iload_n 2, 1) ∧ decode cX6_whose 11 = .ok (.ireturn, 1) ∧ decode cX6_whose 12 = .ok (.iconst 0, 1) ∧ decode cX6_whose 13 = .ok (.istore_n 3, 1) ∧ decode cX6_whose 14 = .ok (.iconst 0, 1) ∧ decode cX6_whose 15 = .ok (.istore 4, 2) := by decide +kernel
theorem dX6_whose_0 : decode cX6_whose 0 = .ok (.aload_n 0, 1) := zd02dec4_72.1
theorem dX6_whose_1 : decode cX6_whose 1 = .ok (.iload_n 1, 1) := zd02dec4_72.2.1
theorem dX6_whose_2 : decode cX6_whose 2 = .ok (.invokevirtual 248, 3) := zd02dec4_72.2.2.1
theorem dX6_whose_5 : decode cX6_whose 5 = .ok (.istore_n 2, 1) := zd02dec4_72.2.2.2.1
theorem dX6_whose_6 : decode cX6_whose 6 = .ok (.iload_n 2, 1) := zd02dec4_72.2.2.2.2.1
theorem dX6_whose_7 : decode cX6_whose 7 = .ok (.ifCond .eq 5, 3) := zd02dec4_72.2.2.2.2.2.1
theorem dX6_whose_10 : decode cX6_whose 10 = .ok (.iload_n 2, 1) := zd02dec4_72.2.2.2.2.2.2.1
theorem dX6_whose_11 : decode cX6_whose 11 = .ok (.ireturn, 1) := zd02dec4_72.2.2.2.2.2.2.2.1
theorem dX6_whose_12 : decode cX6_whose 12 = .ok (.iconst 0, 1) := zd02dec4_72.2.2.2.2.2.2.2.2.1
theorem dX6_whose_13 : decode cX6_whose 13 = .ok (.istore_n 3, 1) := zd02dec4_72.2.2.2.2.2.2.2.2.2.1
theorem dX6_whose_14 : decode cX6_whose 14 = .ok (.iconst 0, 1) := zd02dec4_72.2.2.2.2.2.2.2.2.2.2.1
theorem dX6_whose_15 : decode cX6_whose 15 = .ok (.istore 4, 2) := zd02dec4_72.2.2.2.2.2.2.2.2.2.2.2
theorem zd02dec4_73 : decode cX6_whose 17 = .ok (.iload 4, 2) ∧ decode cX6_whose 19 = .ok (.aload_n 0, 1) ∧ decode cX6_whose 20 = .ok (.getfield 95, 3) ∧ decode cX6_whose 23 = .ok (.if_icmp .ge 31, 3) ∧ decode cX6_whose 26 = .ok (.iload_n 3, 1) ∧ decode cX6_whose 27 = .ok (.aload_n 0, 1) ∧ decode cX6_whose 28 = .ok (.iload_n 1, 1) ∧ decode cX6_whose 29 = .ok (.iload 4, 2) ∧ decode cX6_whose 31 = .ok (.invokevirtual 254, 3) ∧ decode cX6_whose 34 = .ok (.iconst (-1), 1) ∧ decode cX6_whose 35 = .ok (.if_icmp .ne 10, 3) ∧ decode cX6_whose 38 = .ok (.iconst 1, 1) := by decide +kernel
theorem dX6_whose_17 : decode cX6_whose 17 = .ok (.iload 4, 2) := zd02dec4_73.1
theorem dX6_whose_19 : decode cX6_whose 19 = .ok (.aload_n 0, 1) := zd02dec4_73.2.1
theorem dX6_whose_20 : decode cX6_whose 20 = .ok (.getfield 95, 3) := zd02dec4_73.2.2.1
theorem dX6_whose_23 : decode cX6_whose 23 = .ok (.if_icmp .ge 31, 3) := zd02dec4_73.2.2.2.1
theorem dX6_whose_26 : decode cX6_whose 26 = .ok (.iload_n 3, 1) := zd02dec4_73.2.2.2.2.1
theorem dX6_whose_27 : decode cX6_whose 27 = .ok (.aload_n 0, 1) := zd02dec4_73.2.2.2.2.2.1
theorem dX6_whose_28 : decode cX6_whose 28 = .ok (.iload_n 1, 1) := zd02dec4_73.2.2.2.2.2.2.1
theorem dX6_whose_29 : decode cX6_whose 29 = .ok (.iload 4, 2) := zd02dec4_73.2.2.2.2.2.2.2.1
theorem dX6_whose_31 : decode cX6_whose 31 = .ok (.invokevirtual 254, 3) := zd02dec4_73.2.2.2.2.2.2.2.2.1
theorem dX6_whose_34 : decode cX6_whose 34 = .ok (.iconst (-1), 1) := zd02dec4_73.2.2.2.2.2.2.2.2.2.1
theorem dX6_whose_35 : decode cX6_whose 35 = .ok (.if_icmp .ne 10, 3) := zd02dec4_73.2.2.2.2.2.2.2.2.2.2.1
theorem dX6_whose_38 : decode cX6_whose 38 = .ok (.iconst 1, 1) := zd02dec4_73.2.2.2.2.2.2.2.2.2.2.2
theorem zd02dec4_74 : decode cX6_whose 39 = .ok (.iload 4, 2) ∧ decode cX6_whose 41 = .ok (.ishl, 1) ∧ decode cX6_whose 42 = .ok (.goto 4, 3) ∧ decode cX6_whose 45 = .ok (.iconst 0, 1) ∧ decode cX6_whose 46 = .ok (.ior, 1) ∧ decode cX6_whose 47 = .ok (.istore_n 3, 1) ∧ decode cX6_whose 48 = .ok (.iinc 4 1, 3) ∧ decode cX6_whose 51 = .ok (.goto (-34), 3) ∧ decode cX6_whose 54 = .ok (.iload_n 3, 1) ∧ decode cX6_whose 55 = .ok (.ireturn, 1) := by decide +kernel
theorem dX6_whose_39 : decode cX6_whose 39 = .ok (.iload 4, 2) := zd02dec4_74.1
theorem dX6_whose_41 : decode cX6_whose 41 = .ok (.ishl, 1) := zd02dec4_74.2.1
theorem dX6_whose_42 : decode cX6_whose 42 = .ok (.goto 4, 3) := zd02dec4_74.2.2.1
theorem dX6_whose_45 : decode cX6_whose 45 = .ok (.iconst 0, 1) := zd02dec4_74.2.2.2.1
theorem dX6_whose_46 : decode cX6_whose 46 = .ok (.ior, 1) := zd02dec4_74.2.2.2.2.1
theorem dX6_whose_47 : decode cX6_whose 47 = .ok (.istore_n 3, 1) := zd02dec4_74.2.2.2.2.2.1
theorem dX6_whose_48 : decode cX6_whose 48 = .ok (.iinc 4 1, 3) := zd02dec4_74.2.2.2.2.2.2.1
theorem dX6_whose_51 : decode cX6_whose 51 = .ok (.goto (-34), 3) := zd02dec4_74.2.2.2.2.2.2.2.1
theorem dX6_whose_54 : decode cX6_whose 54 = .ok (.iload_n 3, 1) := zd02dec4_74.2.2.2.2.2.2.2.2.1
theorem dX6_whose_55 : decode cX6_whose 55 = .ok (.ireturn, 1) := zd02dec4_74.2.2.2.2.2.2.2.2.2
theorem zd02dec4_75 : decode cX6_laws 0 = .ok (.aload_n 0, 1) ∧ decode cX6_laws 1 = .ok (.iload_n 1, 1) ∧ decode cX6_laws 2 = .ok (.iload_n 2, 1) ∧ decode cX6_laws 3 = .ok (.invokevirtual 251, 3) ∧ decode cX6_laws 6 = .ok (.istore_n 3, 1) ∧ decode cX6_laws 7 = .ok (.iload_n 3, 1) ∧ decode cX6_laws 8 = .ok (.ifCond .eq 5, 3) ∧ decode cX6_laws 11 = .ok (.iload_n 3, 1) ∧ decode cX6_laws 12 = .ok (.ireturn, 1) ∧ decode cX6_laws 13 = .ok (.aload_n 0, 1) ∧ decode cX6_laws 14 = .ok (.getfield 101, 3) ∧ decode cX6_laws 17 = .ok (.istore 4, 2) := by decide +kernel
theorem dX6_laws_0 : decode cX6_laws 0 = .ok (.aload_n 0, 1) := zd02dec4_75.1
theorem dX6_laws_1 : decode cX6_laws 1 = .ok (.iload_n 1, 1) := zd02dec4_75.2.1
theorem dX6_laws_2 : decode cX6_laws 2 = .ok (.iload_n 2, 1) := zd02dec4_75.2.2.1
theorem dX6_laws_3 : decode cX6_laws 3 = .ok (.invokevirtual 251, 3) := zd02dec4_75.2.2.2.1
theorem dX6_laws_6 : decode cX6_laws 6 = .ok (.istore_n 3, 1) := zd02dec4_75.2.2.2.2.1
theorem dX6_laws_7 : decode cX6_laws 7 = .ok (.iload_n 3, 1) := zd02dec4_75.2.2.2.2.2.1
theorem dX6_laws_8 : decode cX6_laws 8 = .ok (.ifCond .eq 5, 3) := zd02dec4_75.2.2.2.2.2.2.1
theorem dX6_laws_11 : decode cX6_laws 11 = .ok (.iload_n 3, 1) := zd02dec4_75.2.2.2.2.2.2.2.1
theorem dX6_laws_12 : decode cX6_laws 12 = .ok (.ireturn, 1) := zd02dec4_75.2.2.2.2.2.2.2.2.1
theorem dX6_laws_13 : decode cX6_laws 13 = .ok (.aload_n 0, 1) := zd02dec4_75.2.2.2.2.2.2.2.2.2.1
theorem dX6_laws_14 : decode cX6_laws 14 = .ok (.getfield 101, 3) := zd02dec4_75.2.2.2.2.2.2.2.2.2.2.1
theorem dX6_laws_17 : decode cX6_laws 17 = .ok (.istore 4, 2) := zd02dec4_75.2.2.2.2.2.2.2.2.2.2.2
theorem zd02dec4_76 : decode cX6_laws 19 = .ok (.iconst 0, 1) ∧ decode cX6_laws 20 = .ok (.istore 5, 2) ∧ decode cX6_laws 22 = .ok (.iconst 0, 1) ∧ decode cX6_laws 23 = .ok (.istore 6, 2) ∧ decode cX6_laws 25 = .ok (.iload 6, 2) ∧ decode cX6_laws 27 = .ok (.aload_n 0, 1) ∧ decode cX6_laws 28 = .ok (.getfield 98, 3) ∧ decode cX6_laws 31 = .ok (.if_icmp .ge 38, 3) ∧ decode cX6_laws 34 = .ok (.aload_n 0, 1) ∧ decode cX6_laws 35 = .ok (.iload 6, 2) ∧ decode cX6_laws 37 = .ok (.putfield 101, 3) ∧ decode cX6_laws 40 = .ok (.iload 5, 2) := by decide +kernel
theorem dX6_laws_19 : decode cX6_laws 19 = .ok (.iconst 0, 1) := zd02dec4_76.1
theorem dX6_laws_20 : decode cX6_laws 20 = .ok (.istore 5, 2) := zd02dec4_76.2.1
theorem dX6_laws_22 : decode cX6_laws 22 = .ok (.iconst 0, 1) := zd02dec4_76.2.2.1
theorem dX6_laws_23 : decode cX6_laws 23 = .ok (.istore 6, 2) := zd02dec4_76.2.2.2.1
theorem dX6_laws_25 : decode cX6_laws 25 = .ok (.iload 6, 2) := zd02dec4_76.2.2.2.2.1
theorem dX6_laws_27 : decode cX6_laws 27 = .ok (.aload_n 0, 1) := zd02dec4_76.2.2.2.2.2.1
theorem dX6_laws_28 : decode cX6_laws 28 = .ok (.getfield 98, 3) := zd02dec4_76.2.2.2.2.2.2.1
theorem dX6_laws_31 : decode cX6_laws 31 = .ok (.if_icmp .ge 38, 3) := zd02dec4_76.2.2.2.2.2.2.2.1
theorem dX6_laws_34 : decode cX6_laws 34 = .ok (.aload_n 0, 1) := zd02dec4_76.2.2.2.2.2.2.2.2.1
theorem dX6_laws_35 : decode cX6_laws 35 = .ok (.iload 6, 2) := zd02dec4_76.2.2.2.2.2.2.2.2.2.1
theorem dX6_laws_37 : decode cX6_laws 37 = .ok (.putfield 101, 3) := zd02dec4_76.2.2.2.2.2.2.2.2.2.2.1
theorem dX6_laws_40 : decode cX6_laws 40 = .ok (.iload 5, 2) := zd02dec4_76.2.2.2.2.2.2.2.2.2.2.2
theorem zd02dec4_77 : decode cX6_laws 42 = .ok (.aload_n 0, 1) ∧ decode cX6_laws 43 = .ok (.iload_n 1, 1) ∧ decode cX6_laws 44 = .ok (.iload_n 2, 1) ∧ decode cX6_laws 45 = .ok (.invokevirtual 254, 3) ∧ decode cX6_laws 48 = .ok (.iconst (-1), 1) ∧ decode cX6_laws 49 = .ok (.if_icmp .ne 10, 3) ∧ decode cX6_laws 52 = .ok (.iconst 1, 1) ∧ decode cX6_laws 53 = .ok (.iload 6, 2) ∧ decode cX6_laws 55 = .ok (.ishl, 1) ∧ decode cX6_laws 56 = .ok (.goto 4, 3) ∧ decode cX6_laws 59 = .ok (.iconst 0, 1) ∧ decode cX6_laws 60 = .ok (.ior, 1) := by decide +kernel
theorem dX6_laws_42 : decode cX6_laws 42 = .ok (.aload_n 0, 1) := zd02dec4_77.1
theorem dX6_laws_43 : decode cX6_laws 43 = .ok (.iload_n 1, 1) := zd02dec4_77.2.1
theorem dX6_laws_44 : decode cX6_laws 44 = .ok (.iload_n 2, 1) := zd02dec4_77.2.2.1
theorem dX6_laws_45 : decode cX6_laws 45 = .ok (.invokevirtual 254, 3) := zd02dec4_77.2.2.2.1
theorem dX6_laws_48 : decode cX6_laws 48 = .ok (.iconst (-1), 1) := zd02dec4_77.2.2.2.2.1
theorem dX6_laws_49 : decode cX6_laws 49 = .ok (.if_icmp .ne 10, 3) := zd02dec4_77.2.2.2.2.2.1
theorem dX6_laws_52 : decode cX6_laws 52 = .ok (.iconst 1, 1) := zd02dec4_77.2.2.2.2.2.2.1
theorem dX6_laws_53 : decode cX6_laws 53 = .ok (.iload 6, 2) := zd02dec4_77.2.2.2.2.2.2.2.1
theorem dX6_laws_55 : decode cX6_laws 55 = .ok (.ishl, 1) := zd02dec4_77.2.2.2.2.2.2.2.2.1
theorem dX6_laws_56 : decode cX6_laws 56 = .ok (.goto 4, 3) := zd02dec4_77.2.2.2.2.2.2.2.2.2.1
theorem dX6_laws_59 : decode cX6_laws 59 = .ok (.iconst 0, 1) := zd02dec4_77.2.2.2.2.2.2.2.2.2.2.1
theorem dX6_laws_60 : decode cX6_laws 60 = .ok (.ior, 1) := zd02dec4_77.2.2.2.2.2.2.2.2.2.2.2
theorem zd02dec4_78 : decode cX6_laws 61 = .ok (.istore 5, 2) ∧ decode cX6_laws 63 = .ok (.iinc 6 1, 3) ∧ decode cX6_laws 66 = .ok (.goto (-41), 3) ∧ decode cX6_laws 69 = .ok (.aload_n 0, 1) ∧ decode cX6_laws 70 = .ok (.iload 4, 2) ∧ decode cX6_laws 72 = .ok (.putfield 101, 3) ∧ decode cX6_laws 75 = .ok (.iload 5, 2) ∧ decode cX6_laws 77 = .ok (.ireturn, 1) := by decide +kernel
theorem dX6_laws_61 : decode cX6_laws 61 = .ok (.istore 5, 2) := zd02dec4_78.1
theorem dX6_laws_63 : decode cX6_laws 63 = .ok (.iinc 6 1, 3) := zd02dec4_78.2.1
theorem dX6_laws_66 : decode cX6_laws 66 = .ok (.goto (-41), 3) := zd02dec4_78.2.2.1
theorem dX6_laws_69 : decode cX6_laws 69 = .ok (.aload_n 0, 1) := zd02dec4_78.2.2.2.1
theorem dX6_laws_70 : decode cX6_laws 70 = .ok (.iload 4, 2) := zd02dec4_78.2.2.2.2.1
theorem dX6_laws_72 : decode cX6_laws 72 = .ok (.putfield 101, 3) := zd02dec4_78.2.2.2.2.2.1
theorem dX6_laws_75 : decode cX6_laws 75 = .ok (.iload 5, 2) := zd02dec4_78.2.2.2.2.2.2.1
theorem dX6_laws_77 : decode cX6_laws 77 = .ok (.ireturn, 1) := zd02dec4_78.2.2.2.2.2.2.2
theorem zd02dec4_79 : decode cX6_film 0 = .ok (.iload_n 1, 1) ∧ decode cX6_film 1 = .ok (.iconst 0, 1) ∧ decode cX6_film 2 = .ok (.iconst 3, 1) ∧ decode cX6_film 3 = .ok (.invokestatic 91, 3) ∧ decode cX6_film 6 = .ok (.ifCond .ne 6, 3) ∧ decode cX6_film 9 = .ok (.bipush (-2), 2) ∧ decode cX6_film 11 = .ok (.ireturn, 1) ∧ decode cX6_film 12 = .ok (.aload_n 0, 1) ∧ decode cX6_film 13 = .ok (.iload_n 2, 1) ∧ decode cX6_film 14 = .ok (.invokevirtual 104, 3) ∧ decode cX6_film 17 = .ok (.ifCond .ne 6, 3) ∧ decode cX6_film 20 = .ok (.bipush (-5), 2) := by decide +kernel
theorem dX6_film_0 : decode cX6_film 0 = .ok (.iload_n 1, 1) := zd02dec4_79.1
theorem dX6_film_1 : decode cX6_film 1 = .ok (.iconst 0, 1) := zd02dec4_79.2.1
theorem dX6_film_2 : decode cX6_film 2 = .ok (.iconst 3, 1) := zd02dec4_79.2.2.1
theorem dX6_film_3 : decode cX6_film 3 = .ok (.invokestatic 91, 3) := zd02dec4_79.2.2.2.1
theorem dX6_film_6 : decode cX6_film 6 = .ok (.ifCond .ne 6, 3) := zd02dec4_79.2.2.2.2.1
theorem dX6_film_9 : decode cX6_film 9 = .ok (.bipush (-2), 2) := zd02dec4_79.2.2.2.2.2.1
theorem dX6_film_11 : decode cX6_film 11 = .ok (.ireturn, 1) := zd02dec4_79.2.2.2.2.2.2.1
theorem dX6_film_12 : decode cX6_film 12 = .ok (.aload_n 0, 1) := zd02dec4_79.2.2.2.2.2.2.2.1
theorem dX6_film_13 : decode cX6_film 13 = .ok (.iload_n 2, 1) := zd02dec4_79.2.2.2.2.2.2.2.2.1
theorem dX6_film_14 : decode cX6_film 14 = .ok (.invokevirtual 104, 3) := zd02dec4_79.2.2.2.2.2.2.2.2.2.1
theorem dX6_film_17 : decode cX6_film 17 = .ok (.ifCond .ne 6, 3) := zd02dec4_79.2.2.2.2.2.2.2.2.2.2.1
theorem dX6_film_20 : decode cX6_film 20 = .ok (.bipush (-5), 2) := zd02dec4_79.2.2.2.2.2.2.2.2.2.2.2
theorem zd02dec4_80 : decode cX6_film 22 = .ok (.ireturn, 1) ∧ decode cX6_film 23 = .ok (.iload_n 3, 1) ∧ decode cX6_film 24 = .ok (.invokestatic 196, 3) ∧ decode cX6_film 27 = .ok (.ifCond .ne 6, 3) ∧ decode cX6_film 30 = .ok (.bipush (-7), 2) ∧ decode cX6_film 32 = .ok (.ireturn, 1) ∧ decode cX6_film 33 = .ok (.iconst 0, 1) ∧ decode cX6_film 34 = .ok (.istore 4, 2) ∧ decode cX6_film 36 = .ok (.iload 4, 2) ∧ decode cX6_film 38 = .ok (.bipush 40, 2) ∧ decode cX6_film 40 = .ok (.if_icmp .ge 22, 3) ∧ decode cX6_film 43 = .ok (.aload_n 0, 1) := by decide +kernel
theorem dX6_film_22 : decode cX6_film 22 = .ok (.ireturn, 1) := zd02dec4_80.1
theorem dX6_film_23 : decode cX6_film 23 = .ok (.iload_n 3, 1) := zd02dec4_80.2.1
theorem dX6_film_24 : decode cX6_film 24 = .ok (.invokestatic 196, 3) := zd02dec4_80.2.2.1
theorem dX6_film_27 : decode cX6_film 27 = .ok (.ifCond .ne 6, 3) := zd02dec4_80.2.2.2.1
theorem dX6_film_30 : decode cX6_film 30 = .ok (.bipush (-7), 2) := zd02dec4_80.2.2.2.2.1
theorem dX6_film_32 : decode cX6_film 32 = .ok (.ireturn, 1) := zd02dec4_80.2.2.2.2.2.1
theorem dX6_film_33 : decode cX6_film 33 = .ok (.iconst 0, 1) := zd02dec4_80.2.2.2.2.2.2.1
theorem dX6_film_34 : decode cX6_film 34 = .ok (.istore 4, 2) := zd02dec4_80.2.2.2.2.2.2.2.1
theorem dX6_film_36 : decode cX6_film 36 = .ok (.iload 4, 2) := zd02dec4_80.2.2.2.2.2.2.2.2.1
theorem dX6_film_38 : decode cX6_film 38 = .ok (.bipush 40, 2) := zd02dec4_80.2.2.2.2.2.2.2.2.2.1
theorem dX6_film_40 : decode cX6_film 40 = .ok (.if_icmp .ge 22, 3) := zd02dec4_80.2.2.2.2.2.2.2.2.2.2.1
theorem dX6_film_43 : decode cX6_film 43 = .ok (.aload_n 0, 1) := zd02dec4_80.2.2.2.2.2.2.2.2.2.2.2
theorem zd02dec4_81 : decode cX6_film 44 = .ok (.getfield 43, 3) ∧ decode cX6_film 47 = .ok (.bipush 40, 2) ∧ decode cX6_film 49 = .ok (.iload_n 1, 1) ∧ decode cX6_film 50 = .ok (.imul, 1) ∧ decode cX6_film 51 = .ok (.iload 4, 2) ∧ decode cX6_film 53 = .ok (.iadd, 1) ∧ decode cX6_film 54 = .ok (.iconst 0, 1) ∧ decode cX6_film 55 = .ok (.iastore, 1) ∧ decode cX6_film 56 = .ok (.iinc 4 1, 3) ∧ decode cX6_film 59 = .ok (.goto (-23), 3) ∧ decode cX6_film 62 = .ok (.iconst 0, 1) ∧ decode cX6_film 63 = .ok (.istore 4, 2) := by decide +kernel
theorem dX6_film_44 : decode cX6_film 44 = .ok (.getfield 43, 3) := zd02dec4_81.1
theorem dX6_film_47 : decode cX6_film 47 = .ok (.bipush 40, 2) := zd02dec4_81.2.1
theorem dX6_film_49 : decode cX6_film 49 = .ok (.iload_n 1, 1) := zd02dec4_81.2.2.1
theorem dX6_film_50 : decode cX6_film 50 = .ok (.imul, 1) := zd02dec4_81.2.2.2.1
theorem dX6_film_51 : decode cX6_film 51 = .ok (.iload 4, 2) := zd02dec4_81.2.2.2.2.1
theorem dX6_film_53 : decode cX6_film 53 = .ok (.iadd, 1) := zd02dec4_81.2.2.2.2.2.1
theorem dX6_film_54 : decode cX6_film 54 = .ok (.iconst 0, 1) := zd02dec4_81.2.2.2.2.2.2.1
theorem dX6_film_55 : decode cX6_film 55 = .ok (.iastore, 1) := zd02dec4_81.2.2.2.2.2.2.2.1
theorem dX6_film_56 : decode cX6_film 56 = .ok (.iinc 4 1, 3) := zd02dec4_81.2.2.2.2.2.2.2.2.1
theorem dX6_film_59 : decode cX6_film 59 = .ok (.goto (-23), 3) := zd02dec4_81.2.2.2.2.2.2.2.2.2.1
theorem dX6_film_62 : decode cX6_film 62 = .ok (.iconst 0, 1) := zd02dec4_81.2.2.2.2.2.2.2.2.2.2.1
theorem dX6_film_63 : decode cX6_film 63 = .ok (.istore 4, 2) := zd02dec4_81.2.2.2.2.2.2.2.2.2.2.2
theorem zd02dec4_82 : decode cX6_film 65 = .ok (.aload_n 0, 1) ∧ decode cX6_film 66 = .ok (.invokevirtual 202, 3) ∧ decode cX6_film 69 = .ok (.iconst 0, 1) ∧ decode cX6_film 70 = .ok (.istore 5, 2) ∧ decode cX6_film 72 = .ok (.iload 5, 2) ∧ decode cX6_film 74 = .ok (.aload_n 0, 1) ∧ decode cX6_film 75 = .ok (.getfield 88, 3) ∧ decode cX6_film 78 = .ok (.if_icmp .ge 97, 3) ∧ decode cX6_film 81 = .ok (.aload_n 0, 1) ∧ decode cX6_film 82 = .ok (.iload_n 2, 1) ∧ decode cX6_film 83 = .ok (.iload 5, 2) ∧ decode cX6_film 85 = .ok (.iload_n 3, 1) := by decide +kernel
theorem dX6_film_65 : decode cX6_film 65 = .ok (.aload_n 0, 1) := zd02dec4_82.1
theorem dX6_film_66 : decode cX6_film 66 = .ok (.invokevirtual 202, 3) := zd02dec4_82.2.1
theorem dX6_film_69 : decode cX6_film 69 = .ok (.iconst 0, 1) := zd02dec4_82.2.2.1
theorem dX6_film_70 : decode cX6_film 70 = .ok (.istore 5, 2) := zd02dec4_82.2.2.2.1
theorem dX6_film_72 : decode cX6_film 72 = .ok (.iload 5, 2) := zd02dec4_82.2.2.2.2.1
theorem dX6_film_74 : decode cX6_film 74 = .ok (.aload_n 0, 1) := zd02dec4_82.2.2.2.2.2.1
theorem dX6_film_75 : decode cX6_film 75 = .ok (.getfield 88, 3) := zd02dec4_82.2.2.2.2.2.2.1
theorem dX6_film_78 : decode cX6_film 78 = .ok (.if_icmp .ge 97, 3) := zd02dec4_82.2.2.2.2.2.2.2.1
theorem dX6_film_81 : decode cX6_film 81 = .ok (.aload_n 0, 1) := zd02dec4_82.2.2.2.2.2.2.2.2.1
theorem dX6_film_82 : decode cX6_film 82 = .ok (.iload_n 2, 1) := zd02dec4_82.2.2.2.2.2.2.2.2.2.1
theorem dX6_film_83 : decode cX6_film 83 = .ok (.iload 5, 2) := zd02dec4_82.2.2.2.2.2.2.2.2.2.2.1
theorem dX6_film_85 : decode cX6_film 85 = .ok (.iload_n 3, 1) := zd02dec4_82.2.2.2.2.2.2.2.2.2.2.2
theorem zd02dec4_83 : decode cX6_film 86 = .ok (.invokevirtual 199, 3) ∧ decode cX6_film 89 = .ok (.istore 6, 2) ∧ decode cX6_film 91 = .ok (.iload 6, 2) ∧ decode cX6_film 93 = .ok (.aload_n 0, 1) ∧ decode cX6_film 94 = .ok (.iconst 2, 1) ∧ decode cX6_film 95 = .ok (.iload_n 2, 1) ∧ decode cX6_film 96 = .ok (.iload 5, 2) ∧ decode cX6_film 98 = .ok (.invokevirtual 180, 3) ∧ decode cX6_film 101 = .ok (.if_icmp .lt 7, 3) ∧ decode cX6_film 104 = .ok (.iconst 1, 1) ∧ decode cX6_film 105 = .ok (.goto 4, 3) ∧ decode cX6_film 108 = .ok (.iconst 0, 1) := by decide +kernel
theorem dX6_film_86 : decode cX6_film 86 = .ok (.invokevirtual 199, 3) := zd02dec4_83.1
theorem dX6_film_89 : decode cX6_film 89 = .ok (.istore 6, 2) := zd02dec4_83.2.1
theorem dX6_film_91 : decode cX6_film 91 = .ok (.iload 6, 2) := zd02dec4_83.2.2.1
theorem dX6_film_93 : decode cX6_film 93 = .ok (.aload_n 0, 1) := zd02dec4_83.2.2.2.1
theorem dX6_film_94 : decode cX6_film 94 = .ok (.iconst 2, 1) := zd02dec4_83.2.2.2.2.1
theorem dX6_film_95 : decode cX6_film 95 = .ok (.iload_n 2, 1) := zd02dec4_83.2.2.2.2.2.1
theorem dX6_film_96 : decode cX6_film 96 = .ok (.iload 5, 2) := zd02dec4_83.2.2.2.2.2.2.1
theorem dX6_film_98 : decode cX6_film 98 = .ok (.invokevirtual 180, 3) := zd02dec4_83.2.2.2.2.2.2.2.1
theorem dX6_film_101 : decode cX6_film 101 = .ok (.if_icmp .lt 7, 3) := zd02dec4_83.2.2.2.2.2.2.2.2.1
theorem dX6_film_104 : decode cX6_film 104 = .ok (.iconst 1, 1) := zd02dec4_83.2.2.2.2.2.2.2.2.2.1
theorem dX6_film_105 : decode cX6_film 105 = .ok (.goto 4, 3) := zd02dec4_83.2.2.2.2.2.2.2.2.2.2.1
theorem dX6_film_108 : decode cX6_film 108 = .ok (.iconst 0, 1) := zd02dec4_83.2.2.2.2.2.2.2.2.2.2.2
theorem zd02dec4_84 : decode cX6_film 109 = .ok (.istore 7, 2) ∧ decode cX6_film 111 = .ok (.aload_n 0, 1) ∧ decode cX6_film 112 = .ok (.getfield 43, 3) ∧ decode cX6_film 115 = .ok (.bipush 40, 2) ∧ decode cX6_film 117 = .ok (.iload_n 1, 1) ∧ decode cX6_film 118 = .ok (.imul, 1) ∧ decode cX6_film 119 = .ok (.iconst 3, 1) ∧ decode cX6_film 120 = .ok (.iload 5, 2) ∧ decode cX6_film 122 = .ok (.imul, 1) ∧ decode cX6_film 123 = .ok (.iadd, 1) ∧ decode cX6_film 124 = .ok (.iload 5, 2) ∧ decode cX6_film 126 = .ok (.iastore, 1) := by decide +kernel
theorem dX6_film_109 : decode cX6_film 109 = .ok (.istore 7, 2) := zd02dec4_84.1
theorem dX6_film_111 : decode cX6_film 111 = .ok (.aload_n 0, 1) := zd02dec4_84.2.1
theorem dX6_film_112 : decode cX6_film 112 = .ok (.getfield 43, 3) := zd02dec4_84.2.2.1
theorem dX6_film_115 : decode cX6_film 115 = .ok (.bipush 40, 2) := zd02dec4_84.2.2.2.1
theorem dX6_film_117 : decode cX6_film 117 = .ok (.iload_n 1, 1) := zd02dec4_84.2.2.2.2.1
theorem dX6_film_118 : decode cX6_film 118 = .ok (.imul, 1) := zd02dec4_84.2.2.2.2.2.1
theorem dX6_film_119 : decode cX6_film 119 = .ok (.iconst 3, 1) := zd02dec4_84.2.2.2.2.2.2.1
theorem dX6_film_120 : decode cX6_film 120 = .ok (.iload 5, 2) := zd02dec4_84.2.2.2.2.2.2.2.1
theorem dX6_film_122 : decode cX6_film 122 = .ok (.imul, 1) := zd02dec4_84.2.2.2.2.2.2.2.2.1
theorem dX6_film_123 : decode cX6_film 123 = .ok (.iadd, 1) := zd02dec4_84.2.2.2.2.2.2.2.2.2.1
theorem dX6_film_124 : decode cX6_film 124 = .ok (.iload 5, 2) := zd02dec4_84.2.2.2.2.2.2.2.2.2.2.1
theorem dX6_film_126 : decode cX6_film 126 = .ok (.iastore, 1) := zd02dec4_84.2.2.2.2.2.2.2.2.2.2.2
theorem zd02dec4_85 : decode cX6_film 127 = .ok (.aload_n 0, 1) ∧ decode cX6_film 128 = .ok (.getfield 43, 3) ∧ decode cX6_film 131 = .ok (.bipush 40, 2) ∧ decode cX6_film 133 = .ok (.iload_n 1, 1) ∧ decode cX6_film 134 = .ok (.imul, 1) ∧ decode cX6_film 135 = .ok (.iconst 3, 1) ∧ decode cX6_film 136 = .ok (.iload 5, 2) ∧ decode cX6_film 138 = .ok (.imul, 1) ∧ decode cX6_film 139 = .ok (.iadd, 1) ∧ decode cX6_film 140 = .ok (.iconst 1, 1) ∧ decode cX6_film 141 = .ok (.iadd, 1) ∧ decode cX6_film 142 = .ok (.iload_n 3, 1) := by decide +kernel
theorem dX6_film_127 : decode cX6_film 127 = .ok (.aload_n 0, 1) := zd02dec4_85.1
theorem dX6_film_128 : decode cX6_film 128 = .ok (.getfield 43, 3) := zd02dec4_85.2.1
theorem dX6_film_131 : decode cX6_film 131 = .ok (.bipush 40, 2) := zd02dec4_85.2.2.1
theorem dX6_film_133 : decode cX6_film 133 = .ok (.iload_n 1, 1) := zd02dec4_85.2.2.2.1
theorem dX6_film_134 : decode cX6_film 134 = .ok (.imul, 1) := zd02dec4_85.2.2.2.2.1
theorem dX6_film_135 : decode cX6_film 135 = .ok (.iconst 3, 1) := zd02dec4_85.2.2.2.2.2.1
theorem dX6_film_136 : decode cX6_film 136 = .ok (.iload 5, 2) := zd02dec4_85.2.2.2.2.2.2.1
theorem dX6_film_138 : decode cX6_film 138 = .ok (.imul, 1) := zd02dec4_85.2.2.2.2.2.2.2.1
theorem dX6_film_139 : decode cX6_film 139 = .ok (.iadd, 1) := zd02dec4_85.2.2.2.2.2.2.2.2.1
theorem dX6_film_140 : decode cX6_film 140 = .ok (.iconst 1, 1) := zd02dec4_85.2.2.2.2.2.2.2.2.2.1
theorem dX6_film_141 : decode cX6_film 141 = .ok (.iadd, 1) := zd02dec4_85.2.2.2.2.2.2.2.2.2.2.1
theorem dX6_film_142 : decode cX6_film 142 = .ok (.iload_n 3, 1) := zd02dec4_85.2.2.2.2.2.2.2.2.2.2.2
theorem zd02dec4_86 : decode cX6_film 143 = .ok (.iastore, 1) ∧ decode cX6_film 144 = .ok (.aload_n 0, 1) ∧ decode cX6_film 145 = .ok (.getfield 43, 3) ∧ decode cX6_film 148 = .ok (.bipush 40, 2) ∧ decode cX6_film 150 = .ok (.iload_n 1, 1) ∧ decode cX6_film 151 = .ok (.imul, 1) ∧ decode cX6_film 152 = .ok (.iconst 3, 1) ∧ decode cX6_film 153 = .ok (.iload 5, 2) ∧ decode cX6_film 155 = .ok (.imul, 1) ∧ decode cX6_film 156 = .ok (.iadd, 1) ∧ decode cX6_film 157 = .ok (.iconst 2, 1) ∧ decode cX6_film 158 = .ok (.iadd, 1) := by decide +kernel
theorem dX6_film_143 : decode cX6_film 143 = .ok (.iastore, 1) := zd02dec4_86.1
theorem dX6_film_144 : decode cX6_film 144 = .ok (.aload_n 0, 1) := zd02dec4_86.2.1
theorem dX6_film_145 : decode cX6_film 145 = .ok (.getfield 43, 3) := zd02dec4_86.2.2.1
theorem dX6_film_148 : decode cX6_film 148 = .ok (.bipush 40, 2) := zd02dec4_86.2.2.2.1
theorem dX6_film_150 : decode cX6_film 150 = .ok (.iload_n 1, 1) := zd02dec4_86.2.2.2.2.1
theorem dX6_film_151 : decode cX6_film 151 = .ok (.imul, 1) := zd02dec4_86.2.2.2.2.2.1
theorem dX6_film_152 : decode cX6_film 152 = .ok (.iconst 3, 1) := zd02dec4_86.2.2.2.2.2.2.1
theorem dX6_film_153 : decode cX6_film 153 = .ok (.iload 5, 2) := zd02dec4_86.2.2.2.2.2.2.2.1
theorem dX6_film_155 : decode cX6_film 155 = .ok (.imul, 1) := zd02dec4_86.2.2.2.2.2.2.2.2.1
theorem dX6_film_156 : decode cX6_film 156 = .ok (.iadd, 1) := zd02dec4_86.2.2.2.2.2.2.2.2.2.1
theorem dX6_film_157 : decode cX6_film 157 = .ok (.iconst 2, 1) := zd02dec4_86.2.2.2.2.2.2.2.2.2.2.1
theorem dX6_film_158 : decode cX6_film 158 = .ok (.iadd, 1) := zd02dec4_86.2.2.2.2.2.2.2.2.2.2.2
theorem zd02dec4_87 : decode cX6_film 159 = .ok (.iload 7, 2) ∧ decode cX6_film 161 = .ok (.iastore, 1) ∧ decode cX6_film 162 = .ok (.iload 4, 2) ∧ decode cX6_film 164 = .ok (.iload 7, 2) ∧ decode cX6_film 166 = .ok (.iadd, 1) ∧ decode cX6_film 167 = .ok (.istore 4, 2) ∧ decode cX6_film 169 = .ok (.iinc 5 1, 3) ∧ decode cX6_film 172 = .ok (.goto (-100), 3) ∧ decode cX6_film 175 = .ok (.aload_n 0, 1) ∧ decode cX6_film 176 = .ok (.invokevirtual 218, 3) ∧ decode cX6_film 179 = .ok (.aload_n 0, 1) ∧ decode cX6_film 180 = .ok (.getfield 37, 3) := by decide +kernel
theorem dX6_film_159 : decode cX6_film 159 = .ok (.iload 7, 2) := zd02dec4_87.1
theorem dX6_film_161 : decode cX6_film 161 = .ok (.iastore, 1) := zd02dec4_87.2.1
theorem dX6_film_162 : decode cX6_film 162 = .ok (.iload 4, 2) := zd02dec4_87.2.2.1
theorem dX6_film_164 : decode cX6_film 164 = .ok (.iload 7, 2) := zd02dec4_87.2.2.2.1
theorem dX6_film_166 : decode cX6_film 166 = .ok (.iadd, 1) := zd02dec4_87.2.2.2.2.1
theorem dX6_film_167 : decode cX6_film 167 = .ok (.istore 4, 2) := zd02dec4_87.2.2.2.2.2.1
theorem dX6_film_169 : decode cX6_film 169 = .ok (.iinc 5 1, 3) := zd02dec4_87.2.2.2.2.2.2.1
theorem dX6_film_172 : decode cX6_film 172 = .ok (.goto (-100), 3) := zd02dec4_87.2.2.2.2.2.2.2.1
theorem dX6_film_175 : decode cX6_film 175 = .ok (.aload_n 0, 1) := zd02dec4_87.2.2.2.2.2.2.2.2.1
theorem dX6_film_176 : decode cX6_film 176 = .ok (.invokevirtual 218, 3) := zd02dec4_87.2.2.2.2.2.2.2.2.2.1
theorem dX6_film_179 : decode cX6_film 179 = .ok (.aload_n 0, 1) := zd02dec4_87.2.2.2.2.2.2.2.2.2.2.1
theorem dX6_film_180 : decode cX6_film 180 = .ok (.getfield 37, 3) := zd02dec4_87.2.2.2.2.2.2.2.2.2.2.2
theorem zd02dec4_88 : decode cX6_film 183 = .ok (.iload_n 1, 1) ∧ decode cX6_film 184 = .ok (.iconst 0, 1) ∧ decode cX6_film 185 = .ok (.iastore, 1) ∧ decode cX6_film 186 = .ok (.aload_n 0, 1) ∧ decode cX6_film 187 = .ok (.getfield 40, 3) ∧ decode cX6_film 190 = .ok (.iload_n 1, 1) ∧ decode cX6_film 191 = .ok (.iconst 3, 1) ∧ decode cX6_film 192 = .ok (.aload_n 0, 1) ∧ decode cX6_film 193 = .ok (.getfield 88, 3) ∧ decode cX6_film 196 = .ok (.imul, 1) ∧ decode cX6_film 197 = .ok (.iastore, 1) ∧ decode cX6_film 198 = .ok (.iload 4, 2) := by decide +kernel
theorem dX6_film_183 : decode cX6_film 183 = .ok (.iload_n 1, 1) := zd02dec4_88.1
theorem dX6_film_184 : decode cX6_film 184 = .ok (.iconst 0, 1) := zd02dec4_88.2.1
theorem dX6_film_185 : decode cX6_film 185 = .ok (.iastore, 1) := zd02dec4_88.2.2.1
theorem dX6_film_186 : decode cX6_film 186 = .ok (.aload_n 0, 1) := zd02dec4_88.2.2.2.1
theorem dX6_film_187 : decode cX6_film 187 = .ok (.getfield 40, 3) := zd02dec4_88.2.2.2.2.1
theorem dX6_film_190 : decode cX6_film 190 = .ok (.iload_n 1, 1) := zd02dec4_88.2.2.2.2.2.1
theorem dX6_film_191 : decode cX6_film 191 = .ok (.iconst 3, 1) := zd02dec4_88.2.2.2.2.2.2.1
theorem dX6_film_192 : decode cX6_film 192 = .ok (.aload_n 0, 1) := zd02dec4_88.2.2.2.2.2.2.2.1
theorem dX6_film_193 : decode cX6_film 193 = .ok (.getfield 88, 3) := zd02dec4_88.2.2.2.2.2.2.2.2.1
theorem dX6_film_196 : decode cX6_film 196 = .ok (.imul, 1) := zd02dec4_88.2.2.2.2.2.2.2.2.2.1
theorem dX6_film_197 : decode cX6_film 197 = .ok (.iastore, 1) := zd02dec4_88.2.2.2.2.2.2.2.2.2.2.1
theorem dX6_film_198 : decode cX6_film 198 = .ok (.iload 4, 2) := zd02dec4_88.2.2.2.2.2.2.2.2.2.2.2
theorem dX6_film_200 : decode cX6_film 200 = .ok (.ireturn, 1) := by decide +kernel
theorem zd02dec4_89 : decode cX6_areMiles 0 = .ok (.iload_n 0, 1) ∧ decode cX6_areMiles 1 = .ok (.iconst 0, 1) ∧ decode cX6_areMiles 2 = .ok (.sipush 960, 3) ∧ decode cX6_areMiles 5 = .ok (.invokestatic 91, 3) ∧ decode cX6_areMiles 8 = .ok (.ifCond .eq 16, 3) ∧ decode cX6_areMiles 11 = .ok (.iload_n 0, 1) ∧ decode cX6_areMiles 12 = .ok (.bipush 100, 2) ∧ decode cX6_areMiles 14 = .ok (.irem, 1) ∧ decode cX6_areMiles 15 = .ok (.bipush 60, 2) ∧ decode cX6_areMiles 17 = .ok (.if_icmp .gt 7, 3) ∧ decode cX6_areMiles 20 = .ok (.iconst 1, 1) ∧ decode cX6_areMiles 21 = .ok (.goto 4, 3) := by decide +kernel
theorem dX6_areMiles_0 : decode cX6_areMiles 0 = .ok (.iload_n 0, 1) := zd02dec4_89.1
theorem dX6_areMiles_1 : decode cX6_areMiles 1 = .ok (.iconst 0, 1) := zd02dec4_89.2.1
theorem dX6_areMiles_2 : decode cX6_areMiles 2 = .ok (.sipush 960, 3) := zd02dec4_89.2.2.1
theorem dX6_areMiles_5 : decode cX6_areMiles 5 = .ok (.invokestatic 91, 3) := zd02dec4_89.2.2.2.1
theorem dX6_areMiles_8 : decode cX6_areMiles 8 = .ok (.ifCond .eq 16, 3) := zd02dec4_89.2.2.2.2.1
theorem dX6_areMiles_11 : decode cX6_areMiles 11 = .ok (.iload_n 0, 1) := zd02dec4_89.2.2.2.2.2.1
theorem dX6_areMiles_12 : decode cX6_areMiles 12 = .ok (.bipush 100, 2) := zd02dec4_89.2.2.2.2.2.2.1
theorem dX6_areMiles_14 : decode cX6_areMiles 14 = .ok (.irem, 1) := zd02dec4_89.2.2.2.2.2.2.2.1
theorem dX6_areMiles_15 : decode cX6_areMiles 15 = .ok (.bipush 60, 2) := zd02dec4_89.2.2.2.2.2.2.2.2.1
theorem dX6_areMiles_17 : decode cX6_areMiles 17 = .ok (.if_icmp .gt 7, 3) := zd02dec4_89.2.2.2.2.2.2.2.2.2.1
theorem dX6_areMiles_20 : decode cX6_areMiles 20 = .ok (.iconst 1, 1) := zd02dec4_89.2.2.2.2.2.2.2.2.2.2.1
theorem dX6_areMiles_21 : decode cX6_areMiles 21 = .ok (.goto 4, 3) := zd02dec4_89.2.2.2.2.2.2.2.2.2.2.2
theorem zd02dec4_90 : decode cX6_areMiles 24 = .ok (.iconst 0, 1) ∧ decode cX6_areMiles 25 = .ok (.ireturn, 1) := by decide +kernel
theorem dX6_areMiles_24 : decode cX6_areMiles 24 = .ok (.iconst 0, 1) := zd02dec4_90.1
theorem dX6_areMiles_25 : decode cX6_areMiles 25 = .ok (.ireturn, 1) := zd02dec4_90.2
theorem zd02dec4_91 : decode cX6_caseBy 0 = .ok (.iload_n 1, 1) ∧ decode cX6_caseBy 1 = .ok (.i2l, 1) ∧ decode cX6_caseBy 2 = .ok (.lconst 1, 1) ∧ decode cX6_caseBy 3 = .ok (.ladd, 1) ∧ decode cX6_caseBy 4 = .ok (.lstore 5, 2) ∧ decode cX6_caseBy 6 = .ok (.aload_n 0, 1) ∧ decode cX6_caseBy 7 = .ok (.invokevirtual 202, 3) ∧ decode cX6_caseBy 10 = .ok (.aload_n 0, 1) ∧ decode cX6_caseBy 11 = .ok (.iconst 0, 1) ∧ decode cX6_caseBy 12 = .ok (.putfield 205, 3) ∧ decode cX6_caseBy 15 = .ok (.iconst 0, 1) ∧ decode cX6_caseBy 16 = .ok (.istore 7, 2) := by decide +kernel
theorem dX6_caseBy_0 : decode cX6_caseBy 0 = .ok (.iload_n 1, 1) := zd02dec4_91.1
theorem dX6_caseBy_1 : decode cX6_caseBy 1 = .ok (.i2l, 1) := zd02dec4_91.2.1
theorem dX6_caseBy_2 : decode cX6_caseBy 2 = .ok (.lconst 1, 1) := zd02dec4_91.2.2.1
theorem dX6_caseBy_3 : decode cX6_caseBy 3 = .ok (.ladd, 1) := zd02dec4_91.2.2.2.1
theorem dX6_caseBy_4 : decode cX6_caseBy 4 = .ok (.lstore 5, 2) := zd02dec4_91.2.2.2.2.1
theorem dX6_caseBy_6 : decode cX6_caseBy 6 = .ok (.aload_n 0, 1) := zd02dec4_91.2.2.2.2.2.1
theorem dX6_caseBy_7 : decode cX6_caseBy 7 = .ok (.invokevirtual 202, 3) := zd02dec4_91.2.2.2.2.2.2.1
theorem dX6_caseBy_10 : decode cX6_caseBy 10 = .ok (.aload_n 0, 1) := zd02dec4_91.2.2.2.2.2.2.2.1
theorem dX6_caseBy_11 : decode cX6_caseBy 11 = .ok (.iconst 0, 1) := zd02dec4_91.2.2.2.2.2.2.2.2.1
theorem dX6_caseBy_12 : decode cX6_caseBy 12 = .ok (.putfield 205, 3) := zd02dec4_91.2.2.2.2.2.2.2.2.2.1
theorem dX6_caseBy_15 : decode cX6_caseBy 15 = .ok (.iconst 0, 1) := zd02dec4_91.2.2.2.2.2.2.2.2.2.2.1
theorem dX6_caseBy_16 : decode cX6_caseBy 16 = .ok (.istore 7, 2) := zd02dec4_91.2.2.2.2.2.2.2.2.2.2.2
theorem zd02dec4_92 : decode cX6_caseBy 18 = .ok (.iload 7, 2) ∧ decode cX6_caseBy 20 = .ok (.iload 4, 2) ∧ decode cX6_caseBy 22 = .ok (.bipush 100, 2) ∧ decode cX6_caseBy 24 = .ok (.irem, 1) ∧ decode cX6_caseBy 25 = .ok (.if_icmp .ge 48, 3) ∧ decode cX6_caseBy 28 = .ok (.lload 5, 2) ∧ decode cX6_caseBy 30 = .ok (.ldc2_w 257, 3) ∧ decode cX6_caseBy 33 = .ok (.lmul, 1) ∧ decode cX6_caseBy 34 = .ok (.ldc2_w 259, 3) ∧ decode cX6_caseBy 37 = .ok (.lrem, 1) ∧ decode cX6_caseBy 38 = .ok (.lstore 5, 2) ∧ decode cX6_caseBy 40 = .ok (.aload_n 0, 1) := by decide +kernel
theorem dX6_caseBy_18 : decode cX6_caseBy 18 = .ok (.iload 7, 2) := zd02dec4_92.1
theorem dX6_caseBy_20 : decode cX6_caseBy 20 = .ok (.iload 4, 2) := zd02dec4_92.2.1
theorem dX6_caseBy_22 : decode cX6_caseBy 22 = .ok (.bipush 100, 2) := zd02dec4_92.2.2.1
theorem dX6_caseBy_24 : decode cX6_caseBy 24 = .ok (.irem, 1) := zd02dec4_92.2.2.2.1
theorem dX6_caseBy_25 : decode cX6_caseBy 25 = .ok (.if_icmp .ge 48, 3) := zd02dec4_92.2.2.2.2.1
theorem dX6_caseBy_28 : decode cX6_caseBy 28 = .ok (.lload 5, 2) := zd02dec4_92.2.2.2.2.2.1
theorem dX6_caseBy_30 : decode cX6_caseBy 30 = .ok (.ldc2_w 257, 3) := zd02dec4_92.2.2.2.2.2.2.1
theorem dX6_caseBy_33 : decode cX6_caseBy 33 = .ok (.lmul, 1) := zd02dec4_92.2.2.2.2.2.2.2.1
theorem dX6_caseBy_34 : decode cX6_caseBy 34 = .ok (.ldc2_w 259, 3) := zd02dec4_92.2.2.2.2.2.2.2.2.1
theorem dX6_caseBy_37 : decode cX6_caseBy 37 = .ok (.lrem, 1) := zd02dec4_92.2.2.2.2.2.2.2.2.2.1
theorem dX6_caseBy_38 : decode cX6_caseBy 38 = .ok (.lstore 5, 2) := zd02dec4_92.2.2.2.2.2.2.2.2.2.2.1
theorem dX6_caseBy_40 : decode cX6_caseBy 40 = .ok (.aload_n 0, 1) := zd02dec4_92.2.2.2.2.2.2.2.2.2.2.2
theorem zd02dec4_93 : decode cX6_caseBy 41 = .ok (.dup, 1) ∧ decode cX6_caseBy 42 = .ok (.getfield 205, 3) ∧ decode cX6_caseBy 45 = .ok (.aload_n 0, 1) ∧ decode cX6_caseBy 46 = .ok (.iload_n 2, 1) ∧ decode cX6_caseBy 47 = .ok (.iload_n 3, 1) ∧ decode cX6_caseBy 48 = .ok (.lload 5, 2) ∧ decode cX6_caseBy 50 = .ok (.iload 4, 2) ∧ decode cX6_caseBy 52 = .ok (.bipush 100, 2) ∧ decode cX6_caseBy 54 = .ok (.idiv, 1) ∧ decode cX6_caseBy 55 = .ok (.iconst 1, 1) ∧ decode cX6_caseBy 56 = .ok (.iadd, 1) ∧ decode cX6_caseBy 57 = .ok (.i2l, 1) := by decide +kernel
theorem dX6_caseBy_41 : decode cX6_caseBy 41 = .ok (.dup, 1) := zd02dec4_93.1
theorem dX6_caseBy_42 : decode cX6_caseBy 42 = .ok (.getfield 205, 3) := zd02dec4_93.2.1
theorem dX6_caseBy_45 : decode cX6_caseBy 45 = .ok (.aload_n 0, 1) := zd02dec4_93.2.2.1
theorem dX6_caseBy_46 : decode cX6_caseBy 46 = .ok (.iload_n 2, 1) := zd02dec4_93.2.2.2.1
theorem dX6_caseBy_47 : decode cX6_caseBy 47 = .ok (.iload_n 3, 1) := zd02dec4_93.2.2.2.2.1
theorem dX6_caseBy_48 : decode cX6_caseBy 48 = .ok (.lload 5, 2) := zd02dec4_93.2.2.2.2.2.1
theorem dX6_caseBy_50 : decode cX6_caseBy 50 = .ok (.iload 4, 2) := zd02dec4_93.2.2.2.2.2.2.1
theorem dX6_caseBy_52 : decode cX6_caseBy 52 = .ok (.bipush 100, 2) := zd02dec4_93.2.2.2.2.2.2.2.1
theorem dX6_caseBy_54 : decode cX6_caseBy 54 = .ok (.idiv, 1) := zd02dec4_93.2.2.2.2.2.2.2.2.1
theorem dX6_caseBy_55 : decode cX6_caseBy 55 = .ok (.iconst 1, 1) := zd02dec4_93.2.2.2.2.2.2.2.2.2.1
theorem dX6_caseBy_56 : decode cX6_caseBy 56 = .ok (.iadd, 1) := zd02dec4_93.2.2.2.2.2.2.2.2.2.2.1
theorem dX6_caseBy_57 : decode cX6_caseBy 57 = .ok (.i2l, 1) := zd02dec4_93.2.2.2.2.2.2.2.2.2.2.2
theorem zd02dec4_94 : decode cX6_caseBy 58 = .ok (.lrem, 1) ∧ decode cX6_caseBy 59 = .ok (.l2i, 1) ∧ decode cX6_caseBy 60 = .ok (.invokevirtual 193, 3) ∧ decode cX6_caseBy 63 = .ok (.iadd, 1) ∧ decode cX6_caseBy 64 = .ok (.putfield 205, 3) ∧ decode cX6_caseBy 67 = .ok (.iinc 7 1, 3) ∧ decode cX6_caseBy 70 = .ok (.goto (-52), 3) ∧ decode cX6_caseBy 73 = .ok (.aload_n 0, 1) ∧ decode cX6_caseBy 74 = .ok (.aload_n 0, 1) ∧ decode cX6_caseBy 75 = .ok (.getfield 16, 3) ∧ decode cX6_caseBy 78 = .ok (.iconst 2, 1) ∧ decode cX6_caseBy 79 = .ok (.iload_n 3, 1) := by decide +kernel
theorem dX6_caseBy_58 : decode cX6_caseBy 58 = .ok (.lrem, 1) := zd02dec4_94.1
theorem dX6_caseBy_59 : decode cX6_caseBy 59 = .ok (.l2i, 1) := zd02dec4_94.2.1
theorem dX6_caseBy_60 : decode cX6_caseBy 60 = .ok (.invokevirtual 193, 3) := zd02dec4_94.2.2.1
theorem dX6_caseBy_63 : decode cX6_caseBy 63 = .ok (.iadd, 1) := zd02dec4_94.2.2.2.1
theorem dX6_caseBy_64 : decode cX6_caseBy 64 = .ok (.putfield 205, 3) := zd02dec4_94.2.2.2.2.1
theorem dX6_caseBy_67 : decode cX6_caseBy 67 = .ok (.iinc 7 1, 3) := zd02dec4_94.2.2.2.2.2.1
theorem dX6_caseBy_70 : decode cX6_caseBy 70 = .ok (.goto (-52), 3) := zd02dec4_94.2.2.2.2.2.2.1
theorem dX6_caseBy_73 : decode cX6_caseBy 73 = .ok (.aload_n 0, 1) := zd02dec4_94.2.2.2.2.2.2.2.1
theorem dX6_caseBy_74 : decode cX6_caseBy 74 = .ok (.aload_n 0, 1) := zd02dec4_94.2.2.2.2.2.2.2.2.1
theorem dX6_caseBy_75 : decode cX6_caseBy 75 = .ok (.getfield 16, 3) := zd02dec4_94.2.2.2.2.2.2.2.2.2.1
theorem dX6_caseBy_78 : decode cX6_caseBy 78 = .ok (.iconst 2, 1) := zd02dec4_94.2.2.2.2.2.2.2.2.2.2.1
theorem dX6_caseBy_79 : decode cX6_caseBy 79 = .ok (.iload_n 3, 1) := zd02dec4_94.2.2.2.2.2.2.2.2.2.2.2
theorem zd02dec4_95 : decode cX6_caseBy 80 = .ok (.imul, 1) ∧ decode cX6_caseBy 81 = .ok (.iaload, 1) ∧ decode cX6_caseBy 82 = .ok (.putfield 208, 3) ∧ decode cX6_caseBy 85 = .ok (.aload_n 0, 1) ∧ decode cX6_caseBy 86 = .ok (.aload_n 0, 1) ∧ decode cX6_caseBy 87 = .ok (.getfield 205, 3) ∧ decode cX6_caseBy 90 = .ok (.aload_n 0, 1) ∧ decode cX6_caseBy 91 = .ok (.iconst 2, 1) ∧ decode cX6_caseBy 92 = .ok (.iload_n 2, 1) ∧ decode cX6_caseBy 93 = .ok (.iload_n 3, 1) ∧ decode cX6_caseBy 94 = .ok (.invokevirtual 180, 3) ∧ decode cX6_caseBy 97 = .ok (.if_icmp .lt 7, 3) := by decide +kernel
theorem dX6_caseBy_80 : decode cX6_caseBy 80 = .ok (.imul, 1) := zd02dec4_95.1
theorem dX6_caseBy_81 : decode cX6_caseBy 81 = .ok (.iaload, 1) := zd02dec4_95.2.1
theorem dX6_caseBy_82 : decode cX6_caseBy 82 = .ok (.putfield 208, 3) := zd02dec4_95.2.2.1
theorem dX6_caseBy_85 : decode cX6_caseBy 85 = .ok (.aload_n 0, 1) := zd02dec4_95.2.2.2.1
theorem dX6_caseBy_86 : decode cX6_caseBy 86 = .ok (.aload_n 0, 1) := zd02dec4_95.2.2.2.2.1
theorem dX6_caseBy_87 : decode cX6_caseBy 87 = .ok (.getfield 205, 3) := zd02dec4_95.2.2.2.2.2.1
theorem dX6_caseBy_90 : decode cX6_caseBy 90 = .ok (.aload_n 0, 1) := zd02dec4_95.2.2.2.2.2.2.1
theorem dX6_caseBy_91 : decode cX6_caseBy 91 = .ok (.iconst 2, 1) := zd02dec4_95.2.2.2.2.2.2.2.1
theorem dX6_caseBy_92 : decode cX6_caseBy 92 = .ok (.iload_n 2, 1) := zd02dec4_95.2.2.2.2.2.2.2.2.1
theorem dX6_caseBy_93 : decode cX6_caseBy 93 = .ok (.iload_n 3, 1) := zd02dec4_95.2.2.2.2.2.2.2.2.2.1
theorem dX6_caseBy_94 : decode cX6_caseBy 94 = .ok (.invokevirtual 180, 3) := zd02dec4_95.2.2.2.2.2.2.2.2.2.2.1
theorem dX6_caseBy_97 : decode cX6_caseBy 97 = .ok (.if_icmp .lt 7, 3) := zd02dec4_95.2.2.2.2.2.2.2.2.2.2.2
theorem zd02dec4_96 : decode cX6_caseBy 100 = .ok (.iconst 1, 1) ∧ decode cX6_caseBy 101 = .ok (.goto 4, 3) ∧ decode cX6_caseBy 104 = .ok (.iconst 0, 1) ∧ decode cX6_caseBy 105 = .ok (.putfield 214, 3) ∧ decode cX6_caseBy 108 = .ok (.aload_n 0, 1) ∧ decode cX6_caseBy 109 = .ok (.invokevirtual 218, 3) ∧ decode cX6_caseBy 112 = .ok (.return_, 1) := by decide +kernel
theorem dX6_caseBy_100 : decode cX6_caseBy 100 = .ok (.iconst 1, 1) := zd02dec4_96.1
theorem dX6_caseBy_101 : decode cX6_caseBy 101 = .ok (.goto 4, 3) := zd02dec4_96.2.1
theorem dX6_caseBy_104 : decode cX6_caseBy 104 = .ok (.iconst 0, 1) := zd02dec4_96.2.2.1
theorem dX6_caseBy_105 : decode cX6_caseBy 105 = .ok (.putfield 214, 3) := zd02dec4_96.2.2.2.1
theorem dX6_caseBy_108 : decode cX6_caseBy 108 = .ok (.aload_n 0, 1) := zd02dec4_96.2.2.2.2.1
theorem dX6_caseBy_109 : decode cX6_caseBy 109 = .ok (.invokevirtual 218, 3) := zd02dec4_96.2.2.2.2.2.1
theorem dX6_caseBy_112 : decode cX6_caseBy 112 = .ok (.return_, 1) := zd02dec4_96.2.2.2.2.2.2
theorem zd02dec4_97 : decode cX6_drawn 0 = .ok (.aload_n 0, 1) ∧ decode cX6_drawn 1 = .ok (.iload_n 2, 1) ∧ decode cX6_drawn 2 = .ok (.invokevirtual 104, 3) ∧ decode cX6_drawn 5 = .ok (.ifCond .eq 11, 3) ∧ decode cX6_drawn 8 = .ok (.aload_n 0, 1) ∧ decode cX6_drawn 9 = .ok (.iload_n 3, 1) ∧ decode cX6_drawn 10 = .ok (.invokevirtual 177, 3) ∧ decode cX6_drawn 13 = .ok (.ifCond .ne 6, 3) ∧ decode cX6_drawn 16 = .ok (.bipush (-5), 2) ∧ decode cX6_drawn 18 = .ok (.ireturn, 1) ∧ decode cX6_drawn 19 = .ok (.iload_n 1, 1) ∧ decode cX6_drawn 20 = .ok (.iconst 0, 1) := by decide +kernel
theorem dX6_drawn_0 : decode cX6_drawn 0 = .ok (.aload_n 0, 1) := zd02dec4_97.1
theorem dX6_drawn_1 : decode cX6_drawn 1 = .ok (.iload_n 2, 1) := zd02dec4_97.2.1
theorem dX6_drawn_2 : decode cX6_drawn 2 = .ok (.invokevirtual 104, 3) := zd02dec4_97.2.2.1
theorem dX6_drawn_5 : decode cX6_drawn 5 = .ok (.ifCond .eq 11, 3) := zd02dec4_97.2.2.2.1
theorem dX6_drawn_8 : decode cX6_drawn 8 = .ok (.aload_n 0, 1) := zd02dec4_97.2.2.2.2.1
theorem dX6_drawn_9 : decode cX6_drawn 9 = .ok (.iload_n 3, 1) := zd02dec4_97.2.2.2.2.2.1
theorem dX6_drawn_10 : decode cX6_drawn 10 = .ok (.invokevirtual 177, 3) := zd02dec4_97.2.2.2.2.2.2.1
theorem dX6_drawn_13 : decode cX6_drawn 13 = .ok (.ifCond .ne 6, 3) := zd02dec4_97.2.2.2.2.2.2.2.1
theorem dX6_drawn_16 : decode cX6_drawn 16 = .ok (.bipush (-5), 2) := zd02dec4_97.2.2.2.2.2.2.2.2.1
theorem dX6_drawn_18 : decode cX6_drawn 18 = .ok (.ireturn, 1) := zd02dec4_97.2.2.2.2.2.2.2.2.2.1
theorem dX6_drawn_19 : decode cX6_drawn 19 = .ok (.iload_n 1, 1) := zd02dec4_97.2.2.2.2.2.2.2.2.2.2.1
theorem dX6_drawn_20 : decode cX6_drawn 20 = .ok (.iconst 0, 1) := zd02dec4_97.2.2.2.2.2.2.2.2.2.2.2
theorem zd02dec4_98 : decode cX6_drawn 21 = .ok (.ldc 192, 2) ∧ decode cX6_drawn 23 = .ok (.invokestatic 91, 3) ∧ decode cX6_drawn 26 = .ok (.ifCond .eq 21, 3) ∧ decode cX6_drawn 29 = .ok (.iload 4, 2) ∧ decode cX6_drawn 31 = .ok (.invokestatic 261, 3) ∧ decode cX6_drawn 34 = .ok (.ifCond .eq 13, 3) ∧ decode cX6_drawn 37 = .ok (.iload 5, 2) ∧ decode cX6_drawn 39 = .ok (.iconst 0, 1) ∧ decode cX6_drawn 40 = .ok (.iconst 2, 1) ∧ decode cX6_drawn 41 = .ok (.invokestatic 91, 3) ∧ decode cX6_drawn 44 = .ok (.ifCond .ne 6, 3) ∧ decode cX6_drawn 47 = .ok (.bipush (-7), 2) := by decide +kernel
theorem dX6_drawn_21 : decode cX6_drawn 21 = .ok (.ldc 192, 2) := zd02dec4_98.1
theorem dX6_drawn_23 : decode cX6_drawn 23 = .ok (.invokestatic 91, 3) := zd02dec4_98.2.1
theorem dX6_drawn_26 : decode cX6_drawn 26 = .ok (.ifCond .eq 21, 3) := zd02dec4_98.2.2.1
theorem dX6_drawn_29 : decode cX6_drawn 29 = .ok (.iload 4, 2) := zd02dec4_98.2.2.2.1
theorem dX6_drawn_31 : decode cX6_drawn 31 = .ok (.invokestatic 261, 3) := zd02dec4_98.2.2.2.2.1
theorem dX6_drawn_34 : decode cX6_drawn 34 = .ok (.ifCond .eq 13, 3) := zd02dec4_98.2.2.2.2.2.1
theorem dX6_drawn_37 : decode cX6_drawn 37 = .ok (.iload 5, 2) := zd02dec4_98.2.2.2.2.2.2.1
theorem dX6_drawn_39 : decode cX6_drawn 39 = .ok (.iconst 0, 1) := zd02dec4_98.2.2.2.2.2.2.2.1
theorem dX6_drawn_40 : decode cX6_drawn 40 = .ok (.iconst 2, 1) := zd02dec4_98.2.2.2.2.2.2.2.2.1
theorem dX6_drawn_41 : decode cX6_drawn 41 = .ok (.invokestatic 91, 3) := zd02dec4_98.2.2.2.2.2.2.2.2.2.1
theorem dX6_drawn_44 : decode cX6_drawn 44 = .ok (.ifCond .ne 6, 3) := zd02dec4_98.2.2.2.2.2.2.2.2.2.2.1
theorem dX6_drawn_47 : decode cX6_drawn 47 = .ok (.bipush (-7), 2) := zd02dec4_98.2.2.2.2.2.2.2.2.2.2.2
theorem zd02dec4_99 : decode cX6_drawn 49 = .ok (.ireturn, 1) ∧ decode cX6_drawn 50 = .ok (.aload_n 0, 1) ∧ decode cX6_drawn 51 = .ok (.iload_n 1, 1) ∧ decode cX6_drawn 52 = .ok (.iload_n 2, 1) ∧ decode cX6_drawn 53 = .ok (.iload_n 3, 1) ∧ decode cX6_drawn 54 = .ok (.iload 4, 2) ∧ decode cX6_drawn 56 = .ok (.invokevirtual 264, 3) ∧ decode cX6_drawn 59 = .ok (.aload_n 0, 1) ∧ decode cX6_drawn 60 = .ok (.iload 5, 2) ∧ decode cX6_drawn 62 = .ok (.invokevirtual 225, 3) ∧ decode cX6_drawn 65 = .ok (.ireturn, 1) := by decide +kernel
theorem dX6_drawn_49 : decode cX6_drawn 49 = .ok (.ireturn, 1) := zd02dec4_99.1
theorem dX6_drawn_50 : decode cX6_drawn 50 = .ok (.aload_n 0, 1) := zd02dec4_99.2.1
theorem dX6_drawn_51 : decode cX6_drawn 51 = .ok (.iload_n 1, 1) := zd02dec4_99.2.2.1
theorem dX6_drawn_52 : decode cX6_drawn 52 = .ok (.iload_n 2, 1) := zd02dec4_99.2.2.2.1
theorem dX6_drawn_53 : decode cX6_drawn 53 = .ok (.iload_n 3, 1) := zd02dec4_99.2.2.2.2.1
theorem dX6_drawn_54 : decode cX6_drawn 54 = .ok (.iload 4, 2) := zd02dec4_99.2.2.2.2.2.1
theorem dX6_drawn_56 : decode cX6_drawn 56 = .ok (.invokevirtual 264, 3) := zd02dec4_99.2.2.2.2.2.2.1
theorem dX6_drawn_59 : decode cX6_drawn 59 = .ok (.aload_n 0, 1) := zd02dec4_99.2.2.2.2.2.2.2.1
theorem dX6_drawn_60 : decode cX6_drawn 60 = .ok (.iload 5, 2) := zd02dec4_99.2.2.2.2.2.2.2.2.1
theorem dX6_drawn_62 : decode cX6_drawn 62 = .ok (.invokevirtual 225, 3) := zd02dec4_99.2.2.2.2.2.2.2.2.2.1
theorem dX6_drawn_65 : decode cX6_drawn 65 = .ok (.ireturn, 1) := zd02dec4_99.2.2.2.2.2.2.2.2.2.2
theorem zd02dec4_100 : decode cX6_lowest 0 = .ok (.lload_n 0, 1) ∧ decode cX6_lowest 1 = .ok (.lconst 0, 1) ∧ decode cX6_lowest 2 = .ok (.lcmp, 1) ∧ decode cX6_lowest 3 = .ok (.ifCond .ne 7, 3) ∧ decode cX6_lowest 6 = .ok (.iload 4, 2) ∧ decode cX6_lowest 8 = .ok (.i2l, 1) ∧ decode cX6_lowest 9 = .ok (.lreturn, 1) ∧ decode cX6_lowest 10 = .ok (.lload_n 0, 1) ∧ decode cX6_lowest 11 = .ok (.lstore 5, 2) ∧ decode cX6_lowest 13 = .ok (.lload_n 2, 1) ∧ decode cX6_lowest 14 = .ok (.lstore 7, 2) ∧ decode cX6_lowest 16 = .ok (.lload 7, 2) := by decide +kernel
theorem dX6_lowest_0 : decode cX6_lowest 0 = .ok (.lload_n 0, 1) := zd02dec4_100.1
theorem dX6_lowest_1 : decode cX6_lowest 1 = .ok (.lconst 0, 1) := zd02dec4_100.2.1
theorem dX6_lowest_2 : decode cX6_lowest 2 = .ok (.lcmp, 1) := zd02dec4_100.2.2.1
theorem dX6_lowest_3 : decode cX6_lowest 3 = .ok (.ifCond .ne 7, 3) := zd02dec4_100.2.2.2.1
theorem dX6_lowest_6 : decode cX6_lowest 6 = .ok (.iload 4, 2) := zd02dec4_100.2.2.2.2.1
theorem dX6_lowest_8 : decode cX6_lowest 8 = .ok (.i2l, 1) := zd02dec4_100.2.2.2.2.2.1
theorem dX6_lowest_9 : decode cX6_lowest 9 = .ok (.lreturn, 1) := zd02dec4_100.2.2.2.2.2.2.1
theorem dX6_lowest_10 : decode cX6_lowest 10 = .ok (.lload_n 0, 1) := zd02dec4_100.2.2.2.2.2.2.2.1
theorem dX6_lowest_11 : decode cX6_lowest 11 = .ok (.lstore 5, 2) := zd02dec4_100.2.2.2.2.2.2.2.2.1
theorem dX6_lowest_13 : decode cX6_lowest 13 = .ok (.lload_n 2, 1) := zd02dec4_100.2.2.2.2.2.2.2.2.2.1
theorem dX6_lowest_14 : decode cX6_lowest 14 = .ok (.lstore 7, 2) := zd02dec4_100.2.2.2.2.2.2.2.2.2.2.1
theorem dX6_lowest_16 : decode cX6_lowest 16 = .ok (.lload 7, 2) := zd02dec4_100.2.2.2.2.2.2.2.2.2.2.2
theorem zd02dec4_101 : decode cX6_lowest 18 = .ok (.lconst 0, 1) ∧ decode cX6_lowest 19 = .ok (.lcmp, 1) ∧ decode cX6_lowest 20 = .ok (.ifCond .eq 21, 3) ∧ decode cX6_lowest 23 = .ok (.lload 5, 2) ∧ decode cX6_lowest 25 = .ok (.lload 7, 2) ∧ decode cX6_lowest 27 = .ok (.lrem, 1) ∧ decode cX6_lowest 28 = .ok (.lstore 9, 2) ∧ decode cX6_lowest 30 = .ok (.lload 7, 2) ∧ decode cX6_lowest 32 = .ok (.lstore 5, 2) ∧ decode cX6_lowest 34 = .ok (.lload 9, 2) ∧ decode cX6_lowest 36 = .ok (.lstore 7, 2) ∧ decode cX6_lowest 38 = .ok (.goto (-22), 3) := by decide +kernel
theorem dX6_lowest_18 : decode cX6_lowest 18 = .ok (.lconst 0, 1) := zd02dec4_101.1
theorem dX6_lowest_19 : decode cX6_lowest 19 = .ok (.lcmp, 1) := zd02dec4_101.2.1
theorem dX6_lowest_20 : decode cX6_lowest 20 = .ok (.ifCond .eq 21, 3) := zd02dec4_101.2.2.1
theorem dX6_lowest_23 : decode cX6_lowest 23 = .ok (.lload 5, 2) := zd02dec4_101.2.2.2.1
theorem dX6_lowest_25 : decode cX6_lowest 25 = .ok (.lload 7, 2) := zd02dec4_101.2.2.2.2.1
theorem dX6_lowest_27 : decode cX6_lowest 27 = .ok (.lrem, 1) := zd02dec4_101.2.2.2.2.2.1
theorem dX6_lowest_28 : decode cX6_lowest 28 = .ok (.lstore 9, 2) := zd02dec4_101.2.2.2.2.2.2.1
theorem dX6_lowest_30 : decode cX6_lowest 30 = .ok (.lload 7, 2) := zd02dec4_101.2.2.2.2.2.2.2.1
theorem dX6_lowest_32 : decode cX6_lowest 32 = .ok (.lstore 5, 2) := zd02dec4_101.2.2.2.2.2.2.2.2.1
theorem dX6_lowest_34 : decode cX6_lowest 34 = .ok (.lload 9, 2) := zd02dec4_101.2.2.2.2.2.2.2.2.2.1
theorem dX6_lowest_36 : decode cX6_lowest 36 = .ok (.lstore 7, 2) := zd02dec4_101.2.2.2.2.2.2.2.2.2.2.1
theorem dX6_lowest_38 : decode cX6_lowest 38 = .ok (.goto (-22), 3) := zd02dec4_101.2.2.2.2.2.2.2.2.2.2.2
theorem zd02dec4_102 : decode cX6_lowest 41 = .ok (.iload 4, 2) ∧ decode cX6_lowest 43 = .ok (.ifCond .ne 7, 3) ∧ decode cX6_lowest 46 = .ok (.lload_n 0, 1) ∧ decode cX6_lowest 47 = .ok (.goto 4, 3) ∧ decode cX6_lowest 50 = .ok (.lload_n 2, 1) ∧ decode cX6_lowest 51 = .ok (.lload 5, 2) ∧ decode cX6_lowest 53 = .ok (.ldiv, 1) ∧ decode cX6_lowest 54 = .ok (.lreturn, 1) := by decide +kernel
theorem dX6_lowest_41 : decode cX6_lowest 41 = .ok (.iload 4, 2) := zd02dec4_102.1
theorem dX6_lowest_43 : decode cX6_lowest 43 = .ok (.ifCond .ne 7, 3) := zd02dec4_102.2.1
theorem dX6_lowest_46 : decode cX6_lowest 46 = .ok (.lload_n 0, 1) := zd02dec4_102.2.2.1
theorem dX6_lowest_47 : decode cX6_lowest 47 = .ok (.goto 4, 3) := zd02dec4_102.2.2.2.1
theorem dX6_lowest_50 : decode cX6_lowest 50 = .ok (.lload_n 2, 1) := zd02dec4_102.2.2.2.2.1
theorem dX6_lowest_51 : decode cX6_lowest 51 = .ok (.lload 5, 2) := zd02dec4_102.2.2.2.2.2.1
theorem dX6_lowest_53 : decode cX6_lowest 53 = .ok (.ldiv, 1) := zd02dec4_102.2.2.2.2.2.2.1
theorem dX6_lowest_54 : decode cX6_lowest 54 = .ok (.lreturn, 1) := zd02dec4_102.2.2.2.2.2.2.2
theorem zd02dec4_103 : decode cX6_odds 0 = .ok (.iload_n 1, 1) ∧ decode cX6_odds 1 = .ok (.iconst 0, 1) ∧ decode cX6_odds 2 = .ok (.ldc 192, 2) ∧ decode cX6_odds 4 = .ok (.invokestatic 91, 3) ∧ decode cX6_odds 7 = .ok (.ifCond .eq 52, 3) ∧ decode cX6_odds 10 = .ok (.iload_n 2, 1) ∧ decode cX6_odds 11 = .ok (.iconst 1, 1) ∧ decode cX6_odds 12 = .ok (.bipush 40, 2) ∧ decode cX6_odds 14 = .ok (.invokestatic 91, 3) ∧ decode cX6_odds 17 = .ok (.ifCond .eq 42, 3) ∧ decode cX6_odds 20 = .ok (.aload_n 0, 1) ∧ decode cX6_odds 21 = .ok (.iload_n 3, 1) := by decide +kernel
theorem dX6_odds_0 : decode cX6_odds 0 = .ok (.iload_n 1, 1) := zd02dec4_103.1
theorem dX6_odds_1 : decode cX6_odds 1 = .ok (.iconst 0, 1) := zd02dec4_103.2.1
theorem dX6_odds_2 : decode cX6_odds 2 = .ok (.ldc 192, 2) := zd02dec4_103.2.2.1
theorem dX6_odds_4 : decode cX6_odds 4 = .ok (.invokestatic 91, 3) := zd02dec4_103.2.2.2.1
theorem dX6_odds_7 : decode cX6_odds 7 = .ok (.ifCond .eq 52, 3) := zd02dec4_103.2.2.2.2.1
theorem dX6_odds_10 : decode cX6_odds 10 = .ok (.iload_n 2, 1) := zd02dec4_103.2.2.2.2.2.1
theorem dX6_odds_11 : decode cX6_odds 11 = .ok (.iconst 1, 1) := zd02dec4_103.2.2.2.2.2.2.1
theorem dX6_odds_12 : decode cX6_odds 12 = .ok (.bipush 40, 2) := zd02dec4_103.2.2.2.2.2.2.2.1
theorem dX6_odds_14 : decode cX6_odds 14 = .ok (.invokestatic 91, 3) := zd02dec4_103.2.2.2.2.2.2.2.2.1
theorem dX6_odds_17 : decode cX6_odds 17 = .ok (.ifCond .eq 42, 3) := zd02dec4_103.2.2.2.2.2.2.2.2.2.1
theorem dX6_odds_20 : decode cX6_odds 20 = .ok (.aload_n 0, 1) := zd02dec4_103.2.2.2.2.2.2.2.2.2.2.1
theorem dX6_odds_21 : decode cX6_odds 21 = .ok (.iload_n 3, 1) := zd02dec4_103.2.2.2.2.2.2.2.2.2.2.2
theorem zd02dec4_104 : decode cX6_odds 22 = .ok (.invokevirtual 104, 3) ∧ decode cX6_odds 25 = .ok (.ifCond .eq 34, 3) ∧ decode cX6_odds 28 = .ok (.aload_n 0, 1) ∧ decode cX6_odds 29 = .ok (.iload 4, 2) ∧ decode cX6_odds 31 = .ok (.invokevirtual 177, 3) ∧ decode cX6_odds 34 = .ok (.ifCond .eq 25, 3) ∧ decode cX6_odds 37 = .ok (.iload 5, 2) ∧ decode cX6_odds 39 = .ok (.invokestatic 261, 3) ∧ decode cX6_odds 42 = .ok (.ifCond .eq 17, 3) ∧ decode cX6_odds 45 = .ok (.iload 6, 2) ∧ decode cX6_odds 47 = .ok (.iconst 0, 1) ∧ decode cX6_odds 48 = .ok (.iconst 1, 1) := by decide +kernel
theorem dX6_odds_22 : decode cX6_odds 22 = .ok (.invokevirtual 104, 3) := zd02dec4_104.1
theorem dX6_odds_25 : decode cX6_odds 25 = .ok (.ifCond .eq 34, 3) := zd02dec4_104.2.1
theorem dX6_odds_28 : decode cX6_odds 28 = .ok (.aload_n 0, 1) := zd02dec4_104.2.2.1
theorem dX6_odds_29 : decode cX6_odds 29 = .ok (.iload 4, 2) := zd02dec4_104.2.2.2.1
theorem dX6_odds_31 : decode cX6_odds 31 = .ok (.invokevirtual 177, 3) := zd02dec4_104.2.2.2.2.1
theorem dX6_odds_34 : decode cX6_odds 34 = .ok (.ifCond .eq 25, 3) := zd02dec4_104.2.2.2.2.2.1
theorem dX6_odds_37 : decode cX6_odds 37 = .ok (.iload 5, 2) := zd02dec4_104.2.2.2.2.2.2.1
theorem dX6_odds_39 : decode cX6_odds 39 = .ok (.invokestatic 261, 3) := zd02dec4_104.2.2.2.2.2.2.2.1
theorem dX6_odds_42 : decode cX6_odds 42 = .ok (.ifCond .eq 17, 3) := zd02dec4_104.2.2.2.2.2.2.2.2.1
theorem dX6_odds_45 : decode cX6_odds 45 = .ok (.iload 6, 2) := zd02dec4_104.2.2.2.2.2.2.2.2.2.1
theorem dX6_odds_47 : decode cX6_odds 47 = .ok (.iconst 0, 1) := zd02dec4_104.2.2.2.2.2.2.2.2.2.2.1
theorem dX6_odds_48 : decode cX6_odds 48 = .ok (.iconst 1, 1) := zd02dec4_104.2.2.2.2.2.2.2.2.2.2.2
theorem zd02dec4_105 : decode cX6_odds 49 = .ok (.invokestatic 91, 3) ∧ decode cX6_odds 52 = .ok (.ifCond .eq 7, 3) ∧ decode cX6_odds 55 = .ok (.iconst 1, 1) ∧ decode cX6_odds 56 = .ok (.goto 4, 3) ∧ decode cX6_odds 59 = .ok (.iconst 0, 1) ∧ decode cX6_odds 60 = .ok (.istore 7, 2) ∧ decode cX6_odds 62 = .ok (.iload 7, 2) ∧ decode cX6_odds 64 = .ok (.ifCond .ne 7, 3) ∧ decode cX6_odds 67 = .ok (.ldc2_w 268, 3) ∧ decode cX6_odds 70 = .ok (.lreturn, 1) ∧ decode cX6_odds 71 = .ok (.lconst 0, 1) ∧ decode cX6_odds 72 = .ok (.lstore 8, 2) := by decide +kernel
theorem dX6_odds_49 : decode cX6_odds 49 = .ok (.invokestatic 91, 3) := zd02dec4_105.1
theorem dX6_odds_52 : decode cX6_odds 52 = .ok (.ifCond .eq 7, 3) := zd02dec4_105.2.1
theorem dX6_odds_55 : decode cX6_odds 55 = .ok (.iconst 1, 1) := zd02dec4_105.2.2.1
theorem dX6_odds_56 : decode cX6_odds 56 = .ok (.goto 4, 3) := zd02dec4_105.2.2.2.1
theorem dX6_odds_59 : decode cX6_odds 59 = .ok (.iconst 0, 1) := zd02dec4_105.2.2.2.2.1
theorem dX6_odds_60 : decode cX6_odds 60 = .ok (.istore 7, 2) := zd02dec4_105.2.2.2.2.2.1
theorem dX6_odds_62 : decode cX6_odds 62 = .ok (.iload 7, 2) := zd02dec4_105.2.2.2.2.2.2.1
theorem dX6_odds_64 : decode cX6_odds 64 = .ok (.ifCond .ne 7, 3) := zd02dec4_105.2.2.2.2.2.2.2.1
theorem dX6_odds_67 : decode cX6_odds 67 = .ok (.ldc2_w 268, 3) := zd02dec4_105.2.2.2.2.2.2.2.2.1
theorem dX6_odds_70 : decode cX6_odds 70 = .ok (.lreturn, 1) := zd02dec4_105.2.2.2.2.2.2.2.2.2.1
theorem dX6_odds_71 : decode cX6_odds 71 = .ok (.lconst 0, 1) := zd02dec4_105.2.2.2.2.2.2.2.2.2.2.1
theorem dX6_odds_72 : decode cX6_odds 72 = .ok (.lstore 8, 2) := zd02dec4_105.2.2.2.2.2.2.2.2.2.2.2
theorem zd02dec4_106 : decode cX6_odds 74 = .ok (.iconst 0, 1) ∧ decode cX6_odds 75 = .ok (.istore 10, 2) ∧ decode cX6_odds 77 = .ok (.iload 10, 2) ∧ decode cX6_odds 79 = .ok (.iload_n 2, 1) ∧ decode cX6_odds 80 = .ok (.if_icmp .ge 39, 3) ∧ decode cX6_odds 83 = .ok (.aload_n 0, 1) ∧ decode cX6_odds 84 = .ok (.iload_n 1, 1) ∧ decode cX6_odds 85 = .ok (.iload 10, 2) ∧ decode cX6_odds 87 = .ok (.iadd, 1) ∧ decode cX6_odds 88 = .ok (.iload_n 3, 1) ∧ decode cX6_odds 89 = .ok (.iload 4, 2) ∧ decode cX6_odds 91 = .ok (.iload 5, 2) := by decide +kernel
theorem dX6_odds_74 : decode cX6_odds 74 = .ok (.iconst 0, 1) := zd02dec4_106.1
theorem dX6_odds_75 : decode cX6_odds 75 = .ok (.istore 10, 2) := zd02dec4_106.2.1
theorem dX6_odds_77 : decode cX6_odds 77 = .ok (.iload 10, 2) := zd02dec4_106.2.2.1
theorem dX6_odds_79 : decode cX6_odds 79 = .ok (.iload_n 2, 1) := zd02dec4_106.2.2.2.1
theorem dX6_odds_80 : decode cX6_odds 80 = .ok (.if_icmp .ge 39, 3) := zd02dec4_106.2.2.2.2.1
theorem dX6_odds_83 : decode cX6_odds 83 = .ok (.aload_n 0, 1) := zd02dec4_106.2.2.2.2.2.1
theorem dX6_odds_84 : decode cX6_odds 84 = .ok (.iload_n 1, 1) := zd02dec4_106.2.2.2.2.2.2.1
theorem dX6_odds_85 : decode cX6_odds 85 = .ok (.iload 10, 2) := zd02dec4_106.2.2.2.2.2.2.2.1
theorem dX6_odds_87 : decode cX6_odds 87 = .ok (.iadd, 1) := zd02dec4_106.2.2.2.2.2.2.2.2.1
theorem dX6_odds_88 : decode cX6_odds 88 = .ok (.iload_n 3, 1) := zd02dec4_106.2.2.2.2.2.2.2.2.2.1
theorem dX6_odds_89 : decode cX6_odds 89 = .ok (.iload 4, 2) := zd02dec4_106.2.2.2.2.2.2.2.2.2.2.1
theorem dX6_odds_91 : decode cX6_odds 91 = .ok (.iload 5, 2) := zd02dec4_106.2.2.2.2.2.2.2.2.2.2.2
theorem zd02dec4_107 : decode cX6_odds 93 = .ok (.invokevirtual 264, 3) ∧ decode cX6_odds 96 = .ok (.lload 8, 2) ∧ decode cX6_odds 98 = .ok (.aload_n 0, 1) ∧ decode cX6_odds 99 = .ok (.getfield 214, 3) ∧ decode cX6_odds 102 = .ok (.ifCond .eq 7, 3) ∧ decode cX6_odds 105 = .ok (.lconst 1, 1) ∧ decode cX6_odds 106 = .ok (.goto 4, 3) ∧ decode cX6_odds 109 = .ok (.lconst 0, 1) ∧ decode cX6_odds 110 = .ok (.ladd, 1) ∧ decode cX6_odds 111 = .ok (.lstore 8, 2) ∧ decode cX6_odds 113 = .ok (.iinc 10 1, 3) ∧ decode cX6_odds 116 = .ok (.goto (-39), 3) := by decide +kernel
theorem dX6_odds_93 : decode cX6_odds 93 = .ok (.invokevirtual 264, 3) := zd02dec4_107.1
theorem dX6_odds_96 : decode cX6_odds 96 = .ok (.lload 8, 2) := zd02dec4_107.2.1
theorem dX6_odds_98 : decode cX6_odds 98 = .ok (.aload_n 0, 1) := zd02dec4_107.2.2.1
theorem dX6_odds_99 : decode cX6_odds 99 = .ok (.getfield 214, 3) := zd02dec4_107.2.2.2.1
theorem dX6_odds_102 : decode cX6_odds 102 = .ok (.ifCond .eq 7, 3) := zd02dec4_107.2.2.2.2.1
theorem dX6_odds_105 : decode cX6_odds 105 = .ok (.lconst 1, 1) := zd02dec4_107.2.2.2.2.2.1
theorem dX6_odds_106 : decode cX6_odds 106 = .ok (.goto 4, 3) := zd02dec4_107.2.2.2.2.2.2.1
theorem dX6_odds_109 : decode cX6_odds 109 = .ok (.lconst 0, 1) := zd02dec4_107.2.2.2.2.2.2.2.1
theorem dX6_odds_110 : decode cX6_odds 110 = .ok (.ladd, 1) := zd02dec4_107.2.2.2.2.2.2.2.2.1
theorem dX6_odds_111 : decode cX6_odds 111 = .ok (.lstore 8, 2) := zd02dec4_107.2.2.2.2.2.2.2.2.2.1
theorem dX6_odds_113 : decode cX6_odds 113 = .ok (.iinc 10 1, 3) := zd02dec4_107.2.2.2.2.2.2.2.2.2.2.1
theorem dX6_odds_116 : decode cX6_odds 116 = .ok (.goto (-39), 3) := zd02dec4_107.2.2.2.2.2.2.2.2.2.2.2
theorem zd02dec4_108 : decode cX6_odds 119 = .ok (.lload 8, 2) ∧ decode cX6_odds 121 = .ok (.iload_n 2, 1) ∧ decode cX6_odds 122 = .ok (.i2l, 1) ∧ decode cX6_odds 123 = .ok (.iload 6, 2) ∧ decode cX6_odds 125 = .ok (.invokestatic 270, 3) ∧ decode cX6_odds 128 = .ok (.lreturn, 1) := by decide +kernel
theorem dX6_odds_119 : decode cX6_odds 119 = .ok (.lload 8, 2) := zd02dec4_108.1
theorem dX6_odds_121 : decode cX6_odds 121 = .ok (.iload_n 2, 1) := zd02dec4_108.2.1
theorem dX6_odds_122 : decode cX6_odds 122 = .ok (.i2l, 1) := zd02dec4_108.2.2.1
theorem dX6_odds_123 : decode cX6_odds 123 = .ok (.iload 6, 2) := zd02dec4_108.2.2.2.1
theorem dX6_odds_125 : decode cX6_odds 125 = .ok (.invokestatic 270, 3) := zd02dec4_108.2.2.2.2.1
theorem dX6_odds_128 : decode cX6_odds 128 = .ok (.lreturn, 1) := zd02dec4_108.2.2.2.2.2
theorem zd02dec4_109 : decode cX6_image 0 = .ok (.aload_n 0, 1) ∧ decode cX6_image 1 = .ok (.iconst 1, 1) ∧ decode cX6_image 2 = .ok (.putfield 274, 3) ∧ decode cX6_image 5 = .ok (.iconst 0, 1) ∧ decode cX6_image 6 = .ok (.istore_n 1, 1) ∧ decode cX6_image 7 = .ok (.iload_n 1, 1) ∧ decode cX6_image 8 = .ok (.bipush 12, 2) ∧ decode cX6_image 10 = .ok (.if_icmp .ge 36, 3) ∧ decode cX6_image 13 = .ok (.aload_n 0, 1) ∧ decode cX6_image 14 = .ok (.getfield 31, 3) ∧ decode cX6_image 17 = .ok (.iload_n 1, 1) ∧ decode cX6_image 18 = .ok (.aload_n 0, 1) := by decide +kernel
theorem dX6_image_0 : decode cX6_image 0 = .ok (.aload_n 0, 1) := zd02dec4_109.1
theorem dX6_image_1 : decode cX6_image 1 = .ok (.iconst 1, 1) := zd02dec4_109.2.1
theorem dX6_image_2 : decode cX6_image 2 = .ok (.putfield 274, 3) := zd02dec4_109.2.2.1
theorem dX6_image_5 : decode cX6_image 5 = .ok (.iconst 0, 1) := zd02dec4_109.2.2.2.1
theorem dX6_image_6 : decode cX6_image 6 = .ok (.istore_n 1, 1) := zd02dec4_109.2.2.2.2.1
theorem dX6_image_7 : decode cX6_image 7 = .ok (.iload_n 1, 1) := zd02dec4_109.2.2.2.2.2.1
theorem dX6_image_8 : decode cX6_image 8 = .ok (.bipush 12, 2) := zd02dec4_109.2.2.2.2.2.2.1
theorem dX6_image_10 : decode cX6_image 10 = .ok (.if_icmp .ge 36, 3) := zd02dec4_109.2.2.2.2.2.2.2.1
theorem dX6_image_13 : decode cX6_image 13 = .ok (.aload_n 0, 1) := zd02dec4_109.2.2.2.2.2.2.2.2.1
theorem dX6_image_14 : decode cX6_image 14 = .ok (.getfield 31, 3) := zd02dec4_109.2.2.2.2.2.2.2.2.2.1
theorem dX6_image_17 : decode cX6_image 17 = .ok (.iload_n 1, 1) := zd02dec4_109.2.2.2.2.2.2.2.2.2.2.1
theorem dX6_image_18 : decode cX6_image 18 = .ok (.aload_n 0, 1) := zd02dec4_109.2.2.2.2.2.2.2.2.2.2.2
theorem zd02dec4_110 : decode cX6_image 19 = .ok (.getfield 19, 3) ∧ decode cX6_image 22 = .ok (.iload_n 1, 1) ∧ decode cX6_image 23 = .ok (.iaload, 1) ∧ decode cX6_image 24 = .ok (.iastore, 1) ∧ decode cX6_image 25 = .ok (.aload_n 0, 1) ∧ decode cX6_image 26 = .ok (.getfield 31, 3) ∧ decode cX6_image 29 = .ok (.bipush 12, 2) ∧ decode cX6_image 31 = .ok (.iload_n 1, 1) ∧ decode cX6_image 32 = .ok (.iadd, 1) ∧ decode cX6_image 33 = .ok (.aload_n 0, 1) ∧ decode cX6_image 34 = .ok (.getfield 16, 3) ∧ decode cX6_image 37 = .ok (.iload_n 1, 1) := by decide +kernel
theorem dX6_image_19 : decode cX6_image 19 = .ok (.getfield 19, 3) := zd02dec4_110.1
theorem dX6_image_22 : decode cX6_image 22 = .ok (.iload_n 1, 1) := zd02dec4_110.2.1
theorem dX6_image_23 : decode cX6_image 23 = .ok (.iaload, 1) := zd02dec4_110.2.2.1
theorem dX6_image_24 : decode cX6_image 24 = .ok (.iastore, 1) := zd02dec4_110.2.2.2.1
theorem dX6_image_25 : decode cX6_image 25 = .ok (.aload_n 0, 1) := zd02dec4_110.2.2.2.2.1
theorem dX6_image_26 : decode cX6_image 26 = .ok (.getfield 31, 3) := zd02dec4_110.2.2.2.2.2.1
theorem dX6_image_29 : decode cX6_image 29 = .ok (.bipush 12, 2) := zd02dec4_110.2.2.2.2.2.2.1
theorem dX6_image_31 : decode cX6_image 31 = .ok (.iload_n 1, 1) := zd02dec4_110.2.2.2.2.2.2.2.1
theorem dX6_image_32 : decode cX6_image 32 = .ok (.iadd, 1) := zd02dec4_110.2.2.2.2.2.2.2.2.1
theorem dX6_image_33 : decode cX6_image 33 = .ok (.aload_n 0, 1) := zd02dec4_110.2.2.2.2.2.2.2.2.2.1
theorem dX6_image_34 : decode cX6_image 34 = .ok (.getfield 16, 3) := zd02dec4_110.2.2.2.2.2.2.2.2.2.2.1
theorem dX6_image_37 : decode cX6_image 37 = .ok (.iload_n 1, 1) := zd02dec4_110.2.2.2.2.2.2.2.2.2.2.2
theorem zd02dec4_111 : decode cX6_image 38 = .ok (.iaload, 1) ∧ decode cX6_image 39 = .ok (.iastore, 1) ∧ decode cX6_image 40 = .ok (.iinc 1 1, 3) ∧ decode cX6_image 43 = .ok (.goto (-36), 3) ∧ decode cX6_image 46 = .ok (.aload_n 0, 1) ∧ decode cX6_image 47 = .ok (.getfield 34, 3) ∧ decode cX6_image 50 = .ok (.iconst 0, 1) ∧ decode cX6_image 51 = .ok (.aload_n 0, 1) ∧ decode cX6_image 52 = .ok (.getfield 88, 3) ∧ decode cX6_image 55 = .ok (.iastore, 1) ∧ decode cX6_image 56 = .ok (.aload_n 0, 1) ∧ decode cX6_image 57 = .ok (.getfield 34, 3) := by decide +kernel
theorem dX6_image_38 : decode cX6_image 38 = .ok (.iaload, 1) := zd02dec4_111.1
theorem dX6_image_39 : decode cX6_image 39 = .ok (.iastore, 1) := zd02dec4_111.2.1
theorem dX6_image_40 : decode cX6_image 40 = .ok (.iinc 1 1, 3) := zd02dec4_111.2.2.1
theorem dX6_image_43 : decode cX6_image 43 = .ok (.goto (-36), 3) := zd02dec4_111.2.2.2.1
theorem dX6_image_46 : decode cX6_image 46 = .ok (.aload_n 0, 1) := zd02dec4_111.2.2.2.2.1
theorem dX6_image_47 : decode cX6_image 47 = .ok (.getfield 34, 3) := zd02dec4_111.2.2.2.2.2.1
theorem dX6_image_50 : decode cX6_image 50 = .ok (.iconst 0, 1) := zd02dec4_111.2.2.2.2.2.2.1
theorem dX6_image_51 : decode cX6_image 51 = .ok (.aload_n 0, 1) := zd02dec4_111.2.2.2.2.2.2.2.1
theorem dX6_image_52 : decode cX6_image 52 = .ok (.getfield 88, 3) := zd02dec4_111.2.2.2.2.2.2.2.2.1
theorem dX6_image_55 : decode cX6_image 55 = .ok (.iastore, 1) := zd02dec4_111.2.2.2.2.2.2.2.2.2.1
theorem dX6_image_56 : decode cX6_image 56 = .ok (.aload_n 0, 1) := zd02dec4_111.2.2.2.2.2.2.2.2.2.2.1
theorem dX6_image_57 : decode cX6_image 57 = .ok (.getfield 34, 3) := zd02dec4_111.2.2.2.2.2.2.2.2.2.2.2
theorem zd02dec4_112 : decode cX6_image 60 = .ok (.iconst 1, 1) ∧ decode cX6_image 61 = .ok (.aload_n 0, 1) ∧ decode cX6_image 62 = .ok (.getfield 95, 3) ∧ decode cX6_image 65 = .ok (.iastore, 1) ∧ decode cX6_image 66 = .ok (.aload_n 0, 1) ∧ decode cX6_image 67 = .ok (.getfield 34, 3) ∧ decode cX6_image 70 = .ok (.iconst 2, 1) ∧ decode cX6_image 71 = .ok (.aload_n 0, 1) ∧ decode cX6_image 72 = .ok (.getfield 101, 3) ∧ decode cX6_image 75 = .ok (.iastore, 1) ∧ decode cX6_image 76 = .ok (.aload_n 0, 1) ∧ decode cX6_image 77 = .ok (.getfield 88, 3) := by decide +kernel
theorem dX6_image_60 : decode cX6_image 60 = .ok (.iconst 1, 1) := zd02dec4_112.1
theorem dX6_image_61 : decode cX6_image 61 = .ok (.aload_n 0, 1) := zd02dec4_112.2.1
theorem dX6_image_62 : decode cX6_image 62 = .ok (.getfield 95, 3) := zd02dec4_112.2.2.1
theorem dX6_image_65 : decode cX6_image 65 = .ok (.iastore, 1) := zd02dec4_112.2.2.2.1
theorem dX6_image_66 : decode cX6_image 66 = .ok (.aload_n 0, 1) := zd02dec4_112.2.2.2.2.1
theorem dX6_image_67 : decode cX6_image 67 = .ok (.getfield 34, 3) := zd02dec4_112.2.2.2.2.2.1
theorem dX6_image_70 : decode cX6_image 70 = .ok (.iconst 2, 1) := zd02dec4_112.2.2.2.2.2.2.1
theorem dX6_image_71 : decode cX6_image 71 = .ok (.aload_n 0, 1) := zd02dec4_112.2.2.2.2.2.2.2.1
theorem dX6_image_72 : decode cX6_image 72 = .ok (.getfield 101, 3) := zd02dec4_112.2.2.2.2.2.2.2.2.1
theorem dX6_image_75 : decode cX6_image 75 = .ok (.iastore, 1) := zd02dec4_112.2.2.2.2.2.2.2.2.2.1
theorem dX6_image_76 : decode cX6_image 76 = .ok (.aload_n 0, 1) := zd02dec4_112.2.2.2.2.2.2.2.2.2.2.1
theorem dX6_image_77 : decode cX6_image 77 = .ok (.getfield 88, 3) := zd02dec4_112.2.2.2.2.2.2.2.2.2.2.2
theorem dX6_image_80 : decode cX6_image 80 = .ok (.ireturn, 1) := by decide +kernel
theorem zd02dec4_113 : decode cX6_back 0 = .ok (.aload_n 0, 1) ∧ decode cX6_back 1 = .ok (.getfield 274, 3) ∧ decode cX6_back 4 = .ok (.ifCond .ne 6, 3) ∧ decode cX6_back 7 = .ok (.bipush (-3), 2) ∧ decode cX6_back 9 = .ok (.ireturn, 1) ∧ decode cX6_back 10 = .ok (.iconst 0, 1) ∧ decode cX6_back 11 = .ok (.istore_n 1, 1) ∧ decode cX6_back 12 = .ok (.iload_n 1, 1) ∧ decode cX6_back 13 = .ok (.bipush 12, 2) ∧ decode cX6_back 15 = .ok (.if_icmp .ge 36, 3) ∧ decode cX6_back 18 = .ok (.aload_n 0, 1) ∧ decode cX6_back 19 = .ok (.getfield 19, 3) := by decide +kernel
theorem dX6_back_0 : decode cX6_back 0 = .ok (.aload_n 0, 1) := zd02dec4_113.1
theorem dX6_back_1 : decode cX6_back 1 = .ok (.getfield 274, 3) := zd02dec4_113.2.1
theorem dX6_back_4 : decode cX6_back 4 = .ok (.ifCond .ne 6, 3) := zd02dec4_113.2.2.1
theorem dX6_back_7 : decode cX6_back 7 = .ok (.bipush (-3), 2) := zd02dec4_113.2.2.2.1
theorem dX6_back_9 : decode cX6_back 9 = .ok (.ireturn, 1) := zd02dec4_113.2.2.2.2.1
theorem dX6_back_10 : decode cX6_back 10 = .ok (.iconst 0, 1) := zd02dec4_113.2.2.2.2.2.1
theorem dX6_back_11 : decode cX6_back 11 = .ok (.istore_n 1, 1) := zd02dec4_113.2.2.2.2.2.2.1
theorem dX6_back_12 : decode cX6_back 12 = .ok (.iload_n 1, 1) := zd02dec4_113.2.2.2.2.2.2.2.1
theorem dX6_back_13 : decode cX6_back 13 = .ok (.bipush 12, 2) := zd02dec4_113.2.2.2.2.2.2.2.2.1
theorem dX6_back_15 : decode cX6_back 15 = .ok (.if_icmp .ge 36, 3) := zd02dec4_113.2.2.2.2.2.2.2.2.2.1
theorem dX6_back_18 : decode cX6_back 18 = .ok (.aload_n 0, 1) := zd02dec4_113.2.2.2.2.2.2.2.2.2.2.1
theorem dX6_back_19 : decode cX6_back 19 = .ok (.getfield 19, 3) := zd02dec4_113.2.2.2.2.2.2.2.2.2.2.2
theorem zd02dec4_114 : decode cX6_back 22 = .ok (.iload_n 1, 1) ∧ decode cX6_back 23 = .ok (.aload_n 0, 1) ∧ decode cX6_back 24 = .ok (.getfield 31, 3) ∧ decode cX6_back 27 = .ok (.iload_n 1, 1) ∧ decode cX6_back 28 = .ok (.iaload, 1) ∧ decode cX6_back 29 = .ok (.iastore, 1) ∧ decode cX6_back 30 = .ok (.aload_n 0, 1) ∧ decode cX6_back 31 = .ok (.getfield 16, 3) ∧ decode cX6_back 34 = .ok (.iload_n 1, 1) ∧ decode cX6_back 35 = .ok (.aload_n 0, 1) ∧ decode cX6_back 36 = .ok (.getfield 31, 3) ∧ decode cX6_back 39 = .ok (.bipush 12, 2) := by decide +kernel
theorem dX6_back_22 : decode cX6_back 22 = .ok (.iload_n 1, 1) := zd02dec4_114.1
theorem dX6_back_23 : decode cX6_back 23 = .ok (.aload_n 0, 1) := zd02dec4_114.2.1
theorem dX6_back_24 : decode cX6_back 24 = .ok (.getfield 31, 3) := zd02dec4_114.2.2.1
theorem dX6_back_27 : decode cX6_back 27 = .ok (.iload_n 1, 1) := zd02dec4_114.2.2.2.1
theorem dX6_back_28 : decode cX6_back 28 = .ok (.iaload, 1) := zd02dec4_114.2.2.2.2.1
theorem dX6_back_29 : decode cX6_back 29 = .ok (.iastore, 1) := zd02dec4_114.2.2.2.2.2.1
theorem dX6_back_30 : decode cX6_back 30 = .ok (.aload_n 0, 1) := zd02dec4_114.2.2.2.2.2.2.1
theorem dX6_back_31 : decode cX6_back 31 = .ok (.getfield 16, 3) := zd02dec4_114.2.2.2.2.2.2.2.1
theorem dX6_back_34 : decode cX6_back 34 = .ok (.iload_n 1, 1) := zd02dec4_114.2.2.2.2.2.2.2.2.1
theorem dX6_back_35 : decode cX6_back 35 = .ok (.aload_n 0, 1) := zd02dec4_114.2.2.2.2.2.2.2.2.2.1
theorem dX6_back_36 : decode cX6_back 36 = .ok (.getfield 31, 3) := zd02dec4_114.2.2.2.2.2.2.2.2.2.2.1
theorem dX6_back_39 : decode cX6_back 39 = .ok (.bipush 12, 2) := zd02dec4_114.2.2.2.2.2.2.2.2.2.2.2
theorem zd02dec4_115 : decode cX6_back 41 = .ok (.iload_n 1, 1) ∧ decode cX6_back 42 = .ok (.iadd, 1) ∧ decode cX6_back 43 = .ok (.iaload, 1) ∧ decode cX6_back 44 = .ok (.iastore, 1) ∧ decode cX6_back 45 = .ok (.iinc 1 1, 3) ∧ decode cX6_back 48 = .ok (.goto (-36), 3) ∧ decode cX6_back 51 = .ok (.aload_n 0, 1) ∧ decode cX6_back 52 = .ok (.aload_n 0, 1) ∧ decode cX6_back 53 = .ok (.getfield 34, 3) ∧ decode cX6_back 56 = .ok (.iconst 0, 1) ∧ decode cX6_back 57 = .ok (.iaload, 1) ∧ decode cX6_back 58 = .ok (.putfield 88, 3) := by decide +kernel
theorem dX6_back_41 : decode cX6_back 41 = .ok (.iload_n 1, 1) := zd02dec4_115.1
theorem dX6_back_42 : decode cX6_back 42 = .ok (.iadd, 1) := zd02dec4_115.2.1
theorem dX6_back_43 : decode cX6_back 43 = .ok (.iaload, 1) := zd02dec4_115.2.2.1
theorem dX6_back_44 : decode cX6_back 44 = .ok (.iastore, 1) := zd02dec4_115.2.2.2.1
theorem dX6_back_45 : decode cX6_back 45 = .ok (.iinc 1 1, 3) := zd02dec4_115.2.2.2.2.1
theorem dX6_back_48 : decode cX6_back 48 = .ok (.goto (-36), 3) := zd02dec4_115.2.2.2.2.2.1
theorem dX6_back_51 : decode cX6_back 51 = .ok (.aload_n 0, 1) := zd02dec4_115.2.2.2.2.2.2.1
theorem dX6_back_52 : decode cX6_back 52 = .ok (.aload_n 0, 1) := zd02dec4_115.2.2.2.2.2.2.2.1
theorem dX6_back_53 : decode cX6_back 53 = .ok (.getfield 34, 3) := zd02dec4_115.2.2.2.2.2.2.2.2.1
theorem dX6_back_56 : decode cX6_back 56 = .ok (.iconst 0, 1) := zd02dec4_115.2.2.2.2.2.2.2.2.2.1
theorem dX6_back_57 : decode cX6_back 57 = .ok (.iaload, 1) := zd02dec4_115.2.2.2.2.2.2.2.2.2.2.1
theorem dX6_back_58 : decode cX6_back 58 = .ok (.putfield 88, 3) := zd02dec4_115.2.2.2.2.2.2.2.2.2.2.2
theorem zd02dec4_116 : decode cX6_back 61 = .ok (.aload_n 0, 1) ∧ decode cX6_back 62 = .ok (.aload_n 0, 1) ∧ decode cX6_back 63 = .ok (.getfield 34, 3) ∧ decode cX6_back 66 = .ok (.iconst 1, 1) ∧ decode cX6_back 67 = .ok (.iaload, 1) ∧ decode cX6_back 68 = .ok (.putfield 95, 3) ∧ decode cX6_back 71 = .ok (.aload_n 0, 1) ∧ decode cX6_back 72 = .ok (.aload_n 0, 1) ∧ decode cX6_back 73 = .ok (.getfield 34, 3) ∧ decode cX6_back 76 = .ok (.iconst 2, 1) ∧ decode cX6_back 77 = .ok (.iaload, 1) ∧ decode cX6_back 78 = .ok (.putfield 101, 3) := by decide +kernel
theorem dX6_back_61 : decode cX6_back 61 = .ok (.aload_n 0, 1) := zd02dec4_116.1
theorem dX6_back_62 : decode cX6_back 62 = .ok (.aload_n 0, 1) := zd02dec4_116.2.1
theorem dX6_back_63 : decode cX6_back 63 = .ok (.getfield 34, 3) := zd02dec4_116.2.2.1
theorem dX6_back_66 : decode cX6_back 66 = .ok (.iconst 1, 1) := zd02dec4_116.2.2.2.1
theorem dX6_back_67 : decode cX6_back 67 = .ok (.iaload, 1) := zd02dec4_116.2.2.2.2.1
theorem dX6_back_68 : decode cX6_back 68 = .ok (.putfield 95, 3) := zd02dec4_116.2.2.2.2.2.1
theorem dX6_back_71 : decode cX6_back 71 = .ok (.aload_n 0, 1) := zd02dec4_116.2.2.2.2.2.2.1
theorem dX6_back_72 : decode cX6_back 72 = .ok (.aload_n 0, 1) := zd02dec4_116.2.2.2.2.2.2.2.1
theorem dX6_back_73 : decode cX6_back 73 = .ok (.getfield 34, 3) := zd02dec4_116.2.2.2.2.2.2.2.2.1
theorem dX6_back_76 : decode cX6_back 76 = .ok (.iconst 2, 1) := zd02dec4_116.2.2.2.2.2.2.2.2.2.1
theorem dX6_back_77 : decode cX6_back 77 = .ok (.iaload, 1) := zd02dec4_116.2.2.2.2.2.2.2.2.2.2.1
theorem dX6_back_78 : decode cX6_back 78 = .ok (.putfield 101, 3) := zd02dec4_116.2.2.2.2.2.2.2.2.2.2.2
theorem zd02dec4_117 : decode cX6_back 81 = .ok (.aload_n 0, 1) ∧ decode cX6_back 82 = .ok (.getfield 88, 3) ∧ decode cX6_back 85 = .ok (.ireturn, 1) := by decide +kernel
theorem dX6_back_81 : decode cX6_back 81 = .ok (.aload_n 0, 1) := zd02dec4_117.1
theorem dX6_back_82 : decode cX6_back 82 = .ok (.getfield 88, 3) := zd02dec4_117.2.1
theorem dX6_back_85 : decode cX6_back 85 = .ok (.ireturn, 1) := zd02dec4_117.2.2
theorem zd02dec4_118 : decode cX6_sheet 0 = .ok (.iload_n 1, 1) ∧ decode cX6_sheet 1 = .ok (.iconst 0, 1) ∧ decode cX6_sheet 2 = .ok (.iconst 3, 1) ∧ decode cX6_sheet 3 = .ok (.invokestatic 91, 3) ∧ decode cX6_sheet 6 = .ok (.ifCond .eq 23, 3) ∧ decode cX6_sheet 9 = .ok (.iload_n 2, 1) ∧ decode cX6_sheet 10 = .ok (.iconst (-1), 1) ∧ decode cX6_sheet 11 = .ok (.iconst 2, 1) ∧ decode cX6_sheet 12 = .ok (.invokestatic 91, 3) ∧ decode cX6_sheet 15 = .ok (.ifCond .eq 14, 3) ∧ decode cX6_sheet 18 = .ok (.iload_n 2, 1) ∧ decode cX6_sheet 19 = .ok (.iconst (-1), 1) := by decide +kernel
theorem dX6_sheet_0 : decode cX6_sheet 0 = .ok (.iload_n 1, 1) := zd02dec4_118.1
theorem dX6_sheet_1 : decode cX6_sheet 1 = .ok (.iconst 0, 1) := zd02dec4_118.2.1
theorem dX6_sheet_2 : decode cX6_sheet 2 = .ok (.iconst 3, 1) := zd02dec4_118.2.2.1
theorem dX6_sheet_3 : decode cX6_sheet 3 = .ok (.invokestatic 91, 3) := zd02dec4_118.2.2.2.1
theorem dX6_sheet_6 : decode cX6_sheet 6 = .ok (.ifCond .eq 23, 3) := zd02dec4_118.2.2.2.2.1
theorem dX6_sheet_9 : decode cX6_sheet 9 = .ok (.iload_n 2, 1) := zd02dec4_118.2.2.2.2.2.1
theorem dX6_sheet_10 : decode cX6_sheet 10 = .ok (.iconst (-1), 1) := zd02dec4_118.2.2.2.2.2.2.1
theorem dX6_sheet_11 : decode cX6_sheet 11 = .ok (.iconst 2, 1) := zd02dec4_118.2.2.2.2.2.2.2.1
theorem dX6_sheet_12 : decode cX6_sheet 12 = .ok (.invokestatic 91, 3) := zd02dec4_118.2.2.2.2.2.2.2.2.1
theorem dX6_sheet_15 : decode cX6_sheet 15 = .ok (.ifCond .eq 14, 3) := zd02dec4_118.2.2.2.2.2.2.2.2.2.1
theorem dX6_sheet_18 : decode cX6_sheet 18 = .ok (.iload_n 2, 1) := zd02dec4_118.2.2.2.2.2.2.2.2.2.2.1
theorem dX6_sheet_19 : decode cX6_sheet 19 = .ok (.iconst (-1), 1) := zd02dec4_118.2.2.2.2.2.2.2.2.2.2.2
theorem zd02dec4_119 : decode cX6_sheet 20 = .ok (.if_icmp .eq 12, 3) ∧ decode cX6_sheet 23 = .ok (.iload_n 3, 1) ∧ decode cX6_sheet 24 = .ok (.bipush 40, 2) ∧ decode cX6_sheet 26 = .ok (.if_icmp .le 6, 3) ∧ decode cX6_sheet 29 = .ok (.bipush (-2), 2) ∧ decode cX6_sheet 31 = .ok (.ireturn, 1) ∧ decode cX6_sheet 32 = .ok (.iload_n 2, 1) ∧ decode cX6_sheet 33 = .ok (.iconst (-1), 1) ∧ decode cX6_sheet 34 = .ok (.if_icmp .eq 10, 3) ∧ decode cX6_sheet 37 = .ok (.iload_n 3, 1) ∧ decode cX6_sheet 38 = .ok (.ifCond .ge 6, 3) ∧ decode cX6_sheet 41 = .ok (.bipush (-14), 2) := by decide +kernel
theorem dX6_sheet_20 : decode cX6_sheet 20 = .ok (.if_icmp .eq 12, 3) := zd02dec4_119.1
theorem dX6_sheet_23 : decode cX6_sheet 23 = .ok (.iload_n 3, 1) := zd02dec4_119.2.1
theorem dX6_sheet_24 : decode cX6_sheet 24 = .ok (.bipush 40, 2) := zd02dec4_119.2.2.1
theorem dX6_sheet_26 : decode cX6_sheet 26 = .ok (.if_icmp .le 6, 3) := zd02dec4_119.2.2.2.1
theorem dX6_sheet_29 : decode cX6_sheet 29 = .ok (.bipush (-2), 2) := zd02dec4_119.2.2.2.2.1
theorem dX6_sheet_31 : decode cX6_sheet 31 = .ok (.ireturn, 1) := zd02dec4_119.2.2.2.2.2.1
theorem dX6_sheet_32 : decode cX6_sheet 32 = .ok (.iload_n 2, 1) := zd02dec4_119.2.2.2.2.2.2.1
theorem dX6_sheet_33 : decode cX6_sheet 33 = .ok (.iconst (-1), 1) := zd02dec4_119.2.2.2.2.2.2.2.1
theorem dX6_sheet_34 : decode cX6_sheet 34 = .ok (.if_icmp .eq 10, 3) := zd02dec4_119.2.2.2.2.2.2.2.2.1
theorem dX6_sheet_37 : decode cX6_sheet 37 = .ok (.iload_n 3, 1) := zd02dec4_119.2.2.2.2.2.2.2.2.2.1
theorem dX6_sheet_38 : decode cX6_sheet 38 = .ok (.ifCond .ge 6, 3) := zd02dec4_119.2.2.2.2.2.2.2.2.2.2.1
theorem dX6_sheet_41 : decode cX6_sheet 41 = .ok (.bipush (-14), 2) := zd02dec4_119.2.2.2.2.2.2.2.2.2.2.2
theorem zd02dec4_120 : decode cX6_sheet 43 = .ok (.ireturn, 1) ∧ decode cX6_sheet 44 = .ok (.aload_n 0, 1) ∧ decode cX6_sheet 45 = .ok (.getfield 37, 3) ∧ decode cX6_sheet 48 = .ok (.iload_n 1, 1) ∧ decode cX6_sheet 49 = .ok (.iload_n 2, 1) ∧ decode cX6_sheet 50 = .ok (.iastore, 1) ∧ decode cX6_sheet 51 = .ok (.aload_n 0, 1) ∧ decode cX6_sheet 52 = .ok (.getfield 40, 3) ∧ decode cX6_sheet 55 = .ok (.iload_n 1, 1) ∧ decode cX6_sheet 56 = .ok (.iload_n 2, 1) ∧ decode cX6_sheet 57 = .ok (.iconst (-1), 1) ∧ decode cX6_sheet 58 = .ok (.if_icmp .ne 7, 3) := by decide +kernel
theorem dX6_sheet_43 : decode cX6_sheet 43 = .ok (.ireturn, 1) := zd02dec4_120.1
theorem dX6_sheet_44 : decode cX6_sheet 44 = .ok (.aload_n 0, 1) := zd02dec4_120.2.1
theorem dX6_sheet_45 : decode cX6_sheet 45 = .ok (.getfield 37, 3) := zd02dec4_120.2.2.1
theorem dX6_sheet_48 : decode cX6_sheet 48 = .ok (.iload_n 1, 1) := zd02dec4_120.2.2.2.1
theorem dX6_sheet_49 : decode cX6_sheet 49 = .ok (.iload_n 2, 1) := zd02dec4_120.2.2.2.2.1
theorem dX6_sheet_50 : decode cX6_sheet 50 = .ok (.iastore, 1) := zd02dec4_120.2.2.2.2.2.1
theorem dX6_sheet_51 : decode cX6_sheet 51 = .ok (.aload_n 0, 1) := zd02dec4_120.2.2.2.2.2.2.1
theorem dX6_sheet_52 : decode cX6_sheet 52 = .ok (.getfield 40, 3) := zd02dec4_120.2.2.2.2.2.2.2.1
theorem dX6_sheet_55 : decode cX6_sheet 55 = .ok (.iload_n 1, 1) := zd02dec4_120.2.2.2.2.2.2.2.2.1
theorem dX6_sheet_56 : decode cX6_sheet 56 = .ok (.iload_n 2, 1) := zd02dec4_120.2.2.2.2.2.2.2.2.2.1
theorem dX6_sheet_57 : decode cX6_sheet 57 = .ok (.iconst (-1), 1) := zd02dec4_120.2.2.2.2.2.2.2.2.2.2.1
theorem dX6_sheet_58 : decode cX6_sheet 58 = .ok (.if_icmp .ne 7, 3) := zd02dec4_120.2.2.2.2.2.2.2.2.2.2.2
theorem zd02dec4_121 : decode cX6_sheet 61 = .ok (.iconst 0, 1) ∧ decode cX6_sheet 62 = .ok (.goto 4, 3) ∧ decode cX6_sheet 65 = .ok (.iload_n 3, 1) ∧ decode cX6_sheet 66 = .ok (.iastore, 1) ∧ decode cX6_sheet 67 = .ok (.iconst 0, 1) ∧ decode cX6_sheet 68 = .ok (.istore 4, 2) ∧ decode cX6_sheet 70 = .ok (.iload 4, 2) ∧ decode cX6_sheet 72 = .ok (.bipush 40, 2) ∧ decode cX6_sheet 74 = .ok (.if_icmp .ge 22, 3) ∧ decode cX6_sheet 77 = .ok (.aload_n 0, 1) ∧ decode cX6_sheet 78 = .ok (.getfield 43, 3) ∧ decode cX6_sheet 81 = .ok (.bipush 40, 2) := by decide +kernel
theorem dX6_sheet_61 : decode cX6_sheet 61 = .ok (.iconst 0, 1) := zd02dec4_121.1
theorem dX6_sheet_62 : decode cX6_sheet 62 = .ok (.goto 4, 3) := zd02dec4_121.2.1
theorem dX6_sheet_65 : decode cX6_sheet 65 = .ok (.iload_n 3, 1) := zd02dec4_121.2.2.1
theorem dX6_sheet_66 : decode cX6_sheet 66 = .ok (.iastore, 1) := zd02dec4_121.2.2.2.1
theorem dX6_sheet_67 : decode cX6_sheet 67 = .ok (.iconst 0, 1) := zd02dec4_121.2.2.2.2.1
theorem dX6_sheet_68 : decode cX6_sheet 68 = .ok (.istore 4, 2) := zd02dec4_121.2.2.2.2.2.1
theorem dX6_sheet_70 : decode cX6_sheet 70 = .ok (.iload 4, 2) := zd02dec4_121.2.2.2.2.2.2.1
theorem dX6_sheet_72 : decode cX6_sheet 72 = .ok (.bipush 40, 2) := zd02dec4_121.2.2.2.2.2.2.2.1
theorem dX6_sheet_74 : decode cX6_sheet 74 = .ok (.if_icmp .ge 22, 3) := zd02dec4_121.2.2.2.2.2.2.2.2.1
theorem dX6_sheet_77 : decode cX6_sheet 77 = .ok (.aload_n 0, 1) := zd02dec4_121.2.2.2.2.2.2.2.2.2.1
theorem dX6_sheet_78 : decode cX6_sheet 78 = .ok (.getfield 43, 3) := zd02dec4_121.2.2.2.2.2.2.2.2.2.2.1
theorem dX6_sheet_81 : decode cX6_sheet 81 = .ok (.bipush 40, 2) := zd02dec4_121.2.2.2.2.2.2.2.2.2.2.2
theorem zd02dec4_122 : decode cX6_sheet 83 = .ok (.iload_n 1, 1) ∧ decode cX6_sheet 84 = .ok (.imul, 1) ∧ decode cX6_sheet 85 = .ok (.iload 4, 2) ∧ decode cX6_sheet 87 = .ok (.iadd, 1) ∧ decode cX6_sheet 88 = .ok (.iconst 0, 1) ∧ decode cX6_sheet 89 = .ok (.iastore, 1) ∧ decode cX6_sheet 90 = .ok (.iinc 4 1, 3) ∧ decode cX6_sheet 93 = .ok (.goto (-23), 3) ∧ decode cX6_sheet 96 = .ok (.iconst 1, 1) ∧ decode cX6_sheet 97 = .ok (.ireturn, 1) := by decide +kernel
theorem dX6_sheet_83 : decode cX6_sheet 83 = .ok (.iload_n 1, 1) := zd02dec4_122.1
theorem dX6_sheet_84 : decode cX6_sheet 84 = .ok (.imul, 1) := zd02dec4_122.2.1
theorem dX6_sheet_85 : decode cX6_sheet 85 = .ok (.iload 4, 2) := zd02dec4_122.2.2.1
theorem dX6_sheet_87 : decode cX6_sheet 87 = .ok (.iadd, 1) := zd02dec4_122.2.2.2.1
theorem dX6_sheet_88 : decode cX6_sheet 88 = .ok (.iconst 0, 1) := zd02dec4_122.2.2.2.2.1
theorem dX6_sheet_89 : decode cX6_sheet 89 = .ok (.iastore, 1) := zd02dec4_122.2.2.2.2.2.1
theorem dX6_sheet_90 : decode cX6_sheet 90 = .ok (.iinc 4 1, 3) := zd02dec4_122.2.2.2.2.2.2.1
theorem dX6_sheet_93 : decode cX6_sheet 93 = .ok (.goto (-23), 3) := zd02dec4_122.2.2.2.2.2.2.2.1
theorem dX6_sheet_96 : decode cX6_sheet 96 = .ok (.iconst 1, 1) := zd02dec4_122.2.2.2.2.2.2.2.2.1
theorem dX6_sheet_97 : decode cX6_sheet 97 = .ok (.ireturn, 1) := zd02dec4_122.2.2.2.2.2.2.2.2.2
theorem zd02dec4_123 : decode cX6_cell 0 = .ok (.iload_n 1, 1) ∧ decode cX6_cell 1 = .ok (.iconst 0, 1) ∧ decode cX6_cell 2 = .ok (.iconst 3, 1) ∧ decode cX6_cell 3 = .ok (.invokestatic 91, 3) ∧ decode cX6_cell 6 = .ok (.ifCond .ne 6, 3) ∧ decode cX6_cell 9 = .ok (.bipush (-2), 2) ∧ decode cX6_cell 11 = .ok (.ireturn, 1) ∧ decode cX6_cell 12 = .ok (.aload_n 0, 1) ∧ decode cX6_cell 13 = .ok (.getfield 37, 3) ∧ decode cX6_cell 16 = .ok (.iload_n 1, 1) ∧ decode cX6_cell 17 = .ok (.iaload, 1) ∧ decode cX6_cell 18 = .ok (.iconst (-1), 1) := by decide +kernel
theorem dX6_cell_0 : decode cX6_cell 0 = .ok (.iload_n 1, 1) := zd02dec4_123.1
theorem dX6_cell_1 : decode cX6_cell 1 = .ok (.iconst 0, 1) := zd02dec4_123.2.1
theorem dX6_cell_2 : decode cX6_cell 2 = .ok (.iconst 3, 1) := zd02dec4_123.2.2.1
theorem dX6_cell_3 : decode cX6_cell 3 = .ok (.invokestatic 91, 3) := zd02dec4_123.2.2.2.1
theorem dX6_cell_6 : decode cX6_cell 6 = .ok (.ifCond .ne 6, 3) := zd02dec4_123.2.2.2.2.1
theorem dX6_cell_9 : decode cX6_cell 9 = .ok (.bipush (-2), 2) := zd02dec4_123.2.2.2.2.2.1
theorem dX6_cell_11 : decode cX6_cell 11 = .ok (.ireturn, 1) := zd02dec4_123.2.2.2.2.2.2.1
theorem dX6_cell_12 : decode cX6_cell 12 = .ok (.aload_n 0, 1) := zd02dec4_123.2.2.2.2.2.2.2.1
theorem dX6_cell_13 : decode cX6_cell 13 = .ok (.getfield 37, 3) := zd02dec4_123.2.2.2.2.2.2.2.2.1
theorem dX6_cell_16 : decode cX6_cell 16 = .ok (.iload_n 1, 1) := zd02dec4_123.2.2.2.2.2.2.2.2.2.1
theorem dX6_cell_17 : decode cX6_cell 17 = .ok (.iaload, 1) := zd02dec4_123.2.2.2.2.2.2.2.2.2.2.1
theorem dX6_cell_18 : decode cX6_cell 18 = .ok (.iconst (-1), 1) := zd02dec4_123.2.2.2.2.2.2.2.2.2.2.2
theorem zd02dec4_124 : decode cX6_cell 19 = .ok (.if_icmp .ne 6, 3) ∧ decode cX6_cell 22 = .ok (.bipush (-11), 2) ∧ decode cX6_cell 24 = .ok (.ireturn, 1) ∧ decode cX6_cell 25 = .ok (.iload_n 2, 1) ∧ decode cX6_cell 26 = .ok (.iconst 0, 1) ∧ decode cX6_cell 27 = .ok (.aload_n 0, 1) ∧ decode cX6_cell 28 = .ok (.getfield 40, 3) ∧ decode cX6_cell 31 = .ok (.iload_n 1, 1) ∧ decode cX6_cell 32 = .ok (.iaload, 1) ∧ decode cX6_cell 33 = .ok (.iconst 1, 1) ∧ decode cX6_cell 34 = .ok (.isub, 1) ∧ decode cX6_cell 35 = .ok (.invokestatic 91, 3) := by decide +kernel
theorem dX6_cell_19 : decode cX6_cell 19 = .ok (.if_icmp .ne 6, 3) := zd02dec4_124.1
theorem dX6_cell_22 : decode cX6_cell 22 = .ok (.bipush (-11), 2) := zd02dec4_124.2.1
theorem dX6_cell_24 : decode cX6_cell 24 = .ok (.ireturn, 1) := zd02dec4_124.2.2.1
theorem dX6_cell_25 : decode cX6_cell 25 = .ok (.iload_n 2, 1) := zd02dec4_124.2.2.2.1
theorem dX6_cell_26 : decode cX6_cell 26 = .ok (.iconst 0, 1) := zd02dec4_124.2.2.2.2.1
theorem dX6_cell_27 : decode cX6_cell 27 = .ok (.aload_n 0, 1) := zd02dec4_124.2.2.2.2.2.1
theorem dX6_cell_28 : decode cX6_cell 28 = .ok (.getfield 40, 3) := zd02dec4_124.2.2.2.2.2.2.1
theorem dX6_cell_31 : decode cX6_cell 31 = .ok (.iload_n 1, 1) := zd02dec4_124.2.2.2.2.2.2.2.1
theorem dX6_cell_32 : decode cX6_cell 32 = .ok (.iaload, 1) := zd02dec4_124.2.2.2.2.2.2.2.2.1
theorem dX6_cell_33 : decode cX6_cell 33 = .ok (.iconst 1, 1) := zd02dec4_124.2.2.2.2.2.2.2.2.2.1
theorem dX6_cell_34 : decode cX6_cell 34 = .ok (.isub, 1) := zd02dec4_124.2.2.2.2.2.2.2.2.2.2.1
theorem dX6_cell_35 : decode cX6_cell 35 = .ok (.invokestatic 91, 3) := zd02dec4_124.2.2.2.2.2.2.2.2.2.2.2
theorem zd02dec4_125 : decode cX6_cell 38 = .ok (.ifCond .ne 6, 3) ∧ decode cX6_cell 41 = .ok (.bipush (-12), 2) ∧ decode cX6_cell 43 = .ok (.ireturn, 1) ∧ decode cX6_cell 44 = .ok (.aload_n 0, 1) ∧ decode cX6_cell 45 = .ok (.getfield 43, 3) ∧ decode cX6_cell 48 = .ok (.bipush 40, 2) ∧ decode cX6_cell 50 = .ok (.iload_n 1, 1) ∧ decode cX6_cell 51 = .ok (.imul, 1) ∧ decode cX6_cell 52 = .ok (.iload_n 2, 1) ∧ decode cX6_cell 53 = .ok (.iadd, 1) ∧ decode cX6_cell 54 = .ok (.aload_n 0, 1) ∧ decode cX6_cell 55 = .ok (.getfield 37, 3) := by decide +kernel
theorem dX6_cell_38 : decode cX6_cell 38 = .ok (.ifCond .ne 6, 3) := zd02dec4_125.1
theorem dX6_cell_41 : decode cX6_cell 41 = .ok (.bipush (-12), 2) := zd02dec4_125.2.1
theorem dX6_cell_43 : decode cX6_cell 43 = .ok (.ireturn, 1) := zd02dec4_125.2.2.1
theorem dX6_cell_44 : decode cX6_cell 44 = .ok (.aload_n 0, 1) := zd02dec4_125.2.2.2.1
theorem dX6_cell_45 : decode cX6_cell 45 = .ok (.getfield 43, 3) := zd02dec4_125.2.2.2.2.1
theorem dX6_cell_48 : decode cX6_cell 48 = .ok (.bipush 40, 2) := zd02dec4_125.2.2.2.2.2.1
theorem dX6_cell_50 : decode cX6_cell 50 = .ok (.iload_n 1, 1) := zd02dec4_125.2.2.2.2.2.2.1
theorem dX6_cell_51 : decode cX6_cell 51 = .ok (.imul, 1) := zd02dec4_125.2.2.2.2.2.2.2.1
theorem dX6_cell_52 : decode cX6_cell 52 = .ok (.iload_n 2, 1) := zd02dec4_125.2.2.2.2.2.2.2.2.1
theorem dX6_cell_53 : decode cX6_cell 53 = .ok (.iadd, 1) := zd02dec4_125.2.2.2.2.2.2.2.2.2.1
theorem dX6_cell_54 : decode cX6_cell 54 = .ok (.aload_n 0, 1) := zd02dec4_125.2.2.2.2.2.2.2.2.2.2.1
theorem dX6_cell_55 : decode cX6_cell 55 = .ok (.getfield 37, 3) := zd02dec4_125.2.2.2.2.2.2.2.2.2.2.2
theorem zd02dec4_126 : decode cX6_cell 58 = .ok (.iload_n 1, 1) ∧ decode cX6_cell 59 = .ok (.iaload, 1) ∧ decode cX6_cell 60 = .ok (.ifCond .ne 8, 3) ∧ decode cX6_cell 63 = .ok (.iload_n 3, 1) ∧ decode cX6_cell 64 = .ok (.i2b, 1) ∧ decode cX6_cell 65 = .ok (.goto 19, 3) ∧ decode cX6_cell 68 = .ok (.aload_n 0, 1) ∧ decode cX6_cell 69 = .ok (.getfield 37, 3) ∧ decode cX6_cell 72 = .ok (.iload_n 1, 1) ∧ decode cX6_cell 73 = .ok (.iaload, 1) ∧ decode cX6_cell 74 = .ok (.iconst 1, 1) ∧ decode cX6_cell 75 = .ok (.if_icmp .ne 8, 3) := by decide +kernel
theorem dX6_cell_58 : decode cX6_cell 58 = .ok (.iload_n 1, 1) := zd02dec4_126.1
theorem dX6_cell_59 : decode cX6_cell 59 = .ok (.iaload, 1) := zd02dec4_126.2.1
theorem dX6_cell_60 : decode cX6_cell 60 = .ok (.ifCond .ne 8, 3) := zd02dec4_126.2.2.1
theorem dX6_cell_63 : decode cX6_cell 63 = .ok (.iload_n 3, 1) := zd02dec4_126.2.2.2.1
theorem dX6_cell_64 : decode cX6_cell 64 = .ok (.i2b, 1) := zd02dec4_126.2.2.2.2.1
theorem dX6_cell_65 : decode cX6_cell 65 = .ok (.goto 19, 3) := zd02dec4_126.2.2.2.2.2.1
theorem dX6_cell_68 : decode cX6_cell 68 = .ok (.aload_n 0, 1) := zd02dec4_126.2.2.2.2.2.2.1
theorem dX6_cell_69 : decode cX6_cell 69 = .ok (.getfield 37, 3) := zd02dec4_126.2.2.2.2.2.2.2.1
theorem dX6_cell_72 : decode cX6_cell 72 = .ok (.iload_n 1, 1) := zd02dec4_126.2.2.2.2.2.2.2.2.1
theorem dX6_cell_73 : decode cX6_cell 73 = .ok (.iaload, 1) := zd02dec4_126.2.2.2.2.2.2.2.2.2.1
theorem dX6_cell_74 : decode cX6_cell 74 = .ok (.iconst 1, 1) := zd02dec4_126.2.2.2.2.2.2.2.2.2.2.1
theorem dX6_cell_75 : decode cX6_cell 75 = .ok (.if_icmp .ne 8, 3) := zd02dec4_126.2.2.2.2.2.2.2.2.2.2.2
theorem zd02dec4_127 : decode cX6_cell 78 = .ok (.iload_n 3, 1) ∧ decode cX6_cell 79 = .ok (.i2s, 1) ∧ decode cX6_cell 80 = .ok (.goto 4, 3) ∧ decode cX6_cell 83 = .ok (.iload_n 3, 1) ∧ decode cX6_cell 84 = .ok (.iastore, 1) ∧ decode cX6_cell 85 = .ok (.iconst 1, 1) ∧ decode cX6_cell 86 = .ok (.ireturn, 1) := by decide +kernel
theorem dX6_cell_78 : decode cX6_cell 78 = .ok (.iload_n 3, 1) := zd02dec4_127.1
theorem dX6_cell_79 : decode cX6_cell 79 = .ok (.i2s, 1) := zd02dec4_127.2.1
theorem dX6_cell_80 : decode cX6_cell 80 = .ok (.goto 4, 3) := zd02dec4_127.2.2.1
theorem dX6_cell_83 : decode cX6_cell 83 = .ok (.iload_n 3, 1) := zd02dec4_127.2.2.2.1
theorem dX6_cell_84 : decode cX6_cell 84 = .ok (.iastore, 1) := zd02dec4_127.2.2.2.2.1
theorem dX6_cell_85 : decode cX6_cell 85 = .ok (.iconst 1, 1) := zd02dec4_127.2.2.2.2.2.1
theorem dX6_cell_86 : decode cX6_cell 86 = .ok (.ireturn, 1) := zd02dec4_127.2.2.2.2.2.2
theorem zd02dec4_128 : decode cX6_copy 0 = .ok (.iload_n 1, 1) ∧ decode cX6_copy 1 = .ok (.iconst 0, 1) ∧ decode cX6_copy 2 = .ok (.iconst 3, 1) ∧ decode cX6_copy 3 = .ok (.invokestatic 91, 3) ∧ decode cX6_copy 6 = .ok (.ifCond .eq 12, 3) ∧ decode cX6_copy 9 = .ok (.iload_n 3, 1) ∧ decode cX6_copy 10 = .ok (.iconst 0, 1) ∧ decode cX6_copy 11 = .ok (.iconst 3, 1) ∧ decode cX6_copy 12 = .ok (.invokestatic 91, 3) ∧ decode cX6_copy 15 = .ok (.ifCond .ne 6, 3) ∧ decode cX6_copy 18 = .ok (.bipush (-2), 2) ∧ decode cX6_copy 20 = .ok (.ireturn, 1) := by decide +kernel
theorem dX6_copy_0 : decode cX6_copy 0 = .ok (.iload_n 1, 1) := zd02dec4_128.1
theorem dX6_copy_1 : decode cX6_copy 1 = .ok (.iconst 0, 1) := zd02dec4_128.2.1
theorem dX6_copy_2 : decode cX6_copy 2 = .ok (.iconst 3, 1) := zd02dec4_128.2.2.1
theorem dX6_copy_3 : decode cX6_copy 3 = .ok (.invokestatic 91, 3) := zd02dec4_128.2.2.2.1
theorem dX6_copy_6 : decode cX6_copy 6 = .ok (.ifCond .eq 12, 3) := zd02dec4_128.2.2.2.2.1
theorem dX6_copy_9 : decode cX6_copy 9 = .ok (.iload_n 3, 1) := zd02dec4_128.2.2.2.2.2.1
theorem dX6_copy_10 : decode cX6_copy 10 = .ok (.iconst 0, 1) := zd02dec4_128.2.2.2.2.2.2.1
theorem dX6_copy_11 : decode cX6_copy 11 = .ok (.iconst 3, 1) := zd02dec4_128.2.2.2.2.2.2.2.1
theorem dX6_copy_12 : decode cX6_copy 12 = .ok (.invokestatic 91, 3) := zd02dec4_128.2.2.2.2.2.2.2.2.1
theorem dX6_copy_15 : decode cX6_copy 15 = .ok (.ifCond .ne 6, 3) := zd02dec4_128.2.2.2.2.2.2.2.2.2.1
theorem dX6_copy_18 : decode cX6_copy 18 = .ok (.bipush (-2), 2) := zd02dec4_128.2.2.2.2.2.2.2.2.2.2.1
theorem dX6_copy_20 : decode cX6_copy 20 = .ok (.ireturn, 1) := zd02dec4_128.2.2.2.2.2.2.2.2.2.2.2
theorem zd02dec4_129 : decode cX6_copy 21 = .ok (.aload_n 0, 1) ∧ decode cX6_copy 22 = .ok (.getfield 37, 3) ∧ decode cX6_copy 25 = .ok (.iload_n 1, 1) ∧ decode cX6_copy 26 = .ok (.iaload, 1) ∧ decode cX6_copy 27 = .ok (.iconst (-1), 1) ∧ decode cX6_copy 28 = .ok (.if_icmp .eq 13, 3) ∧ decode cX6_copy 31 = .ok (.aload_n 0, 1) ∧ decode cX6_copy 32 = .ok (.getfield 37, 3) ∧ decode cX6_copy 35 = .ok (.iload_n 3, 1) ∧ decode cX6_copy 36 = .ok (.iaload, 1) ∧ decode cX6_copy 37 = .ok (.iconst (-1), 1) ∧ decode cX6_copy 38 = .ok (.if_icmp .ne 6, 3) := by decide +kernel
theorem dX6_copy_21 : decode cX6_copy 21 = .ok (.aload_n 0, 1) := zd02dec4_129.1
theorem dX6_copy_22 : decode cX6_copy 22 = .ok (.getfield 37, 3) := zd02dec4_129.2.1
theorem dX6_copy_25 : decode cX6_copy 25 = .ok (.iload_n 1, 1) := zd02dec4_129.2.2.1
theorem dX6_copy_26 : decode cX6_copy 26 = .ok (.iaload, 1) := zd02dec4_129.2.2.2.1
theorem dX6_copy_27 : decode cX6_copy 27 = .ok (.iconst (-1), 1) := zd02dec4_129.2.2.2.2.1
theorem dX6_copy_28 : decode cX6_copy 28 = .ok (.if_icmp .eq 13, 3) := zd02dec4_129.2.2.2.2.2.1
theorem dX6_copy_31 : decode cX6_copy 31 = .ok (.aload_n 0, 1) := zd02dec4_129.2.2.2.2.2.2.1
theorem dX6_copy_32 : decode cX6_copy 32 = .ok (.getfield 37, 3) := zd02dec4_129.2.2.2.2.2.2.2.1
theorem dX6_copy_35 : decode cX6_copy 35 = .ok (.iload_n 3, 1) := zd02dec4_129.2.2.2.2.2.2.2.2.1
theorem dX6_copy_36 : decode cX6_copy 36 = .ok (.iaload, 1) := zd02dec4_129.2.2.2.2.2.2.2.2.2.1
theorem dX6_copy_37 : decode cX6_copy 37 = .ok (.iconst (-1), 1) := zd02dec4_129.2.2.2.2.2.2.2.2.2.2.1
theorem dX6_copy_38 : decode cX6_copy 38 = .ok (.if_icmp .ne 6, 3) := zd02dec4_129.2.2.2.2.2.2.2.2.2.2.2
theorem zd02dec4_130 : decode cX6_copy 41 = .ok (.bipush (-11), 2) ∧ decode cX6_copy 43 = .ok (.ireturn, 1) ∧ decode cX6_copy 44 = .ok (.aload_n 0, 1) ∧ decode cX6_copy 45 = .ok (.getfield 37, 3) ∧ decode cX6_copy 48 = .ok (.iload_n 1, 1) ∧ decode cX6_copy 49 = .ok (.iaload, 1) ∧ decode cX6_copy 50 = .ok (.aload_n 0, 1) ∧ decode cX6_copy 51 = .ok (.getfield 37, 3) ∧ decode cX6_copy 54 = .ok (.iload_n 3, 1) ∧ decode cX6_copy 55 = .ok (.iaload, 1) ∧ decode cX6_copy 56 = .ok (.if_icmp .eq 6, 3) ∧ decode cX6_copy 59 = .ok (.bipush (-13), 2) := by decide +kernel
theorem dX6_copy_41 : decode cX6_copy 41 = .ok (.bipush (-11), 2) := zd02dec4_130.1
theorem dX6_copy_43 : decode cX6_copy 43 = .ok (.ireturn, 1) := zd02dec4_130.2.1
theorem dX6_copy_44 : decode cX6_copy 44 = .ok (.aload_n 0, 1) := zd02dec4_130.2.2.1
theorem dX6_copy_45 : decode cX6_copy 45 = .ok (.getfield 37, 3) := zd02dec4_130.2.2.2.1
theorem dX6_copy_48 : decode cX6_copy 48 = .ok (.iload_n 1, 1) := zd02dec4_130.2.2.2.2.1
theorem dX6_copy_49 : decode cX6_copy 49 = .ok (.iaload, 1) := zd02dec4_130.2.2.2.2.2.1
theorem dX6_copy_50 : decode cX6_copy 50 = .ok (.aload_n 0, 1) := zd02dec4_130.2.2.2.2.2.2.1
theorem dX6_copy_51 : decode cX6_copy 51 = .ok (.getfield 37, 3) := zd02dec4_130.2.2.2.2.2.2.2.1
theorem dX6_copy_54 : decode cX6_copy 54 = .ok (.iload_n 3, 1) := zd02dec4_130.2.2.2.2.2.2.2.2.1
theorem dX6_copy_55 : decode cX6_copy 55 = .ok (.iaload, 1) := zd02dec4_130.2.2.2.2.2.2.2.2.2.1
theorem dX6_copy_56 : decode cX6_copy 56 = .ok (.if_icmp .eq 6, 3) := zd02dec4_130.2.2.2.2.2.2.2.2.2.2.1
theorem dX6_copy_59 : decode cX6_copy 59 = .ok (.bipush (-13), 2) := zd02dec4_130.2.2.2.2.2.2.2.2.2.2.2
theorem zd02dec4_131 : decode cX6_copy 61 = .ok (.ireturn, 1) ∧ decode cX6_copy 62 = .ok (.iload 5, 2) ∧ decode cX6_copy 64 = .ok (.ifCond .lt 60, 3) ∧ decode cX6_copy 67 = .ok (.iload_n 2, 1) ∧ decode cX6_copy 68 = .ok (.ifCond .lt 56, 3) ∧ decode cX6_copy 71 = .ok (.iload 4, 2) ∧ decode cX6_copy 73 = .ok (.ifCond .lt 51, 3) ∧ decode cX6_copy 76 = .ok (.iload_n 2, 1) ∧ decode cX6_copy 77 = .ok (.aload_n 0, 1) ∧ decode cX6_copy 78 = .ok (.getfield 40, 3) ∧ decode cX6_copy 81 = .ok (.iload_n 1, 1) ∧ decode cX6_copy 82 = .ok (.iaload, 1) := by decide +kernel
theorem dX6_copy_61 : decode cX6_copy 61 = .ok (.ireturn, 1) := zd02dec4_131.1
theorem dX6_copy_62 : decode cX6_copy 62 = .ok (.iload 5, 2) := zd02dec4_131.2.1
theorem dX6_copy_64 : decode cX6_copy 64 = .ok (.ifCond .lt 60, 3) := zd02dec4_131.2.2.1
theorem dX6_copy_67 : decode cX6_copy 67 = .ok (.iload_n 2, 1) := zd02dec4_131.2.2.2.1
theorem dX6_copy_68 : decode cX6_copy 68 = .ok (.ifCond .lt 56, 3) := zd02dec4_131.2.2.2.2.1
theorem dX6_copy_71 : decode cX6_copy 71 = .ok (.iload 4, 2) := zd02dec4_131.2.2.2.2.2.1
theorem dX6_copy_73 : decode cX6_copy 73 = .ok (.ifCond .lt 51, 3) := zd02dec4_131.2.2.2.2.2.2.1
theorem dX6_copy_76 : decode cX6_copy 76 = .ok (.iload_n 2, 1) := zd02dec4_131.2.2.2.2.2.2.2.1
theorem dX6_copy_77 : decode cX6_copy 77 = .ok (.aload_n 0, 1) := zd02dec4_131.2.2.2.2.2.2.2.2.1
theorem dX6_copy_78 : decode cX6_copy 78 = .ok (.getfield 40, 3) := zd02dec4_131.2.2.2.2.2.2.2.2.2.1
theorem dX6_copy_81 : decode cX6_copy 81 = .ok (.iload_n 1, 1) := zd02dec4_131.2.2.2.2.2.2.2.2.2.2.1
theorem dX6_copy_82 : decode cX6_copy 82 = .ok (.iaload, 1) := zd02dec4_131.2.2.2.2.2.2.2.2.2.2.2
theorem zd02dec4_132 : decode cX6_copy 83 = .ok (.if_icmp .gt 41, 3) ∧ decode cX6_copy 86 = .ok (.iload 4, 2) ∧ decode cX6_copy 88 = .ok (.aload_n 0, 1) ∧ decode cX6_copy 89 = .ok (.getfield 40, 3) ∧ decode cX6_copy 92 = .ok (.iload_n 3, 1) ∧ decode cX6_copy 93 = .ok (.iaload, 1) ∧ decode cX6_copy 94 = .ok (.if_icmp .gt 30, 3) ∧ decode cX6_copy 97 = .ok (.iload 5, 2) ∧ decode cX6_copy 99 = .ok (.aload_n 0, 1) ∧ decode cX6_copy 100 = .ok (.getfield 40, 3) ∧ decode cX6_copy 103 = .ok (.iload_n 1, 1) ∧ decode cX6_copy 104 = .ok (.iaload, 1) := by decide +kernel
theorem dX6_copy_83 : decode cX6_copy 83 = .ok (.if_icmp .gt 41, 3) := zd02dec4_132.1
theorem dX6_copy_86 : decode cX6_copy 86 = .ok (.iload 4, 2) := zd02dec4_132.2.1
theorem dX6_copy_88 : decode cX6_copy 88 = .ok (.aload_n 0, 1) := zd02dec4_132.2.2.1
theorem dX6_copy_89 : decode cX6_copy 89 = .ok (.getfield 40, 3) := zd02dec4_132.2.2.2.1
theorem dX6_copy_92 : decode cX6_copy 92 = .ok (.iload_n 3, 1) := zd02dec4_132.2.2.2.2.1
theorem dX6_copy_93 : decode cX6_copy 93 = .ok (.iaload, 1) := zd02dec4_132.2.2.2.2.2.1
theorem dX6_copy_94 : decode cX6_copy 94 = .ok (.if_icmp .gt 30, 3) := zd02dec4_132.2.2.2.2.2.2.1
theorem dX6_copy_97 : decode cX6_copy 97 = .ok (.iload 5, 2) := zd02dec4_132.2.2.2.2.2.2.2.1
theorem dX6_copy_99 : decode cX6_copy 99 = .ok (.aload_n 0, 1) := zd02dec4_132.2.2.2.2.2.2.2.2.1
theorem dX6_copy_100 : decode cX6_copy 100 = .ok (.getfield 40, 3) := zd02dec4_132.2.2.2.2.2.2.2.2.2.1
theorem dX6_copy_103 : decode cX6_copy 103 = .ok (.iload_n 1, 1) := zd02dec4_132.2.2.2.2.2.2.2.2.2.2.1
theorem dX6_copy_104 : decode cX6_copy 104 = .ok (.iaload, 1) := zd02dec4_132.2.2.2.2.2.2.2.2.2.2.2
theorem zd02dec4_133 : decode cX6_copy 105 = .ok (.iload_n 2, 1) ∧ decode cX6_copy 106 = .ok (.isub, 1) ∧ decode cX6_copy 107 = .ok (.if_icmp .gt 17, 3) ∧ decode cX6_copy 110 = .ok (.iload 5, 2) ∧ decode cX6_copy 112 = .ok (.aload_n 0, 1) ∧ decode cX6_copy 113 = .ok (.getfield 40, 3) ∧ decode cX6_copy 116 = .ok (.iload_n 3, 1) ∧ decode cX6_copy 117 = .ok (.iaload, 1) ∧ decode cX6_copy 118 = .ok (.iload 4, 2) ∧ decode cX6_copy 120 = .ok (.isub, 1) ∧ decode cX6_copy 121 = .ok (.if_icmp .le 6, 3) ∧ decode cX6_copy 124 = .ok (.bipush (-12), 2) := by decide +kernel
theorem dX6_copy_105 : decode cX6_copy 105 = .ok (.iload_n 2, 1) := zd02dec4_133.1
theorem dX6_copy_106 : decode cX6_copy 106 = .ok (.isub, 1) := zd02dec4_133.2.1
theorem dX6_copy_107 : decode cX6_copy 107 = .ok (.if_icmp .gt 17, 3) := zd02dec4_133.2.2.1
theorem dX6_copy_110 : decode cX6_copy 110 = .ok (.iload 5, 2) := zd02dec4_133.2.2.2.1
theorem dX6_copy_112 : decode cX6_copy 112 = .ok (.aload_n 0, 1) := zd02dec4_133.2.2.2.2.1
theorem dX6_copy_113 : decode cX6_copy 113 = .ok (.getfield 40, 3) := zd02dec4_133.2.2.2.2.2.1
theorem dX6_copy_116 : decode cX6_copy 116 = .ok (.iload_n 3, 1) := zd02dec4_133.2.2.2.2.2.2.1
theorem dX6_copy_117 : decode cX6_copy 117 = .ok (.iaload, 1) := zd02dec4_133.2.2.2.2.2.2.2.1
theorem dX6_copy_118 : decode cX6_copy 118 = .ok (.iload 4, 2) := zd02dec4_133.2.2.2.2.2.2.2.2.1
theorem dX6_copy_120 : decode cX6_copy 120 = .ok (.isub, 1) := zd02dec4_133.2.2.2.2.2.2.2.2.2.1
theorem dX6_copy_121 : decode cX6_copy 121 = .ok (.if_icmp .le 6, 3) := zd02dec4_133.2.2.2.2.2.2.2.2.2.2.1
theorem dX6_copy_124 : decode cX6_copy 124 = .ok (.bipush (-12), 2) := zd02dec4_133.2.2.2.2.2.2.2.2.2.2.2
theorem zd02dec4_134 : decode cX6_copy 126 = .ok (.ireturn, 1) ∧ decode cX6_copy 127 = .ok (.bipush 40, 2) ∧ decode cX6_copy 129 = .ok (.iload_n 1, 1) ∧ decode cX6_copy 130 = .ok (.imul, 1) ∧ decode cX6_copy 131 = .ok (.iload_n 2, 1) ∧ decode cX6_copy 132 = .ok (.iadd, 1) ∧ decode cX6_copy 133 = .ok (.istore 6, 2) ∧ decode cX6_copy 135 = .ok (.bipush 40, 2) ∧ decode cX6_copy 137 = .ok (.iload_n 3, 1) ∧ decode cX6_copy 138 = .ok (.imul, 1) ∧ decode cX6_copy 139 = .ok (.iload 4, 2) ∧ decode cX6_copy 141 = .ok (.iadd, 1) := by decide +kernel
theorem dX6_copy_126 : decode cX6_copy 126 = .ok (.ireturn, 1) := zd02dec4_134.1
theorem dX6_copy_127 : decode cX6_copy 127 = .ok (.bipush 40, 2) := zd02dec4_134.2.1
theorem dX6_copy_129 : decode cX6_copy 129 = .ok (.iload_n 1, 1) := zd02dec4_134.2.2.1
theorem dX6_copy_130 : decode cX6_copy 130 = .ok (.imul, 1) := zd02dec4_134.2.2.2.1
theorem dX6_copy_131 : decode cX6_copy 131 = .ok (.iload_n 2, 1) := zd02dec4_134.2.2.2.2.1
theorem dX6_copy_132 : decode cX6_copy 132 = .ok (.iadd, 1) := zd02dec4_134.2.2.2.2.2.1
theorem dX6_copy_133 : decode cX6_copy 133 = .ok (.istore 6, 2) := zd02dec4_134.2.2.2.2.2.2.1
theorem dX6_copy_135 : decode cX6_copy 135 = .ok (.bipush 40, 2) := zd02dec4_134.2.2.2.2.2.2.2.1
theorem dX6_copy_137 : decode cX6_copy 137 = .ok (.iload_n 3, 1) := zd02dec4_134.2.2.2.2.2.2.2.2.1
theorem dX6_copy_138 : decode cX6_copy 138 = .ok (.imul, 1) := zd02dec4_134.2.2.2.2.2.2.2.2.2.1
theorem dX6_copy_139 : decode cX6_copy 139 = .ok (.iload 4, 2) := zd02dec4_134.2.2.2.2.2.2.2.2.2.2.1
theorem dX6_copy_141 : decode cX6_copy 141 = .ok (.iadd, 1) := zd02dec4_134.2.2.2.2.2.2.2.2.2.2.2
theorem zd02dec4_135 : decode cX6_copy 142 = .ok (.istore 7, 2) ∧ decode cX6_copy 144 = .ok (.iconst 0, 1) ∧ decode cX6_copy 145 = .ok (.istore 8, 2) ∧ decode cX6_copy 147 = .ok (.iload 8, 2) ∧ decode cX6_copy 149 = .ok (.iload 5, 2) ∧ decode cX6_copy 151 = .ok (.if_icmp .ge 50, 3) ∧ decode cX6_copy 154 = .ok (.iload 6, 2) ∧ decode cX6_copy 156 = .ok (.iload 7, 2) ∧ decode cX6_copy 158 = .ok (.if_icmp .ge 13, 3) ∧ decode cX6_copy 161 = .ok (.iload 5, 2) ∧ decode cX6_copy 163 = .ok (.iconst 1, 1) ∧ decode cX6_copy 164 = .ok (.isub, 1) := by decide +kernel
theorem dX6_copy_142 : decode cX6_copy 142 = .ok (.istore 7, 2) := zd02dec4_135.1
theorem dX6_copy_144 : decode cX6_copy 144 = .ok (.iconst 0, 1) := zd02dec4_135.2.1
theorem dX6_copy_145 : decode cX6_copy 145 = .ok (.istore 8, 2) := zd02dec4_135.2.2.1
theorem dX6_copy_147 : decode cX6_copy 147 = .ok (.iload 8, 2) := zd02dec4_135.2.2.2.1
theorem dX6_copy_149 : decode cX6_copy 149 = .ok (.iload 5, 2) := zd02dec4_135.2.2.2.2.1
theorem dX6_copy_151 : decode cX6_copy 151 = .ok (.if_icmp .ge 50, 3) := zd02dec4_135.2.2.2.2.2.1
theorem dX6_copy_154 : decode cX6_copy 154 = .ok (.iload 6, 2) := zd02dec4_135.2.2.2.2.2.2.1
theorem dX6_copy_156 : decode cX6_copy 156 = .ok (.iload 7, 2) := zd02dec4_135.2.2.2.2.2.2.2.1
theorem dX6_copy_158 : decode cX6_copy 158 = .ok (.if_icmp .ge 13, 3) := zd02dec4_135.2.2.2.2.2.2.2.2.1
theorem dX6_copy_161 : decode cX6_copy 161 = .ok (.iload 5, 2) := zd02dec4_135.2.2.2.2.2.2.2.2.2.1
theorem dX6_copy_163 : decode cX6_copy 163 = .ok (.iconst 1, 1) := zd02dec4_135.2.2.2.2.2.2.2.2.2.2.1
theorem dX6_copy_164 : decode cX6_copy 164 = .ok (.isub, 1) := zd02dec4_135.2.2.2.2.2.2.2.2.2.2.2
theorem zd02dec4_136 : decode cX6_copy 165 = .ok (.iload 8, 2) ∧ decode cX6_copy 167 = .ok (.isub, 1) ∧ decode cX6_copy 168 = .ok (.goto 5, 3) ∧ decode cX6_copy 171 = .ok (.iload 8, 2) ∧ decode cX6_copy 173 = .ok (.istore 9, 2) ∧ decode cX6_copy 175 = .ok (.aload_n 0, 1) ∧ decode cX6_copy 176 = .ok (.getfield 43, 3) ∧ decode cX6_copy 179 = .ok (.iload 7, 2) ∧ decode cX6_copy 181 = .ok (.iload 9, 2) ∧ decode cX6_copy 183 = .ok (.iadd, 1) ∧ decode cX6_copy 184 = .ok (.aload_n 0, 1) ∧ decode cX6_copy 185 = .ok (.getfield 43, 3) := by decide +kernel
theorem dX6_copy_165 : decode cX6_copy 165 = .ok (.iload 8, 2) := zd02dec4_136.1
theorem dX6_copy_167 : decode cX6_copy 167 = .ok (.isub, 1) := zd02dec4_136.2.1
theorem dX6_copy_168 : decode cX6_copy 168 = .ok (.goto 5, 3) := zd02dec4_136.2.2.1
theorem dX6_copy_171 : decode cX6_copy 171 = .ok (.iload 8, 2) := zd02dec4_136.2.2.2.1
theorem dX6_copy_173 : decode cX6_copy 173 = .ok (.istore 9, 2) := zd02dec4_136.2.2.2.2.1
theorem dX6_copy_175 : decode cX6_copy 175 = .ok (.aload_n 0, 1) := zd02dec4_136.2.2.2.2.2.1
theorem dX6_copy_176 : decode cX6_copy 176 = .ok (.getfield 43, 3) := zd02dec4_136.2.2.2.2.2.2.1
theorem dX6_copy_179 : decode cX6_copy 179 = .ok (.iload 7, 2) := zd02dec4_136.2.2.2.2.2.2.2.1
theorem dX6_copy_181 : decode cX6_copy 181 = .ok (.iload 9, 2) := zd02dec4_136.2.2.2.2.2.2.2.2.1
theorem dX6_copy_183 : decode cX6_copy 183 = .ok (.iadd, 1) := zd02dec4_136.2.2.2.2.2.2.2.2.2.1
theorem dX6_copy_184 : decode cX6_copy 184 = .ok (.aload_n 0, 1) := zd02dec4_136.2.2.2.2.2.2.2.2.2.2.1
theorem dX6_copy_185 : decode cX6_copy 185 = .ok (.getfield 43, 3) := zd02dec4_136.2.2.2.2.2.2.2.2.2.2.2
theorem zd02dec4_137 : decode cX6_copy 188 = .ok (.iload 6, 2) ∧ decode cX6_copy 190 = .ok (.iload 9, 2) ∧ decode cX6_copy 192 = .ok (.iadd, 1) ∧ decode cX6_copy 193 = .ok (.iaload, 1) ∧ decode cX6_copy 194 = .ok (.iastore, 1) ∧ decode cX6_copy 195 = .ok (.iinc 8 1, 3) ∧ decode cX6_copy 198 = .ok (.goto (-51), 3) ∧ decode cX6_copy 201 = .ok (.iload 5, 2) ∧ decode cX6_copy 203 = .ok (.ireturn, 1) := by decide +kernel
theorem dX6_copy_188 : decode cX6_copy 188 = .ok (.iload 6, 2) := zd02dec4_137.1
theorem dX6_copy_190 : decode cX6_copy 190 = .ok (.iload 9, 2) := zd02dec4_137.2.1
theorem dX6_copy_192 : decode cX6_copy 192 = .ok (.iadd, 1) := zd02dec4_137.2.2.1
theorem dX6_copy_193 : decode cX6_copy 193 = .ok (.iaload, 1) := zd02dec4_137.2.2.2.1
theorem dX6_copy_194 : decode cX6_copy 194 = .ok (.iastore, 1) := zd02dec4_137.2.2.2.2.1
theorem dX6_copy_195 : decode cX6_copy 195 = .ok (.iinc 8 1, 3) := zd02dec4_137.2.2.2.2.2.1
theorem dX6_copy_198 : decode cX6_copy 198 = .ok (.goto (-51), 3) := zd02dec4_137.2.2.2.2.2.2.1
theorem dX6_copy_201 : decode cX6_copy 201 = .ok (.iload 5, 2) := zd02dec4_137.2.2.2.2.2.2.2.1
theorem dX6_copy_203 : decode cX6_copy 203 = .ok (.ireturn, 1) := zd02dec4_137.2.2.2.2.2.2.2.2
theorem zd02dec4_138 : decode cX6_pebblesBy 0 = .ok (.iload_n 1, 1) ∧ decode cX6_pebblesBy 1 = .ok (.iconst 0, 1) ∧ decode cX6_pebblesBy 2 = .ok (.iconst 3, 1) ∧ decode cX6_pebblesBy 3 = .ok (.invokestatic 91, 3) ∧ decode cX6_pebblesBy 6 = .ok (.ifCond .eq 23, 3) ∧ decode cX6_pebblesBy 9 = .ok (.iload_n 2, 1) ∧ decode cX6_pebblesBy 10 = .ok (.iconst 0, 1) ∧ decode cX6_pebblesBy 11 = .ok (.iconst 2, 1) ∧ decode cX6_pebblesBy 12 = .ok (.invokestatic 91, 3) ∧ decode cX6_pebblesBy 15 = .ok (.ifCond .eq 14, 3) ∧ decode cX6_pebblesBy 18 = .ok (.iload 4, 2) ∧ decode cX6_pebblesBy 20 = .ok (.iconst 0, 1) := by decide +kernel
theorem dX6_pebblesBy_0 : decode cX6_pebblesBy 0 = .ok (.iload_n 1, 1) := zd02dec4_138.1
theorem dX6_pebblesBy_1 : decode cX6_pebblesBy 1 = .ok (.iconst 0, 1) := zd02dec4_138.2.1
theorem dX6_pebblesBy_2 : decode cX6_pebblesBy 2 = .ok (.iconst 3, 1) := zd02dec4_138.2.2.1
theorem dX6_pebblesBy_3 : decode cX6_pebblesBy 3 = .ok (.invokestatic 91, 3) := zd02dec4_138.2.2.2.1
theorem dX6_pebblesBy_6 : decode cX6_pebblesBy 6 = .ok (.ifCond .eq 23, 3) := zd02dec4_138.2.2.2.2.1
theorem dX6_pebblesBy_9 : decode cX6_pebblesBy 9 = .ok (.iload_n 2, 1) := zd02dec4_138.2.2.2.2.2.1
theorem dX6_pebblesBy_10 : decode cX6_pebblesBy 10 = .ok (.iconst 0, 1) := zd02dec4_138.2.2.2.2.2.2.1
theorem dX6_pebblesBy_11 : decode cX6_pebblesBy 11 = .ok (.iconst 2, 1) := zd02dec4_138.2.2.2.2.2.2.2.1
theorem dX6_pebblesBy_12 : decode cX6_pebblesBy 12 = .ok (.invokestatic 91, 3) := zd02dec4_138.2.2.2.2.2.2.2.2.1
theorem dX6_pebblesBy_15 : decode cX6_pebblesBy 15 = .ok (.ifCond .eq 14, 3) := zd02dec4_138.2.2.2.2.2.2.2.2.2.1
theorem dX6_pebblesBy_18 : decode cX6_pebblesBy 18 = .ok (.iload 4, 2) := zd02dec4_138.2.2.2.2.2.2.2.2.2.2.1
theorem dX6_pebblesBy_20 : decode cX6_pebblesBy 20 = .ok (.iconst 0, 1) := zd02dec4_138.2.2.2.2.2.2.2.2.2.2.2
theorem zd02dec4_139 : decode cX6_pebblesBy 21 = .ok (.bipush 6, 2) ∧ decode cX6_pebblesBy 23 = .ok (.invokestatic 91, 3) ∧ decode cX6_pebblesBy 26 = .ok (.ifCond .ne 6, 3) ∧ decode cX6_pebblesBy 29 = .ok (.bipush (-2), 2) ∧ decode cX6_pebblesBy 31 = .ok (.ireturn, 1) ∧ decode cX6_pebblesBy 32 = .ok (.aload_n 0, 1) ∧ decode cX6_pebblesBy 33 = .ok (.getfield 37, 3) ∧ decode cX6_pebblesBy 36 = .ok (.iload_n 1, 1) ∧ decode cX6_pebblesBy 37 = .ok (.iaload, 1) ∧ decode cX6_pebblesBy 38 = .ok (.iconst (-1), 1) ∧ decode cX6_pebblesBy 39 = .ok (.if_icmp .ne 6, 3) ∧ decode cX6_pebblesBy 42 = .ok (.bipush (-11), 2) := by decide +kernel
theorem dX6_pebblesBy_21 : decode cX6_pebblesBy 21 = .ok (.bipush 6, 2) := zd02dec4_139.1
theorem dX6_pebblesBy_23 : decode cX6_pebblesBy 23 = .ok (.invokestatic 91, 3) := zd02dec4_139.2.1
theorem dX6_pebblesBy_26 : decode cX6_pebblesBy 26 = .ok (.ifCond .ne 6, 3) := zd02dec4_139.2.2.1
theorem dX6_pebblesBy_29 : decode cX6_pebblesBy 29 = .ok (.bipush (-2), 2) := zd02dec4_139.2.2.2.1
theorem dX6_pebblesBy_31 : decode cX6_pebblesBy 31 = .ok (.ireturn, 1) := zd02dec4_139.2.2.2.2.1
theorem dX6_pebblesBy_32 : decode cX6_pebblesBy 32 = .ok (.aload_n 0, 1) := zd02dec4_139.2.2.2.2.2.1
theorem dX6_pebblesBy_33 : decode cX6_pebblesBy 33 = .ok (.getfield 37, 3) := zd02dec4_139.2.2.2.2.2.2.1
theorem dX6_pebblesBy_36 : decode cX6_pebblesBy 36 = .ok (.iload_n 1, 1) := zd02dec4_139.2.2.2.2.2.2.2.1
theorem dX6_pebblesBy_37 : decode cX6_pebblesBy 37 = .ok (.iaload, 1) := zd02dec4_139.2.2.2.2.2.2.2.2.1
theorem dX6_pebblesBy_38 : decode cX6_pebblesBy 38 = .ok (.iconst (-1), 1) := zd02dec4_139.2.2.2.2.2.2.2.2.2.1
theorem dX6_pebblesBy_39 : decode cX6_pebblesBy 39 = .ok (.if_icmp .ne 6, 3) := zd02dec4_139.2.2.2.2.2.2.2.2.2.2.1
theorem dX6_pebblesBy_42 : decode cX6_pebblesBy 42 = .ok (.bipush (-11), 2) := zd02dec4_139.2.2.2.2.2.2.2.2.2.2.2
theorem zd02dec4_140 : decode cX6_pebblesBy 44 = .ok (.ireturn, 1) ∧ decode cX6_pebblesBy 45 = .ok (.aload_n 0, 1) ∧ decode cX6_pebblesBy 46 = .ok (.getfield 37, 3) ∧ decode cX6_pebblesBy 49 = .ok (.iload_n 1, 1) ∧ decode cX6_pebblesBy 50 = .ok (.iaload, 1) ∧ decode cX6_pebblesBy 51 = .ok (.iload_n 2, 1) ∧ decode cX6_pebblesBy 52 = .ok (.if_icmp .eq 6, 3) ∧ decode cX6_pebblesBy 55 = .ok (.bipush (-13), 2) ∧ decode cX6_pebblesBy 57 = .ok (.ireturn, 1) ∧ decode cX6_pebblesBy 58 = .ok (.iconst 0, 1) ∧ decode cX6_pebblesBy 59 = .ok (.istore 5, 2) ∧ decode cX6_pebblesBy 61 = .ok (.iconst 0, 1) := by decide +kernel
theorem dX6_pebblesBy_44 : decode cX6_pebblesBy 44 = .ok (.ireturn, 1) := zd02dec4_140.1
theorem dX6_pebblesBy_45 : decode cX6_pebblesBy 45 = .ok (.aload_n 0, 1) := zd02dec4_140.2.1
theorem dX6_pebblesBy_46 : decode cX6_pebblesBy 46 = .ok (.getfield 37, 3) := zd02dec4_140.2.2.1
theorem dX6_pebblesBy_49 : decode cX6_pebblesBy 49 = .ok (.iload_n 1, 1) := zd02dec4_140.2.2.2.1
theorem dX6_pebblesBy_50 : decode cX6_pebblesBy 50 = .ok (.iaload, 1) := zd02dec4_140.2.2.2.2.1
theorem dX6_pebblesBy_51 : decode cX6_pebblesBy 51 = .ok (.iload_n 2, 1) := zd02dec4_140.2.2.2.2.2.1
theorem dX6_pebblesBy_52 : decode cX6_pebblesBy 52 = .ok (.if_icmp .eq 6, 3) := zd02dec4_140.2.2.2.2.2.2.1
theorem dX6_pebblesBy_55 : decode cX6_pebblesBy 55 = .ok (.bipush (-13), 2) := zd02dec4_140.2.2.2.2.2.2.2.1
theorem dX6_pebblesBy_57 : decode cX6_pebblesBy 57 = .ok (.ireturn, 1) := zd02dec4_140.2.2.2.2.2.2.2.2.1
theorem dX6_pebblesBy_58 : decode cX6_pebblesBy 58 = .ok (.iconst 0, 1) := zd02dec4_140.2.2.2.2.2.2.2.2.2.1
theorem dX6_pebblesBy_59 : decode cX6_pebblesBy 59 = .ok (.istore 5, 2) := zd02dec4_140.2.2.2.2.2.2.2.2.2.2.1
theorem dX6_pebblesBy_61 : decode cX6_pebblesBy 61 = .ok (.iconst 0, 1) := zd02dec4_140.2.2.2.2.2.2.2.2.2.2.2
theorem zd02dec4_141 : decode cX6_pebblesBy 62 = .ok (.istore 6, 2) ∧ decode cX6_pebblesBy 64 = .ok (.iload 6, 2) ∧ decode cX6_pebblesBy 66 = .ok (.iload 4, 2) ∧ decode cX6_pebblesBy 68 = .ok (.if_icmp .ge 85, 3) ∧ decode cX6_pebblesBy 71 = .ok (.iload_n 3, 1) ∧ decode cX6_pebblesBy 72 = .ok (.iconst 2, 1) ∧ decode cX6_pebblesBy 73 = .ok (.iload 6, 2) ∧ decode cX6_pebblesBy 75 = .ok (.imul, 1) ∧ decode cX6_pebblesBy 76 = .ok (.iadd, 1) ∧ decode cX6_pebblesBy 77 = .ok (.istore 7, 2) ∧ decode cX6_pebblesBy 79 = .ok (.iload_n 3, 1) ∧ decode cX6_pebblesBy 80 = .ok (.ifCond .lt 22, 3) := by decide +kernel
theorem dX6_pebblesBy_62 : decode cX6_pebblesBy 62 = .ok (.istore 6, 2) := zd02dec4_141.1
theorem dX6_pebblesBy_64 : decode cX6_pebblesBy 64 = .ok (.iload 6, 2) := zd02dec4_141.2.1
theorem dX6_pebblesBy_66 : decode cX6_pebblesBy 66 = .ok (.iload 4, 2) := zd02dec4_141.2.2.1
theorem dX6_pebblesBy_68 : decode cX6_pebblesBy 68 = .ok (.if_icmp .ge 85, 3) := zd02dec4_141.2.2.2.1
theorem dX6_pebblesBy_71 : decode cX6_pebblesBy 71 = .ok (.iload_n 3, 1) := zd02dec4_141.2.2.2.2.1
theorem dX6_pebblesBy_72 : decode cX6_pebblesBy 72 = .ok (.iconst 2, 1) := zd02dec4_141.2.2.2.2.2.1
theorem dX6_pebblesBy_73 : decode cX6_pebblesBy 73 = .ok (.iload 6, 2) := zd02dec4_141.2.2.2.2.2.2.1
theorem dX6_pebblesBy_75 : decode cX6_pebblesBy 75 = .ok (.imul, 1) := zd02dec4_141.2.2.2.2.2.2.2.1
theorem dX6_pebblesBy_76 : decode cX6_pebblesBy 76 = .ok (.iadd, 1) := zd02dec4_141.2.2.2.2.2.2.2.2.1
theorem dX6_pebblesBy_77 : decode cX6_pebblesBy 77 = .ok (.istore 7, 2) := zd02dec4_141.2.2.2.2.2.2.2.2.2.1
theorem dX6_pebblesBy_79 : decode cX6_pebblesBy 79 = .ok (.iload_n 3, 1) := zd02dec4_141.2.2.2.2.2.2.2.2.2.2.1
theorem dX6_pebblesBy_80 : decode cX6_pebblesBy 80 = .ok (.ifCond .lt 22, 3) := zd02dec4_141.2.2.2.2.2.2.2.2.2.2.2
theorem zd02dec4_142 : decode cX6_pebblesBy 83 = .ok (.iload 7, 2) ∧ decode cX6_pebblesBy 85 = .ok (.iload_n 3, 1) ∧ decode cX6_pebblesBy 86 = .ok (.if_icmp .lt 16, 3) ∧ decode cX6_pebblesBy 89 = .ok (.iload 7, 2) ∧ decode cX6_pebblesBy 91 = .ok (.aload_n 0, 1) ∧ decode cX6_pebblesBy 92 = .ok (.getfield 40, 3) ∧ decode cX6_pebblesBy 95 = .ok (.iload_n 1, 1) ∧ decode cX6_pebblesBy 96 = .ok (.iaload, 1) ∧ decode cX6_pebblesBy 97 = .ok (.iconst 2, 1) ∧ decode cX6_pebblesBy 98 = .ok (.isub, 1) ∧ decode cX6_pebblesBy 99 = .ok (.if_icmp .le 6, 3) ∧ decode cX6_pebblesBy 102 = .ok (.bipush (-12), 2) := by decide +kernel
theorem dX6_pebblesBy_83 : decode cX6_pebblesBy 83 = .ok (.iload 7, 2) := zd02dec4_142.1
theorem dX6_pebblesBy_85 : decode cX6_pebblesBy 85 = .ok (.iload_n 3, 1) := zd02dec4_142.2.1
theorem dX6_pebblesBy_86 : decode cX6_pebblesBy 86 = .ok (.if_icmp .lt 16, 3) := zd02dec4_142.2.2.1
theorem dX6_pebblesBy_89 : decode cX6_pebblesBy 89 = .ok (.iload 7, 2) := zd02dec4_142.2.2.2.1
theorem dX6_pebblesBy_91 : decode cX6_pebblesBy 91 = .ok (.aload_n 0, 1) := zd02dec4_142.2.2.2.2.1
theorem dX6_pebblesBy_92 : decode cX6_pebblesBy 92 = .ok (.getfield 40, 3) := zd02dec4_142.2.2.2.2.2.1
theorem dX6_pebblesBy_95 : decode cX6_pebblesBy 95 = .ok (.iload_n 1, 1) := zd02dec4_142.2.2.2.2.2.2.1
theorem dX6_pebblesBy_96 : decode cX6_pebblesBy 96 = .ok (.iaload, 1) := zd02dec4_142.2.2.2.2.2.2.2.1
theorem dX6_pebblesBy_97 : decode cX6_pebblesBy 97 = .ok (.iconst 2, 1) := zd02dec4_142.2.2.2.2.2.2.2.2.1
theorem dX6_pebblesBy_98 : decode cX6_pebblesBy 98 = .ok (.isub, 1) := zd02dec4_142.2.2.2.2.2.2.2.2.2.1
theorem dX6_pebblesBy_99 : decode cX6_pebblesBy 99 = .ok (.if_icmp .le 6, 3) := zd02dec4_142.2.2.2.2.2.2.2.2.2.2.1
theorem dX6_pebblesBy_102 : decode cX6_pebblesBy 102 = .ok (.bipush (-12), 2) := zd02dec4_142.2.2.2.2.2.2.2.2.2.2.2
theorem zd02dec4_143 : decode cX6_pebblesBy 104 = .ok (.ireturn, 1) ∧ decode cX6_pebblesBy 105 = .ok (.bipush 40, 2) ∧ decode cX6_pebblesBy 107 = .ok (.iload_n 1, 1) ∧ decode cX6_pebblesBy 108 = .ok (.imul, 1) ∧ decode cX6_pebblesBy 109 = .ok (.iload 7, 2) ∧ decode cX6_pebblesBy 111 = .ok (.iadd, 1) ∧ decode cX6_pebblesBy 112 = .ok (.istore 8, 2) ∧ decode cX6_pebblesBy 114 = .ok (.iload 5, 2) ∧ decode cX6_pebblesBy 116 = .ok (.aload_n 0, 1) ∧ decode cX6_pebblesBy 117 = .ok (.aload_n 0, 1) ∧ decode cX6_pebblesBy 118 = .ok (.getfield 43, 3) ∧ decode cX6_pebblesBy 121 = .ok (.iload 8, 2) := by decide +kernel
theorem dX6_pebblesBy_104 : decode cX6_pebblesBy 104 = .ok (.ireturn, 1) := zd02dec4_143.1
theorem dX6_pebblesBy_105 : decode cX6_pebblesBy 105 = .ok (.bipush 40, 2) := zd02dec4_143.2.1
theorem dX6_pebblesBy_107 : decode cX6_pebblesBy 107 = .ok (.iload_n 1, 1) := zd02dec4_143.2.2.1
theorem dX6_pebblesBy_108 : decode cX6_pebblesBy 108 = .ok (.imul, 1) := zd02dec4_143.2.2.2.1
theorem dX6_pebblesBy_109 : decode cX6_pebblesBy 109 = .ok (.iload 7, 2) := zd02dec4_143.2.2.2.2.1
theorem dX6_pebblesBy_111 : decode cX6_pebblesBy 111 = .ok (.iadd, 1) := zd02dec4_143.2.2.2.2.2.1
theorem dX6_pebblesBy_112 : decode cX6_pebblesBy 112 = .ok (.istore 8, 2) := zd02dec4_143.2.2.2.2.2.2.1
theorem dX6_pebblesBy_114 : decode cX6_pebblesBy 114 = .ok (.iload 5, 2) := zd02dec4_143.2.2.2.2.2.2.2.1
theorem dX6_pebblesBy_116 : decode cX6_pebblesBy 116 = .ok (.aload_n 0, 1) := zd02dec4_143.2.2.2.2.2.2.2.2.1
theorem dX6_pebblesBy_117 : decode cX6_pebblesBy 117 = .ok (.aload_n 0, 1) := zd02dec4_143.2.2.2.2.2.2.2.2.2.1
theorem dX6_pebblesBy_118 : decode cX6_pebblesBy 118 = .ok (.getfield 43, 3) := zd02dec4_143.2.2.2.2.2.2.2.2.2.2.1
theorem dX6_pebblesBy_121 : decode cX6_pebblesBy 121 = .ok (.iload 8, 2) := zd02dec4_143.2.2.2.2.2.2.2.2.2.2.2
theorem zd02dec4_144 : decode cX6_pebblesBy 123 = .ok (.iaload, 1) ∧ decode cX6_pebblesBy 124 = .ok (.aload_n 0, 1) ∧ decode cX6_pebblesBy 125 = .ok (.getfield 43, 3) ∧ decode cX6_pebblesBy 128 = .ok (.iload 8, 2) ∧ decode cX6_pebblesBy 130 = .ok (.iconst 1, 1) ∧ decode cX6_pebblesBy 131 = .ok (.iadd, 1) ∧ decode cX6_pebblesBy 132 = .ok (.iaload, 1) ∧ decode cX6_pebblesBy 133 = .ok (.invokevirtual 277, 3) ∧ decode cX6_pebblesBy 136 = .ok (.ifCond .lt 7, 3) ∧ decode cX6_pebblesBy 139 = .ok (.iconst 1, 1) ∧ decode cX6_pebblesBy 140 = .ok (.goto 4, 3) ∧ decode cX6_pebblesBy 143 = .ok (.iconst 0, 1) := by decide +kernel
theorem dX6_pebblesBy_123 : decode cX6_pebblesBy 123 = .ok (.iaload, 1) := zd02dec4_144.1
theorem dX6_pebblesBy_124 : decode cX6_pebblesBy 124 = .ok (.aload_n 0, 1) := zd02dec4_144.2.1
theorem dX6_pebblesBy_125 : decode cX6_pebblesBy 125 = .ok (.getfield 43, 3) := zd02dec4_144.2.2.1
theorem dX6_pebblesBy_128 : decode cX6_pebblesBy 128 = .ok (.iload 8, 2) := zd02dec4_144.2.2.2.1
theorem dX6_pebblesBy_130 : decode cX6_pebblesBy 130 = .ok (.iconst 1, 1) := zd02dec4_144.2.2.2.2.1
theorem dX6_pebblesBy_131 : decode cX6_pebblesBy 131 = .ok (.iadd, 1) := zd02dec4_144.2.2.2.2.2.1
theorem dX6_pebblesBy_132 : decode cX6_pebblesBy 132 = .ok (.iaload, 1) := zd02dec4_144.2.2.2.2.2.2.1
theorem dX6_pebblesBy_133 : decode cX6_pebblesBy 133 = .ok (.invokevirtual 277, 3) := zd02dec4_144.2.2.2.2.2.2.2.1
theorem dX6_pebblesBy_136 : decode cX6_pebblesBy 136 = .ok (.ifCond .lt 7, 3) := zd02dec4_144.2.2.2.2.2.2.2.2.1
theorem dX6_pebblesBy_139 : decode cX6_pebblesBy 139 = .ok (.iconst 1, 1) := zd02dec4_144.2.2.2.2.2.2.2.2.2.1
theorem dX6_pebblesBy_140 : decode cX6_pebblesBy 140 = .ok (.goto 4, 3) := zd02dec4_144.2.2.2.2.2.2.2.2.2.2.1
theorem dX6_pebblesBy_143 : decode cX6_pebblesBy 143 = .ok (.iconst 0, 1) := zd02dec4_144.2.2.2.2.2.2.2.2.2.2.2
theorem zd02dec4_145 : decode cX6_pebblesBy 144 = .ok (.iadd, 1) ∧ decode cX6_pebblesBy 145 = .ok (.istore 5, 2) ∧ decode cX6_pebblesBy 147 = .ok (.iinc 6 1, 3) ∧ decode cX6_pebblesBy 150 = .ok (.goto (-86), 3) ∧ decode cX6_pebblesBy 153 = .ok (.iload 5, 2) ∧ decode cX6_pebblesBy 155 = .ok (.ireturn, 1) := by decide +kernel
theorem dX6_pebblesBy_144 : decode cX6_pebblesBy 144 = .ok (.iadd, 1) := zd02dec4_145.1
theorem dX6_pebblesBy_145 : decode cX6_pebblesBy 145 = .ok (.istore 5, 2) := zd02dec4_145.2.1
theorem dX6_pebblesBy_147 : decode cX6_pebblesBy 147 = .ok (.iinc 6 1, 3) := zd02dec4_145.2.2.1
theorem dX6_pebblesBy_150 : decode cX6_pebblesBy 150 = .ok (.goto (-86), 3) := zd02dec4_145.2.2.2.1
theorem dX6_pebblesBy_153 : decode cX6_pebblesBy 153 = .ok (.iload 5, 2) := zd02dec4_145.2.2.2.2.1
theorem dX6_pebblesBy_155 : decode cX6_pebblesBy 155 = .ok (.ireturn, 1) := zd02dec4_145.2.2.2.2.2
theorem zd02dec4_146 : decode cX6_isUnder 0 = .ok (.iload_n 1, 1) ∧ decode cX6_isUnder 1 = .ok (.ifCond .eq 28, 3) ∧ decode cX6_isUnder 4 = .ok (.iload_n 0, 1) ∧ decode cX6_isUnder 5 = .ok (.iload_n 1, 1) ∧ decode cX6_isUnder 6 = .ok (.if_icmp .eq 23, 3) ∧ decode cX6_isUnder 9 = .ok (.iload_n 1, 1) ∧ decode cX6_isUnder 10 = .ok (.iconst 1, 1) ∧ decode cX6_isUnder 11 = .ok (.if_icmp .ne 8, 3) ∧ decode cX6_isUnder 14 = .ok (.iload_n 0, 1) ∧ decode cX6_isUnder 15 = .ok (.iconst 3, 1) ∧ decode cX6_isUnder 16 = .ok (.if_icmp .eq 13, 3) ∧ decode cX6_isUnder 19 = .ok (.iload_n 1, 1) := by decide +kernel
theorem dX6_isUnder_0 : decode cX6_isUnder 0 = .ok (.iload_n 1, 1) := zd02dec4_146.1
theorem dX6_isUnder_1 : decode cX6_isUnder 1 = .ok (.ifCond .eq 28, 3) := zd02dec4_146.2.1
theorem dX6_isUnder_4 : decode cX6_isUnder 4 = .ok (.iload_n 0, 1) := zd02dec4_146.2.2.1
theorem dX6_isUnder_5 : decode cX6_isUnder 5 = .ok (.iload_n 1, 1) := zd02dec4_146.2.2.2.1
theorem dX6_isUnder_6 : decode cX6_isUnder 6 = .ok (.if_icmp .eq 23, 3) := zd02dec4_146.2.2.2.2.1
theorem dX6_isUnder_9 : decode cX6_isUnder 9 = .ok (.iload_n 1, 1) := zd02dec4_146.2.2.2.2.2.1
theorem dX6_isUnder_10 : decode cX6_isUnder 10 = .ok (.iconst 1, 1) := zd02dec4_146.2.2.2.2.2.2.1
theorem dX6_isUnder_11 : decode cX6_isUnder 11 = .ok (.if_icmp .ne 8, 3) := zd02dec4_146.2.2.2.2.2.2.2.1
theorem dX6_isUnder_14 : decode cX6_isUnder 14 = .ok (.iload_n 0, 1) := zd02dec4_146.2.2.2.2.2.2.2.2.1
theorem dX6_isUnder_15 : decode cX6_isUnder 15 = .ok (.iconst 3, 1) := zd02dec4_146.2.2.2.2.2.2.2.2.2.1
theorem dX6_isUnder_16 : decode cX6_isUnder 16 = .ok (.if_icmp .eq 13, 3) := zd02dec4_146.2.2.2.2.2.2.2.2.2.2.1
theorem dX6_isUnder_19 : decode cX6_isUnder 19 = .ok (.iload_n 1, 1) := zd02dec4_146.2.2.2.2.2.2.2.2.2.2.2
theorem zd02dec4_147 : decode cX6_isUnder 20 = .ok (.iconst 2, 1) ∧ decode cX6_isUnder 21 = .ok (.if_icmp .ne 12, 3) ∧ decode cX6_isUnder 24 = .ok (.iload_n 0, 1) ∧ decode cX6_isUnder 25 = .ok (.iconst 4, 1) ∧ decode cX6_isUnder 26 = .ok (.if_icmp .ne 7, 3) ∧ decode cX6_isUnder 29 = .ok (.iconst 1, 1) ∧ decode cX6_isUnder 30 = .ok (.goto 4, 3) ∧ decode cX6_isUnder 33 = .ok (.iconst 0, 1) ∧ decode cX6_isUnder 34 = .ok (.ireturn, 1) := by decide +kernel
theorem dX6_isUnder_20 : decode cX6_isUnder 20 = .ok (.iconst 2, 1) := zd02dec4_147.1
theorem dX6_isUnder_21 : decode cX6_isUnder 21 = .ok (.if_icmp .ne 12, 3) := zd02dec4_147.2.1
theorem dX6_isUnder_24 : decode cX6_isUnder 24 = .ok (.iload_n 0, 1) := zd02dec4_147.2.2.1
theorem dX6_isUnder_25 : decode cX6_isUnder 25 = .ok (.iconst 4, 1) := zd02dec4_147.2.2.2.1
theorem dX6_isUnder_26 : decode cX6_isUnder 26 = .ok (.if_icmp .ne 7, 3) := zd02dec4_147.2.2.2.2.1
theorem dX6_isUnder_29 : decode cX6_isUnder 29 = .ok (.iconst 1, 1) := zd02dec4_147.2.2.2.2.2.1
theorem dX6_isUnder_30 : decode cX6_isUnder 30 = .ok (.goto 4, 3) := zd02dec4_147.2.2.2.2.2.2.1
theorem dX6_isUnder_33 : decode cX6_isUnder 33 = .ok (.iconst 0, 1) := zd02dec4_147.2.2.2.2.2.2.2.1
theorem dX6_isUnder_34 : decode cX6_isUnder 34 = .ok (.ireturn, 1) := zd02dec4_147.2.2.2.2.2.2.2.2
theorem zd02dec4_148 : decode cX6_taken 0 = .ok (.iload_n 2, 1) ∧ decode cX6_taken 1 = .ok (.iconst 0, 1) ∧ decode cX6_taken 2 = .ok (.bipush 6, 2) ∧ decode cX6_taken 4 = .ok (.invokestatic 91, 3) ∧ decode cX6_taken 7 = .ok (.ifCond .ne 7, 3) ∧ decode cX6_taken 10 = .ok (.ldc2_w 280, 3) ∧ decode cX6_taken 13 = .ok (.lreturn, 1) ∧ decode cX6_taken 14 = .ok (.iload_n 1, 1) ∧ decode cX6_taken 15 = .ok (.iconst 0, 1) ∧ decode cX6_taken 16 = .ok (.bipush 9, 2) ∧ decode cX6_taken 18 = .ok (.invokestatic 91, 3) ∧ decode cX6_taken 21 = .ok (.ifCond .ne 7, 3) := by decide +kernel
theorem dX6_taken_0 : decode cX6_taken 0 = .ok (.iload_n 2, 1) := zd02dec4_148.1
theorem dX6_taken_1 : decode cX6_taken 1 = .ok (.iconst 0, 1) := zd02dec4_148.2.1
theorem dX6_taken_2 : decode cX6_taken 2 = .ok (.bipush 6, 2) := zd02dec4_148.2.2.1
theorem dX6_taken_4 : decode cX6_taken 4 = .ok (.invokestatic 91, 3) := zd02dec4_148.2.2.2.1
theorem dX6_taken_7 : decode cX6_taken 7 = .ok (.ifCond .ne 7, 3) := zd02dec4_148.2.2.2.2.1
theorem dX6_taken_10 : decode cX6_taken 10 = .ok (.ldc2_w 280, 3) := zd02dec4_148.2.2.2.2.2.1
theorem dX6_taken_13 : decode cX6_taken 13 = .ok (.lreturn, 1) := zd02dec4_148.2.2.2.2.2.2.1
theorem dX6_taken_14 : decode cX6_taken 14 = .ok (.iload_n 1, 1) := zd02dec4_148.2.2.2.2.2.2.2.1
theorem dX6_taken_15 : decode cX6_taken 15 = .ok (.iconst 0, 1) := zd02dec4_148.2.2.2.2.2.2.2.2.1
theorem dX6_taken_16 : decode cX6_taken 16 = .ok (.bipush 9, 2) := zd02dec4_148.2.2.2.2.2.2.2.2.2.1
theorem dX6_taken_18 : decode cX6_taken 18 = .ok (.invokestatic 91, 3) := zd02dec4_148.2.2.2.2.2.2.2.2.2.2.1
theorem dX6_taken_21 : decode cX6_taken 21 = .ok (.ifCond .ne 7, 3) := zd02dec4_148.2.2.2.2.2.2.2.2.2.2.2
theorem zd02dec4_149 : decode cX6_taken 24 = .ok (.ldc2_w 282, 3) ∧ decode cX6_taken 27 = .ok (.lreturn, 1) ∧ decode cX6_taken 28 = .ok (.iload_n 1, 1) ∧ decode cX6_taken 29 = .ok (.bipush 6, 2) ∧ decode cX6_taken 31 = .ok (.if_icmp .lt 47, 3) ∧ decode cX6_taken 34 = .ok (.iload_n 1, 1) ∧ decode cX6_taken 35 = .ok (.bipush 6, 2) ∧ decode cX6_taken 37 = .ok (.isub, 1) ∧ decode cX6_taken 38 = .ok (.aload_n 0, 1) ∧ decode cX6_taken 39 = .ok (.getfield 95, 3) ∧ decode cX6_taken 42 = .ok (.if_icmp .lt 9, 3) ∧ decode cX6_taken 45 = .ok (.ldc2_w 284, 3) := by decide +kernel
theorem dX6_taken_24 : decode cX6_taken 24 = .ok (.ldc2_w 282, 3) := zd02dec4_149.1
theorem dX6_taken_27 : decode cX6_taken 27 = .ok (.lreturn, 1) := zd02dec4_149.2.1
theorem dX6_taken_28 : decode cX6_taken 28 = .ok (.iload_n 1, 1) := zd02dec4_149.2.2.1
theorem dX6_taken_29 : decode cX6_taken 29 = .ok (.bipush 6, 2) := zd02dec4_149.2.2.2.1
theorem dX6_taken_31 : decode cX6_taken 31 = .ok (.if_icmp .lt 47, 3) := zd02dec4_149.2.2.2.2.1
theorem dX6_taken_34 : decode cX6_taken 34 = .ok (.iload_n 1, 1) := zd02dec4_149.2.2.2.2.2.1
theorem dX6_taken_35 : decode cX6_taken 35 = .ok (.bipush 6, 2) := zd02dec4_149.2.2.2.2.2.2.1
theorem dX6_taken_37 : decode cX6_taken 37 = .ok (.isub, 1) := zd02dec4_149.2.2.2.2.2.2.2.1
theorem dX6_taken_38 : decode cX6_taken 38 = .ok (.aload_n 0, 1) := zd02dec4_149.2.2.2.2.2.2.2.2.1
theorem dX6_taken_39 : decode cX6_taken 39 = .ok (.getfield 95, 3) := zd02dec4_149.2.2.2.2.2.2.2.2.2.1
theorem dX6_taken_42 : decode cX6_taken 42 = .ok (.if_icmp .lt 9, 3) := zd02dec4_149.2.2.2.2.2.2.2.2.2.2.1
theorem dX6_taken_45 : decode cX6_taken 45 = .ok (.ldc2_w 284, 3) := zd02dec4_149.2.2.2.2.2.2.2.2.2.2.2
theorem zd02dec4_150 : decode cX6_taken 48 = .ok (.goto 29, 3) ∧ decode cX6_taken 51 = .ok (.iload_n 2, 1) ∧ decode cX6_taken 52 = .ok (.bipush 6, 2) ∧ decode cX6_taken 54 = .ok (.if_icmp .ne 20, 3) ∧ decode cX6_taken 57 = .ok (.aload_n 0, 1) ∧ decode cX6_taken 58 = .ok (.getfield 19, 3) ∧ decode cX6_taken 61 = .ok (.iconst 3, 1) ∧ decode cX6_taken 62 = .ok (.iload_n 1, 1) ∧ decode cX6_taken 63 = .ok (.bipush 6, 2) ∧ decode cX6_taken 65 = .ok (.isub, 1) ∧ decode cX6_taken 66 = .ok (.imul, 1) ∧ decode cX6_taken 67 = .ok (.iconst 2, 1) := by decide +kernel
theorem dX6_taken_48 : decode cX6_taken 48 = .ok (.goto 29, 3) := zd02dec4_150.1
theorem dX6_taken_51 : decode cX6_taken 51 = .ok (.iload_n 2, 1) := zd02dec4_150.2.1
theorem dX6_taken_52 : decode cX6_taken 52 = .ok (.bipush 6, 2) := zd02dec4_150.2.2.1
theorem dX6_taken_54 : decode cX6_taken 54 = .ok (.if_icmp .ne 20, 3) := zd02dec4_150.2.2.2.1
theorem dX6_taken_57 : decode cX6_taken 57 = .ok (.aload_n 0, 1) := zd02dec4_150.2.2.2.2.1
theorem dX6_taken_58 : decode cX6_taken 58 = .ok (.getfield 19, 3) := zd02dec4_150.2.2.2.2.2.1
theorem dX6_taken_61 : decode cX6_taken 61 = .ok (.iconst 3, 1) := zd02dec4_150.2.2.2.2.2.2.1
theorem dX6_taken_62 : decode cX6_taken 62 = .ok (.iload_n 1, 1) := zd02dec4_150.2.2.2.2.2.2.2.1
theorem dX6_taken_63 : decode cX6_taken 63 = .ok (.bipush 6, 2) := zd02dec4_150.2.2.2.2.2.2.2.2.1
theorem dX6_taken_65 : decode cX6_taken 65 = .ok (.isub, 1) := zd02dec4_150.2.2.2.2.2.2.2.2.2.1
theorem dX6_taken_66 : decode cX6_taken 66 = .ok (.imul, 1) := zd02dec4_150.2.2.2.2.2.2.2.2.2.2.1
theorem dX6_taken_67 : decode cX6_taken 67 = .ok (.iconst 2, 1) := zd02dec4_150.2.2.2.2.2.2.2.2.2.2.2
theorem zd02dec4_151 : decode cX6_taken 68 = .ok (.iadd, 1) ∧ decode cX6_taken 69 = .ok (.iaload, 1) ∧ decode cX6_taken 70 = .ok (.i2l, 1) ∧ decode cX6_taken 71 = .ok (.goto 6, 3) ∧ decode cX6_taken 74 = .ok (.ldc2_w 286, 3) ∧ decode cX6_taken 77 = .ok (.lreturn, 1) ∧ decode cX6_taken 78 = .ok (.iload_n 1, 1) ∧ decode cX6_taken 79 = .ok (.aload_n 0, 1) ∧ decode cX6_taken 80 = .ok (.getfield 88, 3) ∧ decode cX6_taken 83 = .ok (.if_icmp .lt 9, 3) ∧ decode cX6_taken 86 = .ok (.ldc2_w 284, 3) ∧ decode cX6_taken 89 = .ok (.goto 30, 3) := by decide +kernel
theorem dX6_taken_68 : decode cX6_taken 68 = .ok (.iadd, 1) := zd02dec4_151.1
theorem dX6_taken_69 : decode cX6_taken 69 = .ok (.iaload, 1) := zd02dec4_151.2.1
theorem dX6_taken_70 : decode cX6_taken 70 = .ok (.i2l, 1) := zd02dec4_151.2.2.1
theorem dX6_taken_71 : decode cX6_taken 71 = .ok (.goto 6, 3) := zd02dec4_151.2.2.2.1
theorem dX6_taken_74 : decode cX6_taken 74 = .ok (.ldc2_w 286, 3) := zd02dec4_151.2.2.2.2.1
theorem dX6_taken_77 : decode cX6_taken 77 = .ok (.lreturn, 1) := zd02dec4_151.2.2.2.2.2.1
theorem dX6_taken_78 : decode cX6_taken 78 = .ok (.iload_n 1, 1) := zd02dec4_151.2.2.2.2.2.2.1
theorem dX6_taken_79 : decode cX6_taken 79 = .ok (.aload_n 0, 1) := zd02dec4_151.2.2.2.2.2.2.2.1
theorem dX6_taken_80 : decode cX6_taken 80 = .ok (.getfield 88, 3) := zd02dec4_151.2.2.2.2.2.2.2.2.1
theorem dX6_taken_83 : decode cX6_taken 83 = .ok (.if_icmp .lt 9, 3) := zd02dec4_151.2.2.2.2.2.2.2.2.2.1
theorem dX6_taken_86 : decode cX6_taken 86 = .ok (.ldc2_w 284, 3) := zd02dec4_151.2.2.2.2.2.2.2.2.2.2.1
theorem dX6_taken_89 : decode cX6_taken 89 = .ok (.goto 30, 3) := zd02dec4_151.2.2.2.2.2.2.2.2.2.2.2
theorem zd02dec4_152 : decode cX6_taken 92 = .ok (.iload_n 2, 1) ∧ decode cX6_taken 93 = .ok (.bipush 6, 2) ∧ decode cX6_taken 95 = .ok (.if_icmp .ge 21, 3) ∧ decode cX6_taken 98 = .ok (.aload_n 0, 1) ∧ decode cX6_taken 99 = .ok (.getfield 7, 3) ∧ decode cX6_taken 102 = .ok (.iload_n 1, 1) ∧ decode cX6_taken 103 = .ok (.iaload, 1) ∧ decode cX6_taken 104 = .ok (.iload_n 2, 1) ∧ decode cX6_taken 105 = .ok (.invokestatic 288, 3) ∧ decode cX6_taken 108 = .ok (.ifCond .eq 8, 3) ∧ decode cX6_taken 111 = .ok (.iload_n 1, 1) ∧ decode cX6_taken 112 = .ok (.i2l, 1) := by decide +kernel
theorem dX6_taken_92 : decode cX6_taken 92 = .ok (.iload_n 2, 1) := zd02dec4_152.1
theorem dX6_taken_93 : decode cX6_taken 93 = .ok (.bipush 6, 2) := zd02dec4_152.2.1
theorem dX6_taken_95 : decode cX6_taken 95 = .ok (.if_icmp .ge 21, 3) := zd02dec4_152.2.2.1
theorem dX6_taken_98 : decode cX6_taken 98 = .ok (.aload_n 0, 1) := zd02dec4_152.2.2.2.1
theorem dX6_taken_99 : decode cX6_taken 99 = .ok (.getfield 7, 3) := zd02dec4_152.2.2.2.2.1
theorem dX6_taken_102 : decode cX6_taken 102 = .ok (.iload_n 1, 1) := zd02dec4_152.2.2.2.2.2.1
theorem dX6_taken_103 : decode cX6_taken 103 = .ok (.iaload, 1) := zd02dec4_152.2.2.2.2.2.2.1
theorem dX6_taken_104 : decode cX6_taken 104 = .ok (.iload_n 2, 1) := zd02dec4_152.2.2.2.2.2.2.2.1
theorem dX6_taken_105 : decode cX6_taken 105 = .ok (.invokestatic 288, 3) := zd02dec4_152.2.2.2.2.2.2.2.2.1
theorem dX6_taken_108 : decode cX6_taken 108 = .ok (.ifCond .eq 8, 3) := zd02dec4_152.2.2.2.2.2.2.2.2.2.1
theorem dX6_taken_111 : decode cX6_taken 111 = .ok (.iload_n 1, 1) := zd02dec4_152.2.2.2.2.2.2.2.2.2.2.1
theorem dX6_taken_112 : decode cX6_taken 112 = .ok (.i2l, 1) := zd02dec4_152.2.2.2.2.2.2.2.2.2.2.2
theorem zd02dec4_153 : decode cX6_taken 113 = .ok (.goto 6, 3) ∧ decode cX6_taken 116 = .ok (.ldc2_w 286, 3) ∧ decode cX6_taken 119 = .ok (.lreturn, 1) := by decide +kernel
theorem dX6_taken_113 : decode cX6_taken 113 = .ok (.goto 6, 3) := zd02dec4_153.1
theorem dX6_taken_116 : decode cX6_taken 116 = .ok (.ldc2_w 286, 3) := zd02dec4_153.2.1
theorem dX6_taken_119 : decode cX6_taken 119 = .ok (.lreturn, 1) := zd02dec4_153.2.2
theorem zd02dec4_154 : decode cJ11_isValidCodePoint_9a6ad 0 = .ok (.iload_n 0, 1) ∧ decode cJ11_isValidCodePoint_9a6ad 1 = .ok (.bipush 16, 2) ∧ decode cJ11_isValidCodePoint_9a6ad 3 = .ok (.iushr, 1) ∧ decode cJ11_isValidCodePoint_9a6ad 4 = .ok (.istore_n 1, 1) ∧ decode cJ11_isValidCodePoint_9a6ad 5 = .ok (.iload_n 1, 1) ∧ decode cJ11_isValidCodePoint_9a6ad 6 = .ok (.bipush 17, 2) ∧ decode cJ11_isValidCodePoint_9a6ad 8 = .ok (.if_icmp .ge 7, 3) ∧ decode cJ11_isValidCodePoint_9a6ad 11 = .ok (.iconst 1, 1) ∧ decode cJ11_isValidCodePoint_9a6ad 12 = .ok (.goto 4, 3) ∧ decode cJ11_isValidCodePoint_9a6ad 15 = .ok (.iconst 0, 1) ∧ decode cJ11_isValidCodePoint_9a6ad 16 = .ok (.ireturn, 1) := by decide +kernel
theorem dJ11_isValidCodePoint_9a6ad_0 : decode cJ11_isValidCodePoint_9a6ad 0 = .ok (.iload_n 0, 1) := zd02dec4_154.1
theorem dJ11_isValidCodePoint_9a6ad_1 : decode cJ11_isValidCodePoint_9a6ad 1 = .ok (.bipush 16, 2) := zd02dec4_154.2.1
theorem dJ11_isValidCodePoint_9a6ad_3 : decode cJ11_isValidCodePoint_9a6ad 3 = .ok (.iushr, 1) := zd02dec4_154.2.2.1
theorem dJ11_isValidCodePoint_9a6ad_4 : decode cJ11_isValidCodePoint_9a6ad 4 = .ok (.istore_n 1, 1) := zd02dec4_154.2.2.2.1
theorem dJ11_isValidCodePoint_9a6ad_5 : decode cJ11_isValidCodePoint_9a6ad 5 = .ok (.iload_n 1, 1) := zd02dec4_154.2.2.2.2.1
theorem dJ11_isValidCodePoint_9a6ad_6 : decode cJ11_isValidCodePoint_9a6ad 6 = .ok (.bipush 17, 2) := zd02dec4_154.2.2.2.2.2.1
theorem dJ11_isValidCodePoint_9a6ad_8 : decode cJ11_isValidCodePoint_9a6ad 8 = .ok (.if_icmp .ge 7, 3) := zd02dec4_154.2.2.2.2.2.2.1
theorem dJ11_isValidCodePoint_9a6ad_11 : decode cJ11_isValidCodePoint_9a6ad 11 = .ok (.iconst 1, 1) := zd02dec4_154.2.2.2.2.2.2.2.1
theorem dJ11_isValidCodePoint_9a6ad_12 : decode cJ11_isValidCodePoint_9a6ad 12 = .ok (.goto 4, 3) := zd02dec4_154.2.2.2.2.2.2.2.2.1
theorem dJ11_isValidCodePoint_9a6ad_15 : decode cJ11_isValidCodePoint_9a6ad 15 = .ok (.iconst 0, 1) := zd02dec4_154.2.2.2.2.2.2.2.2.2.1
theorem dJ11_isValidCodePoint_9a6ad_16 : decode cJ11_isValidCodePoint_9a6ad 16 = .ok (.ireturn, 1) := zd02dec4_154.2.2.2.2.2.2.2.2.2.2
theorem zd02dec4_155 : decode cJ11_highSurrogate_5068e 0 = .ok (.iload_n 0, 1) ∧ decode cJ11_highSurrogate_5068e 1 = .ok (.bipush 10, 2) ∧ decode cJ11_highSurrogate_5068e 3 = .ok (.iushr, 1) ∧ decode cJ11_highSurrogate_5068e 4 = .ok (.ldc 110, 2) ∧ decode cJ11_highSurrogate_5068e 6 = .ok (.iadd, 1) ∧ decode cJ11_highSurrogate_5068e 7 = .ok (.i2c, 1) ∧ decode cJ11_highSurrogate_5068e 8 = .ok (.ireturn, 1) := by decide +kernel
theorem dJ11_highSurrogate_5068e_0 : decode cJ11_highSurrogate_5068e 0 = .ok (.iload_n 0, 1) := zd02dec4_155.1
theorem dJ11_highSurrogate_5068e_1 : decode cJ11_highSurrogate_5068e 1 = .ok (.bipush 10, 2) := zd02dec4_155.2.1
theorem dJ11_highSurrogate_5068e_3 : decode cJ11_highSurrogate_5068e 3 = .ok (.iushr, 1) := zd02dec4_155.2.2.1
theorem dJ11_highSurrogate_5068e_4 : decode cJ11_highSurrogate_5068e 4 = .ok (.ldc 110, 2) := zd02dec4_155.2.2.2.1
theorem dJ11_highSurrogate_5068e_6 : decode cJ11_highSurrogate_5068e 6 = .ok (.iadd, 1) := zd02dec4_155.2.2.2.2.1
theorem dJ11_highSurrogate_5068e_7 : decode cJ11_highSurrogate_5068e 7 = .ok (.i2c, 1) := zd02dec4_155.2.2.2.2.2.1
theorem dJ11_highSurrogate_5068e_8 : decode cJ11_highSurrogate_5068e 8 = .ok (.ireturn, 1) := zd02dec4_155.2.2.2.2.2.2
theorem zd02dec4_156 : decode cJ11_lowSurrogate_5068e 0 = .ok (.iload_n 0, 1) ∧ decode cJ11_lowSurrogate_5068e 1 = .ok (.sipush 1023, 3) ∧ decode cJ11_lowSurrogate_5068e 4 = .ok (.iand, 1) ∧ decode cJ11_lowSurrogate_5068e 5 = .ok (.ldc 76, 2) ∧ decode cJ11_lowSurrogate_5068e 7 = .ok (.iadd, 1) ∧ decode cJ11_lowSurrogate_5068e 8 = .ok (.i2c, 1) ∧ decode cJ11_lowSurrogate_5068e 9 = .ok (.ireturn, 1) := by decide +kernel
theorem dJ11_lowSurrogate_5068e_0 : decode cJ11_lowSurrogate_5068e 0 = .ok (.iload_n 0, 1) := zd02dec4_156.1
theorem dJ11_lowSurrogate_5068e_1 : decode cJ11_lowSurrogate_5068e 1 = .ok (.sipush 1023, 3) := zd02dec4_156.2.1
theorem dJ11_lowSurrogate_5068e_4 : decode cJ11_lowSurrogate_5068e 4 = .ok (.iand, 1) := zd02dec4_156.2.2.1
theorem dJ11_lowSurrogate_5068e_5 : decode cJ11_lowSurrogate_5068e 5 = .ok (.ldc 76, 2) := zd02dec4_156.2.2.2.1
theorem dJ11_lowSurrogate_5068e_7 : decode cJ11_lowSurrogate_5068e 7 = .ok (.iadd, 1) := zd02dec4_156.2.2.2.2.1
theorem dJ11_lowSurrogate_5068e_8 : decode cJ11_lowSurrogate_5068e 8 = .ok (.i2c, 1) := zd02dec4_156.2.2.2.2.2.1
theorem dJ11_lowSurrogate_5068e_9 : decode cJ11_lowSurrogate_5068e 9 = .ok (.ireturn, 1) := zd02dec4_156.2.2.2.2.2.2
theorem zd02dec4_157 : decode cJ6_bitCount_0f7a4 0 = .ok (.iload_n 0, 1) ∧ decode cJ6_bitCount_0f7a4 1 = .ok (.iload_n 0, 1) ∧ decode cJ6_bitCount_0f7a4 2 = .ok (.iconst 1, 1) ∧ decode cJ6_bitCount_0f7a4 3 = .ok (.iushr, 1) ∧ decode cJ6_bitCount_0f7a4 4 = .ok (.ldc_w 265, 3) ∧ decode cJ6_bitCount_0f7a4 7 = .ok (.iand, 1) ∧ decode cJ6_bitCount_0f7a4 8 = .ok (.isub, 1) ∧ decode cJ6_bitCount_0f7a4 9 = .ok (.istore_n 0, 1) ∧ decode cJ6_bitCount_0f7a4 10 = .ok (.iload_n 0, 1) ∧ decode cJ6_bitCount_0f7a4 11 = .ok (.ldc_w 266, 3) ∧ decode cJ6_bitCount_0f7a4 14 = .ok (.iand, 1) ∧ decode cJ6_bitCount_0f7a4 15 = .ok (.iload_n 0, 1) := by decide +kernel
theorem dJ6_bitCount_0f7a4_0 : decode cJ6_bitCount_0f7a4 0 = .ok (.iload_n 0, 1) := zd02dec4_157.1
theorem dJ6_bitCount_0f7a4_1 : decode cJ6_bitCount_0f7a4 1 = .ok (.iload_n 0, 1) := zd02dec4_157.2.1
theorem dJ6_bitCount_0f7a4_2 : decode cJ6_bitCount_0f7a4 2 = .ok (.iconst 1, 1) := zd02dec4_157.2.2.1
theorem dJ6_bitCount_0f7a4_3 : decode cJ6_bitCount_0f7a4 3 = .ok (.iushr, 1) := zd02dec4_157.2.2.2.1
theorem dJ6_bitCount_0f7a4_4 : decode cJ6_bitCount_0f7a4 4 = .ok (.ldc_w 265, 3) := zd02dec4_157.2.2.2.2.1
theorem dJ6_bitCount_0f7a4_7 : decode cJ6_bitCount_0f7a4 7 = .ok (.iand, 1) := zd02dec4_157.2.2.2.2.2.1
theorem dJ6_bitCount_0f7a4_8 : decode cJ6_bitCount_0f7a4 8 = .ok (.isub, 1) := zd02dec4_157.2.2.2.2.2.2.1
theorem dJ6_bitCount_0f7a4_9 : decode cJ6_bitCount_0f7a4 9 = .ok (.istore_n 0, 1) := zd02dec4_157.2.2.2.2.2.2.2.1
theorem dJ6_bitCount_0f7a4_10 : decode cJ6_bitCount_0f7a4 10 = .ok (.iload_n 0, 1) := zd02dec4_157.2.2.2.2.2.2.2.2.1
theorem dJ6_bitCount_0f7a4_11 : decode cJ6_bitCount_0f7a4 11 = .ok (.ldc_w 266, 3) := zd02dec4_157.2.2.2.2.2.2.2.2.2.1
theorem dJ6_bitCount_0f7a4_14 : decode cJ6_bitCount_0f7a4 14 = .ok (.iand, 1) := zd02dec4_157.2.2.2.2.2.2.2.2.2.2.1
theorem dJ6_bitCount_0f7a4_15 : decode cJ6_bitCount_0f7a4 15 = .ok (.iload_n 0, 1) := zd02dec4_157.2.2.2.2.2.2.2.2.2.2.2
theorem zd02dec4_158 : decode cJ6_bitCount_0f7a4 16 = .ok (.iconst 2, 1) ∧ decode cJ6_bitCount_0f7a4 17 = .ok (.iushr, 1) ∧ decode cJ6_bitCount_0f7a4 18 = .ok (.ldc_w 266, 3) ∧ decode cJ6_bitCount_0f7a4 21 = .ok (.iand, 1) ∧ decode cJ6_bitCount_0f7a4 22 = .ok (.iadd, 1) ∧ decode cJ6_bitCount_0f7a4 23 = .ok (.istore_n 0, 1) ∧ decode cJ6_bitCount_0f7a4 24 = .ok (.iload_n 0, 1) ∧ decode cJ6_bitCount_0f7a4 25 = .ok (.iload_n 0, 1) ∧ decode cJ6_bitCount_0f7a4 26 = .ok (.iconst 4, 1) ∧ decode cJ6_bitCount_0f7a4 27 = .ok (.iushr, 1) ∧ decode cJ6_bitCount_0f7a4 28 = .ok (.iadd, 1) ∧ decode cJ6_bitCount_0f7a4 29 = .ok (.ldc_w 267, 3) := by decide +kernel
theorem dJ6_bitCount_0f7a4_16 : decode cJ6_bitCount_0f7a4 16 = .ok (.iconst 2, 1) := zd02dec4_158.1
theorem dJ6_bitCount_0f7a4_17 : decode cJ6_bitCount_0f7a4 17 = .ok (.iushr, 1) := zd02dec4_158.2.1
theorem dJ6_bitCount_0f7a4_18 : decode cJ6_bitCount_0f7a4 18 = .ok (.ldc_w 266, 3) := zd02dec4_158.2.2.1
theorem dJ6_bitCount_0f7a4_21 : decode cJ6_bitCount_0f7a4 21 = .ok (.iand, 1) := zd02dec4_158.2.2.2.1
theorem dJ6_bitCount_0f7a4_22 : decode cJ6_bitCount_0f7a4 22 = .ok (.iadd, 1) := zd02dec4_158.2.2.2.2.1
theorem dJ6_bitCount_0f7a4_23 : decode cJ6_bitCount_0f7a4 23 = .ok (.istore_n 0, 1) := zd02dec4_158.2.2.2.2.2.1
theorem dJ6_bitCount_0f7a4_24 : decode cJ6_bitCount_0f7a4 24 = .ok (.iload_n 0, 1) := zd02dec4_158.2.2.2.2.2.2.1
theorem dJ6_bitCount_0f7a4_25 : decode cJ6_bitCount_0f7a4 25 = .ok (.iload_n 0, 1) := zd02dec4_158.2.2.2.2.2.2.2.1
theorem dJ6_bitCount_0f7a4_26 : decode cJ6_bitCount_0f7a4 26 = .ok (.iconst 4, 1) := zd02dec4_158.2.2.2.2.2.2.2.2.1
theorem dJ6_bitCount_0f7a4_27 : decode cJ6_bitCount_0f7a4 27 = .ok (.iushr, 1) := zd02dec4_158.2.2.2.2.2.2.2.2.2.1
theorem dJ6_bitCount_0f7a4_28 : decode cJ6_bitCount_0f7a4 28 = .ok (.iadd, 1) := zd02dec4_158.2.2.2.2.2.2.2.2.2.2.1
theorem dJ6_bitCount_0f7a4_29 : decode cJ6_bitCount_0f7a4 29 = .ok (.ldc_w 267, 3) := zd02dec4_158.2.2.2.2.2.2.2.2.2.2.2
theorem zd02dec4_159 : decode cJ6_bitCount_0f7a4 32 = .ok (.iand, 1) ∧ decode cJ6_bitCount_0f7a4 33 = .ok (.istore_n 0, 1) ∧ decode cJ6_bitCount_0f7a4 34 = .ok (.iload_n 0, 1) ∧ decode cJ6_bitCount_0f7a4 35 = .ok (.iload_n 0, 1) ∧ decode cJ6_bitCount_0f7a4 36 = .ok (.bipush 8, 2) ∧ decode cJ6_bitCount_0f7a4 38 = .ok (.iushr, 1) ∧ decode cJ6_bitCount_0f7a4 39 = .ok (.iadd, 1) ∧ decode cJ6_bitCount_0f7a4 40 = .ok (.istore_n 0, 1) ∧ decode cJ6_bitCount_0f7a4 41 = .ok (.iload_n 0, 1) ∧ decode cJ6_bitCount_0f7a4 42 = .ok (.iload_n 0, 1) ∧ decode cJ6_bitCount_0f7a4 43 = .ok (.bipush 16, 2) ∧ decode cJ6_bitCount_0f7a4 45 = .ok (.iushr, 1) := by decide +kernel
theorem dJ6_bitCount_0f7a4_32 : decode cJ6_bitCount_0f7a4 32 = .ok (.iand, 1) := zd02dec4_159.1
theorem dJ6_bitCount_0f7a4_33 : decode cJ6_bitCount_0f7a4 33 = .ok (.istore_n 0, 1) := zd02dec4_159.2.1
theorem dJ6_bitCount_0f7a4_34 : decode cJ6_bitCount_0f7a4 34 = .ok (.iload_n 0, 1) := zd02dec4_159.2.2.1
theorem dJ6_bitCount_0f7a4_35 : decode cJ6_bitCount_0f7a4 35 = .ok (.iload_n 0, 1) := zd02dec4_159.2.2.2.1
theorem dJ6_bitCount_0f7a4_36 : decode cJ6_bitCount_0f7a4 36 = .ok (.bipush 8, 2) := zd02dec4_159.2.2.2.2.1
theorem dJ6_bitCount_0f7a4_38 : decode cJ6_bitCount_0f7a4 38 = .ok (.iushr, 1) := zd02dec4_159.2.2.2.2.2.1
theorem dJ6_bitCount_0f7a4_39 : decode cJ6_bitCount_0f7a4 39 = .ok (.iadd, 1) := zd02dec4_159.2.2.2.2.2.2.1
theorem dJ6_bitCount_0f7a4_40 : decode cJ6_bitCount_0f7a4 40 = .ok (.istore_n 0, 1) := zd02dec4_159.2.2.2.2.2.2.2.1
theorem dJ6_bitCount_0f7a4_41 : decode cJ6_bitCount_0f7a4 41 = .ok (.iload_n 0, 1) := zd02dec4_159.2.2.2.2.2.2.2.2.1
theorem dJ6_bitCount_0f7a4_42 : decode cJ6_bitCount_0f7a4 42 = .ok (.iload_n 0, 1) := zd02dec4_159.2.2.2.2.2.2.2.2.2.1
theorem dJ6_bitCount_0f7a4_43 : decode cJ6_bitCount_0f7a4 43 = .ok (.bipush 16, 2) := zd02dec4_159.2.2.2.2.2.2.2.2.2.2.1
theorem dJ6_bitCount_0f7a4_45 : decode cJ6_bitCount_0f7a4 45 = .ok (.iushr, 1) := zd02dec4_159.2.2.2.2.2.2.2.2.2.2.2
theorem zd02dec4_160 : decode cJ6_bitCount_0f7a4 46 = .ok (.iadd, 1) ∧ decode cJ6_bitCount_0f7a4 47 = .ok (.istore_n 0, 1) ∧ decode cJ6_bitCount_0f7a4 48 = .ok (.iload_n 0, 1) ∧ decode cJ6_bitCount_0f7a4 49 = .ok (.bipush 63, 2) ∧ decode cJ6_bitCount_0f7a4 51 = .ok (.iand, 1) ∧ decode cJ6_bitCount_0f7a4 52 = .ok (.ireturn, 1) := by decide +kernel
theorem dJ6_bitCount_0f7a4_46 : decode cJ6_bitCount_0f7a4 46 = .ok (.iadd, 1) := zd02dec4_160.1
theorem dJ6_bitCount_0f7a4_47 : decode cJ6_bitCount_0f7a4 47 = .ok (.istore_n 0, 1) := zd02dec4_160.2.1
theorem dJ6_bitCount_0f7a4_48 : decode cJ6_bitCount_0f7a4 48 = .ok (.iload_n 0, 1) := zd02dec4_160.2.2.1
theorem dJ6_bitCount_0f7a4_49 : decode cJ6_bitCount_0f7a4 49 = .ok (.bipush 63, 2) := zd02dec4_160.2.2.2.1
theorem dJ6_bitCount_0f7a4_51 : decode cJ6_bitCount_0f7a4 51 = .ok (.iand, 1) := zd02dec4_160.2.2.2.2.1
theorem dJ6_bitCount_0f7a4_52 : decode cJ6_bitCount_0f7a4 52 = .ok (.ireturn, 1) := zd02dec4_160.2.2.2.2.2
theorem zd02dec4_161 : decode cJ9_max_7cf53 0 = .ok (.iload_n 0, 1) ∧ decode cJ9_max_7cf53 1 = .ok (.iload_n 1, 1) ∧ decode cJ9_max_7cf53 2 = .ok (.if_icmp .lt 7, 3) ∧ decode cJ9_max_7cf53 5 = .ok (.iload_n 0, 1) ∧ decode cJ9_max_7cf53 6 = .ok (.goto 4, 3) ∧ decode cJ9_max_7cf53 9 = .ok (.iload_n 1, 1) ∧ decode cJ9_max_7cf53 10 = .ok (.ireturn, 1) := by decide +kernel
theorem dJ9_max_7cf53_0 : decode cJ9_max_7cf53 0 = .ok (.iload_n 0, 1) := zd02dec4_161.1
theorem dJ9_max_7cf53_1 : decode cJ9_max_7cf53 1 = .ok (.iload_n 1, 1) := zd02dec4_161.2.1
theorem dJ9_max_7cf53_2 : decode cJ9_max_7cf53 2 = .ok (.if_icmp .lt 7, 3) := zd02dec4_161.2.2.1
theorem dJ9_max_7cf53_5 : decode cJ9_max_7cf53 5 = .ok (.iload_n 0, 1) := zd02dec4_161.2.2.2.1
theorem dJ9_max_7cf53_6 : decode cJ9_max_7cf53 6 = .ok (.goto 4, 3) := zd02dec4_161.2.2.2.2.1
theorem dJ9_max_7cf53_9 : decode cJ9_max_7cf53 9 = .ok (.iload_n 1, 1) := zd02dec4_161.2.2.2.2.2.1
theorem dJ9_max_7cf53_10 : decode cJ9_max_7cf53 10 = .ok (.ireturn, 1) := zd02dec4_161.2.2.2.2.2.2
theorem zd02dec4_162 : decode cJ9_min_7cf53 0 = .ok (.iload_n 0, 1) ∧ decode cJ9_min_7cf53 1 = .ok (.iload_n 1, 1) ∧ decode cJ9_min_7cf53 2 = .ok (.if_icmp .gt 7, 3) ∧ decode cJ9_min_7cf53 5 = .ok (.iload_n 0, 1) ∧ decode cJ9_min_7cf53 6 = .ok (.goto 4, 3) ∧ decode cJ9_min_7cf53 9 = .ok (.iload_n 1, 1) ∧ decode cJ9_min_7cf53 10 = .ok (.ireturn, 1) := by decide +kernel
theorem dJ9_min_7cf53_0 : decode cJ9_min_7cf53 0 = .ok (.iload_n 0, 1) := zd02dec4_162.1
theorem dJ9_min_7cf53_1 : decode cJ9_min_7cf53 1 = .ok (.iload_n 1, 1) := zd02dec4_162.2.1
theorem dJ9_min_7cf53_2 : decode cJ9_min_7cf53 2 = .ok (.if_icmp .gt 7, 3) := zd02dec4_162.2.2.1
theorem dJ9_min_7cf53_5 : decode cJ9_min_7cf53 5 = .ok (.iload_n 0, 1) := zd02dec4_162.2.2.2.1
theorem dJ9_min_7cf53_6 : decode cJ9_min_7cf53 6 = .ok (.goto 4, 3) := zd02dec4_162.2.2.2.2.1
theorem dJ9_min_7cf53_9 : decode cJ9_min_7cf53 9 = .ok (.iload_n 1, 1) := zd02dec4_162.2.2.2.2.2.1
theorem dJ9_min_7cf53_10 : decode cJ9_min_7cf53 10 = .ok (.ireturn, 1) := zd02dec4_162.2.2.2.2.2.2
theorem zd02dec4_163 : decode cJ0_length_8abf5 0 = .ok (.aload_n 0, 1) ∧ decode cJ0_length_8abf5 1 = .ok (.getfield 9, 3) ∧ decode cJ0_length_8abf5 4 = .ok (.arraylength, 1) ∧ decode cJ0_length_8abf5 5 = .ok (.aload_n 0, 1) ∧ decode cJ0_length_8abf5 6 = .ok (.invokevirtual 335, 3) ∧ decode cJ0_length_8abf5 9 = .ok (.ishr, 1) ∧ decode cJ0_length_8abf5 10 = .ok (.ireturn, 1) := by decide +kernel
theorem dJ0_length_8abf5_0 : decode cJ0_length_8abf5 0 = .ok (.aload_n 0, 1) := zd02dec4_163.1
theorem dJ0_length_8abf5_1 : decode cJ0_length_8abf5 1 = .ok (.getfield 9, 3) := zd02dec4_163.2.1
theorem dJ0_length_8abf5_4 : decode cJ0_length_8abf5 4 = .ok (.arraylength, 1) := zd02dec4_163.2.2.1
theorem dJ0_length_8abf5_5 : decode cJ0_length_8abf5 5 = .ok (.aload_n 0, 1) := zd02dec4_163.2.2.2.1
theorem dJ0_length_8abf5_6 : decode cJ0_length_8abf5 6 = .ok (.invokevirtual 335, 3) := zd02dec4_163.2.2.2.2.1
theorem dJ0_length_8abf5_9 : decode cJ0_length_8abf5 9 = .ok (.ishr, 1) := zd02dec4_163.2.2.2.2.2.1
theorem dJ0_length_8abf5_10 : decode cJ0_length_8abf5 10 = .ok (.ireturn, 1) := zd02dec4_163.2.2.2.2.2.2
theorem zd02dec4_164 : decode cJ0_charAt_5068e 0 = .ok (.aload_n 0, 1) ∧ decode cJ0_charAt_5068e 1 = .ok (.invokevirtual 492, 3) ∧ decode cJ0_charAt_5068e 4 = .ok (.ifCond .eq 12, 3) ∧ decode cJ0_charAt_5068e 7 = .ok (.aload_n 0, 1) ∧ decode cJ0_charAt_5068e 8 = .ok (.getfield 9, 3) ∧ decode cJ0_charAt_5068e 11 = .ok (.iload_n 1, 1) ∧ decode cJ0_charAt_5068e 12 = .ok (.invokestatic 495, 3) ∧ decode cJ0_charAt_5068e 15 = .ok (.ireturn, 1) ∧ decode cJ0_charAt_5068e 16 = .ok (.aload_n 0, 1) ∧ decode cJ0_charAt_5068e 17 = .ok (.getfield 9, 3) ∧ decode cJ0_charAt_5068e 20 = .ok (.iload_n 1, 1) ∧ decode cJ0_charAt_5068e 21 = .ok (.invokestatic 498, 3) := by decide +kernel
theorem dJ0_charAt_5068e_0 : decode cJ0_charAt_5068e 0 = .ok (.aload_n 0, 1) := zd02dec4_164.1
theorem dJ0_charAt_5068e_1 : decode cJ0_charAt_5068e 1 = .ok (.invokevirtual 492, 3) := zd02dec4_164.2.1
theorem dJ0_charAt_5068e_4 : decode cJ0_charAt_5068e 4 = .ok (.ifCond .eq 12, 3) := zd02dec4_164.2.2.1
theorem dJ0_charAt_5068e_7 : decode cJ0_charAt_5068e 7 = .ok (.aload_n 0, 1) := zd02dec4_164.2.2.2.1
theorem dJ0_charAt_5068e_8 : decode cJ0_charAt_5068e 8 = .ok (.getfield 9, 3) := zd02dec4_164.2.2.2.2.1
theorem dJ0_charAt_5068e_11 : decode cJ0_charAt_5068e 11 = .ok (.iload_n 1, 1) := zd02dec4_164.2.2.2.2.2.1
theorem dJ0_charAt_5068e_12 : decode cJ0_charAt_5068e 12 = .ok (.invokestatic 495, 3) := zd02dec4_164.2.2.2.2.2.2.1
theorem dJ0_charAt_5068e_15 : decode cJ0_charAt_5068e 15 = .ok (.ireturn, 1) := zd02dec4_164.2.2.2.2.2.2.2.1
theorem dJ0_charAt_5068e_16 : decode cJ0_charAt_5068e 16 = .ok (.aload_n 0, 1) := zd02dec4_164.2.2.2.2.2.2.2.2.1
theorem dJ0_charAt_5068e_17 : decode cJ0_charAt_5068e 17 = .ok (.getfield 9, 3) := zd02dec4_164.2.2.2.2.2.2.2.2.2.1
theorem dJ0_charAt_5068e_20 : decode cJ0_charAt_5068e 20 = .ok (.iload_n 1, 1) := zd02dec4_164.2.2.2.2.2.2.2.2.2.2.1
theorem dJ0_charAt_5068e_21 : decode cJ0_charAt_5068e 21 = .ok (.invokestatic 498, 3) := zd02dec4_164.2.2.2.2.2.2.2.2.2.2.2
theorem dJ0_charAt_5068e_24 : decode cJ0_charAt_5068e 24 = .ok (.ireturn, 1) := by decide +kernel
theorem zd02dec4_165 : decode cJ0_indexOf_0f7a4 0 = .ok (.aload_n 0, 1) ∧ decode cJ0_indexOf_0f7a4 1 = .ok (.iload_n 1, 1) ∧ decode cJ0_indexOf_0f7a4 2 = .ok (.iconst 0, 1) ∧ decode cJ0_indexOf_0f7a4 3 = .ok (.invokevirtual 633, 3) ∧ decode cJ0_indexOf_0f7a4 6 = .ok (.ireturn, 1) := by decide +kernel
theorem dJ0_indexOf_0f7a4_0 : decode cJ0_indexOf_0f7a4 0 = .ok (.aload_n 0, 1) := zd02dec4_165.1
theorem dJ0_indexOf_0f7a4_1 : decode cJ0_indexOf_0f7a4 1 = .ok (.iload_n 1, 1) := zd02dec4_165.2.1
theorem dJ0_indexOf_0f7a4_2 : decode cJ0_indexOf_0f7a4 2 = .ok (.iconst 0, 1) := zd02dec4_165.2.2.1
theorem dJ0_indexOf_0f7a4_3 : decode cJ0_indexOf_0f7a4 3 = .ok (.invokevirtual 633, 3) := zd02dec4_165.2.2.2.1
theorem dJ0_indexOf_0f7a4_6 : decode cJ0_indexOf_0f7a4 6 = .ok (.ireturn, 1) := zd02dec4_165.2.2.2.2
theorem zd02dec4_166 : decode cJ0_indexOf_7cf53 0 = .ok (.aload_n 0, 1) ∧ decode cJ0_indexOf_7cf53 1 = .ok (.invokevirtual 492, 3) ∧ decode cJ0_indexOf_7cf53 4 = .ok (.ifCond .eq 19, 3) ∧ decode cJ0_indexOf_7cf53 7 = .ok (.aload_n 0, 1) ∧ decode cJ0_indexOf_7cf53 8 = .ok (.getfield 9, 3) ∧ decode cJ0_indexOf_7cf53 11 = .ok (.iload_n 1, 1) ∧ decode cJ0_indexOf_7cf53 12 = .ok (.iload_n 2, 1) ∧ decode cJ0_indexOf_7cf53 13 = .ok (.aload_n 0, 1) ∧ decode cJ0_indexOf_7cf53 14 = .ok (.invokevirtual 505, 3) ∧ decode cJ0_indexOf_7cf53 17 = .ok (.invokestatic 637, 3) ∧ decode cJ0_indexOf_7cf53 20 = .ok (.goto 16, 3) ∧ decode cJ0_indexOf_7cf53 23 = .ok (.aload_n 0, 1) := by decide +kernel
theorem dJ0_indexOf_7cf53_0 : decode cJ0_indexOf_7cf53 0 = .ok (.aload_n 0, 1) := zd02dec4_166.1
theorem dJ0_indexOf_7cf53_1 : decode cJ0_indexOf_7cf53 1 = .ok (.invokevirtual 492, 3) := zd02dec4_166.2.1
theorem dJ0_indexOf_7cf53_4 : decode cJ0_indexOf_7cf53 4 = .ok (.ifCond .eq 19, 3) := zd02dec4_166.2.2.1
theorem dJ0_indexOf_7cf53_7 : decode cJ0_indexOf_7cf53 7 = .ok (.aload_n 0, 1) := zd02dec4_166.2.2.2.1
theorem dJ0_indexOf_7cf53_8 : decode cJ0_indexOf_7cf53 8 = .ok (.getfield 9, 3) := zd02dec4_166.2.2.2.2.1
theorem dJ0_indexOf_7cf53_11 : decode cJ0_indexOf_7cf53 11 = .ok (.iload_n 1, 1) := zd02dec4_166.2.2.2.2.2.1
theorem dJ0_indexOf_7cf53_12 : decode cJ0_indexOf_7cf53 12 = .ok (.iload_n 2, 1) := zd02dec4_166.2.2.2.2.2.2.1
theorem dJ0_indexOf_7cf53_13 : decode cJ0_indexOf_7cf53 13 = .ok (.aload_n 0, 1) := zd02dec4_166.2.2.2.2.2.2.2.1
theorem dJ0_indexOf_7cf53_14 : decode cJ0_indexOf_7cf53 14 = .ok (.invokevirtual 505, 3) := zd02dec4_166.2.2.2.2.2.2.2.2.1
theorem dJ0_indexOf_7cf53_17 : decode cJ0_indexOf_7cf53 17 = .ok (.invokestatic 637, 3) := zd02dec4_166.2.2.2.2.2.2.2.2.2.1
theorem dJ0_indexOf_7cf53_20 : decode cJ0_indexOf_7cf53 20 = .ok (.goto 16, 3) := zd02dec4_166.2.2.2.2.2.2.2.2.2.2.1
theorem dJ0_indexOf_7cf53_23 : decode cJ0_indexOf_7cf53 23 = .ok (.aload_n 0, 1) := zd02dec4_166.2.2.2.2.2.2.2.2.2.2.2
theorem zd02dec4_167 : decode cJ0_indexOf_7cf53 24 = .ok (.getfield 9, 3) ∧ decode cJ0_indexOf_7cf53 27 = .ok (.iload_n 1, 1) ∧ decode cJ0_indexOf_7cf53 28 = .ok (.iload_n 2, 1) ∧ decode cJ0_indexOf_7cf53 29 = .ok (.aload_n 0, 1) ∧ decode cJ0_indexOf_7cf53 30 = .ok (.invokevirtual 505, 3) ∧ decode cJ0_indexOf_7cf53 33 = .ok (.invokestatic 640, 3) ∧ decode cJ0_indexOf_7cf53 36 = .ok (.ireturn, 1) := by decide +kernel
theorem dJ0_indexOf_7cf53_24 : decode cJ0_indexOf_7cf53 24 = .ok (.getfield 9, 3) := zd02dec4_167.1
theorem dJ0_indexOf_7cf53_27 : decode cJ0_indexOf_7cf53 27 = .ok (.iload_n 1, 1) := zd02dec4_167.2.1
theorem dJ0_indexOf_7cf53_28 : decode cJ0_indexOf_7cf53 28 = .ok (.iload_n 2, 1) := zd02dec4_167.2.2.1
theorem dJ0_indexOf_7cf53_29 : decode cJ0_indexOf_7cf53 29 = .ok (.aload_n 0, 1) := zd02dec4_167.2.2.2.1
theorem dJ0_indexOf_7cf53_30 : decode cJ0_indexOf_7cf53 30 = .ok (.invokevirtual 505, 3) := zd02dec4_167.2.2.2.2.1
theorem dJ0_indexOf_7cf53_33 : decode cJ0_indexOf_7cf53 33 = .ok (.invokestatic 640, 3) := zd02dec4_167.2.2.2.2.2.1
theorem dJ0_indexOf_7cf53_36 : decode cJ0_indexOf_7cf53 36 = .ok (.ireturn, 1) := zd02dec4_167.2.2.2.2.2.2
theorem zd02dec4_168 : decode cJ0_coder_7d493 0 = .ok (.getstatic 38, 3) ∧ decode cJ0_coder_7d493 3 = .ok (.ifCond .eq 10, 3) ∧ decode cJ0_coder_7d493 6 = .ok (.aload_n 0, 1) ∧ decode cJ0_coder_7d493 7 = .ok (.getfield 15, 3) ∧ decode cJ0_coder_7d493 10 = .ok (.goto 4, 3) ∧ decode cJ0_coder_7d493 13 = .ok (.iconst 1, 1) ∧ decode cJ0_coder_7d493 14 = .ok (.ireturn, 1) := by decide +kernel
theorem dJ0_coder_7d493_0 : decode cJ0_coder_7d493 0 = .ok (.getstatic 38, 3) := zd02dec4_168.1
theorem dJ0_coder_7d493_3 : decode cJ0_coder_7d493 3 = .ok (.ifCond .eq 10, 3) := zd02dec4_168.2.1
theorem dJ0_coder_7d493_6 : decode cJ0_coder_7d493 6 = .ok (.aload_n 0, 1) := zd02dec4_168.2.2.1
theorem dJ0_coder_7d493_7 : decode cJ0_coder_7d493 7 = .ok (.getfield 15, 3) := zd02dec4_168.2.2.2.1
theorem dJ0_coder_7d493_10 : decode cJ0_coder_7d493 10 = .ok (.goto 4, 3) := zd02dec4_168.2.2.2.2.1
theorem dJ0_coder_7d493_13 : decode cJ0_coder_7d493 13 = .ok (.iconst 1, 1) := zd02dec4_168.2.2.2.2.2.1
theorem dJ0_coder_7d493_14 : decode cJ0_coder_7d493 14 = .ok (.ireturn, 1) := zd02dec4_168.2.2.2.2.2.2
theorem zd02dec4_169 : decode cJ0_isLatin1_aae02 0 = .ok (.getstatic 38, 3) ∧ decode cJ0_isLatin1_aae02 3 = .ok (.ifCond .eq 14, 3) ∧ decode cJ0_isLatin1_aae02 6 = .ok (.aload_n 0, 1) ∧ decode cJ0_isLatin1_aae02 7 = .ok (.getfield 15, 3) ∧ decode cJ0_isLatin1_aae02 10 = .ok (.ifCond .ne 7, 3) ∧ decode cJ0_isLatin1_aae02 13 = .ok (.iconst 1, 1) ∧ decode cJ0_isLatin1_aae02 14 = .ok (.goto 4, 3) ∧ decode cJ0_isLatin1_aae02 17 = .ok (.iconst 0, 1) ∧ decode cJ0_isLatin1_aae02 18 = .ok (.ireturn, 1) := by decide +kernel
theorem dJ0_isLatin1_aae02_0 : decode cJ0_isLatin1_aae02 0 = .ok (.getstatic 38, 3) := zd02dec4_169.1
theorem dJ0_isLatin1_aae02_3 : decode cJ0_isLatin1_aae02 3 = .ok (.ifCond .eq 14, 3) := zd02dec4_169.2.1
theorem dJ0_isLatin1_aae02_6 : decode cJ0_isLatin1_aae02 6 = .ok (.aload_n 0, 1) := zd02dec4_169.2.2.1
theorem dJ0_isLatin1_aae02_7 : decode cJ0_isLatin1_aae02 7 = .ok (.getfield 15, 3) := zd02dec4_169.2.2.2.1
theorem dJ0_isLatin1_aae02_10 : decode cJ0_isLatin1_aae02 10 = .ok (.ifCond .ne 7, 3) := zd02dec4_169.2.2.2.2.1
theorem dJ0_isLatin1_aae02_13 : decode cJ0_isLatin1_aae02 13 = .ok (.iconst 1, 1) := zd02dec4_169.2.2.2.2.2.1
theorem dJ0_isLatin1_aae02_14 : decode cJ0_isLatin1_aae02 14 = .ok (.goto 4, 3) := zd02dec4_169.2.2.2.2.2.2.1
theorem dJ0_isLatin1_aae02_17 : decode cJ0_isLatin1_aae02 17 = .ok (.iconst 0, 1) := zd02dec4_169.2.2.2.2.2.2.2.1
theorem dJ0_isLatin1_aae02_18 : decode cJ0_isLatin1_aae02 18 = .ok (.ireturn, 1) := zd02dec4_169.2.2.2.2.2.2.2.2
theorem zd02dec4_170 : decode cJ0_checkIndex_df160 0 = .ok (.iload_n 0, 1) ∧ decode cJ0_checkIndex_df160 1 = .ok (.iload_n 1, 1) ∧ decode cJ0_checkIndex_df160 2 = .ok (.getstatic 1053, 3) ∧ decode cJ0_checkIndex_df160 5 = .ok (.invokestatic 1059, 3) ∧ decode cJ0_checkIndex_df160 8 = .ok (.pop, 1) ∧ decode cJ0_checkIndex_df160 9 = .ok (.return_, 1) := by decide +kernel
theorem dJ0_checkIndex_df160_0 : decode cJ0_checkIndex_df160 0 = .ok (.iload_n 0, 1) := zd02dec4_170.1
theorem dJ0_checkIndex_df160_1 : decode cJ0_checkIndex_df160 1 = .ok (.iload_n 1, 1) := zd02dec4_170.2.1
theorem dJ0_checkIndex_df160_2 : decode cJ0_checkIndex_df160 2 = .ok (.getstatic 1053, 3) := zd02dec4_170.2.2.1
theorem dJ0_checkIndex_df160_5 : decode cJ0_checkIndex_df160 5 = .ok (.invokestatic 1059, 3) := zd02dec4_170.2.2.2.1
theorem dJ0_checkIndex_df160_8 : decode cJ0_checkIndex_df160 8 = .ok (.pop, 1) := zd02dec4_170.2.2.2.2.1
theorem dJ0_checkIndex_df160_9 : decode cJ0_checkIndex_df160 9 = .ok (.return_, 1) := zd02dec4_170.2.2.2.2.2
theorem zd02dec4_171 : decode cJ0_checkBoundsBeginEnd_23922 0 = .ok (.iload_n 0, 1) ∧ decode cJ0_checkBoundsBeginEnd_23922 1 = .ok (.iload_n 1, 1) ∧ decode cJ0_checkBoundsBeginEnd_23922 2 = .ok (.iload_n 2, 1) ∧ decode cJ0_checkBoundsBeginEnd_23922 3 = .ok (.getstatic 1053, 3) ∧ decode cJ0_checkBoundsBeginEnd_23922 6 = .ok (.invokestatic 1062, 3) ∧ decode cJ0_checkBoundsBeginEnd_23922 9 = .ok (.pop, 1) ∧ decode cJ0_checkBoundsBeginEnd_23922 10 = .ok (.return_, 1) := by decide +kernel
theorem dJ0_checkBoundsBeginEnd_23922_0 : decode cJ0_checkBoundsBeginEnd_23922 0 = .ok (.iload_n 0, 1) := zd02dec4_171.1
theorem dJ0_checkBoundsBeginEnd_23922_1 : decode cJ0_checkBoundsBeginEnd_23922 1 = .ok (.iload_n 1, 1) := zd02dec4_171.2.1
theorem dJ0_checkBoundsBeginEnd_23922_2 : decode cJ0_checkBoundsBeginEnd_23922 2 = .ok (.iload_n 2, 1) := zd02dec4_171.2.2.1
theorem dJ0_checkBoundsBeginEnd_23922_3 : decode cJ0_checkBoundsBeginEnd_23922 3 = .ok (.getstatic 1053, 3) := zd02dec4_171.2.2.2.1
theorem dJ0_checkBoundsBeginEnd_23922_6 : decode cJ0_checkBoundsBeginEnd_23922 6 = .ok (.invokestatic 1062, 3) := zd02dec4_171.2.2.2.2.1
theorem dJ0_checkBoundsBeginEnd_23922_9 : decode cJ0_checkBoundsBeginEnd_23922 9 = .ok (.pop, 1) := zd02dec4_171.2.2.2.2.2.1
theorem dJ0_checkBoundsBeginEnd_23922_10 : decode cJ0_checkBoundsBeginEnd_23922 10 = .ok (.return_, 1) := zd02dec4_171.2.2.2.2.2.2
theorem zd02dec4_172 : decode cJ1_charAt_3b067 0 = .ok (.iload_n 1, 1) ∧ decode cJ1_charAt_3b067 1 = .ok (.aload_n 0, 1) ∧ decode cJ1_charAt_3b067 2 = .ok (.arraylength, 1) ∧ decode cJ1_charAt_3b067 3 = .ok (.invokestatic 9, 3) ∧ decode cJ1_charAt_3b067 6 = .ok (.aload_n 0, 1) ∧ decode cJ1_charAt_3b067 7 = .ok (.iload_n 1, 1) ∧ decode cJ1_charAt_3b067 8 = .ok (.baload, 1) ∧ decode cJ1_charAt_3b067 9 = .ok (.sipush 255, 3) ∧ decode cJ1_charAt_3b067 12 = .ok (.iand, 1) ∧ decode cJ1_charAt_3b067 13 = .ok (.i2c, 1) ∧ decode cJ1_charAt_3b067 14 = .ok (.ireturn, 1) := by decide +kernel
theorem dJ1_charAt_3b067_0 : decode cJ1_charAt_3b067 0 = .ok (.iload_n 1, 1) := zd02dec4_172.1
theorem dJ1_charAt_3b067_1 : decode cJ1_charAt_3b067 1 = .ok (.aload_n 0, 1) := zd02dec4_172.2.1
theorem dJ1_charAt_3b067_2 : decode cJ1_charAt_3b067 2 = .ok (.arraylength, 1) := zd02dec4_172.2.2.1
theorem dJ1_charAt_3b067_3 : decode cJ1_charAt_3b067 3 = .ok (.invokestatic 9, 3) := zd02dec4_172.2.2.2.1
theorem dJ1_charAt_3b067_6 : decode cJ1_charAt_3b067 6 = .ok (.aload_n 0, 1) := zd02dec4_172.2.2.2.2.1
theorem dJ1_charAt_3b067_7 : decode cJ1_charAt_3b067 7 = .ok (.iload_n 1, 1) := zd02dec4_172.2.2.2.2.2.1
theorem dJ1_charAt_3b067_8 : decode cJ1_charAt_3b067 8 = .ok (.baload, 1) := zd02dec4_172.2.2.2.2.2.2.1
theorem dJ1_charAt_3b067_9 : decode cJ1_charAt_3b067 9 = .ok (.sipush 255, 3) := zd02dec4_172.2.2.2.2.2.2.2.1
theorem dJ1_charAt_3b067_12 : decode cJ1_charAt_3b067 12 = .ok (.iand, 1) := zd02dec4_172.2.2.2.2.2.2.2.2.1
theorem dJ1_charAt_3b067_13 : decode cJ1_charAt_3b067 13 = .ok (.i2c, 1) := zd02dec4_172.2.2.2.2.2.2.2.2.2.1
theorem dJ1_charAt_3b067_14 : decode cJ1_charAt_3b067 14 = .ok (.ireturn, 1) := zd02dec4_172.2.2.2.2.2.2.2.2.2.2
theorem zd02dec4_173 : decode cJ1_canEncode_9a6ad 0 = .ok (.iload_n 0, 1) ∧ decode cJ1_canEncode_9a6ad 1 = .ok (.ifCond .lt 14, 3) ∧ decode cJ1_canEncode_9a6ad 4 = .ok (.iload_n 0, 1) ∧ decode cJ1_canEncode_9a6ad 5 = .ok (.sipush 255, 3) ∧ decode cJ1_canEncode_9a6ad 8 = .ok (.if_icmp .gt 7, 3) ∧ decode cJ1_canEncode_9a6ad 11 = .ok (.iconst 1, 1) ∧ decode cJ1_canEncode_9a6ad 12 = .ok (.goto 4, 3) ∧ decode cJ1_canEncode_9a6ad 15 = .ok (.iconst 0, 1) ∧ decode cJ1_canEncode_9a6ad 16 = .ok (.ireturn, 1) := by decide +kernel
theorem dJ1_canEncode_9a6ad_0 : decode cJ1_canEncode_9a6ad 0 = .ok (.iload_n 0, 1) := zd02dec4_173.1
theorem dJ1_canEncode_9a6ad_1 : decode cJ1_canEncode_9a6ad 1 = .ok (.ifCond .lt 14, 3) := zd02dec4_173.2.1
theorem dJ1_canEncode_9a6ad_4 : decode cJ1_canEncode_9a6ad 4 = .ok (.iload_n 0, 1) := zd02dec4_173.2.2.1
theorem dJ1_canEncode_9a6ad_5 : decode cJ1_canEncode_9a6ad 5 = .ok (.sipush 255, 3) := zd02dec4_173.2.2.2.1
theorem dJ1_canEncode_9a6ad_8 : decode cJ1_canEncode_9a6ad 8 = .ok (.if_icmp .gt 7, 3) := zd02dec4_173.2.2.2.2.1
theorem dJ1_canEncode_9a6ad_11 : decode cJ1_canEncode_9a6ad 11 = .ok (.iconst 1, 1) := zd02dec4_173.2.2.2.2.2.1
theorem dJ1_canEncode_9a6ad_12 : decode cJ1_canEncode_9a6ad 12 = .ok (.goto 4, 3) := zd02dec4_173.2.2.2.2.2.2.1
theorem dJ1_canEncode_9a6ad_15 : decode cJ1_canEncode_9a6ad 15 = .ok (.iconst 0, 1) := zd02dec4_173.2.2.2.2.2.2.2.1
theorem dJ1_canEncode_9a6ad_16 : decode cJ1_canEncode_9a6ad 16 = .ok (.ireturn, 1) := zd02dec4_173.2.2.2.2.2.2.2.2
theorem zd02dec4_174 : decode cJ1_indexOf_4cfef 0 = .ok (.iload_n 1, 1) ∧ decode cJ1_indexOf_4cfef 1 = .ok (.invokestatic 88, 3) ∧ decode cJ1_indexOf_4cfef 4 = .ok (.ifCond .ne 5, 3) ∧ decode cJ1_indexOf_4cfef 7 = .ok (.iconst (-1), 1) ∧ decode cJ1_indexOf_4cfef 8 = .ok (.ireturn, 1) ∧ decode cJ1_indexOf_4cfef 9 = .ok (.iload_n 2, 1) ∧ decode cJ1_indexOf_4cfef 10 = .ok (.iconst 0, 1) ∧ decode cJ1_indexOf_4cfef 11 = .ok (.invokestatic 92, 3) ∧ decode cJ1_indexOf_4cfef 14 = .ok (.istore_n 2, 1) ∧ decode cJ1_indexOf_4cfef 15 = .ok (.iload_n 3, 1) ∧ decode cJ1_indexOf_4cfef 16 = .ok (.aload_n 0, 1) ∧ decode cJ1_indexOf_4cfef 17 = .ok (.arraylength, 1) := by decide +kernel
theorem dJ1_indexOf_4cfef_0 : decode cJ1_indexOf_4cfef 0 = .ok (.iload_n 1, 1) := zd02dec4_174.1
theorem dJ1_indexOf_4cfef_1 : decode cJ1_indexOf_4cfef 1 = .ok (.invokestatic 88, 3) := zd02dec4_174.2.1
theorem dJ1_indexOf_4cfef_4 : decode cJ1_indexOf_4cfef 4 = .ok (.ifCond .ne 5, 3) := zd02dec4_174.2.2.1
theorem dJ1_indexOf_4cfef_7 : decode cJ1_indexOf_4cfef 7 = .ok (.iconst (-1), 1) := zd02dec4_174.2.2.2.1
theorem dJ1_indexOf_4cfef_8 : decode cJ1_indexOf_4cfef 8 = .ok (.ireturn, 1) := zd02dec4_174.2.2.2.2.1
theorem dJ1_indexOf_4cfef_9 : decode cJ1_indexOf_4cfef 9 = .ok (.iload_n 2, 1) := zd02dec4_174.2.2.2.2.2.1
theorem dJ1_indexOf_4cfef_10 : decode cJ1_indexOf_4cfef 10 = .ok (.iconst 0, 1) := zd02dec4_174.2.2.2.2.2.2.1
theorem dJ1_indexOf_4cfef_11 : decode cJ1_indexOf_4cfef 11 = .ok (.invokestatic 92, 3) := zd02dec4_174.2.2.2.2.2.2.2.1
theorem dJ1_indexOf_4cfef_14 : decode cJ1_indexOf_4cfef 14 = .ok (.istore_n 2, 1) := zd02dec4_174.2.2.2.2.2.2.2.2.1
theorem dJ1_indexOf_4cfef_15 : decode cJ1_indexOf_4cfef 15 = .ok (.iload_n 3, 1) := zd02dec4_174.2.2.2.2.2.2.2.2.2.1
theorem dJ1_indexOf_4cfef_16 : decode cJ1_indexOf_4cfef 16 = .ok (.aload_n 0, 1) := zd02dec4_174.2.2.2.2.2.2.2.2.2.2.1
theorem dJ1_indexOf_4cfef_17 : decode cJ1_indexOf_4cfef 17 = .ok (.arraylength, 1) := zd02dec4_174.2.2.2.2.2.2.2.2.2.2.2
theorem zd02dec4_175 : decode cJ1_indexOf_4cfef 18 = .ok (.invokestatic 38, 3) ∧ decode cJ1_indexOf_4cfef 21 = .ok (.istore_n 3, 1) ∧ decode cJ1_indexOf_4cfef 22 = .ok (.iload_n 2, 1) ∧ decode cJ1_indexOf_4cfef 23 = .ok (.iload_n 3, 1) ∧ decode cJ1_indexOf_4cfef 24 = .ok (.if_icmp .lt 5, 3) ∧ decode cJ1_indexOf_4cfef 27 = .ok (.iconst (-1), 1) ∧ decode cJ1_indexOf_4cfef 28 = .ok (.ireturn, 1) ∧ decode cJ1_indexOf_4cfef 29 = .ok (.aload_n 0, 1) ∧ decode cJ1_indexOf_4cfef 30 = .ok (.iload_n 1, 1) ∧ decode cJ1_indexOf_4cfef 31 = .ok (.iload_n 2, 1) ∧ decode cJ1_indexOf_4cfef 32 = .ok (.iload_n 3, 1) ∧ decode cJ1_indexOf_4cfef 33 = .ok (.invokestatic 95, 3) := by decide +kernel
theorem dJ1_indexOf_4cfef_18 : decode cJ1_indexOf_4cfef 18 = .ok (.invokestatic 38, 3) := zd02dec4_175.1
theorem dJ1_indexOf_4cfef_21 : decode cJ1_indexOf_4cfef 21 = .ok (.istore_n 3, 1) := zd02dec4_175.2.1
theorem dJ1_indexOf_4cfef_22 : decode cJ1_indexOf_4cfef 22 = .ok (.iload_n 2, 1) := zd02dec4_175.2.2.1
theorem dJ1_indexOf_4cfef_23 : decode cJ1_indexOf_4cfef 23 = .ok (.iload_n 3, 1) := zd02dec4_175.2.2.2.1
theorem dJ1_indexOf_4cfef_24 : decode cJ1_indexOf_4cfef 24 = .ok (.if_icmp .lt 5, 3) := zd02dec4_175.2.2.2.2.1
theorem dJ1_indexOf_4cfef_27 : decode cJ1_indexOf_4cfef 27 = .ok (.iconst (-1), 1) := zd02dec4_175.2.2.2.2.2.1
theorem dJ1_indexOf_4cfef_28 : decode cJ1_indexOf_4cfef 28 = .ok (.ireturn, 1) := zd02dec4_175.2.2.2.2.2.2.1
theorem dJ1_indexOf_4cfef_29 : decode cJ1_indexOf_4cfef 29 = .ok (.aload_n 0, 1) := zd02dec4_175.2.2.2.2.2.2.2.1
theorem dJ1_indexOf_4cfef_30 : decode cJ1_indexOf_4cfef 30 = .ok (.iload_n 1, 1) := zd02dec4_175.2.2.2.2.2.2.2.2.1
theorem dJ1_indexOf_4cfef_31 : decode cJ1_indexOf_4cfef 31 = .ok (.iload_n 2, 1) := zd02dec4_175.2.2.2.2.2.2.2.2.2.1
theorem dJ1_indexOf_4cfef_32 : decode cJ1_indexOf_4cfef 32 = .ok (.iload_n 3, 1) := zd02dec4_175.2.2.2.2.2.2.2.2.2.2.1
theorem dJ1_indexOf_4cfef_33 : decode cJ1_indexOf_4cfef 33 = .ok (.invokestatic 95, 3) := zd02dec4_175.2.2.2.2.2.2.2.2.2.2.2
theorem dJ1_indexOf_4cfef_36 : decode cJ1_indexOf_4cfef 36 = .ok (.ireturn, 1) := by decide +kernel
theorem zd02dec4_176 : decode cJ1_indexOfChar_4cfef 0 = .ok (.iload_n 1, 1) ∧ decode cJ1_indexOfChar_4cfef 1 = .ok (.i2b, 1) ∧ decode cJ1_indexOfChar_4cfef 2 = .ok (.istore 4, 2) ∧ decode cJ1_indexOfChar_4cfef 4 = .ok (.iload_n 2, 1) ∧ decode cJ1_indexOfChar_4cfef 5 = .ok (.istore 5, 2) ∧ decode cJ1_indexOfChar_4cfef 7 = .ok (.iload 5, 2) ∧ decode cJ1_indexOfChar_4cfef 9 = .ok (.iload_n 3, 1) ∧ decode cJ1_indexOfChar_4cfef 10 = .ok (.if_icmp .ge 21, 3) ∧ decode cJ1_indexOfChar_4cfef 13 = .ok (.aload_n 0, 1) ∧ decode cJ1_indexOfChar_4cfef 14 = .ok (.iload 5, 2) ∧ decode cJ1_indexOfChar_4cfef 16 = .ok (.baload, 1) ∧ decode cJ1_indexOfChar_4cfef 17 = .ok (.iload 4, 2) := by decide +kernel
theorem dJ1_indexOfChar_4cfef_0 : decode cJ1_indexOfChar_4cfef 0 = .ok (.iload_n 1, 1) := zd02dec4_176.1
theorem dJ1_indexOfChar_4cfef_1 : decode cJ1_indexOfChar_4cfef 1 = .ok (.i2b, 1) := zd02dec4_176.2.1
theorem dJ1_indexOfChar_4cfef_2 : decode cJ1_indexOfChar_4cfef 2 = .ok (.istore 4, 2) := zd02dec4_176.2.2.1
theorem dJ1_indexOfChar_4cfef_4 : decode cJ1_indexOfChar_4cfef 4 = .ok (.iload_n 2, 1) := zd02dec4_176.2.2.2.1
theorem dJ1_indexOfChar_4cfef_5 : decode cJ1_indexOfChar_4cfef 5 = .ok (.istore 5, 2) := zd02dec4_176.2.2.2.2.1
theorem dJ1_indexOfChar_4cfef_7 : decode cJ1_indexOfChar_4cfef 7 = .ok (.iload 5, 2) := zd02dec4_176.2.2.2.2.2.1
theorem dJ1_indexOfChar_4cfef_9 : decode cJ1_indexOfChar_4cfef 9 = .ok (.iload_n 3, 1) := zd02dec4_176.2.2.2.2.2.2.1
theorem dJ1_indexOfChar_4cfef_10 : decode cJ1_indexOfChar_4cfef 10 = .ok (.if_icmp .ge 21, 3) := zd02dec4_176.2.2.2.2.2.2.2.1
theorem dJ1_indexOfChar_4cfef_13 : decode cJ1_indexOfChar_4cfef 13 = .ok (.aload_n 0, 1) := zd02dec4_176.2.2.2.2.2.2.2.2.1
theorem dJ1_indexOfChar_4cfef_14 : decode cJ1_indexOfChar_4cfef 14 = .ok (.iload 5, 2) := zd02dec4_176.2.2.2.2.2.2.2.2.2.1
theorem dJ1_indexOfChar_4cfef_16 : decode cJ1_indexOfChar_4cfef 16 = .ok (.baload, 1) := zd02dec4_176.2.2.2.2.2.2.2.2.2.2.1
theorem dJ1_indexOfChar_4cfef_17 : decode cJ1_indexOfChar_4cfef 17 = .ok (.iload 4, 2) := zd02dec4_176.2.2.2.2.2.2.2.2.2.2.2
theorem zd02dec4_177 : decode cJ1_indexOfChar_4cfef 19 = .ok (.if_icmp .ne 6, 3) ∧ decode cJ1_indexOfChar_4cfef 22 = .ok (.iload 5, 2) ∧ decode cJ1_indexOfChar_4cfef 24 = .ok (.ireturn, 1) ∧ decode cJ1_indexOfChar_4cfef 25 = .ok (.iinc 5 1, 3) ∧ decode cJ1_indexOfChar_4cfef 28 = .ok (.goto (-21), 3) ∧ decode cJ1_indexOfChar_4cfef 31 = .ok (.iconst (-1), 1) ∧ decode cJ1_indexOfChar_4cfef 32 = .ok (.ireturn, 1) := by decide +kernel
theorem dJ1_indexOfChar_4cfef_19 : decode cJ1_indexOfChar_4cfef 19 = .ok (.if_icmp .ne 6, 3) := zd02dec4_177.1
theorem dJ1_indexOfChar_4cfef_22 : decode cJ1_indexOfChar_4cfef 22 = .ok (.iload 5, 2) := zd02dec4_177.2.1
theorem dJ1_indexOfChar_4cfef_24 : decode cJ1_indexOfChar_4cfef 24 = .ok (.ireturn, 1) := zd02dec4_177.2.2.1
theorem dJ1_indexOfChar_4cfef_25 : decode cJ1_indexOfChar_4cfef 25 = .ok (.iinc 5 1, 3) := zd02dec4_177.2.2.2.1
theorem dJ1_indexOfChar_4cfef_28 : decode cJ1_indexOfChar_4cfef 28 = .ok (.goto (-21), 3) := zd02dec4_177.2.2.2.2.1
theorem dJ1_indexOfChar_4cfef_31 : decode cJ1_indexOfChar_4cfef 31 = .ok (.iconst (-1), 1) := zd02dec4_177.2.2.2.2.2.1
theorem dJ1_indexOfChar_4cfef_32 : decode cJ1_indexOfChar_4cfef 32 = .ok (.ireturn, 1) := zd02dec4_177.2.2.2.2.2.2
theorem zd02dec4_178 : decode cJ2_getChar_3b067 0 = .ok (.getstatic 44, 3) ∧ decode cJ2_getChar_3b067 3 = .ok (.ifCond .ne 25, 3) ∧ decode cJ2_getChar_3b067 6 = .ok (.iload_n 1, 1) ∧ decode cJ2_getChar_3b067 7 = .ok (.ifCond .lt 11, 3) ∧ decode cJ2_getChar_3b067 10 = .ok (.iload_n 1, 1) ∧ decode cJ2_getChar_3b067 11 = .ok (.aload_n 0, 1) ∧ decode cJ2_getChar_3b067 12 = .ok (.invokestatic 48, 3) ∧ decode cJ2_getChar_3b067 15 = .ok (.if_icmp .lt 13, 3) ∧ decode cJ2_getChar_3b067 18 = .ok (.new 52, 3) ∧ decode cJ2_getChar_3b067 21 = .ok (.dup, 1) ∧ decode cJ2_getChar_3b067 22 = .ok (.ldc 54, 2) ∧ decode cJ2_getChar_3b067 24 = .ok (.invokespecial 56, 3) := by decide +kernel
theorem dJ2_getChar_3b067_0 : decode cJ2_getChar_3b067 0 = .ok (.getstatic 44, 3) := zd02dec4_178.1
theorem dJ2_getChar_3b067_3 : decode cJ2_getChar_3b067 3 = .ok (.ifCond .ne 25, 3) := zd02dec4_178.2.1
theorem dJ2_getChar_3b067_6 : decode cJ2_getChar_3b067 6 = .ok (.iload_n 1, 1) := zd02dec4_178.2.2.1
theorem dJ2_getChar_3b067_7 : decode cJ2_getChar_3b067 7 = .ok (.ifCond .lt 11, 3) := zd02dec4_178.2.2.2.1
theorem dJ2_getChar_3b067_10 : decode cJ2_getChar_3b067 10 = .ok (.iload_n 1, 1) := zd02dec4_178.2.2.2.2.1
theorem dJ2_getChar_3b067_11 : decode cJ2_getChar_3b067 11 = .ok (.aload_n 0, 1) := zd02dec4_178.2.2.2.2.2.1
theorem dJ2_getChar_3b067_12 : decode cJ2_getChar_3b067 12 = .ok (.invokestatic 48, 3) := zd02dec4_178.2.2.2.2.2.2.1
theorem dJ2_getChar_3b067_15 : decode cJ2_getChar_3b067 15 = .ok (.if_icmp .lt 13, 3) := zd02dec4_178.2.2.2.2.2.2.2.1
theorem dJ2_getChar_3b067_18 : decode cJ2_getChar_3b067 18 = .ok (.new 52, 3) := zd02dec4_178.2.2.2.2.2.2.2.2.1
theorem dJ2_getChar_3b067_21 : decode cJ2_getChar_3b067 21 = .ok (.dup, 1) := zd02dec4_178.2.2.2.2.2.2.2.2.2.1
theorem dJ2_getChar_3b067_22 : decode cJ2_getChar_3b067 22 = .ok (.ldc 54, 2) := zd02dec4_178.2.2.2.2.2.2.2.2.2.2.1
theorem dJ2_getChar_3b067_24 : decode cJ2_getChar_3b067 24 = .ok (.invokespecial 56, 3) := zd02dec4_178.2.2.2.2.2.2.2.2.2.2.2
theorem zd02dec4_179 : decode cJ2_getChar_3b067 27 = .ok (.athrow, 1) ∧ decode cJ2_getChar_3b067 28 = .ok (.iload_n 1, 1) ∧ decode cJ2_getChar_3b067 29 = .ok (.iconst 1, 1) ∧ decode cJ2_getChar_3b067 30 = .ok (.ishl, 1) ∧ decode cJ2_getChar_3b067 31 = .ok (.istore_n 1, 1) ∧ decode cJ2_getChar_3b067 32 = .ok (.aload_n 0, 1) ∧ decode cJ2_getChar_3b067 33 = .ok (.iload_n 1, 1) ∧ decode cJ2_getChar_3b067 34 = .ok (.iinc 1 1, 3) ∧ decode cJ2_getChar_3b067 37 = .ok (.baload, 1) ∧ decode cJ2_getChar_3b067 38 = .ok (.sipush 255, 3) ∧ decode cJ2_getChar_3b067 41 = .ok (.iand, 1) ∧ decode cJ2_getChar_3b067 42 = .ok (.getstatic 59, 3) := by decide +kernel
theorem dJ2_getChar_3b067_27 : decode cJ2_getChar_3b067 27 = .ok (.athrow, 1) := zd02dec4_179.1
theorem dJ2_getChar_3b067_28 : decode cJ2_getChar_3b067 28 = .ok (.iload_n 1, 1) := zd02dec4_179.2.1
theorem dJ2_getChar_3b067_29 : decode cJ2_getChar_3b067 29 = .ok (.iconst 1, 1) := zd02dec4_179.2.2.1
theorem dJ2_getChar_3b067_30 : decode cJ2_getChar_3b067 30 = .ok (.ishl, 1) := zd02dec4_179.2.2.2.1
theorem dJ2_getChar_3b067_31 : decode cJ2_getChar_3b067 31 = .ok (.istore_n 1, 1) := zd02dec4_179.2.2.2.2.1
theorem dJ2_getChar_3b067_32 : decode cJ2_getChar_3b067 32 = .ok (.aload_n 0, 1) := zd02dec4_179.2.2.2.2.2.1
theorem dJ2_getChar_3b067_33 : decode cJ2_getChar_3b067 33 = .ok (.iload_n 1, 1) := zd02dec4_179.2.2.2.2.2.2.1
theorem dJ2_getChar_3b067_34 : decode cJ2_getChar_3b067 34 = .ok (.iinc 1 1, 3) := zd02dec4_179.2.2.2.2.2.2.2.1
theorem dJ2_getChar_3b067_37 : decode cJ2_getChar_3b067 37 = .ok (.baload, 1) := zd02dec4_179.2.2.2.2.2.2.2.2.1
theorem dJ2_getChar_3b067_38 : decode cJ2_getChar_3b067 38 = .ok (.sipush 255, 3) := zd02dec4_179.2.2.2.2.2.2.2.2.2.1
theorem dJ2_getChar_3b067_41 : decode cJ2_getChar_3b067 41 = .ok (.iand, 1) := zd02dec4_179.2.2.2.2.2.2.2.2.2.2.1
theorem dJ2_getChar_3b067_42 : decode cJ2_getChar_3b067 42 = .ok (.getstatic 59, 3) := zd02dec4_179.2.2.2.2.2.2.2.2.2.2.2
theorem zd02dec4_180 : decode cJ2_getChar_3b067 45 = .ok (.ishl, 1) ∧ decode cJ2_getChar_3b067 46 = .ok (.aload_n 0, 1) ∧ decode cJ2_getChar_3b067 47 = .ok (.iload_n 1, 1) ∧ decode cJ2_getChar_3b067 48 = .ok (.baload, 1) ∧ decode cJ2_getChar_3b067 49 = .ok (.sipush 255, 3) ∧ decode cJ2_getChar_3b067 52 = .ok (.iand, 1) ∧ decode cJ2_getChar_3b067 53 = .ok (.getstatic 63, 3) ∧ decode cJ2_getChar_3b067 56 = .ok (.ishl, 1) ∧ decode cJ2_getChar_3b067 57 = .ok (.ior, 1) ∧ decode cJ2_getChar_3b067 58 = .ok (.i2c, 1) ∧ decode cJ2_getChar_3b067 59 = .ok (.ireturn, 1) := by decide +kernel
theorem dJ2_getChar_3b067_45 : decode cJ2_getChar_3b067 45 = .ok (.ishl, 1) := zd02dec4_180.1
theorem dJ2_getChar_3b067_46 : decode cJ2_getChar_3b067 46 = .ok (.aload_n 0, 1) := zd02dec4_180.2.1
theorem dJ2_getChar_3b067_47 : decode cJ2_getChar_3b067 47 = .ok (.iload_n 1, 1) := zd02dec4_180.2.2.1
theorem dJ2_getChar_3b067_48 : decode cJ2_getChar_3b067 48 = .ok (.baload, 1) := zd02dec4_180.2.2.2.1
theorem dJ2_getChar_3b067_49 : decode cJ2_getChar_3b067 49 = .ok (.sipush 255, 3) := zd02dec4_180.2.2.2.2.1
theorem dJ2_getChar_3b067_52 : decode cJ2_getChar_3b067 52 = .ok (.iand, 1) := zd02dec4_180.2.2.2.2.2.1
theorem dJ2_getChar_3b067_53 : decode cJ2_getChar_3b067 53 = .ok (.getstatic 63, 3) := zd02dec4_180.2.2.2.2.2.2.1
theorem dJ2_getChar_3b067_56 : decode cJ2_getChar_3b067 56 = .ok (.ishl, 1) := zd02dec4_180.2.2.2.2.2.2.2.1
theorem dJ2_getChar_3b067_57 : decode cJ2_getChar_3b067 57 = .ok (.ior, 1) := zd02dec4_180.2.2.2.2.2.2.2.2.1
theorem dJ2_getChar_3b067_58 : decode cJ2_getChar_3b067 58 = .ok (.i2c, 1) := zd02dec4_180.2.2.2.2.2.2.2.2.2.1
theorem dJ2_getChar_3b067_59 : decode cJ2_getChar_3b067 59 = .ok (.ireturn, 1) := zd02dec4_180.2.2.2.2.2.2.2.2.2.2
theorem zd02dec4_181 : decode cJ2_length_9d52b 0 = .ok (.aload_n 0, 1) ∧ decode cJ2_length_9d52b 1 = .ok (.arraylength, 1) ∧ decode cJ2_length_9d52b 2 = .ok (.iconst 1, 1) ∧ decode cJ2_length_9d52b 3 = .ok (.ishr, 1) ∧ decode cJ2_length_9d52b 4 = .ok (.ireturn, 1) := by decide +kernel
theorem dJ2_length_9d52b_0 : decode cJ2_length_9d52b 0 = .ok (.aload_n 0, 1) := zd02dec4_181.1
theorem dJ2_length_9d52b_1 : decode cJ2_length_9d52b 1 = .ok (.arraylength, 1) := zd02dec4_181.2.1
theorem dJ2_length_9d52b_2 : decode cJ2_length_9d52b 2 = .ok (.iconst 1, 1) := zd02dec4_181.2.2.1
theorem dJ2_length_9d52b_3 : decode cJ2_length_9d52b 3 = .ok (.ishr, 1) := zd02dec4_181.2.2.2.1
theorem dJ2_length_9d52b_4 : decode cJ2_length_9d52b 4 = .ok (.ireturn, 1) := zd02dec4_181.2.2.2.2
theorem zd02dec4_182 : decode cJ2_indexOf_4cfef 0 = .ok (.iload_n 2, 1) ∧ decode cJ2_indexOf_4cfef 1 = .ok (.iconst 0, 1) ∧ decode cJ2_indexOf_4cfef 2 = .ok (.invokestatic 224, 3) ∧ decode cJ2_indexOf_4cfef 5 = .ok (.istore_n 2, 1) ∧ decode cJ2_indexOf_4cfef 6 = .ok (.iload_n 3, 1) ∧ decode cJ2_indexOf_4cfef 7 = .ok (.aload_n 0, 1) ∧ decode cJ2_indexOf_4cfef 8 = .ok (.arraylength, 1) ∧ decode cJ2_indexOf_4cfef 9 = .ok (.iconst 1, 1) ∧ decode cJ2_indexOf_4cfef 10 = .ok (.ishr, 1) ∧ decode cJ2_indexOf_4cfef 11 = .ok (.invokestatic 183, 3) ∧ decode cJ2_indexOf_4cfef 14 = .ok (.istore_n 3, 1) ∧ decode cJ2_indexOf_4cfef 15 = .ok (.iload_n 2, 1) := by decide +kernel
theorem dJ2_indexOf_4cfef_0 : decode cJ2_indexOf_4cfef 0 = .ok (.iload_n 2, 1) := zd02dec4_182.1
theorem dJ2_indexOf_4cfef_1 : decode cJ2_indexOf_4cfef 1 = .ok (.iconst 0, 1) := zd02dec4_182.2.1
theorem dJ2_indexOf_4cfef_2 : decode cJ2_indexOf_4cfef 2 = .ok (.invokestatic 224, 3) := zd02dec4_182.2.2.1
theorem dJ2_indexOf_4cfef_5 : decode cJ2_indexOf_4cfef 5 = .ok (.istore_n 2, 1) := zd02dec4_182.2.2.2.1
theorem dJ2_indexOf_4cfef_6 : decode cJ2_indexOf_4cfef 6 = .ok (.iload_n 3, 1) := zd02dec4_182.2.2.2.2.1
theorem dJ2_indexOf_4cfef_7 : decode cJ2_indexOf_4cfef 7 = .ok (.aload_n 0, 1) := zd02dec4_182.2.2.2.2.2.1
theorem dJ2_indexOf_4cfef_8 : decode cJ2_indexOf_4cfef 8 = .ok (.arraylength, 1) := zd02dec4_182.2.2.2.2.2.2.1
theorem dJ2_indexOf_4cfef_9 : decode cJ2_indexOf_4cfef 9 = .ok (.iconst 1, 1) := zd02dec4_182.2.2.2.2.2.2.2.1
theorem dJ2_indexOf_4cfef_10 : decode cJ2_indexOf_4cfef 10 = .ok (.ishr, 1) := zd02dec4_182.2.2.2.2.2.2.2.2.1
theorem dJ2_indexOf_4cfef_11 : decode cJ2_indexOf_4cfef 11 = .ok (.invokestatic 183, 3) := zd02dec4_182.2.2.2.2.2.2.2.2.2.1
theorem dJ2_indexOf_4cfef_14 : decode cJ2_indexOf_4cfef 14 = .ok (.istore_n 3, 1) := zd02dec4_182.2.2.2.2.2.2.2.2.2.2.1
theorem dJ2_indexOf_4cfef_15 : decode cJ2_indexOf_4cfef 15 = .ok (.iload_n 2, 1) := zd02dec4_182.2.2.2.2.2.2.2.2.2.2.2
theorem zd02dec4_183 : decode cJ2_indexOf_4cfef 16 = .ok (.iload_n 3, 1) ∧ decode cJ2_indexOf_4cfef 17 = .ok (.if_icmp .lt 5, 3) ∧ decode cJ2_indexOf_4cfef 20 = .ok (.iconst (-1), 1) ∧ decode cJ2_indexOf_4cfef 21 = .ok (.ireturn, 1) ∧ decode cJ2_indexOf_4cfef 22 = .ok (.iload_n 1, 1) ∧ decode cJ2_indexOf_4cfef 23 = .ok (.ldc 227, 2) ∧ decode cJ2_indexOf_4cfef 25 = .ok (.if_icmp .ge 11, 3) ∧ decode cJ2_indexOf_4cfef 28 = .ok (.aload_n 0, 1) ∧ decode cJ2_indexOf_4cfef 29 = .ok (.iload_n 1, 1) ∧ decode cJ2_indexOf_4cfef 30 = .ok (.iload_n 2, 1) ∧ decode cJ2_indexOf_4cfef 31 = .ok (.iload_n 3, 1) ∧ decode cJ2_indexOf_4cfef 32 = .ok (.invokestatic 228, 3) := by decide +kernel
theorem dJ2_indexOf_4cfef_16 : decode cJ2_indexOf_4cfef 16 = .ok (.iload_n 3, 1) := zd02dec4_183.1
theorem dJ2_indexOf_4cfef_17 : decode cJ2_indexOf_4cfef 17 = .ok (.if_icmp .lt 5, 3) := zd02dec4_183.2.1
theorem dJ2_indexOf_4cfef_20 : decode cJ2_indexOf_4cfef 20 = .ok (.iconst (-1), 1) := zd02dec4_183.2.2.1
theorem dJ2_indexOf_4cfef_21 : decode cJ2_indexOf_4cfef 21 = .ok (.ireturn, 1) := zd02dec4_183.2.2.2.1
theorem dJ2_indexOf_4cfef_22 : decode cJ2_indexOf_4cfef 22 = .ok (.iload_n 1, 1) := zd02dec4_183.2.2.2.2.1
theorem dJ2_indexOf_4cfef_23 : decode cJ2_indexOf_4cfef 23 = .ok (.ldc 227, 2) := zd02dec4_183.2.2.2.2.2.1
theorem dJ2_indexOf_4cfef_25 : decode cJ2_indexOf_4cfef 25 = .ok (.if_icmp .ge 11, 3) := zd02dec4_183.2.2.2.2.2.2.1
theorem dJ2_indexOf_4cfef_28 : decode cJ2_indexOf_4cfef 28 = .ok (.aload_n 0, 1) := zd02dec4_183.2.2.2.2.2.2.2.1
theorem dJ2_indexOf_4cfef_29 : decode cJ2_indexOf_4cfef 29 = .ok (.iload_n 1, 1) := zd02dec4_183.2.2.2.2.2.2.2.2.1
theorem dJ2_indexOf_4cfef_30 : decode cJ2_indexOf_4cfef 30 = .ok (.iload_n 2, 1) := zd02dec4_183.2.2.2.2.2.2.2.2.2.1
theorem dJ2_indexOf_4cfef_31 : decode cJ2_indexOf_4cfef 31 = .ok (.iload_n 3, 1) := zd02dec4_183.2.2.2.2.2.2.2.2.2.2.1
theorem dJ2_indexOf_4cfef_32 : decode cJ2_indexOf_4cfef 32 = .ok (.invokestatic 228, 3) := zd02dec4_183.2.2.2.2.2.2.2.2.2.2.2
theorem zd02dec4_184 : decode cJ2_indexOf_4cfef 35 = .ok (.ireturn, 1) ∧ decode cJ2_indexOf_4cfef 36 = .ok (.aload_n 0, 1) ∧ decode cJ2_indexOf_4cfef 37 = .ok (.iload_n 1, 1) ∧ decode cJ2_indexOf_4cfef 38 = .ok (.iload_n 2, 1) ∧ decode cJ2_indexOf_4cfef 39 = .ok (.iload_n 3, 1) ∧ decode cJ2_indexOf_4cfef 40 = .ok (.invokestatic 232, 3) ∧ decode cJ2_indexOf_4cfef 43 = .ok (.ireturn, 1) := by decide +kernel
theorem dJ2_indexOf_4cfef_35 : decode cJ2_indexOf_4cfef 35 = .ok (.ireturn, 1) := zd02dec4_184.1
theorem dJ2_indexOf_4cfef_36 : decode cJ2_indexOf_4cfef 36 = .ok (.aload_n 0, 1) := zd02dec4_184.2.1
theorem dJ2_indexOf_4cfef_37 : decode cJ2_indexOf_4cfef 37 = .ok (.iload_n 1, 1) := zd02dec4_184.2.2.1
theorem dJ2_indexOf_4cfef_38 : decode cJ2_indexOf_4cfef 38 = .ok (.iload_n 2, 1) := zd02dec4_184.2.2.2.1
theorem dJ2_indexOf_4cfef_39 : decode cJ2_indexOf_4cfef 39 = .ok (.iload_n 3, 1) := zd02dec4_184.2.2.2.2.1
theorem dJ2_indexOf_4cfef_40 : decode cJ2_indexOf_4cfef 40 = .ok (.invokestatic 232, 3) := zd02dec4_184.2.2.2.2.2.1
theorem dJ2_indexOf_4cfef_43 : decode cJ2_indexOf_4cfef 43 = .ok (.ireturn, 1) := zd02dec4_184.2.2.2.2.2.2
theorem zd02dec4_185 : decode cJ2_indexOfChar_4cfef 0 = .ok (.iload_n 2, 1) ∧ decode cJ2_indexOfChar_4cfef 1 = .ok (.iload_n 3, 1) ∧ decode cJ2_indexOfChar_4cfef 2 = .ok (.aload_n 0, 1) ∧ decode cJ2_indexOfChar_4cfef 3 = .ok (.invokestatic 96, 3) ∧ decode cJ2_indexOfChar_4cfef 6 = .ok (.aload_n 0, 1) ∧ decode cJ2_indexOfChar_4cfef 7 = .ok (.iload_n 1, 1) ∧ decode cJ2_indexOfChar_4cfef 8 = .ok (.iload_n 2, 1) ∧ decode cJ2_indexOfChar_4cfef 9 = .ok (.iload_n 3, 1) ∧ decode cJ2_indexOfChar_4cfef 10 = .ok (.invokestatic 244, 3) ∧ decode cJ2_indexOfChar_4cfef 13 = .ok (.ireturn, 1) := by decide +kernel
theorem dJ2_indexOfChar_4cfef_0 : decode cJ2_indexOfChar_4cfef 0 = .ok (.iload_n 2, 1) := zd02dec4_185.1
theorem dJ2_indexOfChar_4cfef_1 : decode cJ2_indexOfChar_4cfef 1 = .ok (.iload_n 3, 1) := zd02dec4_185.2.1
theorem dJ2_indexOfChar_4cfef_2 : decode cJ2_indexOfChar_4cfef 2 = .ok (.aload_n 0, 1) := zd02dec4_185.2.2.1
theorem dJ2_indexOfChar_4cfef_3 : decode cJ2_indexOfChar_4cfef 3 = .ok (.invokestatic 96, 3) := zd02dec4_185.2.2.2.1
theorem dJ2_indexOfChar_4cfef_6 : decode cJ2_indexOfChar_4cfef 6 = .ok (.aload_n 0, 1) := zd02dec4_185.2.2.2.2.1
theorem dJ2_indexOfChar_4cfef_7 : decode cJ2_indexOfChar_4cfef 7 = .ok (.iload_n 1, 1) := zd02dec4_185.2.2.2.2.2.1
theorem dJ2_indexOfChar_4cfef_8 : decode cJ2_indexOfChar_4cfef 8 = .ok (.iload_n 2, 1) := zd02dec4_185.2.2.2.2.2.2.1
theorem dJ2_indexOfChar_4cfef_9 : decode cJ2_indexOfChar_4cfef 9 = .ok (.iload_n 3, 1) := zd02dec4_185.2.2.2.2.2.2.2.1
theorem dJ2_indexOfChar_4cfef_10 : decode cJ2_indexOfChar_4cfef 10 = .ok (.invokestatic 244, 3) := zd02dec4_185.2.2.2.2.2.2.2.2.1
theorem dJ2_indexOfChar_4cfef_13 : decode cJ2_indexOfChar_4cfef 13 = .ok (.ireturn, 1) := zd02dec4_185.2.2.2.2.2.2.2.2.2
theorem zd02dec4_186 : decode cJ2_indexOfCharUnsafe_4cfef 0 = .ok (.iload_n 2, 1) ∧ decode cJ2_indexOfCharUnsafe_4cfef 1 = .ok (.istore 4, 2) ∧ decode cJ2_indexOfCharUnsafe_4cfef 3 = .ok (.iload 4, 2) ∧ decode cJ2_indexOfCharUnsafe_4cfef 5 = .ok (.iload_n 3, 1) ∧ decode cJ2_indexOfCharUnsafe_4cfef 6 = .ok (.if_icmp .ge 22, 3) ∧ decode cJ2_indexOfCharUnsafe_4cfef 9 = .ok (.aload_n 0, 1) ∧ decode cJ2_indexOfCharUnsafe_4cfef 10 = .ok (.iload 4, 2) ∧ decode cJ2_indexOfCharUnsafe_4cfef 12 = .ok (.invokestatic 71, 3) ∧ decode cJ2_indexOfCharUnsafe_4cfef 15 = .ok (.iload_n 1, 1) ∧ decode cJ2_indexOfCharUnsafe_4cfef 16 = .ok (.if_icmp .ne 6, 3) ∧ decode cJ2_indexOfCharUnsafe_4cfef 19 = .ok (.iload 4, 2) ∧ decode cJ2_indexOfCharUnsafe_4cfef 21 = .ok (.ireturn, 1) := by decide +kernel
theorem dJ2_indexOfCharUnsafe_4cfef_0 : decode cJ2_indexOfCharUnsafe_4cfef 0 = .ok (.iload_n 2, 1) := zd02dec4_186.1
theorem dJ2_indexOfCharUnsafe_4cfef_1 : decode cJ2_indexOfCharUnsafe_4cfef 1 = .ok (.istore 4, 2) := zd02dec4_186.2.1
theorem dJ2_indexOfCharUnsafe_4cfef_3 : decode cJ2_indexOfCharUnsafe_4cfef 3 = .ok (.iload 4, 2) := zd02dec4_186.2.2.1
theorem dJ2_indexOfCharUnsafe_4cfef_5 : decode cJ2_indexOfCharUnsafe_4cfef 5 = .ok (.iload_n 3, 1) := zd02dec4_186.2.2.2.1
theorem dJ2_indexOfCharUnsafe_4cfef_6 : decode cJ2_indexOfCharUnsafe_4cfef 6 = .ok (.if_icmp .ge 22, 3) := zd02dec4_186.2.2.2.2.1
theorem dJ2_indexOfCharUnsafe_4cfef_9 : decode cJ2_indexOfCharUnsafe_4cfef 9 = .ok (.aload_n 0, 1) := zd02dec4_186.2.2.2.2.2.1
theorem dJ2_indexOfCharUnsafe_4cfef_10 : decode cJ2_indexOfCharUnsafe_4cfef 10 = .ok (.iload 4, 2) := zd02dec4_186.2.2.2.2.2.2.1
theorem dJ2_indexOfCharUnsafe_4cfef_12 : decode cJ2_indexOfCharUnsafe_4cfef 12 = .ok (.invokestatic 71, 3) := zd02dec4_186.2.2.2.2.2.2.2.1
theorem dJ2_indexOfCharUnsafe_4cfef_15 : decode cJ2_indexOfCharUnsafe_4cfef 15 = .ok (.iload_n 1, 1) := zd02dec4_186.2.2.2.2.2.2.2.2.1
theorem dJ2_indexOfCharUnsafe_4cfef_16 : decode cJ2_indexOfCharUnsafe_4cfef 16 = .ok (.if_icmp .ne 6, 3) := zd02dec4_186.2.2.2.2.2.2.2.2.2.1
theorem dJ2_indexOfCharUnsafe_4cfef_19 : decode cJ2_indexOfCharUnsafe_4cfef 19 = .ok (.iload 4, 2) := zd02dec4_186.2.2.2.2.2.2.2.2.2.2.1
theorem dJ2_indexOfCharUnsafe_4cfef_21 : decode cJ2_indexOfCharUnsafe_4cfef 21 = .ok (.ireturn, 1) := zd02dec4_186.2.2.2.2.2.2.2.2.2.2.2
theorem zd02dec4_187 : decode cJ2_indexOfCharUnsafe_4cfef 22 = .ok (.iinc 4 1, 3) ∧ decode cJ2_indexOfCharUnsafe_4cfef 25 = .ok (.goto (-22), 3) ∧ decode cJ2_indexOfCharUnsafe_4cfef 28 = .ok (.iconst (-1), 1) ∧ decode cJ2_indexOfCharUnsafe_4cfef 29 = .ok (.ireturn, 1) := by decide +kernel
theorem dJ2_indexOfCharUnsafe_4cfef_22 : decode cJ2_indexOfCharUnsafe_4cfef 22 = .ok (.iinc 4 1, 3) := zd02dec4_187.1
theorem dJ2_indexOfCharUnsafe_4cfef_25 : decode cJ2_indexOfCharUnsafe_4cfef 25 = .ok (.goto (-22), 3) := zd02dec4_187.2.1
theorem dJ2_indexOfCharUnsafe_4cfef_28 : decode cJ2_indexOfCharUnsafe_4cfef 28 = .ok (.iconst (-1), 1) := zd02dec4_187.2.2.1
theorem dJ2_indexOfCharUnsafe_4cfef_29 : decode cJ2_indexOfCharUnsafe_4cfef 29 = .ok (.ireturn, 1) := zd02dec4_187.2.2.2
theorem zd02dec4_188 : decode cJ2_indexOfSupplementary_4cfef 0 = .ok (.iload_n 1, 1) ∧ decode cJ2_indexOfSupplementary_4cfef 1 = .ok (.invokestatic 164, 3) ∧ decode cJ2_indexOfSupplementary_4cfef 4 = .ok (.ifCond .eq 65, 3) ∧ decode cJ2_indexOfSupplementary_4cfef 7 = .ok (.iload_n 1, 1) ∧ decode cJ2_indexOfSupplementary_4cfef 8 = .ok (.invokestatic 157, 3) ∧ decode cJ2_indexOfSupplementary_4cfef 11 = .ok (.istore 4, 2) ∧ decode cJ2_indexOfSupplementary_4cfef 13 = .ok (.iload_n 1, 1) ∧ decode cJ2_indexOfSupplementary_4cfef 14 = .ok (.invokestatic 161, 3) ∧ decode cJ2_indexOfSupplementary_4cfef 17 = .ok (.istore 5, 2) ∧ decode cJ2_indexOfSupplementary_4cfef 19 = .ok (.iload_n 2, 1) ∧ decode cJ2_indexOfSupplementary_4cfef 20 = .ok (.iload_n 3, 1) ∧ decode cJ2_indexOfSupplementary_4cfef 21 = .ok (.aload_n 0, 1) := by decide +kernel
theorem dJ2_indexOfSupplementary_4cfef_0 : decode cJ2_indexOfSupplementary_4cfef 0 = .ok (.iload_n 1, 1) := zd02dec4_188.1
theorem dJ2_indexOfSupplementary_4cfef_1 : decode cJ2_indexOfSupplementary_4cfef 1 = .ok (.invokestatic 164, 3) := zd02dec4_188.2.1
theorem dJ2_indexOfSupplementary_4cfef_4 : decode cJ2_indexOfSupplementary_4cfef 4 = .ok (.ifCond .eq 65, 3) := zd02dec4_188.2.2.1
theorem dJ2_indexOfSupplementary_4cfef_7 : decode cJ2_indexOfSupplementary_4cfef 7 = .ok (.iload_n 1, 1) := zd02dec4_188.2.2.2.1
theorem dJ2_indexOfSupplementary_4cfef_8 : decode cJ2_indexOfSupplementary_4cfef 8 = .ok (.invokestatic 157, 3) := zd02dec4_188.2.2.2.2.1
theorem dJ2_indexOfSupplementary_4cfef_11 : decode cJ2_indexOfSupplementary_4cfef 11 = .ok (.istore 4, 2) := zd02dec4_188.2.2.2.2.2.1
theorem dJ2_indexOfSupplementary_4cfef_13 : decode cJ2_indexOfSupplementary_4cfef 13 = .ok (.iload_n 1, 1) := zd02dec4_188.2.2.2.2.2.2.1
theorem dJ2_indexOfSupplementary_4cfef_14 : decode cJ2_indexOfSupplementary_4cfef 14 = .ok (.invokestatic 161, 3) := zd02dec4_188.2.2.2.2.2.2.2.1
theorem dJ2_indexOfSupplementary_4cfef_17 : decode cJ2_indexOfSupplementary_4cfef 17 = .ok (.istore 5, 2) := zd02dec4_188.2.2.2.2.2.2.2.2.1
theorem dJ2_indexOfSupplementary_4cfef_19 : decode cJ2_indexOfSupplementary_4cfef 19 = .ok (.iload_n 2, 1) := zd02dec4_188.2.2.2.2.2.2.2.2.2.1
theorem dJ2_indexOfSupplementary_4cfef_20 : decode cJ2_indexOfSupplementary_4cfef 20 = .ok (.iload_n 3, 1) := zd02dec4_188.2.2.2.2.2.2.2.2.2.2.1
theorem dJ2_indexOfSupplementary_4cfef_21 : decode cJ2_indexOfSupplementary_4cfef 21 = .ok (.aload_n 0, 1) := zd02dec4_188.2.2.2.2.2.2.2.2.2.2.2
theorem zd02dec4_189 : decode cJ2_indexOfSupplementary_4cfef 22 = .ok (.invokestatic 96, 3) ∧ decode cJ2_indexOfSupplementary_4cfef 25 = .ok (.iload_n 2, 1) ∧ decode cJ2_indexOfSupplementary_4cfef 26 = .ok (.istore 6, 2) ∧ decode cJ2_indexOfSupplementary_4cfef 28 = .ok (.iload 6, 2) ∧ decode cJ2_indexOfSupplementary_4cfef 30 = .ok (.iload_n 3, 1) ∧ decode cJ2_indexOfSupplementary_4cfef 31 = .ok (.iconst 1, 1) ∧ decode cJ2_indexOfSupplementary_4cfef 32 = .ok (.isub, 1) ∧ decode cJ2_indexOfSupplementary_4cfef 33 = .ok (.if_icmp .ge 36, 3) ∧ decode cJ2_indexOfSupplementary_4cfef 36 = .ok (.aload_n 0, 1) ∧ decode cJ2_indexOfSupplementary_4cfef 37 = .ok (.iload 6, 2) ∧ decode cJ2_indexOfSupplementary_4cfef 39 = .ok (.invokestatic 71, 3) ∧ decode cJ2_indexOfSupplementary_4cfef 42 = .ok (.iload 4, 2) := by decide +kernel
theorem dJ2_indexOfSupplementary_4cfef_22 : decode cJ2_indexOfSupplementary_4cfef 22 = .ok (.invokestatic 96, 3) := zd02dec4_189.1
theorem dJ2_indexOfSupplementary_4cfef_25 : decode cJ2_indexOfSupplementary_4cfef 25 = .ok (.iload_n 2, 1) := zd02dec4_189.2.1
theorem dJ2_indexOfSupplementary_4cfef_26 : decode cJ2_indexOfSupplementary_4cfef 26 = .ok (.istore 6, 2) := zd02dec4_189.2.2.1
theorem dJ2_indexOfSupplementary_4cfef_28 : decode cJ2_indexOfSupplementary_4cfef 28 = .ok (.iload 6, 2) := zd02dec4_189.2.2.2.1
theorem dJ2_indexOfSupplementary_4cfef_30 : decode cJ2_indexOfSupplementary_4cfef 30 = .ok (.iload_n 3, 1) := zd02dec4_189.2.2.2.2.1
theorem dJ2_indexOfSupplementary_4cfef_31 : decode cJ2_indexOfSupplementary_4cfef 31 = .ok (.iconst 1, 1) := zd02dec4_189.2.2.2.2.2.1
theorem dJ2_indexOfSupplementary_4cfef_32 : decode cJ2_indexOfSupplementary_4cfef 32 = .ok (.isub, 1) := zd02dec4_189.2.2.2.2.2.2.1
theorem dJ2_indexOfSupplementary_4cfef_33 : decode cJ2_indexOfSupplementary_4cfef 33 = .ok (.if_icmp .ge 36, 3) := zd02dec4_189.2.2.2.2.2.2.2.1
theorem dJ2_indexOfSupplementary_4cfef_36 : decode cJ2_indexOfSupplementary_4cfef 36 = .ok (.aload_n 0, 1) := zd02dec4_189.2.2.2.2.2.2.2.2.1
theorem dJ2_indexOfSupplementary_4cfef_37 : decode cJ2_indexOfSupplementary_4cfef 37 = .ok (.iload 6, 2) := zd02dec4_189.2.2.2.2.2.2.2.2.2.1
theorem dJ2_indexOfSupplementary_4cfef_39 : decode cJ2_indexOfSupplementary_4cfef 39 = .ok (.invokestatic 71, 3) := zd02dec4_189.2.2.2.2.2.2.2.2.2.2.1
theorem dJ2_indexOfSupplementary_4cfef_42 : decode cJ2_indexOfSupplementary_4cfef 42 = .ok (.iload 4, 2) := zd02dec4_189.2.2.2.2.2.2.2.2.2.2.2
theorem zd02dec4_190 : decode cJ2_indexOfSupplementary_4cfef 44 = .ok (.if_icmp .ne 19, 3) ∧ decode cJ2_indexOfSupplementary_4cfef 47 = .ok (.aload_n 0, 1) ∧ decode cJ2_indexOfSupplementary_4cfef 48 = .ok (.iload 6, 2) ∧ decode cJ2_indexOfSupplementary_4cfef 50 = .ok (.iconst 1, 1) ∧ decode cJ2_indexOfSupplementary_4cfef 51 = .ok (.iadd, 1) ∧ decode cJ2_indexOfSupplementary_4cfef 52 = .ok (.invokestatic 71, 3) ∧ decode cJ2_indexOfSupplementary_4cfef 55 = .ok (.iload 5, 2) ∧ decode cJ2_indexOfSupplementary_4cfef 57 = .ok (.if_icmp .ne 6, 3) ∧ decode cJ2_indexOfSupplementary_4cfef 60 = .ok (.iload 6, 2) ∧ decode cJ2_indexOfSupplementary_4cfef 62 = .ok (.ireturn, 1) ∧ decode cJ2_indexOfSupplementary_4cfef 63 = .ok (.iinc 6 1, 3) ∧ decode cJ2_indexOfSupplementary_4cfef 66 = .ok (.goto (-38), 3) := by decide +kernel
theorem dJ2_indexOfSupplementary_4cfef_44 : decode cJ2_indexOfSupplementary_4cfef 44 = .ok (.if_icmp .ne 19, 3) := zd02dec4_190.1
theorem dJ2_indexOfSupplementary_4cfef_47 : decode cJ2_indexOfSupplementary_4cfef 47 = .ok (.aload_n 0, 1) := zd02dec4_190.2.1
theorem dJ2_indexOfSupplementary_4cfef_48 : decode cJ2_indexOfSupplementary_4cfef 48 = .ok (.iload 6, 2) := zd02dec4_190.2.2.1
theorem dJ2_indexOfSupplementary_4cfef_50 : decode cJ2_indexOfSupplementary_4cfef 50 = .ok (.iconst 1, 1) := zd02dec4_190.2.2.2.1
theorem dJ2_indexOfSupplementary_4cfef_51 : decode cJ2_indexOfSupplementary_4cfef 51 = .ok (.iadd, 1) := zd02dec4_190.2.2.2.2.1
theorem dJ2_indexOfSupplementary_4cfef_52 : decode cJ2_indexOfSupplementary_4cfef 52 = .ok (.invokestatic 71, 3) := zd02dec4_190.2.2.2.2.2.1
theorem dJ2_indexOfSupplementary_4cfef_55 : decode cJ2_indexOfSupplementary_4cfef 55 = .ok (.iload 5, 2) := zd02dec4_190.2.2.2.2.2.2.1
theorem dJ2_indexOfSupplementary_4cfef_57 : decode cJ2_indexOfSupplementary_4cfef 57 = .ok (.if_icmp .ne 6, 3) := zd02dec4_190.2.2.2.2.2.2.2.1
theorem dJ2_indexOfSupplementary_4cfef_60 : decode cJ2_indexOfSupplementary_4cfef 60 = .ok (.iload 6, 2) := zd02dec4_190.2.2.2.2.2.2.2.2.1
theorem dJ2_indexOfSupplementary_4cfef_62 : decode cJ2_indexOfSupplementary_4cfef 62 = .ok (.ireturn, 1) := zd02dec4_190.2.2.2.2.2.2.2.2.2.1
theorem dJ2_indexOfSupplementary_4cfef_63 : decode cJ2_indexOfSupplementary_4cfef 63 = .ok (.iinc 6 1, 3) := zd02dec4_190.2.2.2.2.2.2.2.2.2.2.1
theorem dJ2_indexOfSupplementary_4cfef_66 : decode cJ2_indexOfSupplementary_4cfef 66 = .ok (.goto (-38), 3) := zd02dec4_190.2.2.2.2.2.2.2.2.2.2.2
theorem zd02dec4_191 : decode cJ2_indexOfSupplementary_4cfef 69 = .ok (.iconst (-1), 1) ∧ decode cJ2_indexOfSupplementary_4cfef 70 = .ok (.ireturn, 1) := by decide +kernel
theorem dJ2_indexOfSupplementary_4cfef_69 : decode cJ2_indexOfSupplementary_4cfef 69 = .ok (.iconst (-1), 1) := zd02dec4_191.1
theorem dJ2_indexOfSupplementary_4cfef_70 : decode cJ2_indexOfSupplementary_4cfef 70 = .ok (.ireturn, 1) := zd02dec4_191.2
theorem zd02dec4_192 : decode cJ2_charAt_3b067 0 = .ok (.iload_n 1, 1) ∧ decode cJ2_charAt_3b067 1 = .ok (.aload_n 0, 1) ∧ decode cJ2_charAt_3b067 2 = .ok (.invokestatic 67, 3) ∧ decode cJ2_charAt_3b067 5 = .ok (.aload_n 0, 1) ∧ decode cJ2_charAt_3b067 6 = .ok (.iload_n 1, 1) ∧ decode cJ2_charAt_3b067 7 = .ok (.invokestatic 71, 3) ∧ decode cJ2_charAt_3b067 10 = .ok (.ireturn, 1) := by decide +kernel
theorem dJ2_charAt_3b067_0 : decode cJ2_charAt_3b067 0 = .ok (.iload_n 1, 1) := zd02dec4_192.1
theorem dJ2_charAt_3b067_1 : decode cJ2_charAt_3b067 1 = .ok (.aload_n 0, 1) := zd02dec4_192.2.1
theorem dJ2_charAt_3b067_2 : decode cJ2_charAt_3b067 2 = .ok (.invokestatic 67, 3) := zd02dec4_192.2.2.1
theorem dJ2_charAt_3b067_5 : decode cJ2_charAt_3b067 5 = .ok (.aload_n 0, 1) := zd02dec4_192.2.2.2.1
theorem dJ2_charAt_3b067_6 : decode cJ2_charAt_3b067 6 = .ok (.iload_n 1, 1) := zd02dec4_192.2.2.2.2.1
theorem dJ2_charAt_3b067_7 : decode cJ2_charAt_3b067 7 = .ok (.invokestatic 71, 3) := zd02dec4_192.2.2.2.2.2.1
theorem dJ2_charAt_3b067_10 : decode cJ2_charAt_3b067 10 = .ok (.ireturn, 1) := zd02dec4_192.2.2.2.2.2.2
theorem zd02dec4_193 : decode cJ2_checkIndex_2214a 0 = .ok (.iload_n 0, 1) ∧ decode cJ2_checkIndex_2214a 1 = .ok (.aload_n 1, 1) ∧ decode cJ2_checkIndex_2214a 2 = .ok (.invokestatic 48, 3) ∧ decode cJ2_checkIndex_2214a 5 = .ok (.invokestatic 414, 3) ∧ decode cJ2_checkIndex_2214a 8 = .ok (.return_, 1) := by decide +kernel
theorem dJ2_checkIndex_2214a_0 : decode cJ2_checkIndex_2214a 0 = .ok (.iload_n 0, 1) := zd02dec4_193.1
theorem dJ2_checkIndex_2214a_1 : decode cJ2_checkIndex_2214a 1 = .ok (.aload_n 1, 1) := zd02dec4_193.2.1
theorem dJ2_checkIndex_2214a_2 : decode cJ2_checkIndex_2214a 2 = .ok (.invokestatic 48, 3) := zd02dec4_193.2.2.1
theorem dJ2_checkIndex_2214a_5 : decode cJ2_checkIndex_2214a 5 = .ok (.invokestatic 414, 3) := zd02dec4_193.2.2.2.1
theorem dJ2_checkIndex_2214a_8 : decode cJ2_checkIndex_2214a 8 = .ok (.return_, 1) := zd02dec4_193.2.2.2.2
theorem zd02dec4_194 : decode cJ2_checkBoundsBeginEnd_d044e 0 = .ok (.iload_n 0, 1) ∧ decode cJ2_checkBoundsBeginEnd_d044e 1 = .ok (.iload_n 1, 1) ∧ decode cJ2_checkBoundsBeginEnd_d044e 2 = .ok (.aload_n 2, 1) ∧ decode cJ2_checkBoundsBeginEnd_d044e 3 = .ok (.invokestatic 48, 3) ∧ decode cJ2_checkBoundsBeginEnd_d044e 6 = .ok (.invokestatic 241, 3) ∧ decode cJ2_checkBoundsBeginEnd_d044e 9 = .ok (.return_, 1) := by decide +kernel
theorem dJ2_checkBoundsBeginEnd_d044e_0 : decode cJ2_checkBoundsBeginEnd_d044e 0 = .ok (.iload_n 0, 1) := zd02dec4_194.1
theorem dJ2_checkBoundsBeginEnd_d044e_1 : decode cJ2_checkBoundsBeginEnd_d044e 1 = .ok (.iload_n 1, 1) := zd02dec4_194.2.1
theorem dJ2_checkBoundsBeginEnd_d044e_2 : decode cJ2_checkBoundsBeginEnd_d044e 2 = .ok (.aload_n 2, 1) := zd02dec4_194.2.2.1
theorem dJ2_checkBoundsBeginEnd_d044e_3 : decode cJ2_checkBoundsBeginEnd_d044e 3 = .ok (.invokestatic 48, 3) := zd02dec4_194.2.2.2.1
theorem dJ2_checkBoundsBeginEnd_d044e_6 : decode cJ2_checkBoundsBeginEnd_d044e 6 = .ok (.invokestatic 241, 3) := zd02dec4_194.2.2.2.2.1
theorem dJ2_checkBoundsBeginEnd_d044e_9 : decode cJ2_checkBoundsBeginEnd_d044e 9 = .ok (.return_, 1) := zd02dec4_194.2.2.2.2.2
theorem zd02dec4_195 : decode cJ7_fill_53178 0 = .ok (.iconst 0, 1) ∧ decode cJ7_fill_53178 1 = .ok (.istore_n 2, 1) ∧ decode cJ7_fill_53178 2 = .ok (.aload_n 0, 1) ∧ decode cJ7_fill_53178 3 = .ok (.arraylength, 1) ∧ decode cJ7_fill_53178 4 = .ok (.istore_n 3, 1) ∧ decode cJ7_fill_53178 5 = .ok (.iload_n 2, 1) ∧ decode cJ7_fill_53178 6 = .ok (.iload_n 3, 1) ∧ decode cJ7_fill_53178 7 = .ok (.if_icmp .ge 13, 3) ∧ decode cJ7_fill_53178 10 = .ok (.aload_n 0, 1) ∧ decode cJ7_fill_53178 11 = .ok (.iload_n 2, 1) ∧ decode cJ7_fill_53178 12 = .ok (.iload_n 1, 1) ∧ decode cJ7_fill_53178 13 = .ok (.iastore, 1) := by decide +kernel
theorem dJ7_fill_53178_0 : decode cJ7_fill_53178 0 = .ok (.iconst 0, 1) := zd02dec4_195.1
theorem dJ7_fill_53178_1 : decode cJ7_fill_53178 1 = .ok (.istore_n 2, 1) := zd02dec4_195.2.1
theorem dJ7_fill_53178_2 : decode cJ7_fill_53178 2 = .ok (.aload_n 0, 1) := zd02dec4_195.2.2.1
theorem dJ7_fill_53178_3 : decode cJ7_fill_53178 3 = .ok (.arraylength, 1) := zd02dec4_195.2.2.2.1
theorem dJ7_fill_53178_4 : decode cJ7_fill_53178 4 = .ok (.istore_n 3, 1) := zd02dec4_195.2.2.2.2.1
theorem dJ7_fill_53178_5 : decode cJ7_fill_53178 5 = .ok (.iload_n 2, 1) := zd02dec4_195.2.2.2.2.2.1
theorem dJ7_fill_53178_6 : decode cJ7_fill_53178 6 = .ok (.iload_n 3, 1) := zd02dec4_195.2.2.2.2.2.2.1
theorem dJ7_fill_53178_7 : decode cJ7_fill_53178 7 = .ok (.if_icmp .ge 13, 3) := zd02dec4_195.2.2.2.2.2.2.2.1
theorem dJ7_fill_53178_10 : decode cJ7_fill_53178 10 = .ok (.aload_n 0, 1) := zd02dec4_195.2.2.2.2.2.2.2.2.1
theorem dJ7_fill_53178_11 : decode cJ7_fill_53178 11 = .ok (.iload_n 2, 1) := zd02dec4_195.2.2.2.2.2.2.2.2.2.1
theorem dJ7_fill_53178_12 : decode cJ7_fill_53178 12 = .ok (.iload_n 1, 1) := zd02dec4_195.2.2.2.2.2.2.2.2.2.2.1
theorem dJ7_fill_53178_13 : decode cJ7_fill_53178 13 = .ok (.iastore, 1) := zd02dec4_195.2.2.2.2.2.2.2.2.2.2.2
theorem zd02dec4_196 : decode cJ7_fill_53178 14 = .ok (.iinc 2 1, 3) ∧ decode cJ7_fill_53178 17 = .ok (.goto (-12), 3) ∧ decode cJ7_fill_53178 20 = .ok (.return_, 1) := by decide +kernel
theorem dJ7_fill_53178_14 : decode cJ7_fill_53178 14 = .ok (.iinc 2 1, 3) := zd02dec4_196.1
theorem dJ7_fill_53178_17 : decode cJ7_fill_53178 17 = .ok (.goto (-12), 3) := zd02dec4_196.2.1
theorem dJ7_fill_53178_20 : decode cJ7_fill_53178 20 = .ok (.return_, 1) := zd02dec4_196.2.2
theorem zd02dec4_197 : decode cJ3_checkIndex_8e157 0 = .ok (.iload_n 0, 1) ∧ decode cJ3_checkIndex_8e157 1 = .ok (.ifCond .lt 8, 3) ∧ decode cJ3_checkIndex_8e157 4 = .ok (.iload_n 0, 1) ∧ decode cJ3_checkIndex_8e157 5 = .ok (.iload_n 1, 1) ∧ decode cJ3_checkIndex_8e157 6 = .ok (.if_icmp .lt 10, 3) ∧ decode cJ3_checkIndex_8e157 9 = .ok (.aload_n 2, 1) ∧ decode cJ3_checkIndex_8e157 10 = .ok (.iload_n 0, 1) ∧ decode cJ3_checkIndex_8e157 11 = .ok (.iload_n 1, 1) ∧ decode cJ3_checkIndex_8e157 12 = .ok (.invokestatic 95, 3) ∧ decode cJ3_checkIndex_8e157 15 = .ok (.athrow, 1) ∧ decode cJ3_checkIndex_8e157 16 = .ok (.iload_n 0, 1) ∧ decode cJ3_checkIndex_8e157 17 = .ok (.ireturn, 1) := by decide +kernel
theorem dJ3_checkIndex_8e157_0 : decode cJ3_checkIndex_8e157 0 = .ok (.iload_n 0, 1) := zd02dec4_197.1
theorem dJ3_checkIndex_8e157_1 : decode cJ3_checkIndex_8e157 1 = .ok (.ifCond .lt 8, 3) := zd02dec4_197.2.1
theorem dJ3_checkIndex_8e157_4 : decode cJ3_checkIndex_8e157 4 = .ok (.iload_n 0, 1) := zd02dec4_197.2.2.1
theorem dJ3_checkIndex_8e157_5 : decode cJ3_checkIndex_8e157 5 = .ok (.iload_n 1, 1) := zd02dec4_197.2.2.2.1
theorem dJ3_checkIndex_8e157_6 : decode cJ3_checkIndex_8e157 6 = .ok (.if_icmp .lt 10, 3) := zd02dec4_197.2.2.2.2.1
theorem dJ3_checkIndex_8e157_9 : decode cJ3_checkIndex_8e157 9 = .ok (.aload_n 2, 1) := zd02dec4_197.2.2.2.2.2.1
theorem dJ3_checkIndex_8e157_10 : decode cJ3_checkIndex_8e157 10 = .ok (.iload_n 0, 1) := zd02dec4_197.2.2.2.2.2.2.1
theorem dJ3_checkIndex_8e157_11 : decode cJ3_checkIndex_8e157 11 = .ok (.iload_n 1, 1) := zd02dec4_197.2.2.2.2.2.2.2.1
theorem dJ3_checkIndex_8e157_12 : decode cJ3_checkIndex_8e157 12 = .ok (.invokestatic 95, 3) := zd02dec4_197.2.2.2.2.2.2.2.2.1
theorem dJ3_checkIndex_8e157_15 : decode cJ3_checkIndex_8e157 15 = .ok (.athrow, 1) := zd02dec4_197.2.2.2.2.2.2.2.2.2.1
theorem dJ3_checkIndex_8e157_16 : decode cJ3_checkIndex_8e157 16 = .ok (.iload_n 0, 1) := zd02dec4_197.2.2.2.2.2.2.2.2.2.2.1
theorem dJ3_checkIndex_8e157_17 : decode cJ3_checkIndex_8e157 17 = .ok (.ireturn, 1) := zd02dec4_197.2.2.2.2.2.2.2.2.2.2.2
theorem zd02dec4_198 : decode cJ3_checkFromToIndex_8c36e 0 = .ok (.iload_n 0, 1) ∧ decode cJ3_checkFromToIndex_8c36e 1 = .ok (.ifCond .lt 13, 3) ∧ decode cJ3_checkFromToIndex_8c36e 4 = .ok (.iload_n 0, 1) ∧ decode cJ3_checkFromToIndex_8c36e 5 = .ok (.iload_n 1, 1) ∧ decode cJ3_checkFromToIndex_8c36e 6 = .ok (.if_icmp .gt 8, 3) ∧ decode cJ3_checkFromToIndex_8c36e 9 = .ok (.iload_n 1, 1) ∧ decode cJ3_checkFromToIndex_8c36e 10 = .ok (.iload_n 2, 1) ∧ decode cJ3_checkFromToIndex_8c36e 11 = .ok (.if_icmp .le 11, 3) ∧ decode cJ3_checkFromToIndex_8c36e 14 = .ok (.aload_n 3, 1) ∧ decode cJ3_checkFromToIndex_8c36e 15 = .ok (.iload_n 0, 1) ∧ decode cJ3_checkFromToIndex_8c36e 16 = .ok (.iload_n 1, 1) ∧ decode cJ3_checkFromToIndex_8c36e 17 = .ok (.iload_n 2, 1) := by decide +kernel
theorem dJ3_checkFromToIndex_8c36e_0 : decode cJ3_checkFromToIndex_8c36e 0 = .ok (.iload_n 0, 1) := zd02dec4_198.1
theorem dJ3_checkFromToIndex_8c36e_1 : decode cJ3_checkFromToIndex_8c36e 1 = .ok (.ifCond .lt 13, 3) := zd02dec4_198.2.1
theorem dJ3_checkFromToIndex_8c36e_4 : decode cJ3_checkFromToIndex_8c36e 4 = .ok (.iload_n 0, 1) := zd02dec4_198.2.2.1
theorem dJ3_checkFromToIndex_8c36e_5 : decode cJ3_checkFromToIndex_8c36e 5 = .ok (.iload_n 1, 1) := zd02dec4_198.2.2.2.1
theorem dJ3_checkFromToIndex_8c36e_6 : decode cJ3_checkFromToIndex_8c36e 6 = .ok (.if_icmp .gt 8, 3) := zd02dec4_198.2.2.2.2.1
theorem dJ3_checkFromToIndex_8c36e_9 : decode cJ3_checkFromToIndex_8c36e 9 = .ok (.iload_n 1, 1) := zd02dec4_198.2.2.2.2.2.1
theorem dJ3_checkFromToIndex_8c36e_10 : decode cJ3_checkFromToIndex_8c36e 10 = .ok (.iload_n 2, 1) := zd02dec4_198.2.2.2.2.2.2.1
theorem dJ3_checkFromToIndex_8c36e_11 : decode cJ3_checkFromToIndex_8c36e 11 = .ok (.if_icmp .le 11, 3) := zd02dec4_198.2.2.2.2.2.2.2.1
theorem dJ3_checkFromToIndex_8c36e_14 : decode cJ3_checkFromToIndex_8c36e 14 = .ok (.aload_n 3, 1) := zd02dec4_198.2.2.2.2.2.2.2.2.1
theorem dJ3_checkFromToIndex_8c36e_15 : decode cJ3_checkFromToIndex_8c36e 15 = .ok (.iload_n 0, 1) := zd02dec4_198.2.2.2.2.2.2.2.2.2.1
theorem dJ3_checkFromToIndex_8c36e_16 : decode cJ3_checkFromToIndex_8c36e 16 = .ok (.iload_n 1, 1) := zd02dec4_198.2.2.2.2.2.2.2.2.2.2.1
theorem dJ3_checkFromToIndex_8c36e_17 : decode cJ3_checkFromToIndex_8c36e 17 = .ok (.iload_n 2, 1) := zd02dec4_198.2.2.2.2.2.2.2.2.2.2.2
theorem zd02dec4_199 : decode cJ3_checkFromToIndex_8c36e 18 = .ok (.invokestatic 99, 3) ∧ decode cJ3_checkFromToIndex_8c36e 21 = .ok (.athrow, 1) ∧ decode cJ3_checkFromToIndex_8c36e 22 = .ok (.iload_n 0, 1) ∧ decode cJ3_checkFromToIndex_8c36e 23 = .ok (.ireturn, 1) := by decide +kernel
theorem dJ3_checkFromToIndex_8c36e_18 : decode cJ3_checkFromToIndex_8c36e 18 = .ok (.invokestatic 99, 3) := zd02dec4_199.1
theorem dJ3_checkFromToIndex_8c36e_21 : decode cJ3_checkFromToIndex_8c36e 21 = .ok (.athrow, 1) := zd02dec4_199.2.1
theorem dJ3_checkFromToIndex_8c36e_22 : decode cJ3_checkFromToIndex_8c36e 22 = .ok (.iload_n 0, 1) := zd02dec4_199.2.2.1
theorem dJ3_checkFromToIndex_8c36e_23 : decode cJ3_checkFromToIndex_8c36e 23 = .ok (.ireturn, 1) := zd02dec4_199.2.2.2
