set_option maxRecDepth 20000 in
noncomputable def wT0 : Lean.RArray Cond := .branch 16 (.branch 8 (.branch 4 (.branch 2 (.branch 1 (.leaf (Cond.code yX0_hasBoth cX0_hasBoth 3 (some .boolean))) (.leaf (Cond.methodLink RX0 58 yX0_hasJudge))) (.branch 3 (.leaf (Cond.instanceMethod yX0_hasJudge)) (.leaf (Cond.selects RX0 yX0_hasJudge yX0_hasJudge)))) (.branch 6 (.branch 5 (.leaf (Cond.initialized RX0)) (.leaf (Cond.code yX0_hasJudge cX0_hasJudge 2 (some .boolean)))) (.branch 7 (.leaf (Cond.fieldLink RX0 48 "PebbleInShoe$Court" "judges" "I")) (.leaf (Cond.methodLink RX0 62 yX0_hasPebble))))) (.branch 12 (.branch 10 (.branch 9 (.leaf (Cond.instanceMethod yX0_hasPebble)) (.leaf (Cond.selects RX0 yX0_hasPebble yX0_hasPebble))) (.branch 11 (.leaf (Cond.code yX0_hasPebble cX0_hasPebble 2 (some .boolean))) (.leaf (Cond.fieldLink RX0 52 "PebbleInShoe$Court" "pebbles" "I")))) (.branch 14 (.branch 13 (.leaf (u_lay RX0 TX0 0)) (.leaf (u_lay RX0 TX0 1))) (.branch 15 (.leaf (u_lay RX0 TX0 2)) (.leaf (u_lay RX0 TX0 3)))))) (.branch 24 (.branch 20 (.branch 18 (.branch 17 (.leaf (u_lay RX0 TX0 4)) (.leaf (u_lay RX0 TX0 5))) (.branch 19 (.leaf (u_lay RX0 TX0 6)) (.leaf (u_lay RX0 TX0 7)))) (.branch 22 (.branch 21 (.leaf (u_lay RX0 TX0 8)) (.leaf (u_lay RX0 TX0 9))) (.branch 23 (.leaf (u_lay RX0 TX0 10)) (.leaf (u_lay RX0 TX0 11))))) (.branch 28 (.branch 26 (.branch 25 (.leaf (Cond.code yX0_says cX0_says 5 (some .int))) (.leaf (Cond.fieldLink RX0 11 "PebbleInShoe$Court" "names" "[I"))) (.branch 27 (.leaf (Cond.fieldLink RX0 32 "PebbleInShoe$Court" "size" "[I")) (.leaf (Cond.fieldLink RX0 35 "PebbleInShoe$Court" "round" "[I")))) (.branch 30 (.branch 29 (.leaf (Cond.fieldLink RX0 17 "PebbleInShoe$Court" "soles" "[I")) (.leaf (Cond.fieldLink RX0 20 "PebbleInShoe$Court" "miles" "[I"))) (.branch 31 (.leaf (Cond.fieldLink RX0 29 "PebbleInShoe$Court" "more" "[I")) (.leaf (Cond.fieldLink RX0 38 "PebbleInShoe$Court" "texts" "LPebbleInShoe$Texts;"))))))
set_option maxRecDepth 20000 in
noncomputable def wT1 : Lean.RArray Cond := .branch 48 (.branch 40 (.branch 36 (.branch 34 (.branch 33 (.leaf (Cond.fieldLink RX0 55 "PebbleInShoe$Court" "law" "I")) (.leaf (Cond.methodLink RX0 71 Lib.Math.min.name))) (.branch 35 (.leaf (Cond.static Lib.Math.min.name)) (.leaf (Cond.initialized "java/lang/Math")))) (.branch 38 (.branch 37 (.leaf (Cond.code Lib.Math.min.name Lib.Math.min.code 2 (some .int))) (.leaf (Cond.methodLink RX0 77 Lib.Math.max.name))) (.branch 39 (.leaf (Cond.static Lib.Math.max.name)) (.leaf (Cond.code Lib.Math.max.name Lib.Math.max.code 2 (some .int)))))) (.branch 44 (.branch 42 (.branch 41 (.leaf (Cond.methodLink RX0 65 yX3_value)) (.leaf (Cond.instanceMethod yX3_value))) (.branch 43 (.leaf (Cond.selects RX3 yX3_value yX3_value)) (.leaf (Cond.initialized RX3)))) (.branch 46 (.branch 45 (.leaf (Cond.code yX3_value cX3_value 9 (some .int))) (.leaf (Cond.fieldLink RX3 27 "PebbleInShoe$Texts" "number" "I"))) (.branch 47 (.leaf (Cond.fieldLink RX3 16 "PebbleInShoe$Texts" "ends" "[[I")) (.leaf (Cond.fieldLink RX3 11 "PebbleInShoe$Texts" "codes" "[[I")))))) (.branch 56 (.branch 52 (.branch 50 (.branch 49 (.leaf (Cond.fieldLink RX3 19 "PebbleInShoe$Texts" "stack" "[I")) (.leaf (Cond.methodLink RX3 32 yX3_one))) (.branch 51 (.leaf (Cond.static yX3_one)) (.leaf (Cond.code yX3_one cX3_one 2 (some .int))))) (.branch 54 (.branch 53 (.leaf (Cond.methodLink RX3 36 yX3_two)) (.leaf (Cond.static yX3_two))) (.branch 55 (.leaf (Cond.code yX3_two cX3_two 3 (some .int))) (.leaf (u_lay RX3 TX3 0))))) (.branch 60 (.branch 58 (.branch 57 (.leaf (u_lay RX3 TX3 1)) (.leaf (u_lay RX3 TX3 2))) (.branch 59 (.leaf (u_lay RX3 TX3 3)) (.leaf (u_lay RX3 TX3 4)))) (.branch 62 (.branch 61 (.leaf (Cond.code yX0_mile cX0_mile 6 (some .int))) (.leaf (Cond.fieldLink RX0 23 "PebbleInShoe$Court" "pains" "[I"))) (.branch 63 (.leaf (Cond.constant RX0 93 (99999))) (.leaf (Cond.methodLink RX0 80 yX0_isSand))))))
set_option maxRecDepth 20000 in
noncomputable def wT2 : Lean.RArray Cond := .branch 80 (.branch 72 (.branch 68 (.branch 66 (.branch 65 (.leaf (Cond.instanceMethod yX0_isSand)) (.leaf (Cond.selects RX0 yX0_isSand yX0_isSand))) (.branch 67 (.leaf (Cond.code yX0_isSand cX0_isSand 2 (some .boolean))) (.leaf (Cond.fieldLink RX0 26 "PebbleInShoe$Court" "kind" "[I")))) (.branch 70 (.branch 69 (.leaf (Cond.methodLink RX0 83 yX0_says)) (.leaf (Cond.instanceMethod yX0_says))) (.branch 71 (.leaf (Cond.selects RX0 yX0_says yX0_says)) (.leaf (Cond.methodLink RX0 87 yX0_hurts))))) (.branch 76 (.branch 74 (.branch 73 (.leaf (Cond.instanceMethod yX0_hurts)) (.leaf (Cond.selects RX0 yX0_hurts yX0_hurts))) (.branch 75 (.leaf (Cond.code yX0_hurts cX0_hurts 6 (some .int))) (.leaf (Cond.methodLink RX0 90 yX0_wears)))) (.branch 78 (.branch 77 (.leaf (Cond.instanceMethod yX0_wears)) (.leaf (Cond.selects RX0 yX0_wears yX0_wears))) (.branch 79 (.leaf (Cond.code yX0_wears cX0_wears 3 (some .int))) (.leaf (Cond.methodLink RX0 94 yX0_tread)))))) (.branch 88 (.branch 84 (.branch 82 (.branch 81 (.leaf (Cond.instanceMethod yX0_tread)) (.leaf (Cond.selects RX0 yX0_tread yX0_tread))) (.branch 83 (.leaf (Cond.code yX0_tread cX0_tread 2 none)) (.leaf (Cond.code yX0_go cX0_go 6 (some .int))))) (.branch 86 (.branch 85 (.leaf (Cond.methodLink RX0 98 yX0_mile)) (.leaf (Cond.instanceMethod yX0_mile))) (.branch 87 (.leaf (Cond.selects RX0 yX0_mile yX0_mile)) (.leaf (Cond.code yX0_goByLots cX0_goByLots 10 (some .int)))))) (.branch 92 (.branch 90 (.branch 89 (.leaf (Cond.constantLong RX0 101 (48271))) (.leaf (Cond.constantLong RX0 103 (2147483647)))) (.branch 91 (.leaf (Cond.code yX0_verdict cX0_verdict 4 (some .int))) (.leaf (Cond.code yX1_read cX1_read 2 (some .int))))) (.branch 94 (.branch 93 (.leaf (Cond.fieldLink RX1 23 "PebbleInShoe$Reader" "at" "I")) (.leaf (Cond.fieldLink RX1 15 "PebbleInShoe$Reader" "texts" "LPebbleInShoe$Texts;"))) (.branch 95 (.leaf (Cond.fieldLink RX1 19 "PebbleInShoe$Reader" "length" "I")) (.leaf (Cond.fieldLink RX1 39 "PebbleInShoe$Reader" "place" "I"))))))
set_option maxRecDepth 20000 in
noncomputable def wT3 : Lean.RArray Cond := .branch 112 (.branch 104 (.branch 100 (.branch 98 (.branch 97 (.leaf (Cond.methodLink RX1 26 yX3_begin)) (.leaf (Cond.instanceMethod yX3_begin))) (.branch 99 (.leaf (Cond.selects RX3 yX3_begin yX3_begin)) (.leaf (Cond.code yX3_begin cX3_begin 1 none)))) (.branch 102 (.branch 101 (.leaf (Cond.fieldLink RX3 23 "PebbleInShoe$Texts" "written" "I")) (.leaf (Cond.methodLink RX1 31 yX1_readParts))) (.branch 103 (.leaf (Cond.instanceMethod yX1_readParts)) (.leaf (Cond.selects RX1 yX1_readParts yX1_readParts))))) (.branch 108 (.branch 106 (.branch 105 (.leaf (Cond.initialized RX1)) (.leaf (Cond.code yX1_readParts cX1_readParts 2 (some .boolean)))) (.branch 107 (.leaf (Cond.fieldLink RX1 45 "PebbleInShoe$Reader" "token" "I")) (.leaf (Cond.methodLink RX1 42 yX1_next)))) (.branch 110 (.branch 109 (.leaf (Cond.instanceMethod yX1_next)) (.leaf (Cond.selects RX1 yX1_next yX1_next))) (.branch 111 (.leaf (Cond.code yX1_next cX1_next 1 none)) (.leaf (Cond.fieldLink RX1 9 "PebbleInShoe$Reader" "bytes" "[I")))))) (.branch 120 (.branch 116 (.branch 114 (.branch 113 (.leaf (Cond.methodLink RX1 77 yX1_isLetter)) (.leaf (Cond.instanceMethod yX1_isLetter))) (.branch 115 (.leaf (Cond.selects RX1 yX1_isLetter yX1_isLetter)) (.leaf (Cond.code yX1_isLetter cX1_isLetter 2 (some .boolean))))) (.branch 118 (.branch 117 (.leaf (Cond.methodLink RX1 80 yX1_nextWord)) (.leaf (Cond.instanceMethod yX1_nextWord))) (.branch 119 (.leaf (Cond.selects RX1 yX1_nextWord yX1_nextWord)) (.leaf (Cond.code yX1_nextWord cX1_nextWord 2 none))))) (.branch 124 (.branch 122 (.branch 121 (.leaf (Cond.fieldLink RX1 74 "PebbleInShoe$Reader" "meaning" "I")) (.leaf (Cond.methodLink RX1 97 yX1_word))) (.branch 123 (.leaf (Cond.static yX1_word)) (.leaf (Cond.code yX1_word cX1_word 1 (some (.object "java/lang/String")))))) (.branch 126 (.branch 125 (.leaf (Cond.methodLink RX1 101 yX1_isSpelled)) (.leaf (Cond.instanceMethod yX1_isSpelled))) (.branch 127 (.leaf (Cond.selects RX1 yX1_isSpelled yX1_isSpelled)) (.leaf (Cond.code yX1_isSpelled cX1_isSpelled 3 (some .boolean)))))))
set_option maxRecDepth 20000 in
noncomputable def wT4 : Lean.RArray Cond := .branch 144 (.branch 136 (.branch 132 (.branch 130 (.branch 129 (.leaf (Cond.methodLink RX1 105 yJ0_length_8abf5)) (.leaf (Cond.instanceMethod yJ0_length_8abf5))) (.branch 131 (.leaf (Cond.selects RJ0 yJ0_length_8abf5 yJ0_length_8abf5)) (.leaf (Cond.initialized RJ0)))) (.branch 134 (.branch 133 (.leaf (Cond.code yJ0_length_8abf5 cJ0_length_8abf5 1 (some .int))) (.leaf (Cond.fieldLink RJ0 9 "java/lang/String" "value" "[B"))) (.branch 135 (.leaf (Cond.methodLink RJ0 335 yJ0_coder_7d493)) (.leaf (Cond.instanceMethod yJ0_coder_7d493))))) (.branch 140 (.branch 138 (.branch 137 (.leaf (Cond.selects RJ0 yJ0_coder_7d493 yJ0_coder_7d493)) (.leaf (Cond.code yJ0_coder_7d493 cJ0_coder_7d493 1 (some .byte)))) (.branch 139 (.leaf (Cond.fieldLink RJ0 38 "java/lang/String" "COMPACT_STRINGS" "Z")) (.leaf (Cond.fieldLink RJ0 15 "java/lang/String" "coder" "B")))) (.branch 142 (.branch 141 (.leaf (Cond.methodLink RX1 107 yJ0_charAt_5068e)) (.leaf (Cond.instanceMethod yJ0_charAt_5068e))) (.branch 143 (.leaf (Cond.selects RJ0 yJ0_charAt_5068e yJ0_charAt_5068e)) (.leaf (Cond.code yJ0_charAt_5068e cJ0_charAt_5068e 2 (some .char))))))) (.branch 152 (.branch 148 (.branch 146 (.branch 145 (.leaf (Cond.methodLink RJ0 492 yJ0_isLatin1_aae02)) (.leaf (Cond.instanceMethod yJ0_isLatin1_aae02))) (.branch 147 (.leaf (Cond.selects RJ0 yJ0_isLatin1_aae02 yJ0_isLatin1_aae02)) (.leaf (Cond.code yJ0_isLatin1_aae02 cJ0_isLatin1_aae02 1 (some .boolean))))) (.branch 150 (.branch 149 (.leaf (Cond.methodLink RJ0 495 yJ1_charAt_3b067)) (.leaf (Cond.static yJ1_charAt_3b067))) (.branch 151 (.leaf (Cond.initialized RJ1)) (.leaf (Cond.code yJ1_charAt_3b067 cJ1_charAt_3b067 2 (some .char)))))) (.branch 156 (.branch 154 (.branch 153 (.leaf (Cond.methodLink RJ1 9 yJ0_checkIndex_df160)) (.leaf (Cond.static yJ0_checkIndex_df160))) (.branch 155 (.leaf (Cond.code yJ0_checkIndex_df160 cJ0_checkIndex_df160 2 none)) (.leaf (Cond.fieldLink RJ0 1053 "jdk/internal/util/Preconditions" "SIOOBE_FORMATTER" "Ljava/util/function/BiFunction;")))) (.branch 158 (.branch 157 (.leaf (Cond.methodLink RJ0 1059 yJ3_checkIndex_8e157)) (.leaf (Cond.static yJ3_checkIndex_8e157))) (.branch 159 (.leaf (Cond.initialized RJ3)) (.leaf (Cond.code yJ3_checkIndex_8e157 cJ3_checkIndex_8e157 3 (some .int)))))))
set_option maxRecDepth 20000 in
noncomputable def wT5 : Lean.RArray Cond := .branch 176 (.branch 168 (.branch 164 (.branch 162 (.branch 161 (.leaf (Cond.methodLink RJ0 498 yJ2_charAt_3b067)) (.leaf (Cond.static yJ2_charAt_3b067))) (.branch 163 (.leaf (Cond.initialized RJ2)) (.leaf (Cond.code yJ2_charAt_3b067 cJ2_charAt_3b067 2 (some .char))))) (.branch 166 (.branch 165 (.leaf (Cond.methodLink RJ2 67 yJ2_checkIndex_2214a)) (.leaf (Cond.static yJ2_checkIndex_2214a))) (.branch 167 (.leaf (Cond.code yJ2_checkIndex_2214a cJ2_checkIndex_2214a 2 none)) (.leaf (Cond.methodLink RJ2 48 yJ2_length_9d52b))))) (.branch 172 (.branch 170 (.branch 169 (.leaf (Cond.static yJ2_length_9d52b)) (.leaf (Cond.code yJ2_length_9d52b cJ2_length_9d52b 1 (some .int)))) (.branch 171 (.leaf (Cond.methodLink RJ2 414 yJ0_checkIndex_df160)) (.leaf (Cond.methodLink RJ2 71 yJ2_getChar_3b067)))) (.branch 174 (.branch 173 (.leaf (Cond.static yJ2_getChar_3b067)) (.leaf (Cond.code yJ2_getChar_3b067 cJ2_getChar_3b067 2 (some .char)))) (.branch 175 (.leaf (Cond.fieldLink RJ2 44 "java/lang/StringUTF16" "$assertionsDisabled" "Z")) (.leaf (Cond.fieldLink RJ2 59 "java/lang/StringUTF16" "HI_BYTE_SHIFT" "I")))))) (.branch 184 (.branch 180 (.branch 178 (.branch 177 (.leaf (Cond.fieldLink RJ2 63 "java/lang/StringUTF16" "LO_BYTE_SHIFT" "I")) (.leaf (Cond.methodLink RX1 83 yX1_isDigit))) (.branch 179 (.leaf (Cond.instanceMethod yX1_isDigit)) (.leaf (Cond.selects RX1 yX1_isDigit yX1_isDigit)))) (.branch 182 (.branch 181 (.leaf (Cond.code yX1_isDigit cX1_isDigit 2 (some .boolean))) (.leaf (Cond.methodLink RX1 86 yX1_nextNumber))) (.branch 183 (.leaf (Cond.instanceMethod yX1_nextNumber)) (.leaf (Cond.selects RX1 yX1_nextNumber yX1_nextNumber))))) (.branch 188 (.branch 186 (.branch 185 (.leaf (Cond.code yX1_nextNumber cX1_nextNumber 1 none)) (.leaf (Cond.methodLink RX1 91 yJ0_indexOf_0f7a4))) (.branch 187 (.leaf (Cond.instanceMethod yJ0_indexOf_0f7a4)) (.leaf (Cond.selects RJ0 yJ0_indexOf_0f7a4 yJ0_indexOf_0f7a4)))) (.branch 190 (.branch 189 (.leaf (Cond.code yJ0_indexOf_0f7a4 cJ0_indexOf_0f7a4 2 (some .int))) (.leaf (Cond.methodLink RJ0 633 yJ0_indexOf_7cf53))) (.branch 191 (.leaf (Cond.instanceMethod yJ0_indexOf_7cf53)) (.leaf (Cond.selects RJ0 yJ0_indexOf_7cf53 yJ0_indexOf_7cf53))))))
set_option maxRecDepth 20000 in
noncomputable def wT6 : Lean.RArray Cond := .branch 208 (.branch 200 (.branch 196 (.branch 194 (.branch 193 (.leaf (Cond.code yJ0_indexOf_7cf53 cJ0_indexOf_7cf53 3 (some .int))) (.leaf (Cond.methodLink RJ0 505 yJ0_length_8abf5))) (.branch 195 (.leaf (Cond.methodLink RJ0 637 yJ1_indexOf_4cfef)) (.leaf (Cond.static yJ1_indexOf_4cfef)))) (.branch 198 (.branch 197 (.leaf (Cond.code yJ1_indexOf_4cfef cJ1_indexOf_4cfef 4 (some .int))) (.leaf (Cond.methodLink RJ1 92 Lib.Math.max.name))) (.branch 199 (.leaf (Cond.methodLink RJ1 38 Lib.Math.min.name)) (.leaf (Cond.methodLink RJ1 88 yJ1_canEncode_9a6ad))))) (.branch 204 (.branch 202 (.branch 201 (.leaf (Cond.static yJ1_canEncode_9a6ad)) (.leaf (Cond.code yJ1_canEncode_9a6ad cJ1_canEncode_9a6ad 1 (some .boolean)))) (.branch 203 (.leaf (Cond.methodLink RJ1 95 yJ1_indexOfChar_4cfef)) (.leaf (Cond.static yJ1_indexOfChar_4cfef)))) (.branch 206 (.branch 205 (.leaf (Cond.code yJ1_indexOfChar_4cfef cJ1_indexOfChar_4cfef 6 (some .int))) (.leaf (Cond.methodLink RJ0 640 yJ2_indexOf_4cfef))) (.branch 207 (.leaf (Cond.static yJ2_indexOf_4cfef)) (.leaf (Cond.code yJ2_indexOf_4cfef cJ2_indexOf_4cfef 4 (some .int))))))) (.branch 216 (.branch 212 (.branch 210 (.branch 209 (.leaf (Cond.methodLink RJ2 224 Lib.Math.max.name)) (.leaf (Cond.methodLink RJ2 183 Lib.Math.min.name))) (.branch 211 (.leaf (Cond.constant RJ2 227 (65536))) (.leaf (Cond.methodLink RJ2 228 yJ2_indexOfChar_4cfef)))) (.branch 214 (.branch 213 (.leaf (Cond.static yJ2_indexOfChar_4cfef)) (.leaf (Cond.code yJ2_indexOfChar_4cfef cJ2_indexOfChar_4cfef 4 (some .int)))) (.branch 215 (.leaf (Cond.methodLink RJ2 96 yJ2_checkBoundsBeginEnd_d044e)) (.leaf (Cond.static yJ2_checkBoundsBeginEnd_d044e))))) (.branch 220 (.branch 218 (.branch 217 (.leaf (Cond.code yJ2_checkBoundsBeginEnd_d044e cJ2_checkBoundsBeginEnd_d044e 3 none)) (.leaf (Cond.methodLink RJ2 241 yJ0_checkBoundsBeginEnd_23922))) (.branch 219 (.leaf (Cond.static yJ0_checkBoundsBeginEnd_23922)) (.leaf (Cond.code yJ0_checkBoundsBeginEnd_23922 cJ0_checkBoundsBeginEnd_23922 3 none)))) (.branch 222 (.branch 221 (.leaf (Cond.methodLink RJ0 1062 yJ3_checkFromToIndex_8c36e)) (.leaf (Cond.static yJ3_checkFromToIndex_8c36e))) (.branch 223 (.leaf (Cond.code yJ3_checkFromToIndex_8c36e cJ3_checkFromToIndex_8c36e 4 (some .int))) (.leaf (Cond.methodLink RJ2 244 yJ2_indexOfCharUnsafe_4cfef))))))
set_option maxRecDepth 20000 in
noncomputable def wT7 : Lean.RArray Cond := .branch 240 (.branch 232 (.branch 228 (.branch 226 (.branch 225 (.leaf (Cond.static yJ2_indexOfCharUnsafe_4cfef)) (.leaf (Cond.code yJ2_indexOfCharUnsafe_4cfef cJ2_indexOfCharUnsafe_4cfef 5 (some .int)))) (.branch 227 (.leaf (Cond.methodLink RJ2 232 yJ2_indexOfSupplementary_4cfef)) (.leaf (Cond.static yJ2_indexOfSupplementary_4cfef)))) (.branch 230 (.branch 229 (.leaf (Cond.code yJ2_indexOfSupplementary_4cfef cJ2_indexOfSupplementary_4cfef 7 (some .int))) (.leaf (Cond.methodLink RJ2 164 yJ11_isValidCodePoint_9a6ad))) (.branch 231 (.leaf (Cond.static yJ11_isValidCodePoint_9a6ad)) (.leaf (Cond.initialized RJ11))))) (.branch 236 (.branch 234 (.branch 233 (.leaf (Cond.code yJ11_isValidCodePoint_9a6ad cJ11_isValidCodePoint_9a6ad 2 (some .boolean))) (.leaf (Cond.methodLink RJ2 157 yJ11_highSurrogate_5068e))) (.branch 235 (.leaf (Cond.static yJ11_highSurrogate_5068e)) (.leaf (Cond.code yJ11_highSurrogate_5068e cJ11_highSurrogate_5068e 1 (some .char))))) (.branch 238 (.branch 237 (.leaf (Cond.constant RJ11 110 (55232))) (.leaf (Cond.methodLink RJ2 161 yJ11_lowSurrogate_5068e))) (.branch 239 (.leaf (Cond.static yJ11_lowSurrogate_5068e)) (.leaf (Cond.code yJ11_lowSurrogate_5068e cJ11_lowSurrogate_5068e 1 (some .char))))))) (.branch 248 (.branch 244 (.branch 242 (.branch 241 (.leaf (Cond.constant RJ11 76 (56320))) (.leaf (Cond.methodLink RX1 48 yX1_readOr))) (.branch 243 (.leaf (Cond.instanceMethod yX1_readOr)) (.leaf (Cond.selects RX1 yX1_readOr yX1_readOr)))) (.branch 246 (.branch 245 (.leaf (Cond.code yX1_readOr cX1_readOr 3 (some .boolean))) (.leaf (Cond.methodLink RX1 56 yX1_readAnd))) (.branch 247 (.leaf (Cond.instanceMethod yX1_readAnd)) (.leaf (Cond.selects RX1 yX1_readAnd yX1_readAnd))))) (.branch 252 (.branch 250 (.branch 249 (.leaf (Cond.methodLink RX1 59 yX3_write)) (.leaf (Cond.instanceMethod yX3_write))) (.branch 251 (.leaf (Cond.selects RX3 yX3_write yX3_write)) (.leaf (Cond.code yX3_write cX3_write 2 none)))) (.branch 254 (.branch 253 (.leaf (Cond.code yX1_readAnd cX1_readAnd 3 (some .boolean))) (.leaf (Cond.methodLink RX1 62 yX1_readNot))) (.branch 255 (.leaf (Cond.instanceMethod yX1_readNot)) (.leaf (Cond.selects RX1 yX1_readNot yX1_readNot))))))
set_option maxRecDepth 20000 in
noncomputable def wT8 : Lean.RArray Cond := .branch 272 (.branch 264 (.branch 260 (.branch 258 (.branch 257 (.leaf (Cond.code yX1_readNot cX1_readNot 3 (some .boolean))) (.leaf (Cond.methodLink RX1 65 yX1_readSum))) (.branch 259 (.leaf (Cond.instanceMethod yX1_readSum)) (.leaf (Cond.selects RX1 yX1_readSum yX1_readSum)))) (.branch 262 (.branch 261 (.leaf (Cond.code yX1_readOne cX1_readOne 2 (some .boolean))) (.leaf (Cond.methodLink RX1 71 yX1_readOne))) (.branch 263 (.leaf (Cond.instanceMethod yX1_readOne)) (.leaf (Cond.selects RX1 yX1_readOne yX1_readOne))))) (.branch 268 (.branch 266 (.branch 265 (.leaf (Cond.code yX1_readSum cX1_readSum 4 (some .boolean))) (.leaf (Cond.methodLink RX1 68 yX1_readTerm))) (.branch 267 (.leaf (Cond.instanceMethod yX1_readTerm)) (.leaf (Cond.selects RX1 yX1_readTerm yX1_readTerm)))) (.branch 270 (.branch 269 (.leaf (Cond.code yX1_readTerm cX1_readTerm 3 (some .boolean))) (.leaf (Cond.methodLink RX1 52 yX3_endPart))) (.branch 271 (.leaf (Cond.instanceMethod yX3_endPart)) (.leaf (Cond.selects RX3 yX3_endPart yX3_endPart)))))) (.branch 280 (.branch 276 (.branch 274 (.branch 273 (.leaf (Cond.code yX3_endPart cX3_endPart 2 none)) (.leaf (Cond.methodLink RX1 35 yX3_keep))) (.branch 275 (.leaf (Cond.instanceMethod yX3_keep)) (.leaf (Cond.selects RX3 yX3_keep yX3_keep)))) (.branch 278 (.branch 277 (.leaf (Cond.code yX3_keep cX3_keep 2 (some .int))) (.leaf (u_lay RX1 TX1 0))) (.branch 279 (.leaf (u_lay RX1 TX1 1)) (.leaf (u_lay RX1 TX1 2))))) (.branch 284 (.branch 282 (.branch 281 (.leaf (u_lay RX1 TX1 3)) (.leaf (u_lay RX1 TX1 4))) (.branch 283 (.leaf (u_lay RX1 TX1 5)) (.leaf (u_lay RX1 TX1 6)))) (.branch 286 (.branch 285 (.leaf (Cond.code yX2_init cX2_init 1 none)) (.leaf (Cond.methodLink RX2 3 objectInit))) (.branch 287 (.leaf (Cond.instanceMethod objectInit)) (.leaf (Cond.code objectInit ⟨#[0xb1]⟩ 1 none))))))
set_option maxRecDepth 20000 in
noncomputable def wT9 : Lean.RArray Cond := .branch 304 (.branch 296 (.branch 292 (.branch 290 (.branch 289 (.leaf (Cond.classLink RX2 9 "[[I")) (.leaf (Cond.arrayClass .int))) (.branch 291 (.leaf (Cond.fieldLink RX2 11 "PebbleInShoe$Sheets" "numbers" "[[I")) (.leaf (Cond.fieldLink RX2 16 "PebbleInShoe$Sheets" "sorts" "[I")))) (.branch 294 (.branch 293 (.leaf (Cond.fieldLink RX2 20 "PebbleInShoe$Sheets" "lengths" "[I")) (.leaf (Cond.methodLink RX2 23 yJ7_fill_53178))) (.branch 295 (.leaf (Cond.static yJ7_fill_53178)) (.leaf (Cond.initialized RJ7))))) (.branch 300 (.branch 298 (.branch 297 (.leaf (Cond.code yJ7_fill_53178 cJ7_fill_53178 4 none)) (.leaf (u_lay RX2 TX2 0))) (.branch 299 (.leaf (u_lay RX2 TX2 1)) (.leaf (u_lay RX2 TX2 2)))) (.branch 302 (.branch 301 (.leaf (Cond.code yX2_isSheet cX2_isSheet 2 (some .boolean))) (.leaf (Cond.static yX5_within))) (.branch 303 (.leaf (Cond.initialized RX5)) (.leaf (Cond.code yX5_within cX5_within 2 (some .boolean))))))) (.branch 312 (.branch 308 (.branch 306 (.branch 305 (.leaf (Cond.code yX2_become cX2_become 4 none)) (.leaf (Cond.code yX4_solve cX4_solve 11 none))) (.branch 307 (.leaf (Cond.fieldLink RX4 16 "PebbleInShoe$Turns" "rest" "[I")) (.leaf (Cond.fieldLink RX4 11 "PebbleInShoe$Turns" "weights" "[[I")))) (.branch 310 (.branch 309 (.leaf (Cond.methodLink RX4 20 yJ6_bitCount_0f7a4)) (.leaf (Cond.static yJ6_bitCount_0f7a4))) (.branch 311 (.leaf (Cond.initialized RJ6)) (.leaf (Cond.code yJ6_bitCount_0f7a4 cJ6_bitCount_0f7a4 1 (some .int)))))) (.branch 316 (.branch 314 (.branch 313 (.leaf (Cond.constant RJ6 265 (1431655765))) (.leaf (Cond.constant RJ6 266 (858993459)))) (.branch 315 (.leaf (Cond.constant RJ6 267 (252645135))) (.leaf (u_lay RX4 TX4 0)))) (.branch 318 (.branch 317 (.leaf (u_lay RX4 TX4 1)) (.leaf (Cond.code yX4_chosen cX4_chosen 5 (some .int)))) (.branch 319 (.leaf (Cond.code yX4_digits cX4_digits 6 (some .int))) (.leaf (Cond.methodLink RX4 26 yX4_chosen))))))
set_option maxRecDepth 20000 in
noncomputable def wT10 : Lean.RArray Cond := .branch 336 (.branch 328 (.branch 324 (.branch 322 (.branch 321 (.leaf (Cond.instanceMethod yX4_chosen)) (.leaf (Cond.selects RX4 yX4_chosen yX4_chosen))) (.branch 323 (.leaf (Cond.initialized RX4)) (.leaf (Cond.code yX5_init cX5_init 2 none)))) (.branch 326 (.branch 325 (.leaf (Cond.methodLink RX5 1 objectInit)) (.leaf (Cond.classLink RX5 7 RX3))) (.branch 327 (.leaf (Cond.instantiable RX3 5)) (.leaf (Cond.fieldLink RX5 10 "PebbleInShoe" "texts" "LPebbleInShoe$Texts;"))))) (.branch 332 (.branch 330 (.branch 329 (.leaf (Cond.classLink RX5 16 RX1)) (.leaf (Cond.instantiable RX1 7))) (.branch 331 (.leaf (Cond.fieldLink RX5 21 "PebbleInShoe" "tape" "LPebbleInShoe$Reader;")) (.leaf (Cond.classLink RX5 25 RX0)))) (.branch 334 (.branch 333 (.leaf (Cond.instantiable RX0 12)) (.leaf (Cond.fieldLink RX5 28 "PebbleInShoe" "now" "LPebbleInShoe$Court;"))) (.branch 335 (.leaf (Cond.fieldLink RX5 32 "PebbleInShoe" "thought" "LPebbleInShoe$Court;")) (.leaf (Cond.fieldLink RX5 35 "PebbleInShoe" "kept" "LPebbleInShoe$Court;")))))) (.branch 344 (.branch 340 (.branch 338 (.branch 337 (.leaf (Cond.classLink RX5 38 RX2)) (.leaf (Cond.instantiable RX2 3))) (.branch 339 (.leaf (Cond.initialized RX2)) (.leaf (Cond.fieldLink RX5 41 "PebbleInShoe" "rows" "LPebbleInShoe$Sheets;")))) (.branch 342 (.branch 341 (.leaf (Cond.classLink RX5 45 RX4)) (.leaf (Cond.instantiable RX4 2))) (.branch 343 (.leaf (Cond.fieldLink RX5 48 "PebbleInShoe" "turns" "LPebbleInShoe$Turns;")) (.leaf (Cond.instanceMethod yX3_init))))) (.branch 348 (.branch 346 (.branch 345 (.leaf (Cond.code yX3_init cX3_init 1 none)) (.leaf (Cond.methodLink RX3 3 objectInit))) (.branch 347 (.leaf (Cond.classLink RX3 9 "[[I")) (.leaf (Cond.methodLink RX5 18 yX1_init)))) (.branch 350 (.branch 349 (.leaf (Cond.instanceMethod yX1_init)) (.leaf (Cond.code yX1_init cX1_init 2 none))) (.branch 351 (.leaf (Cond.methodLink RX1 3 objectInit)) (.leaf (Cond.methodLink RX5 27 yX0_init))))))
set_option maxRecDepth 20000 in
noncomputable def wT11 : Lean.RArray Cond := .branch 368 (.branch 360 (.branch 356 (.branch 354 (.branch 353 (.leaf (Cond.instanceMethod yX0_init)) (.leaf (Cond.code yX0_init cX0_init 2 none))) (.branch 355 (.leaf (Cond.methodLink RX0 3 objectInit)) (.leaf (Cond.methodLink RX5 40 yX2_init)))) (.branch 358 (.branch 357 (.leaf (Cond.instanceMethod yX2_init)) (.leaf (Cond.instanceMethod yX4_init))) (.branch 359 (.leaf (Cond.code yX4_init cX4_init 1 none)) (.leaf (Cond.methodLink RX4 3 objectInit))))) (.branch 364 (.branch 362 (.branch 361 (.leaf (Cond.classLink RX4 9 "[[I")) (.leaf (Cond.methodLink RX5 54 yJ0_length_8abf5))) (.branch 363 (.leaf (Cond.methodLink RX5 60 yJ0_charAt_5068e)) (.leaf (Cond.methodLink RX5 64 yX1_add)))) (.branch 366 (.branch 365 (.leaf (Cond.instanceMethod yX1_add)) (.leaf (Cond.selects RX1 yX1_add yX1_add))) (.branch 367 (.leaf (Cond.code yX1_add cX1_add 2 none)) (.leaf (Cond.methodLink RX5 68 yX1_read)))))) (.branch 376 (.branch 372 (.branch 370 (.branch 369 (.leaf (Cond.instanceMethod yX1_read)) (.leaf (Cond.selects RX1 yX1_read yX1_read))) (.branch 371 (.leaf (u_lay RX5 TX5 0)) (.leaf (u_lay RX5 TX5 1)))) (.branch 374 (.branch 373 (.leaf (u_lay RX5 TX5 2)) (.leaf (u_lay RX5 TX5 3))) (.branch 375 (.leaf (u_lay RX5 TX5 4)) (.leaf (u_lay RX5 TX5 5))))) (.branch 380 (.branch 378 (.branch 377 (.leaf (u_lay RX5 TX5 6)) (.leaf (u_lay RX5 TX5 7))) (.branch 379 (.leaf (Cond.code yX5_judge cX5_judge 2 (some .int))) (.leaf (Cond.methodLink RX5 86 yX5_within)))) (.branch 382 (.branch 381 (.leaf (Cond.methodLink RX5 90 yX0_addJudge)) (.leaf (Cond.instanceMethod yX0_addJudge))) (.branch 383 (.leaf (Cond.selects RX0 yX0_addJudge yX0_addJudge)) (.leaf (Cond.code yX0_addJudge cX0_addJudge 3 (some .int)))))))
set_option maxRecDepth 20000 in
noncomputable def wT12 : Lean.RArray Cond := .branch 400 (.branch 392 (.branch 388 (.branch 386 (.branch 385 (.leaf (Cond.code yX5_shoe cX5_shoe 6 (some .int))) (.leaf (Cond.fieldLink RX5 98 "PebbleInShoe$Court" "soles" "[I"))) (.branch 387 (.leaf (Cond.fieldLink RX5 102 "PebbleInShoe$Court" "miles" "[I")) (.leaf (Cond.methodLink RX5 94 yX0_hasJudge)))) (.branch 390 (.branch 389 (.leaf (Cond.code yX5_bench cX5_bench 3 (some .int))) (.leaf (Cond.fieldLink RX5 105 "PebbleInShoe$Court" "pains" "[I"))) (.branch 391 (.leaf (Cond.code yX5_feed cX5_feed 8 (some .int))) (.leaf (Cond.fieldLink RX5 84 "PebbleInShoe$Reader" "length" "I"))))) (.branch 396 (.branch 394 (.branch 393 (.leaf (Cond.methodLink RX5 108 yX5_isByte)) (.leaf (Cond.static yX5_isByte))) (.branch 395 (.leaf (Cond.code yX5_isByte cX5_isByte 1 (some .boolean))) (.leaf (Cond.code yX5_text cX5_text 1 (some .int))))) (.branch 398 (.branch 397 (.leaf (Cond.fieldLink RX5 78 "PebbleInShoe$Texts" "number" "I")) (.leaf (Cond.code yX5_asks cX5_asks 4 (some .int)))) (.branch 399 (.leaf (Cond.methodLink RX5 111 yX0_hasPebble)) (.leaf (Cond.methodLink RX5 114 yX0_says)))))) (.branch 408 (.branch 404 (.branch 402 (.branch 401 (.leaf (Cond.code yX5_pebble cX5_pebble 3 (some .int))) (.leaf (Cond.methodLink RX5 118 yX0_addPebble))) (.branch 403 (.leaf (Cond.instanceMethod yX0_addPebble)) (.leaf (Cond.selects RX0 yX0_addPebble yX0_addPebble)))) (.branch 406 (.branch 405 (.leaf (Cond.code yX0_addPebble cX0_addPebble 4 (some .int))) (.leaf (Cond.code yX5_put cX5_put 6 (some .int)))) (.branch 407 (.leaf (Cond.fieldLink RX5 122 "PebbleInShoe$Court" "size" "[I")) (.leaf (Cond.fieldLink RX5 125 "PebbleInShoe$Court" "round" "[I"))))) (.branch 412 (.branch 410 (.branch 409 (.leaf (Cond.code yX5_told cX5_told 3 (some .int))) (.leaf (Cond.fieldLink RX5 128 "PebbleInShoe$Court" "kind" "[I"))) (.branch 411 (.leaf (Cond.fieldLink RX5 131 "PebbleInShoe$Court" "more" "[I")) (.leaf (Cond.methodLink RX5 134 yX0_isSand)))) (.branch 414 (.branch 413 (.leaf (Cond.code yX5_walk cX5_walk 4 (some .int))) (.leaf (Cond.methodLink RX5 137 yX0_hasBoth))) (.branch 415 (.leaf (Cond.instanceMethod yX0_hasBoth)) (.leaf (Cond.selects RX0 yX0_hasBoth yX0_hasBoth))))))
set_option maxRecDepth 20000 in
noncomputable def wT13 : Lean.RArray Cond := .branch 432 (.branch 424 (.branch 420 (.branch 418 (.branch 417 (.leaf (Cond.methodLink RX5 140 yX0_go)) (.leaf (Cond.instanceMethod yX0_go))) (.branch 419 (.leaf (Cond.selects RX0 yX0_go yX0_go)) (.leaf (Cond.code yX5_hear cX5_hear 6 (some .int))))) (.branch 422 (.branch 421 (.leaf (Cond.methodLink RX5 143 yX5_think)) (.leaf (Cond.instanceMethod yX5_think))) (.branch 423 (.leaf (Cond.selects RX5 yX5_think yX5_think)) (.leaf (Cond.code yX5_think cX5_think 1 none))))) (.branch 428 (.branch 426 (.branch 425 (.leaf (Cond.methodLink RX5 218 yX0_become)) (.leaf (Cond.instanceMethod yX0_become))) (.branch 427 (.leaf (Cond.selects RX0 yX0_become yX0_become)) (.leaf (Cond.code yX0_become cX0_become 2 none)))) (.branch 430 (.branch 429 (.leaf (Cond.methodLink RX0 42 arraycopyName)) (.leaf (Cond.native arraycopyName))) (.branch 431 (.leaf (Cond.static arraycopyName)) (.leaf (Cond.initialized "java/lang/System")))))) (.branch 440 (.branch 436 (.branch 434 (.branch 433 (.leaf (Cond.methodLink RX5 146 yX5_outcome)) (.leaf (Cond.instanceMethod yX5_outcome))) (.branch 435 (.leaf (Cond.selects RX5 yX5_outcome yX5_outcome)) (.leaf (Cond.code yX5_outcome cX5_outcome 5 (some .int))))) (.branch 438 (.branch 437 (.leaf (Cond.methodLink RX5 164 yX0_verdict)) (.leaf (Cond.instanceMethod yX0_verdict))) (.branch 439 (.leaf (Cond.selects RX0 yX0_verdict yX0_verdict)) (.leaf (Cond.code yX5_fewest cX5_fewest 3 (some .int)))))) (.branch 444 (.branch 442 (.branch 441 (.leaf (Cond.methodLink RX5 150 yX5_guiltyBits)) (.leaf (Cond.instanceMethod yX5_guiltyBits))) (.branch 443 (.leaf (Cond.selects RX5 yX5_guiltyBits yX5_guiltyBits)) (.leaf (Cond.code yX5_guiltyBits cX5_guiltyBits 7 (some .long))))) (.branch 446 (.branch 445 (.leaf (Cond.methodLink RX5 158 yX0_mile)) (.leaf (Cond.methodLink RX5 154 yX5_leastBit))) (.branch 447 (.leaf (Cond.static yX5_leastBit)) (.leaf (Cond.code yX5_leastBit cX5_leastBit 3 (some .int)))))))
set_option maxRecDepth 20000 in
noncomputable def wT14 : Lean.RArray Cond := .branch 464 (.branch 456 (.branch 452 (.branch 450 (.branch 449 (.leaf (Cond.code yX5_sand cX5_sand 4 (some .int))) (.leaf (Cond.code yX5_unlike cX5_unlike 4 (some .int)))) (.branch 451 (.leaf (Cond.code yX5_hardest cX5_hardest 7 (some .int))) (.leaf (Cond.fieldLink RX5 75 "PebbleInShoe$Court" "judges" "I")))) (.branch 454 (.branch 453 (.leaf (Cond.methodLink RX5 161 yX5_guiltyOfAll)) (.leaf (Cond.instanceMethod yX5_guiltyOfAll))) (.branch 455 (.leaf (Cond.selects RX5 yX5_guiltyOfAll yX5_guiltyOfAll)) (.leaf (Cond.code yX5_guiltyOfAll cX5_guiltyOfAll 5 (some .int)))))) (.branch 460 (.branch 458 (.branch 457 (.leaf (Cond.fieldLink RX5 71 "PebbleInShoe$Court" "pebbles" "I")) (.leaf (Cond.code yX5_thick cX5_thick 5 (some .int)))) (.branch 459 (.leaf (Cond.code yX5_order cX5_order 4 (some .int))) (.leaf (Cond.methodLink RX5 167 yX5_isPairOfBits)))) (.branch 462 (.branch 461 (.leaf (Cond.static yX5_isPairOfBits)) (.leaf (Cond.code yX5_isPairOfBits cX5_isPairOfBits 1 (some .boolean)))) (.branch 463 (.leaf (Cond.methodLink RX5 170 yX5_weighCases)) (.leaf (Cond.instanceMethod yX5_weighCases)))))) (.branch 472 (.branch 468 (.branch 466 (.branch 465 (.leaf (Cond.selects RX5 yX5_weighCases yX5_weighCases)) (.leaf (Cond.code yX5_weighCases cX5_weighCases 7 none))) (.branch 467 (.leaf (Cond.fieldLink RX5 267 "PebbleInShoe$Turns" "weights" "[[I")) (.leaf (Cond.methodLink RX5 264 yX0_tread)))) (.branch 470 (.branch 469 (.leaf (Cond.methodLink RX5 174 yX4_solve)) (.leaf (Cond.instanceMethod yX4_solve))) (.branch 471 (.leaf (Cond.selects RX4 yX4_solve yX4_solve)) (.leaf (Cond.methodLink RX5 178 yX4_digits))))) (.branch 476 (.branch 474 (.branch 473 (.leaf (Cond.instanceMethod yX4_digits)) (.leaf (Cond.selects RX4 yX4_digits yX4_digits))) (.branch 475 (.leaf (Cond.methodLink RX5 181 yX4_total)) (.leaf (Cond.instanceMethod yX4_total)))) (.branch 478 (.branch 477 (.leaf (Cond.selects RX4 yX4_total yX4_total)) (.leaf (Cond.code yX4_total cX4_total 1 (some .int)))) (.branch 479 (.leaf (Cond.code yX5_counsel cX5_counsel 4 (some .int))) (.leaf (Cond.methodLink RX5 184 yX4_chosen))))))
set_option maxRecDepth 20000 in
noncomputable def wT15 : Lean.RArray Cond := .branch 496 (.branch 488 (.branch 484 (.branch 482 (.branch 481 (.leaf (Cond.code yX5_reversed cX5_reversed 4 (some .int))) (.leaf (Cond.methodLink RX5 187 yX5_refusalOf))) (.branch 483 (.leaf (Cond.instanceMethod yX5_refusalOf)) (.leaf (Cond.selects RX5 yX5_refusalOf yX5_refusalOf)))) (.branch 486 (.branch 485 (.leaf (Cond.code yX5_refusalOf cX5_refusalOf 4 (some .int))) (.leaf (Cond.methodLink RX5 193 yX5_refusalOfSheet))) (.branch 487 (.leaf (Cond.instanceMethod yX5_refusalOfSheet)) (.leaf (Cond.selects RX5 yX5_refusalOfSheet yX5_refusalOfSheet))))) (.branch 492 (.branch 490 (.branch 489 (.leaf (Cond.code yX5_refusalOfSheet cX5_refusalOfSheet 5 (some .int))) (.leaf (Cond.fieldLink RX5 225 "PebbleInShoe$Sheets" "sorts" "[I"))) (.branch 491 (.leaf (Cond.fieldLink RX5 228 "PebbleInShoe$Sheets" "lengths" "[I")) (.leaf (Cond.fieldLink RX5 235 "PebbleInShoe$Sheets" "numbers" "[[I")))) (.branch 494 (.branch 493 (.leaf (Cond.methodLink RX5 196 yX2_isSheet)) (.leaf (Cond.instanceMethod yX2_isSheet))) (.branch 495 (.leaf (Cond.selects RX2 yX2_isSheet yX2_isSheet)) (.leaf (Cond.methodLink RX5 190 yX5_firstOtherwise)))))) (.branch 504 (.branch 500 (.branch 498 (.branch 497 (.leaf (Cond.instanceMethod yX5_firstOtherwise)) (.leaf (Cond.selects RX5 yX5_firstOtherwise yX5_firstOtherwise))) (.branch 499 (.leaf (Cond.code yX5_firstOtherwise cX5_firstOtherwise 6 (some .int))) (.leaf (Cond.code yX5_kinds cX5_kinds 10 (some .int))))) (.branch 502 (.branch 501 (.leaf (Cond.code yX5_soled cX5_soled 6 (some .int))) (.leaf (Cond.code yX5_sizes cX5_sizes 10 (some .int)))) (.branch 503 (.leaf (Cond.code yX5_whose cX5_whose 5 (some .int))) (.leaf (Cond.code yX5_laws cX5_laws 6 (some .int)))))) (.branch 508 (.branch 506 (.branch 505 (.leaf (Cond.fieldLink RX5 81 "PebbleInShoe$Court" "law" "I")) (.leaf (Cond.code yX5_film cX5_film 7 (some .int)))) (.branch 507 (.leaf (Cond.methodLink RX5 199 yX2_become)) (.leaf (Cond.instanceMethod yX2_become)))) (.branch 510 (.branch 509 (.leaf (Cond.selects RX2 yX2_become yX2_become)) (.leaf (Cond.methodLink RX5 203 yX2_store))) (.branch 511 (.leaf (Cond.instanceMethod yX2_store)) (.leaf (Cond.selects RX2 yX2_store yX2_store))))))
set_option maxRecDepth 20000 in
noncomputable def wT16 : Lean.RArray Cond := .branch 528 (.branch 520 (.branch 516 (.branch 514 (.branch 513 (.leaf (Cond.code yX2_store cX2_store 4 none)) (.leaf (Cond.code yX5_drawn cX5_drawn 7 (some .int)))) (.branch 515 (.leaf (Cond.constant RX5 206 (99999))) (.leaf (Cond.methodLink RX5 207 yX5_isMoreMiles)))) (.branch 518 (.branch 517 (.leaf (Cond.static yX5_isMoreMiles)) (.leaf (Cond.code yX5_isMoreMiles cX5_isMoreMiles 1 (some .boolean)))) (.branch 519 (.leaf (Cond.methodLink RX5 210 yX0_goByLots)) (.leaf (Cond.instanceMethod yX0_goByLots))))) (.branch 524 (.branch 522 (.branch 521 (.leaf (Cond.selects RX0 yX0_goByLots yX0_goByLots)) (.leaf (Cond.code yX5_odds cX5_odds 9 (some .long)))) (.branch 523 (.leaf (Cond.constantLong RX5 213 (-4611686018427387904))) (.leaf (Cond.methodLink RX5 215 yX5_commonDivisor)))) (.branch 526 (.branch 525 (.leaf (Cond.static yX5_commonDivisor)) (.leaf (Cond.code yX5_commonDivisor cX5_commonDivisor 6 (some .int)))) (.branch 527 (.leaf (Cond.methodLink RX5 259 Lib.Math.max.name)) (.leaf (Cond.code yX5_image cX5_image 1 (some .int))))))) (.branch 536 (.branch 532 (.branch 530 (.branch 529 (.leaf (Cond.fieldLink RX5 221 "PebbleInShoe" "hasImage" "Z")) (.leaf (Cond.code yX5_back cX5_back 1 (some .int)))) (.branch 531 (.leaf (Cond.code yX5_sheet cX5_sheet 4 (some .int))) (.leaf (Cond.code yX5_cell cX5_cell 4 (some .int))))) (.branch 534 (.branch 533 (.leaf (Cond.code yX5_copy cX5_copy 6 (some .int))) (.leaf (Cond.methodLink RX5 239 arraycopyName))) (.branch 535 (.leaf (Cond.methodLink RX5 231 yX2_holds)) (.leaf (Cond.instanceMethod yX2_holds))))) (.branch 540 (.branch 538 (.branch 537 (.leaf (Cond.selects RX2 yX2_holds yX2_holds)) (.leaf (Cond.code yX2_holds cX2_holds 4 (some .boolean)))) (.branch 539 (.leaf (Cond.code yX5_pebblesBy cX5_pebblesBy 8 (some .int))) (.leaf (Cond.methodLink RX5 245 yX5_pebble)))) (.branch 542 (.branch 541 (.leaf (Cond.instanceMethod yX5_pebble)) (.leaf (Cond.selects RX5 yX5_pebble yX5_pebble))) (.branch 543 (.leaf (Cond.code yX5_taken cX5_taken 4 (some .long))) (.leaf (Cond.constantLong RX5 248 (-2)))))))
set_option maxRecDepth 20000 in
noncomputable def wT17 : Lean.RArray Cond := .branch 560 (.branch 552 (.branch 548 (.branch 546 (.branch 545 (.leaf (Cond.constantLong RX5 250 (-12))) (.leaf (Cond.constantLong RX5 252 (-11)))) (.branch 547 (.leaf (Cond.constantLong RX5 254 (-13))) (.leaf (Cond.methodLink RX5 256 yX5_isOfKind)))) (.branch 550 (.branch 549 (.leaf (Cond.static yX5_isOfKind)) (.leaf (Cond.code yX5_isOfKind cX5_isOfKind 2 (some .boolean)))) (.branch 551 (.leaf (Cond.code yX6_init cX6_init 2 none)) (.leaf (Cond.methodLink RX6 1 objectInit))))) (.branch 556 (.branch 554 (.branch 553 (.leaf (Cond.fieldLink RX6 7 "PebbleInShoeModel" "kind" "[I")) (.leaf (Cond.fieldLink RX6 13 "PebbleInShoeModel" "moreOf" "[I"))) (.branch 555 (.leaf (Cond.fieldLink RX6 16 "PebbleInShoeModel" "stones" "[I")) (.leaf (Cond.fieldLink RX6 19 "PebbleInShoeModel" "rows" "[I")))) (.branch 558 (.branch 557 (.leaf (Cond.fieldLink RX6 22 "PebbleInShoeModel" "tape" "[I")) (.leaf (Cond.fieldLink RX6 25 "PebbleInShoeModel" "codes" "[I"))) (.branch 559 (.leaf (Cond.fieldLink RX6 28 "PebbleInShoeModel" "starts" "[I")) (.leaf (Cond.fieldLink RX6 31 "PebbleInShoeModel" "imageRows" "[I")))))) (.branch 568 (.branch 564 (.branch 562 (.branch 561 (.leaf (Cond.fieldLink RX6 34 "PebbleInShoeModel" "imageHeld" "[I")) (.leaf (Cond.fieldLink RX6 37 "PebbleInShoeModel" "sheetSort" "[I"))) (.branch 563 (.leaf (Cond.fieldLink RX6 40 "PebbleInShoeModel" "sheetSize" "[I")) (.leaf (Cond.fieldLink RX6 43 "PebbleInShoeModel" "cells" "[I")))) (.branch 566 (.branch 565 (.leaf (Cond.fieldLink RX6 46 "PebbleInShoeModel" "law" "[I")) (.leaf (Cond.fieldLink RX6 49 "PebbleInShoeModel" "words" "[I"))) (.branch 567 (.leaf (Cond.fieldLink RX6 52 "PebbleInShoeModel" "held" "[I")) (.leaf (Cond.fieldLink RX6 55 "PebbleInShoeModel" "stack" "[I"))))) (.branch 572 (.branch 570 (.branch 569 (.leaf (Cond.fieldLink RX6 58 "PebbleInShoeModel" "named" "[I")) (.leaf (Cond.fieldLink RX6 61 "PebbleInShoeModel" "kept" "[I"))) (.branch 571 (.leaf (Cond.arrayClass .boolean)) (.leaf (Cond.fieldLink RX6 64 "PebbleInShoeModel" "guiltyBy" "[Z")))) (.branch 574 (.branch 573 (.leaf (Cond.fieldLink RX6 68 "PebbleInShoeModel" "guiltyOne" "[Z")) (.leaf (Cond.fieldLink RX6 71 "PebbleInShoeModel" "feltAs" "[I"))) (.branch 575 (.leaf (Cond.fieldLink RX6 74 "PebbleInShoeModel" "guiltyAs" "[I")) (.leaf (Cond.fieldLink RX6 77 "PebbleInShoeModel" "valueOf" "[I"))))))
set_option maxRecDepth 20000 in
noncomputable def wT18 : Lean.RArray Cond := .branch 592 (.branch 584 (.branch 580 (.branch 578 (.branch 577 (.leaf (Cond.fieldLink RX6 80 "PebbleInShoeModel" "taped" "I")) (.leaf (Cond.methodLink RX6 84 yX6_text))) (.branch 579 (.leaf (Cond.instanceMethod yX6_text)) (.leaf (Cond.selects RX6 yX6_text yX6_text)))) (.branch 582 (.branch 581 (.leaf (Cond.initialized RX6)) (.leaf (Cond.code yX6_text cX6_text 3 (some .int)))) (.branch 583 (.leaf (Cond.fieldLink RX6 98 "PebbleInShoeModel" "texts" "I")) (.leaf (Cond.fieldLink RX6 111 "PebbleInShoeModel" "at" "I"))))) (.branch 588 (.branch 586 (.branch 585 (.leaf (Cond.fieldLink RX6 127 "PebbleInShoeModel" "out" "I")) (.leaf (Cond.fieldLink RX6 117 "PebbleInShoeModel" "token" "I"))) (.branch 587 (.leaf (Cond.fieldLink RX6 120 "PebbleInShoeModel" "value" "I")) (.leaf (Cond.fieldLink RX6 114 "PebbleInShoeModel" "begun" "I")))) (.branch 590 (.branch 589 (.leaf (Cond.methodLink RX6 150 yX6_next)) (.leaf (Cond.instanceMethod yX6_next))) (.branch 591 (.leaf (Cond.selects RX6 yX6_next yX6_next)) (.leaf (Cond.code yX6_next cX6_next 3 none)))))) (.branch 600 (.branch 596 (.branch 594 (.branch 593 (.leaf (Cond.methodLink RX6 91 yX6_in)) (.leaf (Cond.static yX6_in))) (.branch 595 (.leaf (Cond.code yX6_in cX6_in 3 (some .boolean))) (.leaf (Cond.methodLink RX6 123 yX6_wordFrom)))) (.branch 598 (.branch 597 (.leaf (Cond.instanceMethod yX6_wordFrom)) (.leaf (Cond.selects RX6 yX6_wordFrom yX6_wordFrom))) (.branch 599 (.leaf (Cond.code yX6_wordFrom cX6_wordFrom 6 (some .int))) (.leaf (Cond.methodLink RX6 163 yX6_eRead))))) (.branch 604 (.branch 602 (.branch 601 (.leaf (Cond.instanceMethod yX6_eRead)) (.leaf (Cond.selects RX6 yX6_eRead yX6_eRead))) (.branch 603 (.leaf (Cond.code yX6_eRead cX6_eRead 4 (some .boolean))) (.leaf (Cond.fieldLink RX6 130 "PebbleInShoeModel" "heldMany" "I")))) (.branch 606 (.branch 605 (.leaf (Cond.fieldLink RX6 137 "PebbleInShoeModel" "opens" "I")) (.leaf (Cond.constant RX6 153 (100000)))) (.branch 607 (.leaf (Cond.methodLink RX6 140 yX6_puts)) (.leaf (Cond.instanceMethod yX6_puts))))))
set_option maxRecDepth 20000 in
noncomputable def wT19 : Lean.RArray Cond := .branch 624 (.branch 616 (.branch 612 (.branch 610 (.branch 609 (.leaf (Cond.selects RX6 yX6_puts yX6_puts)) (.leaf (Cond.code yX6_puts cX6_puts 2 none))) (.branch 611 (.leaf (Cond.methodLink RX6 147 yX6_unwinds)) (.leaf (Cond.instanceMethod yX6_unwinds)))) (.branch 614 (.branch 613 (.leaf (Cond.selects RX6 yX6_unwinds yX6_unwinds)) (.leaf (Cond.code yX6_unwinds cX6_unwinds 3 none))) (.branch 615 (.leaf (Cond.methodLink RX6 133 yX6_rank)) (.leaf (Cond.static yX6_rank))))) (.branch 620 (.branch 618 (.branch 617 (.leaf (Cond.code yX6_rank cX6_rank 1 (some .int))) (.leaf (Cond.methodLink RX6 154 yX6_opensOne))) (.branch 619 (.leaf (Cond.instanceMethod yX6_opensOne)) (.leaf (Cond.selects RX6 yX6_opensOne yX6_opensOne)))) (.branch 622 (.branch 621 (.leaf (Cond.code yX6_opensOne cX6_opensOne 2 (some .boolean))) (.leaf (Cond.methodLink RX6 144 yX6_holds))) (.branch 623 (.leaf (Cond.instanceMethod yX6_holds)) (.leaf (Cond.selects RX6 yX6_holds yX6_holds)))))) (.branch 632 (.branch 628 (.branch 626 (.branch 625 (.leaf (Cond.code yX6_holds cX6_holds 2 none)) (.leaf (Cond.methodLink RX6 157 yX6_signOf))) (.branch 627 (.leaf (Cond.instanceMethod yX6_signOf)) (.leaf (Cond.selects RX6 yX6_signOf yX6_signOf)))) (.branch 630 (.branch 629 (.leaf (Cond.code yX6_signOf cX6_signOf 1 (some .int))) (.leaf (Cond.methodLink RX6 160 yX6_between))) (.branch 631 (.leaf (Cond.instanceMethod yX6_between)) (.leaf (Cond.selects RX6 yX6_between yX6_between))))) (.branch 636 (.branch 634 (.branch 633 (.leaf (Cond.code yX6_between cX6_between 2 (some .boolean))) (.leaf (u_lay RX6 TX6 0))) (.branch 635 (.leaf (u_lay RX6 TX6 1)) (.leaf (u_lay RX6 TX6 2)))) (.branch 638 (.branch 637 (.leaf (u_lay RX6 TX6 3)) (.leaf (u_lay RX6 TX6 4))) (.branch 639 (.leaf (u_lay RX6 TX6 5)) (.leaf (u_lay RX6 TX6 6))))))
set_option maxRecDepth 20000 in
noncomputable def wT20 : Lean.RArray Cond := .branch 656 (.branch 648 (.branch 644 (.branch 642 (.branch 641 (.leaf (u_lay RX6 TX6 7)) (.leaf (u_lay RX6 TX6 8))) (.branch 643 (.leaf (u_lay RX6 TX6 9)) (.leaf (u_lay RX6 TX6 10)))) (.branch 646 (.branch 645 (.leaf (u_lay RX6 TX6 11)) (.leaf (u_lay RX6 TX6 12))) (.branch 647 (.leaf (u_lay RX6 TX6 13)) (.leaf (u_lay RX6 TX6 14))))) (.branch 652 (.branch 650 (.branch 649 (.leaf (u_lay RX6 TX6 15)) (.leaf (u_lay RX6 TX6 16))) (.branch 651 (.leaf (u_lay RX6 TX6 17)) (.leaf (u_lay RX6 TX6 18)))) (.branch 654 (.branch 653 (.leaf (u_lay RX6 TX6 19)) (.leaf (u_lay RX6 TX6 20))) (.branch 655 (.leaf (u_lay RX6 TX6 21)) (.leaf (u_lay RX6 TX6 22)))))) (.branch 664 (.branch 660 (.branch 658 (.branch 657 (.leaf (u_lay RX6 TX6 23)) (.leaf (u_lay RX6 TX6 24))) (.branch 659 (.leaf (u_lay RX6 TX6 25)) (.leaf (u_lay RX6 TX6 26)))) (.branch 662 (.branch 661 (.leaf (u_lay RX6 TX6 27)) (.leaf (u_lay RX6 TX6 28))) (.branch 663 (.leaf (u_lay RX6 TX6 29)) (.leaf (u_lay RX6 TX6 30))))) (.branch 668 (.branch 666 (.branch 665 (.leaf (u_lay RX6 TX6 31)) (.leaf (u_lay RX6 TX6 32))) (.branch 667 (.leaf (u_lay RX6 TX6 33)) (.leaf (u_lay RX6 TX6 34)))) (.branch 670 (.branch 669 (.leaf (u_lay RX6 TX6 35)) (.leaf (u_lay RX6 TX6 36))) (.branch 671 (.leaf (u_lay RX6 TX6 37)) (.leaf (u_lay RX6 TX6 38))))))
set_option maxRecDepth 20000 in
noncomputable def wT21 : Lean.RArray Cond := .branch 688 (.branch 680 (.branch 676 (.branch 674 (.branch 673 (.leaf (u_lay RX6 TX6 39)) (.leaf (u_lay RX6 TX6 40))) (.branch 675 (.leaf (u_lay RX6 TX6 41)) (.leaf (Cond.code yX6_isPebble cX6_isPebble 2 (some .boolean))))) (.branch 678 (.branch 677 (.leaf (Cond.fieldLink RX6 88 "PebbleInShoeModel" "pebbles" "I")) (.leaf (Cond.code yX6_isJudge cX6_isJudge 2 (some .boolean)))) (.branch 679 (.leaf (Cond.fieldLink RX6 95 "PebbleInShoeModel" "judges" "I")) (.leaf (Cond.code yX6_isCase cX6_isCase 1 (some .boolean)))))) (.branch 684 (.branch 682 (.branch 681 (.leaf (Cond.code yX6_judge cX6_judge 2 (some .int))) (.leaf (Cond.code yX6_shoe cX6_shoe 5 (some .int)))) (.branch 683 (.leaf (Cond.methodLink RX6 104 yX6_isJudge)) (.leaf (Cond.instanceMethod yX6_isJudge)))) (.branch 686 (.branch 685 (.leaf (Cond.selects RX6 yX6_isJudge yX6_isJudge)) (.leaf (Cond.code yX6_bench cX6_bench 3 (some .int)))) (.branch 687 (.leaf (Cond.code yX6_isByte cX6_isByte 1 (some .boolean))) (.leaf (Cond.code yX6_feed cX6_feed 8 (some .int))))))) (.branch 696 (.branch 692 (.branch 690 (.branch 689 (.leaf (Cond.methodLink RX6 108 yX6_isByte)) (.leaf (Cond.static yX6_isByte))) (.branch 691 (.leaf (Cond.code yX6_says cX6_says 5 (some .int))) (.leaf (Cond.fieldLink RX6 101 "PebbleInShoeModel" "rule" "I")))) (.branch 694 (.branch 693 (.leaf (Cond.methodLink RX6 167 yX6_two)) (.leaf (Cond.static yX6_two))) (.branch 695 (.leaf (Cond.code yX6_two cX6_two 3 (some .int))) (.leaf (Cond.code yX6_force cX6_force 3 (some .int)))))) (.branch 700 (.branch 698 (.branch 697 (.leaf (Cond.code yX6_asksOf cX6_asksOf 4 (some .int))) (.leaf (Cond.methodLink RX6 171 yX6_says))) (.branch 699 (.leaf (Cond.instanceMethod yX6_says)) (.leaf (Cond.selects RX6 yX6_says yX6_says)))) (.branch 702 (.branch 701 (.leaf (Cond.methodLink RX6 174 yX6_within)) (.leaf (Cond.static yX6_within))) (.branch 703 (.leaf (Cond.code yX6_within cX6_within 3 (some .int))) (.leaf (Cond.code yX6_asks cX6_asks 4 (some .int)))))))
set_option maxRecDepth 20000 in
noncomputable def wT22 : Lean.RArray Cond := .branch 720 (.branch 712 (.branch 708 (.branch 706 (.branch 705 (.leaf (Cond.methodLink RX6 177 yX6_isPebble)) (.leaf (Cond.instanceMethod yX6_isPebble))) (.branch 707 (.leaf (Cond.selects RX6 yX6_isPebble yX6_isPebble)) (.leaf (Cond.methodLink RX6 180 yX6_asksOf)))) (.branch 710 (.branch 709 (.leaf (Cond.instanceMethod yX6_asksOf)) (.leaf (Cond.selects RX6 yX6_asksOf yX6_asksOf))) (.branch 711 (.leaf (Cond.code yX6_pebble cX6_pebble 3 (some .int))) (.leaf (Cond.code yX6_put cX6_put 5 (some .int)))))) (.branch 716 (.branch 714 (.branch 713 (.leaf (Cond.code yX6_told cX6_told 3 (some .int))) (.leaf (Cond.methodLink RX6 183 yX6_isSand))) (.branch 715 (.leaf (Cond.instanceMethod yX6_isSand)) (.leaf (Cond.selects RX6 yX6_isSand yX6_isSand)))) (.branch 718 (.branch 717 (.leaf (Cond.code yX6_isSand cX6_isSand 3 (some .boolean))) (.leaf (Cond.code yX6_hurtsOf cX6_hurtsOf 7 (some .int)))) (.branch 719 (.leaf (Cond.code yX6_wearsOf cX6_wearsOf 4 (some .int))) (.leaf (Cond.code yX6_mile cX6_mile 6 (some .int))))))) (.branch 728 (.branch 724 (.branch 722 (.branch 721 (.leaf (Cond.constant RX6 192 (99999))) (.leaf (Cond.methodLink RX6 186 yX6_hurtsOf))) (.branch 723 (.leaf (Cond.instanceMethod yX6_hurtsOf)) (.leaf (Cond.selects RX6 yX6_hurtsOf yX6_hurtsOf)))) (.branch 726 (.branch 725 (.leaf (Cond.methodLink RX6 189 yX6_wearsOf)) (.leaf (Cond.instanceMethod yX6_wearsOf))) (.branch 727 (.leaf (Cond.selects RX6 yX6_wearsOf yX6_wearsOf)) (.leaf (Cond.code yX6_caseOf cX6_caseOf 6 (some .int)))))) (.branch 732 (.branch 730 (.branch 729 (.leaf (Cond.methodLink RX6 193 yX6_mile)) (.leaf (Cond.instanceMethod yX6_mile))) (.branch 731 (.leaf (Cond.selects RX6 yX6_mile yX6_mile)) (.leaf (Cond.code yX6_walk cX6_walk 4 (some .int))))) (.branch 734 (.branch 733 (.leaf (Cond.methodLink RX6 196 yX6_isCase)) (.leaf (Cond.static yX6_isCase))) (.branch 735 (.leaf (Cond.methodLink RX6 199 yX6_caseOf)) (.leaf (Cond.instanceMethod yX6_caseOf))))))
set_option maxRecDepth 20000 in
noncomputable def wT23 : Lean.RArray Cond := .branch 752 (.branch 744 (.branch 740 (.branch 738 (.branch 737 (.leaf (Cond.selects RX6 yX6_caseOf yX6_caseOf)) (.leaf (Cond.code yX6_heard cX6_heard 4 none))) (.branch 739 (.leaf (Cond.fieldLink RX6 205 "PebbleInShoeModel" "caseFelt" "I")) (.leaf (Cond.fieldLink RX6 208 "PebbleInShoeModel" "caseSize" "I")))) (.branch 742 (.branch 741 (.leaf (Cond.fieldLink RX6 211 "PebbleInShoeModel" "caseSoles" "I")) (.leaf (Cond.fieldLink RX6 214 "PebbleInShoeModel" "isGuilty" "Z"))) (.branch 743 (.leaf (Cond.methodLink RX6 202 yX6_keeps)) (.leaf (Cond.instanceMethod yX6_keeps))))) (.branch 748 (.branch 746 (.branch 745 (.leaf (Cond.selects RX6 yX6_keeps yX6_keeps)) (.leaf (Cond.code yX6_keeps cX6_keeps 2 none))) (.branch 747 (.leaf (Cond.methodLink RX6 218 yX6_laysBack)) (.leaf (Cond.instanceMethod yX6_laysBack)))) (.branch 750 (.branch 749 (.leaf (Cond.selects RX6 yX6_laysBack yX6_laysBack)) (.leaf (Cond.code yX6_laysBack cX6_laysBack 2 none))) (.branch 751 (.leaf (Cond.code yX6_hear cX6_hear 5 (some .int))) (.leaf (Cond.methodLink RX6 221 yX6_heard)))))) (.branch 760 (.branch 756 (.branch 754 (.branch 753 (.leaf (Cond.instanceMethod yX6_heard)) (.leaf (Cond.selects RX6 yX6_heard yX6_heard))) (.branch 755 (.leaf (Cond.methodLink RX6 225 yX6_toldCase)) (.leaf (Cond.instanceMethod yX6_toldCase)))) (.branch 758 (.branch 757 (.leaf (Cond.selects RX6 yX6_toldCase yX6_toldCase)) (.leaf (Cond.code yX6_toldCase cX6_toldCase 2 (some .int)))) (.branch 759 (.leaf (Cond.code yX6_tellsMiles cX6_tellsMiles 6 (some .int))) (.leaf (Cond.code yX6_fewest cX6_fewest 4 (some .int)))))) (.branch 764 (.branch 762 (.branch 761 (.leaf (Cond.methodLink RX6 228 yX6_tellsMiles)) (.leaf (Cond.instanceMethod yX6_tellsMiles))) (.branch 763 (.leaf (Cond.selects RX6 yX6_tellsMiles yX6_tellsMiles)) (.leaf (Cond.code yX6_sand cX6_sand 3 (some .int))))) (.branch 766 (.branch 765 (.leaf (Cond.code yX6_unlike cX6_unlike 5 (some .int))) (.leaf (Cond.code yX6_hardest cX6_hardest 8 (some .int)))) (.branch 767 (.leaf (Cond.code yX6_thick cX6_thick 7 (some .int))) (.leaf (Cond.code yX6_tellsPlaces cX6_tellsPlaces 7 none))))))
set_option maxRecDepth 20000 in
noncomputable def wT24 : Lean.RArray Cond := .branch 784 (.branch 776 (.branch 772 (.branch 770 (.branch 769 (.leaf (Cond.code yX6_order cX6_order 8 (some .int))) (.leaf (Cond.fieldLink RX6 231 "PebbleInShoeModel" "orderValue" "I"))) (.branch 771 (.leaf (Cond.fieldLink RX6 234 "PebbleInShoeModel" "orderDigits" "I")) (.leaf (Cond.methodLink RX6 237 yX6_tellsPlaces)))) (.branch 774 (.branch 773 (.leaf (Cond.instanceMethod yX6_tellsPlaces)) (.leaf (Cond.selects RX6 yX6_tellsPlaces yX6_tellsPlaces))) (.branch 775 (.leaf (Cond.methodLink RX6 241 yX6_tells)) (.leaf (Cond.instanceMethod yX6_tells))))) (.branch 780 (.branch 778 (.branch 777 (.leaf (Cond.selects RX6 yX6_tells yX6_tells)) (.leaf (Cond.code yX6_tells cX6_tells 8 (some .boolean)))) (.branch 779 (.leaf (Cond.code yX6_counsel cX6_counsel 14 (some .int))) (.leaf (Cond.methodLink RX6 245 yX6_ones)))) (.branch 782 (.branch 781 (.leaf (Cond.static yX6_ones)) (.leaf (Cond.code yX6_ones cX6_ones 3 (some .int)))) (.branch 783 (.leaf (Cond.code yX6_sheetWrong cX6_sheetWrong 5 (some .int))) (.leaf (Cond.code yX6_toldWrong cX6_toldWrong 4 (some .int))))))) (.branch 792 (.branch 788 (.branch 786 (.branch 785 (.leaf (Cond.methodLink RX6 248 yX6_sheetWrong)) (.leaf (Cond.instanceMethod yX6_sheetWrong))) (.branch 787 (.leaf (Cond.selects RX6 yX6_sheetWrong yX6_sheetWrong)) (.leaf (Cond.code yX6_firstOther cX6_firstOther 8 (some .int))))) (.branch 790 (.branch 789 (.leaf (Cond.code yX6_reversed cX6_reversed 4 (some .int))) (.leaf (Cond.methodLink RX6 251 yX6_toldWrong))) (.branch 791 (.leaf (Cond.instanceMethod yX6_toldWrong)) (.leaf (Cond.selects RX6 yX6_toldWrong yX6_toldWrong))))) (.branch 796 (.branch 794 (.branch 793 (.leaf (Cond.methodLink RX6 254 yX6_firstOther)) (.leaf (Cond.instanceMethod yX6_firstOther))) (.branch 795 (.leaf (Cond.selects RX6 yX6_firstOther yX6_firstOther)) (.leaf (Cond.code yX6_kinds cX6_kinds 10 (some .int))))) (.branch 798 (.branch 797 (.leaf (Cond.code yX6_soled cX6_soled 7 (some .int))) (.leaf (Cond.code yX6_sizes cX6_sizes 12 (some .int)))) (.branch 799 (.leaf (Cond.code yX6_whose cX6_whose 5 (some .int))) (.leaf (Cond.code yX6_laws cX6_laws 7 (some .int)))))))
set_option maxRecDepth 20000 in
noncomputable def wT25 : Lean.RArray Cond := .branch 815 (.branch 807 (.branch 803 (.branch 801 (.leaf (Cond.code yX6_film cX6_film 8 (some .int))) (.branch 802 (.leaf (Cond.code yX6_areMiles cX6_areMiles 1 (some .boolean))) (.leaf (Cond.code yX6_caseBy cX6_caseBy 8 none)))) (.branch 805 (.branch 804 (.leaf (Cond.constantLong RX6 257 (48271))) (.leaf (Cond.constantLong RX6 259 (2147483647)))) (.branch 806 (.leaf (Cond.code yX6_drawn cX6_drawn 6 (some .int))) (.leaf (Cond.methodLink RX6 261 yX6_areMiles))))) (.branch 811 (.branch 809 (.branch 808 (.leaf (Cond.static yX6_areMiles)) (.leaf (Cond.methodLink RX6 264 yX6_caseBy))) (.branch 810 (.leaf (Cond.instanceMethod yX6_caseBy)) (.leaf (Cond.selects RX6 yX6_caseBy yX6_caseBy)))) (.branch 813 (.branch 812 (.leaf (Cond.code yX6_odds cX6_odds 11 (some .long))) (.leaf (Cond.constantLong RX6 268 (-4611686018427387904)))) (.branch 814 (.leaf (Cond.methodLink RX6 270 yX6_lowest)) (.leaf (Cond.static yX6_lowest)))))) (.branch 823 (.branch 819 (.branch 817 (.branch 816 (.leaf (Cond.code yX6_lowest cX6_lowest 11 (some .long))) (.leaf (Cond.code yX6_sheet cX6_sheet 5 (some .int)))) (.branch 818 (.leaf (Cond.code yX6_cell cX6_cell 4 (some .int))) (.leaf (Cond.code yX6_copy cX6_copy 10 (some .int))))) (.branch 821 (.branch 820 (.leaf (Cond.code yX6_pebblesBy cX6_pebblesBy 9 (some .int))) (.leaf (Cond.methodLink RX6 277 yX6_pebble))) (.branch 822 (.leaf (Cond.instanceMethod yX6_pebble)) (.leaf (Cond.selects RX6 yX6_pebble yX6_pebble))))) (.branch 827 (.branch 825 (.branch 824 (.leaf (Cond.code yX6_taken cX6_taken 3 (some .long))) (.leaf (Cond.constantLong RX6 280 (-2)))) (.branch 826 (.leaf (Cond.constantLong RX6 282 (-12))) (.leaf (Cond.constantLong RX6 284 (-11))))) (.branch 829 (.branch 828 (.leaf (Cond.constantLong RX6 286 (-13))) (.leaf (Cond.methodLink RX6 288 yX6_isUnder))) (.branch 830 (.leaf (Cond.static yX6_isUnder)) (.leaf (Cond.code yX6_isUnder cX6_isUnder 2 (some .boolean)))))))
set_option maxRecDepth 20000 in
noncomputable def wTb : Lean.RArray Cond := .branch 416 (.branch 192 (.branch 96 (.branch 32 (wT0) (.branch 64 (wT1) (wT2))) (.branch 128 (wT3) (.branch 160 (wT4) (wT5)))) (.branch 288 (.branch 224 (wT6) (.branch 256 (wT7) (wT8))) (.branch 352 (.branch 320 (wT9) (wT10)) (.branch 384 (wT11) (wT12))))) (.branch 608 (.branch 512 (.branch 448 (wT13) (.branch 480 (wT14) (wT15))) (.branch 544 (wT16) (.branch 576 (wT17) (wT18)))) (.branch 704 (.branch 640 (wT19) (.branch 672 (wT20) (wT21))) (.branch 768 (.branch 736 (wT22) (wT23)) (.branch 800 (wT24) (wT25)))))
noncomputable def zmk (l : List Nat) : Nat := l.foldl (fun a i => a ||| 2 ^ i) 0
theorem zmk_in (l : List Nat) (i : Nat) : ∀ a : Nat, (l.foldl (fun a i => a ||| 2 ^ i) a).testBit i = true ↔ a.testBit i = true ∨ i ∈ l := by
  induction l with
  | nil => intro a; simp
  | cons x r ih =>
    intro a
    rw [List.foldl_cons, ih, Nat.testBit_or, Nat.testBit_two_pow, Bool.or_eq_true, decide_eq_true_eq, List.mem_cons, or_assoc]
    exact or_congr Iff.rfl (or_congr ⟨Eq.symm, Eq.symm⟩ Iff.rfl)
theorem zmk_mem {l : List Nat} {i : Nat} : (zmk l).testBit i = true ↔ i ∈ l := by
  unfold zmk
  rw [zmk_in, Nat.zero_testBit]
  exact ⟨fun h => h.resolve_left (fun q => by cases q), Or.inr⟩
noncomputable def zall : Lean.RArray Cond → Bool
  | .leaf a => goodWord a
  | .branch _ l r => zall l && zall r
theorem zall_get (T : Lean.RArray Cond) (h : zall T = true) (i : Nat) : goodWord (T.get i) = true := by
  induction T with
  | leaf a => exact h
  | branch p l r hl hr =>
    have h2 : (zall l && zall r) = true := h
    rw [Bool.and_eq_true] at h2
    show goodWord (Bool.rec (l.get i) (r.get i) (Nat.ble p i)) = true
    cases Nat.ble p i with
    | false => exact hl h2.1
    | true => exact hr h2.2
theorem goodIn_m {big ws : List Cond} {T : Lean.RArray Cond} {ib iw : List Nat} {mb mw : Nat} (hb : big = ib.map T.get) (hmb : zmk ib = mb) (hw : ws = iw.map T.get) (hmw : zmk iw = mw) (hg : ∀ i, goodWord (T.get i) = true) (hs : mw &&& mb = mw) : GoodIn big ws := by
  intro w h
  rw [hw] at h
  obtain ⟨i, hi, e⟩ := List.mem_map.mp h
  have h1 : mw.testBit i = true := by rw [← hmw]; exact zmk_mem.mpr hi
  rw [← hs, Nat.testBit_and, Bool.and_eq_true] at h1
  have h2 : i ∈ ib := zmk_mem.mp (by rw [hmb]; exact h1.2)
  exact ⟨by rw [hb, ← e]; exact List.mem_map.mpr ⟨i, h2, rfl⟩, good_of_word (by rw [← e]; exact hg i)⟩
theorem zgood : ∀ i, goodWord (wTb.get i) = true := zall_get wTb (by decide +kernel)
set_option maxRecDepth 20000 in
theorem tw_wsX0_hasBoth : wsX0_hasBoth = [0, 1, 2, 3, 4, 5, 6, 7, 8, 9, 10, 11, 12, 13, 14, 15, 16, 17, 18, 19, 20, 21, 22, 23].map wTb.get := rfl
set_option maxRecDepth 20000 in
theorem tm_wsX0_hasBoth : zmk [0, 1, 2, 3, 4, 5, 6, 7, 8, 9, 10, 11, 12, 13, 14, 15, 16, 17, 18, 19, 20, 21, 22, 23] = 16777215 := by decide +kernel
set_option maxRecDepth 20000 in
theorem tw_wsX0_hasJudge : wsX0_hasJudge = [5, 6, 12, 13, 14, 15, 16, 17, 18, 19, 20, 21, 22, 23].map wTb.get := rfl
set_option maxRecDepth 20000 in
theorem tm_wsX0_hasJudge : zmk [5, 6, 12, 13, 14, 15, 16, 17, 18, 19, 20, 21, 22, 23] = 16773216 := by decide +kernel
set_option maxRecDepth 20000 in
theorem ggX0_hasBoth_X0_hasJudge : GoodIn wsX0_hasBoth wsX0_hasJudge := goodIn_m tw_wsX0_hasBoth tm_wsX0_hasBoth tw_wsX0_hasJudge tm_wsX0_hasJudge zgood (by decide +kernel)
set_option maxRecDepth 20000 in
theorem gX0_hasBoth_X0_hasJudge : GoodIn wsX0_hasBoth (wsV RX0 58 RX0 yX0_hasJudge wsX0_hasJudge) := goodIn_app (goodIn_m tw_wsX0_hasBoth tm_wsX0_hasBoth (iw := [1, 2, 3, 4]) rfl rfl zgood (by decide +kernel)) ggX0_hasBoth_X0_hasJudge
set_option maxRecDepth 20000 in
theorem tw_wsX0_hasPebble : wsX0_hasPebble = [10, 11, 12, 13, 14, 15, 16, 17, 18, 19, 20, 21, 22, 23].map wTb.get := rfl
set_option maxRecDepth 20000 in
theorem tm_wsX0_hasPebble : zmk [10, 11, 12, 13, 14, 15, 16, 17, 18, 19, 20, 21, 22, 23] = 16776192 := by decide +kernel
set_option maxRecDepth 20000 in
theorem ggX0_hasBoth_X0_hasPebble : GoodIn wsX0_hasBoth wsX0_hasPebble := goodIn_m tw_wsX0_hasBoth tm_wsX0_hasBoth tw_wsX0_hasPebble tm_wsX0_hasPebble zgood (by decide +kernel)
set_option maxRecDepth 20000 in
theorem gX0_hasBoth_X0_hasPebble : GoodIn wsX0_hasBoth (wsV RX0 62 RX0 yX0_hasPebble wsX0_hasPebble) := goodIn_app (goodIn_m tw_wsX0_hasBoth tm_wsX0_hasBoth (iw := [7, 8, 9, 4]) rfl rfl zgood (by decide +kernel)) ggX0_hasBoth_X0_hasPebble
set_option maxRecDepth 20000 in
theorem tw_wsX0_says : wsX0_says = [24, 25, 26, 27, 28, 29, 30, 31, 32, 33, 34, 35, 36, 37, 38, 39, 40, 41, 42, 43, 44, 45, 46, 47, 48, 49, 50, 51, 52, 53, 54, 12, 13, 14, 15, 16, 17, 18, 19, 20, 21, 22, 23, 55, 56, 57, 58, 59].map wTb.get := rfl
set_option maxRecDepth 20000 in
theorem tm_wsX0_says : zmk [24, 25, 26, 27, 28, 29, 30, 31, 32, 33, 34, 35, 36, 37, 38, 39, 40, 41, 42, 43, 44, 45, 46, 47, 48, 49, 50, 51, 52, 53, 54, 12, 13, 14, 15, 16, 17, 18, 19, 20, 21, 22, 23, 55, 56, 57, 58, 59] = 1152921504606842880 := by decide +kernel
set_option maxRecDepth 20000 in
theorem tw_wsX3_value : wsX3_value = [44, 45, 46, 47, 48, 49, 50, 43, 51, 52, 53, 54, 55, 56, 57, 58, 59].map wTb.get := rfl
set_option maxRecDepth 20000 in
theorem tm_wsX3_value : zmk [44, 45, 46, 47, 48, 49, 50, 43, 51, 52, 53, 54, 55, 56, 57, 58, 59] = 1152912708513824768 := by decide +kernel
set_option maxRecDepth 20000 in
theorem ggX0_says_X3_value : GoodIn wsX0_says wsX3_value := goodIn_m tw_wsX0_says tm_wsX0_says tw_wsX3_value tm_wsX3_value zgood (by decide +kernel)
set_option maxRecDepth 20000 in
theorem gX0_says_X3_value : GoodIn wsX0_says (wsV RX0 65 RX3 yX3_value wsX3_value) := goodIn_app (goodIn_m tw_wsX0_says tm_wsX0_says (iw := [40, 41, 42, 43]) rfl rfl zgood (by decide +kernel)) ggX0_says_X3_value
set_option maxRecDepth 20000 in
theorem tw_wsX0_mile : wsX0_mile = [60, 61, 62, 33, 34, 35, 36, 26, 37, 38, 39, 63, 64, 65, 4, 66, 67, 30, 68, 69, 70, 24, 25, 27, 28, 29, 31, 32, 40, 41, 42, 43, 44, 45, 46, 47, 48, 49, 50, 51, 52, 53, 54, 71, 72, 73, 74, 75, 76, 77, 78, 79, 80, 81, 82, 12, 13, 14, 15, 16, 17, 18, 19, 20, 21, 22, 23, 55, 56, 57, 58, 59].map wTb.get := rfl
set_option maxRecDepth 20000 in
theorem tm_wsX0_mile : zmk [60, 61, 62, 33, 34, 35, 36, 26, 37, 38, 39, 63, 64, 65, 4, 66, 67, 30, 68, 69, 70, 24, 25, 27, 28, 29, 31, 32, 40, 41, 42, 43, 44, 45, 46, 47, 48, 49, 50, 51, 52, 53, 54, 71, 72, 73, 74, 75, 76, 77, 78, 79, 80, 81, 82, 12, 13, 14, 15, 16, 17, 18, 19, 20, 21, 22, 23, 55, 56, 57, 58, 59] = 9671406556917033397645328 := by decide +kernel
set_option maxRecDepth 20000 in
theorem tw_wsX0_isSand : wsX0_isSand = [66, 67, 26, 30, 12, 13, 14, 15, 16, 17, 18, 19, 20, 21, 22, 23].map wTb.get := rfl
set_option maxRecDepth 20000 in
theorem tm_wsX0_isSand : zmk [66, 67, 26, 30, 12, 13, 14, 15, 16, 17, 18, 19, 20, 21, 22, 23] = 221360928885672243200 := by decide +kernel
set_option maxRecDepth 20000 in
theorem ggX0_mile_X0_isSand : GoodIn wsX0_mile wsX0_isSand := goodIn_m tw_wsX0_mile tm_wsX0_mile tw_wsX0_isSand tm_wsX0_isSand zgood (by decide +kernel)
set_option maxRecDepth 20000 in
theorem gX0_mile_X0_isSand : GoodIn wsX0_mile (wsV RX0 80 RX0 yX0_isSand wsX0_isSand) := goodIn_app (goodIn_m tw_wsX0_mile tm_wsX0_mile (iw := [63, 64, 65, 4]) rfl rfl zgood (by decide +kernel)) ggX0_mile_X0_isSand
set_option maxRecDepth 20000 in
theorem ggX0_mile_X0_says : GoodIn wsX0_mile wsX0_says := goodIn_m tw_wsX0_mile tm_wsX0_mile tw_wsX0_says tm_wsX0_says zgood (by decide +kernel)
set_option maxRecDepth 20000 in
theorem gX0_mile_X0_says : GoodIn wsX0_mile (wsV RX0 83 RX0 yX0_says wsX0_says) := goodIn_app (goodIn_m tw_wsX0_mile tm_wsX0_mile (iw := [68, 69, 70, 4]) rfl rfl zgood (by decide +kernel)) ggX0_mile_X0_says
set_option maxRecDepth 20000 in
theorem tw_wsX0_hurts : wsX0_hurts = [74, 28, 30, 67, 37, 38, 35, 39, 12, 13, 14, 15, 16, 17, 18, 19, 20, 21, 22, 23].map wTb.get := rfl
set_option maxRecDepth 20000 in
theorem tm_wsX0_hurts : zmk [74, 28, 30, 67, 37, 38, 35, 39, 12, 13, 14, 15, 16, 17, 18, 19, 20, 21, 22, 23] = 19037039885066048630784 := by decide +kernel
set_option maxRecDepth 20000 in
theorem ggX0_mile_X0_hurts : GoodIn wsX0_mile wsX0_hurts := goodIn_m tw_wsX0_mile tm_wsX0_mile tw_wsX0_hurts tm_wsX0_hurts zgood (by decide +kernel)
set_option maxRecDepth 20000 in
theorem gX0_mile_X0_hurts : GoodIn wsX0_mile (wsV RX0 87 RX0 yX0_hurts wsX0_hurts) := goodIn_app (goodIn_m tw_wsX0_mile tm_wsX0_mile (iw := [71, 72, 73, 4]) rfl rfl zgood (by decide +kernel)) ggX0_mile_X0_hurts
set_option maxRecDepth 20000 in
theorem tw_wsX0_wears : wsX0_wears = [78, 67, 12, 13, 14, 15, 16, 17, 18, 19, 20, 21, 22, 23].map wTb.get := rfl
set_option maxRecDepth 20000 in
theorem tm_wsX0_wears : zmk [78, 67, 12, 13, 14, 15, 16, 17, 18, 19, 20, 21, 22, 23] = 302379028856246986862592 := by decide +kernel
set_option maxRecDepth 20000 in
theorem ggX0_mile_X0_wears : GoodIn wsX0_mile wsX0_wears := goodIn_m tw_wsX0_mile tm_wsX0_mile tw_wsX0_wears tm_wsX0_wears zgood (by decide +kernel)
set_option maxRecDepth 20000 in
theorem gX0_mile_X0_wears : GoodIn wsX0_mile (wsV RX0 90 RX0 yX0_wears wsX0_wears) := goodIn_app (goodIn_m tw_wsX0_mile tm_wsX0_mile (iw := [75, 76, 77, 4]) rfl rfl zgood (by decide +kernel)) ggX0_mile_X0_wears
set_option maxRecDepth 20000 in
theorem tw_wsX0_tread : wsX0_tread = [82, 29, 28, 33, 34, 35, 36, 12, 13, 14, 15, 16, 17, 18, 19, 20, 21, 22, 23].map wTb.get := rfl
set_option maxRecDepth 20000 in
theorem tm_wsX0_tread : zmk [82, 29, 28, 33, 34, 35, 36, 12, 13, 14, 15, 16, 17, 18, 19, 20, 21, 22, 23] = 4835703278458646369923072 := by decide +kernel
set_option maxRecDepth 20000 in
theorem ggX0_mile_X0_tread : GoodIn wsX0_mile wsX0_tread := goodIn_m tw_wsX0_mile tm_wsX0_mile tw_wsX0_tread tm_wsX0_tread zgood (by decide +kernel)
set_option maxRecDepth 20000 in
theorem gX0_mile_X0_tread : GoodIn wsX0_mile (wsV RX0 94 RX0 yX0_tread wsX0_tread) := goodIn_app (goodIn_m tw_wsX0_mile tm_wsX0_mile (iw := [79, 80, 81, 4]) rfl rfl zgood (by decide +kernel)) ggX0_mile_X0_tread
set_option maxRecDepth 20000 in
theorem tw_wsX0_go : wsX0_go = [83, 84, 85, 86, 4, 60, 61, 62, 33, 34, 35, 36, 26, 37, 38, 39, 63, 64, 65, 66, 67, 30, 68, 69, 70, 24, 25, 27, 28, 29, 31, 32, 40, 41, 42, 43, 44, 45, 46, 47, 48, 49, 50, 51, 52, 53, 54, 71, 72, 73, 74, 75, 76, 77, 78, 79, 80, 81, 82, 12, 13, 14, 15, 16, 17, 18, 19, 20, 21, 22, 23, 55, 56, 57, 58, 59].map wTb.get := rfl
set_option maxRecDepth 20000 in
theorem tm_wsX0_go : zmk [83, 84, 85, 86, 4, 60, 61, 62, 33, 34, 35, 36, 26, 37, 38, 39, 63, 64, 65, 66, 67, 30, 68, 69, 70, 24, 25, 27, 28, 29, 31, 32, 40, 41, 42, 43, 44, 45, 46, 47, 48, 49, 50, 51, 52, 53, 54, 71, 72, 73, 74, 75, 76, 77, 78, 79, 80, 81, 82, 12, 13, 14, 15, 16, 17, 18, 19, 20, 21, 22, 23, 55, 56, 57, 58, 59] = 154742504910672534362386448 := by decide +kernel
set_option maxRecDepth 20000 in
theorem ggX0_go_X0_mile : GoodIn wsX0_go wsX0_mile := goodIn_m tw_wsX0_go tm_wsX0_go tw_wsX0_mile tm_wsX0_mile zgood (by decide +kernel)
set_option maxRecDepth 20000 in
theorem gX0_go_X0_mile : GoodIn wsX0_go (wsV RX0 98 RX0 yX0_mile wsX0_mile) := goodIn_app (goodIn_m tw_wsX0_go tm_wsX0_go (iw := [84, 85, 86, 4]) rfl rfl zgood (by decide +kernel)) ggX0_go_X0_mile
set_option maxRecDepth 20000 in
theorem tw_wsX0_goByLots : wsX0_goByLots = [87, 88, 89, 84, 85, 86, 4, 60, 61, 62, 33, 34, 35, 36, 26, 37, 38, 39, 63, 64, 65, 66, 67, 30, 68, 69, 70, 24, 25, 27, 28, 29, 31, 32, 40, 41, 42, 43, 44, 45, 46, 47, 48, 49, 50, 51, 52, 53, 54, 71, 72, 73, 74, 75, 76, 77, 78, 79, 80, 81, 82, 12, 13, 14, 15, 16, 17, 18, 19, 20, 21, 22, 23, 55, 56, 57, 58, 59].map wTb.get := rfl
set_option maxRecDepth 20000 in
theorem tm_wsX0_goByLots : zmk [87, 88, 89, 84, 85, 86, 4, 60, 61, 62, 33, 34, 35, 36, 26, 37, 38, 39, 63, 64, 65, 66, 67, 30, 68, 69, 70, 24, 25, 27, 28, 29, 31, 32, 40, 41, 42, 43, 44, 45, 46, 47, 48, 49, 50, 51, 52, 53, 54, 71, 72, 73, 74, 75, 76, 77, 78, 79, 80, 81, 82, 12, 13, 14, 15, 16, 17, 18, 19, 20, 21, 22, 23, 55, 56, 57, 58, 59] = 1228268632728463241501470736 := by decide +kernel
set_option maxRecDepth 20000 in
theorem ggX0_goByLots_X0_mile : GoodIn wsX0_goByLots wsX0_mile := goodIn_m tw_wsX0_goByLots tm_wsX0_goByLots tw_wsX0_mile tm_wsX0_mile zgood (by decide +kernel)
set_option maxRecDepth 20000 in
theorem gX0_goByLots_X0_mile : GoodIn wsX0_goByLots (wsV RX0 98 RX0 yX0_mile wsX0_mile) := goodIn_app (goodIn_m tw_wsX0_goByLots tm_wsX0_goByLots (iw := [84, 85, 86, 4]) rfl rfl zgood (by decide +kernel)) ggX0_goByLots_X0_mile
set_option maxRecDepth 20000 in
theorem tw_wsX0_verdict : wsX0_verdict = [90, 68, 69, 70, 4, 24, 25, 26, 27, 28, 29, 30, 31, 32, 33, 34, 35, 36, 37, 38, 39, 40, 41, 42, 43, 44, 45, 46, 47, 48, 49, 50, 51, 52, 53, 54, 12, 13, 14, 15, 16, 17, 18, 19, 20, 21, 22, 23, 55, 56, 57, 58, 59].map wTb.get := rfl
set_option maxRecDepth 20000 in
theorem tm_wsX0_verdict : zmk [90, 68, 69, 70, 4, 24, 25, 26, 27, 28, 29, 30, 31, 32, 33, 34, 35, 36, 37, 38, 39, 40, 41, 42, 43, 44, 45, 46, 47, 48, 49, 50, 51, 52, 53, 54, 12, 13, 14, 15, 16, 17, 18, 19, 20, 21, 22, 23, 55, 56, 57, 58, 59] = 1237942106473638034975748112 := by decide +kernel
set_option maxRecDepth 20000 in
theorem ggX0_verdict_X0_says : GoodIn wsX0_verdict wsX0_says := goodIn_m tw_wsX0_verdict tm_wsX0_verdict tw_wsX0_says tm_wsX0_says zgood (by decide +kernel)
set_option maxRecDepth 20000 in
theorem gX0_verdict_X0_says : GoodIn wsX0_verdict (wsV RX0 83 RX0 yX0_says wsX0_says) := goodIn_app (goodIn_m tw_wsX0_verdict tm_wsX0_verdict (iw := [68, 69, 70, 4]) rfl rfl zgood (by decide +kernel)) ggX0_verdict_X0_says
set_option maxRecDepth 20000 in
theorem tw_wsX1_read : wsX1_read = [91, 92, 93, 94, 95, 96, 97, 98, 43, 99, 100, 101, 102, 103, 104, 105, 106, 107, 108, 109, 110, 111, 112, 113, 114, 115, 116, 117, 118, 119, 120, 121, 122, 123, 124, 125, 126, 127, 128, 129, 130, 131, 132, 133, 134, 135, 136, 137, 138, 139, 140, 141, 142, 143, 144, 145, 146, 147, 148, 149, 150, 151, 152, 153, 154, 155, 156, 157, 158, 159, 160, 161, 162, 163, 164, 165, 166, 167, 168, 169, 170, 171, 172, 173, 174, 175, 176, 177, 178, 179, 180, 181, 182, 183, 184, 185, 186, 187, 188, 189, 190, 191, 192, 193, 194, 195, 196, 197, 38, 35, 39, 198, 34, 36, 199, 200, 201, 202, 203, 204, 205, 206, 207, 208, 209, 210, 211, 212, 213, 214, 215, 216, 217, 218, 219, 220, 221, 222, 223, 224, 225, 226, 227, 228, 229, 230, 231, 232, 233, 234, 235, 236, 237, 238, 239, 240, 241, 242, 243, 244, 245, 246, 247, 248, 249, 250, 251, 45, 47, 252, 253, 254, 255, 256, 257, 258, 259, 260, 261, 262, 263, 264, 265, 266, 267, 268, 269, 270, 271, 272, 46, 273, 274, 275, 276, 277, 278, 279, 280, 281, 282, 283, 55, 56, 57, 58, 59].map wTb.get := rfl
set_option maxRecDepth 20000 in
theorem tm_wsX1_read : zmk [91, 92, 93, 94, 95, 96, 97, 98, 43, 99, 100, 101, 102, 103, 104, 105, 106, 107, 108, 109, 110, 111, 112, 113, 114, 115, 116, 117, 118, 119, 120, 121, 122, 123, 124, 125, 126, 127, 128, 129, 130, 131, 132, 133, 134, 135, 136, 137, 138, 139, 140, 141, 142, 143, 144, 145, 146, 147, 148, 149, 150, 151, 152, 153, 154, 155, 156, 157, 158, 159, 160, 161, 162, 163, 164, 165, 166, 167, 168, 169, 170, 171, 172, 173, 174, 175, 176, 177, 178, 179, 180, 181, 182, 183, 184, 185, 186, 187, 188, 189, 190, 191, 192, 193, 194, 195, 196, 197, 38, 35, 39, 198, 34, 36, 199, 200, 201, 202, 203, 204, 205, 206, 207, 208, 209, 210, 211, 212, 213, 214, 215, 216, 217, 218, 219, 220, 221, 222, 223, 224, 225, 226, 227, 228, 229, 230, 231, 232, 233, 234, 235, 236, 237, 238, 239, 240, 241, 242, 243, 244, 245, 246, 247, 248, 249, 250, 251, 45, 47, 252, 253, 254, 255, 256, 257, 258, 259, 260, 261, 262, 263, 264, 265, 266, 267, 268, 269, 270, 271, 272, 46, 273, 274, 275, 276, 277, 278, 279, 280, 281, 282, 283, 55, 56, 57, 58, 59] = 31082702275611665134711390509176302506278509424834232340026522675745014951472716054528 := by decide +kernel
set_option maxRecDepth 20000 in
theorem tw_wsX3_begin : wsX3_begin = [99, 100, 55, 56, 57, 58, 59].map wTb.get := rfl
set_option maxRecDepth 20000 in
theorem tm_wsX3_begin : zmk [99, 100, 55, 56, 57, 58, 59] = 1901475900343460994952642691072 := by decide +kernel
set_option maxRecDepth 20000 in
theorem ggX1_read_X3_begin : GoodIn wsX1_read wsX3_begin := goodIn_m tw_wsX1_read tm_wsX1_read tw_wsX3_begin tm_wsX3_begin zgood (by decide +kernel)
set_option maxRecDepth 20000 in
theorem gX1_read_X3_begin : GoodIn wsX1_read (wsV RX1 26 RX3 yX3_begin wsX3_begin) := goodIn_app (goodIn_m tw_wsX1_read tm_wsX1_read (iw := [96, 97, 98, 43]) rfl rfl zgood (by decide +kernel)) ggX1_read_X3_begin
set_option maxRecDepth 20000 in
theorem tw_wsX1_readParts : wsX1_readParts = [105, 106, 93, 107, 108, 109, 104, 110, 92, 94, 111, 95, 112, 113, 114, 115, 116, 117, 118, 119, 120, 121, 122, 123, 124, 125, 126, 127, 128, 129, 130, 131, 132, 133, 134, 135, 136, 137, 138, 139, 140, 141, 142, 143, 144, 145, 146, 147, 148, 149, 150, 151, 152, 153, 154, 155, 156, 157, 158, 159, 160, 161, 162, 163, 164, 165, 166, 167, 168, 169, 170, 171, 172, 173, 174, 175, 176, 177, 178, 179, 180, 181, 182, 183, 184, 185, 186, 187, 188, 189, 190, 191, 192, 193, 194, 195, 196, 197, 38, 35, 39, 198, 34, 36, 199, 200, 201, 202, 203, 204, 205, 206, 207, 208, 209, 210, 211, 212, 213, 214, 215, 216, 217, 218, 219, 220, 221, 222, 223, 224, 225, 226, 227, 228, 229, 230, 231, 232, 233, 234, 235, 236, 237, 238, 239, 240, 241, 242, 243, 244, 245, 246, 247, 248, 249, 250, 43, 251, 45, 100, 47, 252, 253, 254, 255, 256, 257, 258, 259, 260, 261, 262, 263, 264, 265, 266, 267, 268, 269, 270, 271, 272, 46, 277, 278, 279, 280, 281, 282, 283, 55, 56, 57, 58, 59].map wTb.get := rfl
set_option maxRecDepth 20000 in
theorem tm_wsX1_readParts : zmk [105, 106, 93, 107, 108, 109, 104, 110, 92, 94, 111, 95, 112, 113, 114, 115, 116, 117, 118, 119, 120, 121, 122, 123, 124, 125, 126, 127, 128, 129, 130, 131, 132, 133, 134, 135, 136, 137, 138, 139, 140, 141, 142, 143, 144, 145, 146, 147, 148, 149, 150, 151, 152, 153, 154, 155, 156, 157, 158, 159, 160, 161, 162, 163, 164, 165, 166, 167, 168, 169, 170, 171, 172, 173, 174, 175, 176, 177, 178, 179, 180, 181, 182, 183, 184, 185, 186, 187, 188, 189, 190, 191, 192, 193, 194, 195, 196, 197, 38, 35, 39, 198, 34, 36, 199, 200, 201, 202, 203, 204, 205, 206, 207, 208, 209, 210, 211, 212, 213, 214, 215, 216, 217, 218, 219, 220, 221, 222, 223, 224, 225, 226, 227, 228, 229, 230, 231, 232, 233, 234, 235, 236, 237, 238, 239, 240, 241, 242, 243, 244, 245, 246, 247, 248, 249, 250, 43, 251, 45, 100, 47, 252, 253, 254, 255, 256, 257, 258, 259, 260, 261, 262, 263, 264, 265, 266, 267, 268, 269, 270, 271, 272, 46, 277, 278, 279, 280, 281, 282, 283, 55, 56, 57, 58, 59] = 30855045764803962509213016066970421384406352373382809720941819187990989660143428304896 := by decide +kernel
set_option maxRecDepth 20000 in
theorem ggX1_read_X1_readParts : GoodIn wsX1_read wsX1_readParts := goodIn_m tw_wsX1_read tm_wsX1_read tw_wsX1_readParts tm_wsX1_readParts zgood (by decide +kernel)
set_option maxRecDepth 20000 in
theorem gX1_read_X1_readParts : GoodIn wsX1_read (wsV RX1 31 RX1 yX1_readParts wsX1_readParts) := goodIn_app (goodIn_m tw_wsX1_read tm_wsX1_read (iw := [101, 102, 103, 104]) rfl rfl zgood (by decide +kernel)) ggX1_read_X1_readParts
set_option maxRecDepth 20000 in
theorem tw_wsX3_keep : wsX3_keep = [276, 45, 55, 56, 57, 58, 59].map wTb.get := rfl
set_option maxRecDepth 20000 in
theorem tm_wsX3_keep : zmk [276, 45, 55, 56, 57, 58, 59] = 121416805764108066932466369176469931665150427440758720078238275609798445717285502976 := by decide +kernel
set_option maxRecDepth 20000 in
theorem ggX1_read_X3_keep : GoodIn wsX1_read wsX3_keep := goodIn_m tw_wsX1_read tm_wsX1_read tw_wsX3_keep tm_wsX3_keep zgood (by decide +kernel)
set_option maxRecDepth 20000 in
theorem gX1_read_X3_keep : GoodIn wsX1_read (wsV RX1 35 RX3 yX3_keep wsX3_keep) := goodIn_app (goodIn_m tw_wsX1_read tm_wsX1_read (iw := [273, 274, 275, 43]) rfl rfl zgood (by decide +kernel)) ggX1_read_X3_keep
set_option maxRecDepth 20000 in
theorem tw_wsX1_next : wsX1_next = [110, 92, 94, 111, 95, 106, 112, 113, 114, 104, 115, 116, 117, 118, 119, 120, 121, 122, 123, 124, 125, 126, 127, 128, 129, 130, 131, 132, 133, 134, 135, 136, 137, 138, 139, 140, 141, 142, 143, 144, 145, 146, 147, 148, 149, 150, 151, 152, 153, 154, 155, 156, 157, 158, 159, 160, 161, 162, 163, 164, 165, 166, 167, 168, 169, 170, 171, 172, 173, 174, 175, 176, 177, 178, 179, 180, 181, 182, 183, 184, 185, 186, 187, 188, 189, 190, 191, 192, 193, 194, 195, 196, 197, 38, 35, 39, 198, 34, 36, 199, 200, 201, 202, 203, 204, 205, 206, 207, 208, 209, 210, 211, 212, 213, 214, 215, 216, 217, 218, 219, 220, 221, 222, 223, 224, 225, 226, 227, 228, 229, 230, 231, 232, 233, 234, 235, 236, 237, 238, 239, 240, 277, 278, 279, 280, 281, 282, 283].map wTb.get := rfl
set_option maxRecDepth 20000 in
theorem tm_wsX1_next : zmk [110, 92, 94, 111, 95, 106, 112, 113, 114, 104, 115, 116, 117, 118, 119, 120, 121, 122, 123, 124, 125, 126, 127, 128, 129, 130, 131, 132, 133, 134, 135, 136, 137, 138, 139, 140, 141, 142, 143, 144, 145, 146, 147, 148, 149, 150, 151, 152, 153, 154, 155, 156, 157, 158, 159, 160, 161, 162, 163, 164, 165, 166, 167, 168, 169, 170, 171, 172, 173, 174, 175, 176, 177, 178, 179, 180, 181, 182, 183, 184, 185, 186, 187, 188, 189, 190, 191, 192, 193, 194, 195, 196, 197, 38, 35, 39, 198, 34, 36, 199, 200, 201, 202, 203, 204, 205, 206, 207, 208, 209, 210, 211, 212, 213, 214, 215, 216, 217, 218, 219, 220, 221, 222, 223, 224, 225, 226, 227, 228, 229, 230, 231, 232, 233, 234, 235, 236, 237, 238, 239, 240, 277, 278, 279, 280, 281, 282, 283] = 30839868664086982694976014539482529237949694406984368671068479509115633502387091537920 := by decide +kernel
set_option maxRecDepth 20000 in
theorem ggX1_readParts_X1_next : GoodIn wsX1_readParts wsX1_next := goodIn_m tw_wsX1_readParts tm_wsX1_readParts tw_wsX1_next tm_wsX1_next zgood (by decide +kernel)
set_option maxRecDepth 20000 in
theorem gX1_readParts_X1_next : GoodIn wsX1_readParts (wsV RX1 42 RX1 yX1_next wsX1_next) := goodIn_app (goodIn_m tw_wsX1_readParts tm_wsX1_readParts (iw := [107, 108, 109, 104]) rfl rfl zgood (by decide +kernel)) ggX1_readParts_X1_next
set_option maxRecDepth 20000 in
theorem tw_wsX1_readOr : wsX1_readOr = [244, 106, 93, 245, 246, 247, 104, 107, 108, 109, 110, 92, 94, 111, 95, 112, 113, 114, 115, 116, 117, 118, 119, 120, 121, 122, 123, 124, 125, 126, 127, 128, 129, 130, 131, 132, 133, 134, 135, 136, 137, 138, 139, 140, 141, 142, 143, 144, 145, 146, 147, 148, 149, 150, 151, 152, 153, 154, 155, 156, 157, 158, 159, 160, 161, 162, 163, 164, 165, 166, 167, 168, 169, 170, 171, 172, 173, 174, 175, 176, 177, 178, 179, 180, 181, 182, 183, 184, 185, 186, 187, 188, 189, 190, 191, 192, 193, 194, 195, 196, 197, 38, 35, 39, 198, 34, 36, 199, 200, 201, 202, 203, 204, 205, 206, 207, 208, 209, 210, 211, 212, 213, 214, 215, 216, 217, 218, 219, 220, 221, 222, 223, 224, 225, 226, 227, 228, 229, 230, 231, 232, 233, 234, 235, 236, 237, 238, 239, 240, 248, 249, 250, 43, 251, 45, 100, 47, 252, 253, 254, 255, 256, 257, 258, 259, 260, 261, 262, 263, 241, 242, 243, 264, 265, 266, 267, 268, 277, 278, 279, 280, 281, 282, 283, 55, 56, 57, 58, 59].map wTb.get := rfl
set_option maxRecDepth 20000 in
theorem tm_wsX1_readOr : zmk [244, 106, 93, 245, 246, 247, 104, 107, 108, 109, 110, 92, 94, 111, 95, 112, 113, 114, 115, 116, 117, 118, 119, 120, 121, 122, 123, 124, 125, 126, 127, 128, 129, 130, 131, 132, 133, 134, 135, 136, 137, 138, 139, 140, 141, 142, 143, 144, 145, 146, 147, 148, 149, 150, 151, 152, 153, 154, 155, 156, 157, 158, 159, 160, 161, 162, 163, 164, 165, 166, 167, 168, 169, 170, 171, 172, 173, 174, 175, 176, 177, 178, 179, 180, 181, 182, 183, 184, 185, 186, 187, 188, 189, 190, 191, 192, 193, 194, 195, 196, 197, 38, 35, 39, 198, 34, 36, 199, 200, 201, 202, 203, 204, 205, 206, 207, 208, 209, 210, 211, 212, 213, 214, 215, 216, 217, 218, 219, 220, 221, 222, 223, 224, 225, 226, 227, 228, 229, 230, 231, 232, 233, 234, 235, 236, 237, 238, 239, 240, 248, 249, 250, 43, 251, 45, 100, 47, 252, 253, 254, 255, 256, 257, 258, 259, 260, 261, 262, 263, 241, 242, 243, 264, 265, 266, 267, 268, 277, 278, 279, 280, 281, 282, 283, 55, 56, 57, 58, 59] = 30840817232878481095119367664332553814289342557667095767867831432764756376510026219520 := by decide +kernel
set_option maxRecDepth 20000 in
theorem ggX1_readParts_X1_readOr : GoodIn wsX1_readParts wsX1_readOr := goodIn_m tw_wsX1_readParts tm_wsX1_readParts tw_wsX1_readOr tm_wsX1_readOr zgood (by decide +kernel)
set_option maxRecDepth 20000 in
theorem gX1_readParts_X1_readOr : GoodIn wsX1_readParts (wsV RX1 48 RX1 yX1_readOr wsX1_readOr) := goodIn_app (goodIn_m tw_wsX1_readParts tm_wsX1_readParts (iw := [241, 242, 243, 104]) rfl rfl zgood (by decide +kernel)) ggX1_readParts_X1_readOr
set_option maxRecDepth 20000 in
theorem tw_wsX3_endPart : wsX3_endPart = [272, 45, 46, 100, 55, 56, 57, 58, 59].map wTb.get := rfl
set_option maxRecDepth 20000 in
theorem tm_wsX3_endPart : zmk [272, 45, 46, 100, 55, 56, 57, 58, 59] = 7588550360256754183279148073529370729071901715047421272540492454888994621490200576 := by decide +kernel
set_option maxRecDepth 20000 in
theorem ggX1_readParts_X3_endPart : GoodIn wsX1_readParts wsX3_endPart := goodIn_m tw_wsX1_readParts tm_wsX1_readParts tw_wsX3_endPart tm_wsX3_endPart zgood (by decide +kernel)
set_option maxRecDepth 20000 in
theorem gX1_readParts_X3_endPart : GoodIn wsX1_readParts (wsV RX1 52 RX3 yX3_endPart wsX3_endPart) := goodIn_app (goodIn_m tw_wsX1_readParts tm_wsX1_readParts (iw := [269, 270, 271, 43]) rfl rfl zgood (by decide +kernel)) ggX1_readParts_X3_endPart
set_option maxRecDepth 20000 in
theorem tw_wsX1_readAnd : wsX1_readAnd = [252, 106, 93, 253, 254, 255, 104, 107, 108, 109, 110, 92, 94, 111, 95, 112, 113, 114, 115, 116, 117, 118, 119, 120, 121, 122, 123, 124, 125, 126, 127, 128, 129, 130, 131, 132, 133, 134, 135, 136, 137, 138, 139, 140, 141, 142, 143, 144, 145, 146, 147, 148, 149, 150, 151, 152, 153, 154, 155, 156, 157, 158, 159, 160, 161, 162, 163, 164, 165, 166, 167, 168, 169, 170, 171, 172, 173, 174, 175, 176, 177, 178, 179, 180, 181, 182, 183, 184, 185, 186, 187, 188, 189, 190, 191, 192, 193, 194, 195, 196, 197, 38, 35, 39, 198, 34, 36, 199, 200, 201, 202, 203, 204, 205, 206, 207, 208, 209, 210, 211, 212, 213, 214, 215, 216, 217, 218, 219, 220, 221, 222, 223, 224, 225, 226, 227, 228, 229, 230, 231, 232, 233, 234, 235, 236, 237, 238, 239, 240, 248, 249, 250, 43, 251, 45, 100, 47, 256, 257, 258, 259, 260, 261, 262, 263, 241, 242, 243, 244, 245, 246, 247, 264, 265, 266, 267, 268, 277, 278, 279, 280, 281, 282, 283, 55, 56, 57, 58, 59].map wTb.get := rfl
set_option maxRecDepth 20000 in
theorem tm_wsX1_readAnd : zmk [252, 106, 93, 253, 254, 255, 104, 107, 108, 109, 110, 92, 94, 111, 95, 112, 113, 114, 115, 116, 117, 118, 119, 120, 121, 122, 123, 124, 125, 126, 127, 128, 129, 130, 131, 132, 133, 134, 135, 136, 137, 138, 139, 140, 141, 142, 143, 144, 145, 146, 147, 148, 149, 150, 151, 152, 153, 154, 155, 156, 157, 158, 159, 160, 161, 162, 163, 164, 165, 166, 167, 168, 169, 170, 171, 172, 173, 174, 175, 176, 177, 178, 179, 180, 181, 182, 183, 184, 185, 186, 187, 188, 189, 190, 191, 192, 193, 194, 195, 196, 197, 38, 35, 39, 198, 34, 36, 199, 200, 201, 202, 203, 204, 205, 206, 207, 208, 209, 210, 211, 212, 213, 214, 215, 216, 217, 218, 219, 220, 221, 222, 223, 224, 225, 226, 227, 228, 229, 230, 231, 232, 233, 234, 235, 236, 237, 238, 239, 240, 248, 249, 250, 43, 251, 45, 100, 47, 256, 257, 258, 259, 260, 261, 262, 263, 241, 242, 243, 244, 245, 246, 247, 264, 265, 266, 267, 268, 277, 278, 279, 280, 281, 282, 283, 55, 56, 57, 58, 59] = 30840817232878481095119367664332553814289342557667095767867831432764756376510026219520 := by decide +kernel
set_option maxRecDepth 20000 in
theorem ggX1_readOr_X1_readAnd : GoodIn wsX1_readOr wsX1_readAnd := goodIn_m tw_wsX1_readOr tm_wsX1_readOr tw_wsX1_readAnd tm_wsX1_readAnd zgood (by decide +kernel)
set_option maxRecDepth 20000 in
theorem gX1_readOr_X1_readAnd : GoodIn wsX1_readOr (wsV RX1 56 RX1 yX1_readAnd wsX1_readAnd) := goodIn_app (goodIn_m tw_wsX1_readOr tm_wsX1_readOr (iw := [245, 246, 247, 104]) rfl rfl zgood (by decide +kernel)) ggX1_readOr_X1_readAnd
set_option maxRecDepth 20000 in
theorem ggX1_readOr_X1_next : GoodIn wsX1_readOr wsX1_next := goodIn_m tw_wsX1_readOr tm_wsX1_readOr tw_wsX1_next tm_wsX1_next zgood (by decide +kernel)
set_option maxRecDepth 20000 in
theorem gX1_readOr_X1_next : GoodIn wsX1_readOr (wsV RX1 42 RX1 yX1_next wsX1_next) := goodIn_app (goodIn_m tw_wsX1_readOr tm_wsX1_readOr (iw := [107, 108, 109, 104]) rfl rfl zgood (by decide +kernel)) ggX1_readOr_X1_next
set_option maxRecDepth 20000 in
theorem tw_wsX3_write : wsX3_write = [251, 45, 100, 47, 55, 56, 57, 58, 59].map wTb.get := rfl
set_option maxRecDepth 20000 in
theorem tm_wsX3_write : zmk [251, 45, 100, 47, 55, 56, 57, 58, 59] = 3618502788666131106986593281521497120414687022068918226462395970373436833792 := by decide +kernel
set_option maxRecDepth 20000 in
theorem ggX1_readOr_X3_write : GoodIn wsX1_readOr wsX3_write := goodIn_m tw_wsX1_readOr tm_wsX1_readOr tw_wsX3_write tm_wsX3_write zgood (by decide +kernel)
set_option maxRecDepth 20000 in
theorem gX1_readOr_X3_write : GoodIn wsX1_readOr (wsV RX1 59 RX3 yX3_write wsX3_write) := goodIn_app (goodIn_m tw_wsX1_readOr tm_wsX1_readOr (iw := [248, 249, 250, 43]) rfl rfl zgood (by decide +kernel)) ggX1_readOr_X3_write
set_option maxRecDepth 20000 in
theorem tw_wsX1_readNot : wsX1_readNot = [256, 106, 93, 107, 108, 109, 104, 110, 92, 94, 111, 95, 112, 113, 114, 115, 116, 117, 118, 119, 120, 121, 122, 123, 124, 125, 126, 127, 128, 129, 130, 131, 132, 133, 134, 135, 136, 137, 138, 139, 140, 141, 142, 143, 144, 145, 146, 147, 148, 149, 150, 151, 152, 153, 154, 155, 156, 157, 158, 159, 160, 161, 162, 163, 164, 165, 166, 167, 168, 169, 170, 171, 172, 173, 174, 175, 176, 177, 178, 179, 180, 181, 182, 183, 184, 185, 186, 187, 188, 189, 190, 191, 192, 193, 194, 195, 196, 197, 38, 35, 39, 198, 34, 36, 199, 200, 201, 202, 203, 204, 205, 206, 207, 208, 209, 210, 211, 212, 213, 214, 215, 216, 217, 218, 219, 220, 221, 222, 223, 224, 225, 226, 227, 228, 229, 230, 231, 232, 233, 234, 235, 236, 237, 238, 239, 240, 253, 254, 255, 248, 249, 250, 43, 251, 45, 100, 47, 257, 258, 259, 252, 260, 261, 262, 263, 241, 242, 243, 244, 245, 246, 247, 264, 265, 266, 267, 268, 277, 278, 279, 280, 281, 282, 283, 55, 56, 57, 58, 59].map wTb.get := rfl
set_option maxRecDepth 20000 in
theorem tm_wsX1_readNot : zmk [256, 106, 93, 107, 108, 109, 104, 110, 92, 94, 111, 95, 112, 113, 114, 115, 116, 117, 118, 119, 120, 121, 122, 123, 124, 125, 126, 127, 128, 129, 130, 131, 132, 133, 134, 135, 136, 137, 138, 139, 140, 141, 142, 143, 144, 145, 146, 147, 148, 149, 150, 151, 152, 153, 154, 155, 156, 157, 158, 159, 160, 161, 162, 163, 164, 165, 166, 167, 168, 169, 170, 171, 172, 173, 174, 175, 176, 177, 178, 179, 180, 181, 182, 183, 184, 185, 186, 187, 188, 189, 190, 191, 192, 193, 194, 195, 196, 197, 38, 35, 39, 198, 34, 36, 199, 200, 201, 202, 203, 204, 205, 206, 207, 208, 209, 210, 211, 212, 213, 214, 215, 216, 217, 218, 219, 220, 221, 222, 223, 224, 225, 226, 227, 228, 229, 230, 231, 232, 233, 234, 235, 236, 237, 238, 239, 240, 253, 254, 255, 248, 249, 250, 43, 251, 45, 100, 47, 257, 258, 259, 252, 260, 261, 262, 263, 241, 242, 243, 244, 245, 246, 247, 264, 265, 266, 267, 268, 277, 278, 279, 280, 281, 282, 283, 55, 56, 57, 58, 59] = 30840817232878481095119367664332553814289342557667095767867831432764756376510026219520 := by decide +kernel
set_option maxRecDepth 20000 in
theorem ggX1_readAnd_X1_readNot : GoodIn wsX1_readAnd wsX1_readNot := goodIn_m tw_wsX1_readAnd tm_wsX1_readAnd tw_wsX1_readNot tm_wsX1_readNot zgood (by decide +kernel)
set_option maxRecDepth 20000 in
theorem gX1_readAnd_X1_readNot : GoodIn wsX1_readAnd (wsV RX1 62 RX1 yX1_readNot wsX1_readNot) := goodIn_app (goodIn_m tw_wsX1_readAnd tm_wsX1_readAnd (iw := [253, 254, 255, 104]) rfl rfl zgood (by decide +kernel)) ggX1_readAnd_X1_readNot
set_option maxRecDepth 20000 in
theorem ggX1_readAnd_X1_next : GoodIn wsX1_readAnd wsX1_next := goodIn_m tw_wsX1_readAnd tm_wsX1_readAnd tw_wsX1_next tm_wsX1_next zgood (by decide +kernel)
set_option maxRecDepth 20000 in
theorem gX1_readAnd_X1_next : GoodIn wsX1_readAnd (wsV RX1 42 RX1 yX1_next wsX1_next) := goodIn_app (goodIn_m tw_wsX1_readAnd tm_wsX1_readAnd (iw := [107, 108, 109, 104]) rfl rfl zgood (by decide +kernel)) ggX1_readAnd_X1_next
set_option maxRecDepth 20000 in
theorem ggX1_readAnd_X3_write : GoodIn wsX1_readAnd wsX3_write := goodIn_m tw_wsX1_readAnd tm_wsX1_readAnd tw_wsX3_write tm_wsX3_write zgood (by decide +kernel)
set_option maxRecDepth 20000 in
theorem gX1_readAnd_X3_write : GoodIn wsX1_readAnd (wsV RX1 59 RX3 yX3_write wsX3_write) := goodIn_app (goodIn_m tw_wsX1_readAnd tm_wsX1_readAnd (iw := [248, 249, 250, 43]) rfl rfl zgood (by decide +kernel)) ggX1_readAnd_X3_write
set_option maxRecDepth 20000 in
theorem ggX1_readNot_X1_next : GoodIn wsX1_readNot wsX1_next := goodIn_m tw_wsX1_readNot tm_wsX1_readNot tw_wsX1_next tm_wsX1_next zgood (by decide +kernel)
set_option maxRecDepth 20000 in
theorem gX1_readNot_X1_next : GoodIn wsX1_readNot (wsV RX1 42 RX1 yX1_next wsX1_next) := goodIn_app (goodIn_m tw_wsX1_readNot tm_wsX1_readNot (iw := [107, 108, 109, 104]) rfl rfl zgood (by decide +kernel)) ggX1_readNot_X1_next
set_option maxRecDepth 20000 in
theorem ggX1_readNot_X1_readNot : GoodIn wsX1_readNot wsX1_readNot := goodIn_m tw_wsX1_readNot tm_wsX1_readNot tw_wsX1_readNot tm_wsX1_readNot zgood (by decide +kernel)
set_option maxRecDepth 20000 in
theorem gX1_readNot_X1_readNot : GoodIn wsX1_readNot (wsV RX1 62 RX1 yX1_readNot wsX1_readNot) := goodIn_app (goodIn_m tw_wsX1_readNot tm_wsX1_readNot (iw := [253, 254, 255, 104]) rfl rfl zgood (by decide +kernel)) ggX1_readNot_X1_readNot
set_option maxRecDepth 20000 in
theorem ggX1_readNot_X3_write : GoodIn wsX1_readNot wsX3_write := goodIn_m tw_wsX1_readNot tm_wsX1_readNot tw_wsX3_write tm_wsX3_write zgood (by decide +kernel)
set_option maxRecDepth 20000 in
theorem gX1_readNot_X3_write : GoodIn wsX1_readNot (wsV RX1 59 RX3 yX3_write wsX3_write) := goodIn_app (goodIn_m tw_wsX1_readNot tm_wsX1_readNot (iw := [248, 249, 250, 43]) rfl rfl zgood (by decide +kernel)) ggX1_readNot_X3_write
set_option maxRecDepth 20000 in
theorem tw_wsX1_readSum : wsX1_readSum = [264, 106, 93, 265, 266, 267, 104, 107, 108, 109, 110, 92, 94, 111, 95, 112, 113, 114, 115, 116, 117, 118, 119, 120, 121, 122, 123, 124, 125, 126, 127, 128, 129, 130, 131, 132, 133, 134, 135, 136, 137, 138, 139, 140, 141, 142, 143, 144, 145, 146, 147, 148, 149, 150, 151, 152, 153, 154, 155, 156, 157, 158, 159, 160, 161, 162, 163, 164, 165, 166, 167, 168, 169, 170, 171, 172, 173, 174, 175, 176, 177, 178, 179, 180, 181, 182, 183, 184, 185, 186, 187, 188, 189, 190, 191, 192, 193, 194, 195, 196, 197, 38, 35, 39, 198, 34, 36, 199, 200, 201, 202, 203, 204, 205, 206, 207, 208, 209, 210, 211, 212, 213, 214, 215, 216, 217, 218, 219, 220, 221, 222, 223, 224, 225, 226, 227, 228, 229, 230, 231, 232, 233, 234, 235, 236, 237, 238, 239, 240, 248, 249, 250, 43, 251, 45, 100, 47, 252, 253, 254, 255, 256, 257, 258, 259, 260, 261, 262, 263, 241, 242, 243, 244, 245, 246, 247, 268, 277, 278, 279, 280, 281, 282, 283, 55, 56, 57, 58, 59].map wTb.get := rfl
set_option maxRecDepth 20000 in
theorem tm_wsX1_readSum : zmk [264, 106, 93, 265, 266, 267, 104, 107, 108, 109, 110, 92, 94, 111, 95, 112, 113, 114, 115, 116, 117, 118, 119, 120, 121, 122, 123, 124, 125, 126, 127, 128, 129, 130, 131, 132, 133, 134, 135, 136, 137, 138, 139, 140, 141, 142, 143, 144, 145, 146, 147, 148, 149, 150, 151, 152, 153, 154, 155, 156, 157, 158, 159, 160, 161, 162, 163, 164, 165, 166, 167, 168, 169, 170, 171, 172, 173, 174, 175, 176, 177, 178, 179, 180, 181, 182, 183, 184, 185, 186, 187, 188, 189, 190, 191, 192, 193, 194, 195, 196, 197, 38, 35, 39, 198, 34, 36, 199, 200, 201, 202, 203, 204, 205, 206, 207, 208, 209, 210, 211, 212, 213, 214, 215, 216, 217, 218, 219, 220, 221, 222, 223, 224, 225, 226, 227, 228, 229, 230, 231, 232, 233, 234, 235, 236, 237, 238, 239, 240, 248, 249, 250, 43, 251, 45, 100, 47, 252, 253, 254, 255, 256, 257, 258, 259, 260, 261, 262, 263, 241, 242, 243, 244, 245, 246, 247, 268, 277, 278, 279, 280, 281, 282, 283, 55, 56, 57, 58, 59] = 30840817232878481095119367664332553814289342557667095767867831432764756376510026219520 := by decide +kernel
set_option maxRecDepth 20000 in
theorem ggX1_readNot_X1_readSum : GoodIn wsX1_readNot wsX1_readSum := goodIn_m tw_wsX1_readNot tm_wsX1_readNot tw_wsX1_readSum tm_wsX1_readSum zgood (by decide +kernel)
set_option maxRecDepth 20000 in
theorem gX1_readNot_X1_readSum : GoodIn wsX1_readNot (wsV RX1 65 RX1 yX1_readSum wsX1_readSum) := goodIn_app (goodIn_m tw_wsX1_readNot tm_wsX1_readNot (iw := [257, 258, 259, 104]) rfl rfl zgood (by decide +kernel)) ggX1_readNot_X1_readSum
set_option maxRecDepth 20000 in
theorem tw_wsX1_readTerm : wsX1_readTerm = [268, 106, 93, 261, 262, 263, 104, 107, 108, 109, 110, 92, 94, 111, 95, 112, 113, 114, 115, 116, 117, 118, 119, 120, 121, 122, 123, 124, 125, 126, 127, 128, 129, 130, 131, 132, 133, 134, 135, 136, 137, 138, 139, 140, 141, 142, 143, 144, 145, 146, 147, 148, 149, 150, 151, 152, 153, 154, 155, 156, 157, 158, 159, 160, 161, 162, 163, 164, 165, 166, 167, 168, 169, 170, 171, 172, 173, 174, 175, 176, 177, 178, 179, 180, 181, 182, 183, 184, 185, 186, 187, 188, 189, 190, 191, 192, 193, 194, 195, 196, 197, 38, 35, 39, 198, 34, 36, 199, 200, 201, 202, 203, 204, 205, 206, 207, 208, 209, 210, 211, 212, 213, 214, 215, 216, 217, 218, 219, 220, 221, 222, 223, 224, 225, 226, 227, 228, 229, 230, 231, 232, 233, 234, 235, 236, 237, 238, 239, 240, 248, 249, 250, 43, 251, 45, 100, 47, 252, 253, 254, 255, 256, 257, 258, 259, 260, 241, 242, 243, 244, 245, 246, 247, 264, 265, 266, 267, 277, 278, 279, 280, 281, 282, 283, 55, 56, 57, 58, 59].map wTb.get := rfl
set_option maxRecDepth 20000 in
theorem tm_wsX1_readTerm : zmk [268, 106, 93, 261, 262, 263, 104, 107, 108, 109, 110, 92, 94, 111, 95, 112, 113, 114, 115, 116, 117, 118, 119, 120, 121, 122, 123, 124, 125, 126, 127, 128, 129, 130, 131, 132, 133, 134, 135, 136, 137, 138, 139, 140, 141, 142, 143, 144, 145, 146, 147, 148, 149, 150, 151, 152, 153, 154, 155, 156, 157, 158, 159, 160, 161, 162, 163, 164, 165, 166, 167, 168, 169, 170, 171, 172, 173, 174, 175, 176, 177, 178, 179, 180, 181, 182, 183, 184, 185, 186, 187, 188, 189, 190, 191, 192, 193, 194, 195, 196, 197, 38, 35, 39, 198, 34, 36, 199, 200, 201, 202, 203, 204, 205, 206, 207, 208, 209, 210, 211, 212, 213, 214, 215, 216, 217, 218, 219, 220, 221, 222, 223, 224, 225, 226, 227, 228, 229, 230, 231, 232, 233, 234, 235, 236, 237, 238, 239, 240, 248, 249, 250, 43, 251, 45, 100, 47, 252, 253, 254, 255, 256, 257, 258, 259, 260, 241, 242, 243, 244, 245, 246, 247, 264, 265, 266, 267, 277, 278, 279, 280, 281, 282, 283, 55, 56, 57, 58, 59] = 30840817232878481095119367664332553814289342557667095767867831432764756376510026219520 := by decide +kernel
set_option maxRecDepth 20000 in
theorem ggX1_readSum_X1_readTerm : GoodIn wsX1_readSum wsX1_readTerm := goodIn_m tw_wsX1_readSum tm_wsX1_readSum tw_wsX1_readTerm tm_wsX1_readTerm zgood (by decide +kernel)
set_option maxRecDepth 20000 in
theorem gX1_readSum_X1_readTerm : GoodIn wsX1_readSum (wsV RX1 68 RX1 yX1_readTerm wsX1_readTerm) := goodIn_app (goodIn_m tw_wsX1_readSum tm_wsX1_readSum (iw := [265, 266, 267, 104]) rfl rfl zgood (by decide +kernel)) ggX1_readSum_X1_readTerm
set_option maxRecDepth 20000 in
theorem ggX1_readSum_X1_next : GoodIn wsX1_readSum wsX1_next := goodIn_m tw_wsX1_readSum tm_wsX1_readSum tw_wsX1_next tm_wsX1_next zgood (by decide +kernel)
set_option maxRecDepth 20000 in
theorem gX1_readSum_X1_next : GoodIn wsX1_readSum (wsV RX1 42 RX1 yX1_next wsX1_next) := goodIn_app (goodIn_m tw_wsX1_readSum tm_wsX1_readSum (iw := [107, 108, 109, 104]) rfl rfl zgood (by decide +kernel)) ggX1_readSum_X1_next
set_option maxRecDepth 20000 in
theorem ggX1_readSum_X3_write : GoodIn wsX1_readSum wsX3_write := goodIn_m tw_wsX1_readSum tm_wsX1_readSum tw_wsX3_write tm_wsX3_write zgood (by decide +kernel)
set_option maxRecDepth 20000 in
theorem gX1_readSum_X3_write : GoodIn wsX1_readSum (wsV RX1 59 RX3 yX3_write wsX3_write) := goodIn_app (goodIn_m tw_wsX1_readSum tm_wsX1_readSum (iw := [248, 249, 250, 43]) rfl rfl zgood (by decide +kernel)) ggX1_readSum_X3_write
set_option maxRecDepth 20000 in
theorem tw_wsX1_readOne : wsX1_readOne = [260, 106, 93, 120, 248, 249, 250, 43, 251, 45, 100, 47, 107, 108, 109, 104, 110, 92, 94, 111, 95, 112, 113, 114, 115, 116, 117, 118, 119, 121, 122, 123, 124, 125, 126, 127, 128, 129, 130, 131, 132, 133, 134, 135, 136, 137, 138, 139, 140, 141, 142, 143, 144, 145, 146, 147, 148, 149, 150, 151, 152, 153, 154, 155, 156, 157, 158, 159, 160, 161, 162, 163, 164, 165, 166, 167, 168, 169, 170, 171, 172, 173, 174, 175, 176, 177, 178, 179, 180, 181, 182, 183, 184, 185, 186, 187, 188, 189, 190, 191, 192, 193, 194, 195, 196, 197, 38, 35, 39, 198, 34, 36, 199, 200, 201, 202, 203, 204, 205, 206, 207, 208, 209, 210, 211, 212, 213, 214, 215, 216, 217, 218, 219, 220, 221, 222, 223, 224, 225, 226, 227, 228, 229, 230, 231, 232, 233, 234, 235, 236, 237, 238, 239, 240, 261, 262, 263, 241, 242, 243, 252, 253, 254, 255, 256, 257, 258, 259, 244, 245, 246, 247, 264, 265, 266, 267, 268, 277, 278, 279, 280, 281, 282, 283, 55, 56, 57, 58, 59].map wTb.get := rfl
set_option maxRecDepth 20000 in
theorem tm_wsX1_readOne : zmk [260, 106, 93, 120, 248, 249, 250, 43, 251, 45, 100, 47, 107, 108, 109, 104, 110, 92, 94, 111, 95, 112, 113, 114, 115, 116, 117, 118, 119, 121, 122, 123, 124, 125, 126, 127, 128, 129, 130, 131, 132, 133, 134, 135, 136, 137, 138, 139, 140, 141, 142, 143, 144, 145, 146, 147, 148, 149, 150, 151, 152, 153, 154, 155, 156, 157, 158, 159, 160, 161, 162, 163, 164, 165, 166, 167, 168, 169, 170, 171, 172, 173, 174, 175, 176, 177, 178, 179, 180, 181, 182, 183, 184, 185, 186, 187, 188, 189, 190, 191, 192, 193, 194, 195, 196, 197, 38, 35, 39, 198, 34, 36, 199, 200, 201, 202, 203, 204, 205, 206, 207, 208, 209, 210, 211, 212, 213, 214, 215, 216, 217, 218, 219, 220, 221, 222, 223, 224, 225, 226, 227, 228, 229, 230, 231, 232, 233, 234, 235, 236, 237, 238, 239, 240, 261, 262, 263, 241, 242, 243, 252, 253, 254, 255, 256, 257, 258, 259, 244, 245, 246, 247, 264, 265, 266, 267, 268, 277, 278, 279, 280, 281, 282, 283, 55, 56, 57, 58, 59] = 30840817232878481095119367664332553814289342557667095767867831432764756376510026219520 := by decide +kernel
set_option maxRecDepth 20000 in
theorem ggX1_readTerm_X1_readOne : GoodIn wsX1_readTerm wsX1_readOne := goodIn_m tw_wsX1_readTerm tm_wsX1_readTerm tw_wsX1_readOne tm_wsX1_readOne zgood (by decide +kernel)
set_option maxRecDepth 20000 in
theorem gX1_readTerm_X1_readOne : GoodIn wsX1_readTerm (wsV RX1 71 RX1 yX1_readOne wsX1_readOne) := goodIn_app (goodIn_m tw_wsX1_readTerm tm_wsX1_readTerm (iw := [261, 262, 263, 104]) rfl rfl zgood (by decide +kernel)) ggX1_readTerm_X1_readOne
set_option maxRecDepth 20000 in
theorem ggX1_readTerm_X1_next : GoodIn wsX1_readTerm wsX1_next := goodIn_m tw_wsX1_readTerm tm_wsX1_readTerm tw_wsX1_next tm_wsX1_next zgood (by decide +kernel)
set_option maxRecDepth 20000 in
theorem gX1_readTerm_X1_next : GoodIn wsX1_readTerm (wsV RX1 42 RX1 yX1_next wsX1_next) := goodIn_app (goodIn_m tw_wsX1_readTerm tm_wsX1_readTerm (iw := [107, 108, 109, 104]) rfl rfl zgood (by decide +kernel)) ggX1_readTerm_X1_next
set_option maxRecDepth 20000 in
theorem ggX1_readTerm_X3_write : GoodIn wsX1_readTerm wsX3_write := goodIn_m tw_wsX1_readTerm tm_wsX1_readTerm tw_wsX3_write tm_wsX3_write zgood (by decide +kernel)
set_option maxRecDepth 20000 in
theorem gX1_readTerm_X3_write : GoodIn wsX1_readTerm (wsV RX1 59 RX3 yX3_write wsX3_write) := goodIn_app (goodIn_m tw_wsX1_readTerm tm_wsX1_readTerm (iw := [248, 249, 250, 43]) rfl rfl zgood (by decide +kernel)) ggX1_readTerm_X3_write
set_option maxRecDepth 20000 in
theorem ggX1_readOne_X3_write : GoodIn wsX1_readOne wsX3_write := goodIn_m tw_wsX1_readOne tm_wsX1_readOne tw_wsX3_write tm_wsX3_write zgood (by decide +kernel)
set_option maxRecDepth 20000 in
theorem gX1_readOne_X3_write : GoodIn wsX1_readOne (wsV RX1 59 RX3 yX3_write wsX3_write) := goodIn_app (goodIn_m tw_wsX1_readOne tm_wsX1_readOne (iw := [248, 249, 250, 43]) rfl rfl zgood (by decide +kernel)) ggX1_readOne_X3_write
set_option maxRecDepth 20000 in
theorem ggX1_readOne_X1_next : GoodIn wsX1_readOne wsX1_next := goodIn_m tw_wsX1_readOne tm_wsX1_readOne tw_wsX1_next tm_wsX1_next zgood (by decide +kernel)
set_option maxRecDepth 20000 in
theorem gX1_readOne_X1_next : GoodIn wsX1_readOne (wsV RX1 42 RX1 yX1_next wsX1_next) := goodIn_app (goodIn_m tw_wsX1_readOne tm_wsX1_readOne (iw := [107, 108, 109, 104]) rfl rfl zgood (by decide +kernel)) ggX1_readOne_X1_next
set_option maxRecDepth 20000 in
theorem ggX1_readOne_X1_readOne : GoodIn wsX1_readOne wsX1_readOne := goodIn_m tw_wsX1_readOne tm_wsX1_readOne tw_wsX1_readOne tm_wsX1_readOne zgood (by decide +kernel)
set_option maxRecDepth 20000 in
theorem gX1_readOne_X1_readOne : GoodIn wsX1_readOne (wsV RX1 71 RX1 yX1_readOne wsX1_readOne) := goodIn_app (goodIn_m tw_wsX1_readOne tm_wsX1_readOne (iw := [261, 262, 263, 104]) rfl rfl zgood (by decide +kernel)) ggX1_readOne_X1_readOne
set_option maxRecDepth 20000 in
theorem ggX1_readOne_X1_readOr : GoodIn wsX1_readOne wsX1_readOr := goodIn_m tw_wsX1_readOne tm_wsX1_readOne tw_wsX1_readOr tm_wsX1_readOr zgood (by decide +kernel)
set_option maxRecDepth 20000 in
theorem gX1_readOne_X1_readOr : GoodIn wsX1_readOne (wsV RX1 48 RX1 yX1_readOr wsX1_readOr) := goodIn_app (goodIn_m tw_wsX1_readOne tm_wsX1_readOne (iw := [241, 242, 243, 104]) rfl rfl zgood (by decide +kernel)) ggX1_readOne_X1_readOr
set_option maxRecDepth 20000 in
theorem tw_wsX1_isLetter : wsX1_isLetter = [115, 111, 277, 278, 279, 280, 281, 282, 283].map wTb.get := rfl
set_option maxRecDepth 20000 in
theorem tm_wsX1_isLetter : zmk [115, 111, 277, 278, 279, 280, 281, 282, 283] = 30839868664083449000846457770823362642948208569952759034395819550639948036851483279360 := by decide +kernel
set_option maxRecDepth 20000 in
theorem ggX1_next_X1_isLetter : GoodIn wsX1_next wsX1_isLetter := goodIn_m tw_wsX1_next tm_wsX1_next tw_wsX1_isLetter tm_wsX1_isLetter zgood (by decide +kernel)
set_option maxRecDepth 20000 in
theorem gX1_next_X1_isLetter : GoodIn wsX1_next (wsV RX1 77 RX1 yX1_isLetter wsX1_isLetter) := goodIn_app (goodIn_m tw_wsX1_next tm_wsX1_next (iw := [112, 113, 114, 104]) rfl rfl zgood (by decide +kernel)) ggX1_next_X1_isLetter
set_option maxRecDepth 20000 in
theorem tw_wsX1_nextWord : wsX1_nextWord = [119, 92, 94, 106, 120, 112, 113, 114, 104, 115, 111, 121, 122, 123, 124, 125, 126, 127, 95, 128, 129, 130, 131, 132, 133, 134, 135, 136, 137, 138, 139, 140, 141, 142, 143, 144, 145, 146, 147, 148, 149, 150, 151, 152, 153, 154, 155, 156, 157, 158, 159, 160, 161, 162, 163, 164, 165, 166, 167, 168, 169, 170, 171, 172, 173, 174, 175, 176, 277, 278, 279, 280, 281, 282, 283].map wTb.get := rfl
set_option maxRecDepth 20000 in
theorem tm_wsX1_nextWord : zmk [119, 92, 94, 106, 120, 112, 113, 114, 104, 115, 111, 121, 122, 123, 124, 125, 126, 127, 95, 128, 129, 130, 131, 132, 133, 134, 135, 136, 137, 138, 139, 140, 141, 142, 143, 144, 145, 146, 147, 148, 149, 150, 151, 152, 153, 154, 155, 156, 157, 158, 159, 160, 161, 162, 163, 164, 165, 166, 167, 168, 169, 170, 171, 172, 173, 174, 175, 176, 277, 278, 279, 280, 281, 282, 283] = 30839868664083449000846457770823554204890816806059425661330751525446040083216931487744 := by decide +kernel
set_option maxRecDepth 20000 in
theorem ggX1_next_X1_nextWord : GoodIn wsX1_next wsX1_nextWord := goodIn_m tw_wsX1_next tm_wsX1_next tw_wsX1_nextWord tm_wsX1_nextWord zgood (by decide +kernel)
set_option maxRecDepth 20000 in
theorem gX1_next_X1_nextWord : GoodIn wsX1_next (wsV RX1 80 RX1 yX1_nextWord wsX1_nextWord) := goodIn_app (goodIn_m tw_wsX1_next tm_wsX1_next (iw := [116, 117, 118, 104]) rfl rfl zgood (by decide +kernel)) ggX1_next_X1_nextWord
set_option maxRecDepth 20000 in
theorem tw_wsX1_isDigit : wsX1_isDigit = [180, 111, 277, 278, 279, 280, 281, 282, 283].map wTb.get := rfl
set_option maxRecDepth 20000 in
theorem tm_wsX1_isDigit : zmk [180, 111, 277, 278, 279, 280, 281, 282, 283] = 30839868664083449000846457770824895138489074458811075843048101581202538532003033120768 := by decide +kernel
set_option maxRecDepth 20000 in
theorem ggX1_next_X1_isDigit : GoodIn wsX1_next wsX1_isDigit := goodIn_m tw_wsX1_next tm_wsX1_next tw_wsX1_isDigit tm_wsX1_isDigit zgood (by decide +kernel)
set_option maxRecDepth 20000 in
theorem gX1_next_X1_isDigit : GoodIn wsX1_next (wsV RX1 83 RX1 yX1_isDigit wsX1_isDigit) := goodIn_app (goodIn_m tw_wsX1_next tm_wsX1_next (iw := [177, 178, 179, 104]) rfl rfl zgood (by decide +kernel)) ggX1_next_X1_isDigit
set_option maxRecDepth 20000 in
theorem tw_wsX1_nextNumber : wsX1_nextNumber = [184, 120, 92, 94, 111, 95, 106, 177, 178, 179, 104, 180, 277, 278, 279, 280, 281, 282, 283].map wTb.get := rfl
set_option maxRecDepth 20000 in
theorem tm_wsX1_nextNumber : zmk [184, 120, 92, 94, 111, 95, 106, 177, 178, 179, 104, 180, 277, 278, 279, 280, 281, 282, 283] = 30839868664083449000846457770850756000741186333297202278603468864850200455781172641792 := by decide +kernel
set_option maxRecDepth 20000 in
theorem ggX1_next_X1_nextNumber : GoodIn wsX1_next wsX1_nextNumber := goodIn_m tw_wsX1_next tm_wsX1_next tw_wsX1_nextNumber tm_wsX1_nextNumber zgood (by decide +kernel)
set_option maxRecDepth 20000 in
theorem gX1_next_X1_nextNumber : GoodIn wsX1_next (wsV RX1 86 RX1 yX1_nextNumber wsX1_nextNumber) := goodIn_app (goodIn_m tw_wsX1_next tm_wsX1_next (iw := [181, 182, 183, 104]) rfl rfl zgood (by decide +kernel)) ggX1_next_X1_nextNumber
set_option maxRecDepth 20000 in
theorem tw_wsJ0_indexOf_0f7a4 : wsJ0_indexOf_0f7a4 = [188, 189, 190, 191, 131, 192, 133, 144, 145, 146, 147, 138, 139, 193, 129, 130, 132, 134, 135, 136, 137, 194, 195, 150, 196, 197, 38, 35, 39, 198, 34, 36, 199, 200, 201, 202, 203, 204, 205, 206, 162, 207, 208, 209, 210, 211, 212, 213, 214, 215, 216, 167, 168, 169, 217, 218, 219, 155, 220, 221, 158, 222, 223, 224, 225, 171, 172, 173, 174, 175, 176, 226, 227, 228, 229, 230, 231, 232, 233, 234, 235, 236, 237, 238, 239, 240].map wTb.get := rfl
set_option maxRecDepth 20000 in
theorem tm_wsJ0_indexOf_0f7a4 : zmk [188, 189, 190, 191, 131, 192, 133, 144, 145, 146, 147, 138, 139, 193, 129, 130, 132, 134, 135, 136, 137, 194, 195, 150, 196, 197, 38, 35, 39, 198, 34, 36, 199, 200, 201, 202, 203, 204, 205, 206, 162, 207, 208, 209, 210, 211, 212, 213, 214, 215, 216, 167, 168, 169, 217, 218, 219, 155, 220, 221, 158, 222, 223, 224, 225, 171, 172, 173, 174, 175, 176, 226, 227, 228, 229, 230, 231, 232, 233, 234, 235, 236, 237, 238, 239, 240] = 3533694129556768267037621091357357008673363686515017265528420944450682880 := by decide +kernel
set_option maxRecDepth 20000 in
theorem ggX1_next_J0_indexOf_0f7a4 : GoodIn wsX1_next wsJ0_indexOf_0f7a4 := goodIn_m tw_wsX1_next tm_wsX1_next tw_wsJ0_indexOf_0f7a4 tm_wsJ0_indexOf_0f7a4 zgood (by decide +kernel)
set_option maxRecDepth 20000 in
theorem gX1_next_J0_indexOf_0f7a4 : GoodIn wsX1_next (wsV RX1 91 RJ0 yJ0_indexOf_0f7a4 wsJ0_indexOf_0f7a4) := goodIn_app (goodIn_m tw_wsX1_next tm_wsX1_next (iw := [185, 186, 187, 131]) rfl rfl zgood (by decide +kernel)) ggX1_next_J0_indexOf_0f7a4
set_option maxRecDepth 20000 in
theorem ggX1_nextWord_X1_isLetter : GoodIn wsX1_nextWord wsX1_isLetter := goodIn_m tw_wsX1_nextWord tm_wsX1_nextWord tw_wsX1_isLetter tm_wsX1_isLetter zgood (by decide +kernel)
set_option maxRecDepth 20000 in
theorem gX1_nextWord_X1_isLetter : GoodIn wsX1_nextWord (wsV RX1 77 RX1 yX1_isLetter wsX1_isLetter) := goodIn_app (goodIn_m tw_wsX1_nextWord tm_wsX1_nextWord (iw := [112, 113, 114, 104]) rfl rfl zgood (by decide +kernel)) ggX1_nextWord_X1_isLetter
set_option maxRecDepth 20000 in
theorem tw_wsX1_word : wsX1_word = [123].map wTb.get := rfl
set_option maxRecDepth 20000 in
theorem tm_wsX1_word : zmk [123] = 10633823966279326983230456482242756608 := by decide +kernel
set_option maxRecDepth 20000 in
theorem ggX1_nextWord_X1_word : GoodIn wsX1_nextWord wsX1_word := goodIn_m tw_wsX1_nextWord tm_wsX1_nextWord tw_wsX1_word tm_wsX1_word zgood (by decide +kernel)
set_option maxRecDepth 20000 in
theorem gX1_nextWord_X1_word : GoodIn wsX1_nextWord (va_wsS RX1 97 yX1_word wsX1_word) := goodIn_app (goodIn_m tw_wsX1_nextWord tm_wsX1_nextWord (iw := [121, 122, 104]) rfl rfl zgood (by decide +kernel)) ggX1_nextWord_X1_word
set_option maxRecDepth 20000 in
theorem tw_wsX1_isSpelled : wsX1_isSpelled = [127, 92, 95, 111, 128, 129, 130, 131, 132, 133, 134, 135, 136, 137, 138, 139, 140, 141, 142, 143, 144, 145, 146, 147, 148, 149, 150, 151, 152, 153, 154, 155, 156, 157, 158, 159, 160, 161, 162, 163, 164, 165, 166, 167, 168, 169, 170, 171, 172, 173, 174, 175, 176, 277, 278, 279, 280, 281, 282, 283].map wTb.get := rfl
set_option maxRecDepth 20000 in
theorem tm_wsX1_isSpelled : zmk [127, 92, 95, 111, 128, 129, 130, 131, 132, 133, 134, 135, 136, 137, 138, 139, 140, 141, 142, 143, 144, 145, 146, 147, 148, 149, 150, 151, 152, 153, 154, 155, 156, 157, 158, 159, 160, 161, 162, 163, 164, 165, 166, 167, 168, 169, 170, 171, 172, 173, 174, 175, 176, 277, 278, 279, 280, 281, 282, 283] = 30839868664083449000846457770823554204890816805889871105983441670349458521451606835200 := by decide +kernel
set_option maxRecDepth 20000 in
theorem ggX1_nextWord_X1_isSpelled : GoodIn wsX1_nextWord wsX1_isSpelled := goodIn_m tw_wsX1_nextWord tm_wsX1_nextWord tw_wsX1_isSpelled tm_wsX1_isSpelled zgood (by decide +kernel)
set_option maxRecDepth 20000 in
theorem gX1_nextWord_X1_isSpelled : GoodIn wsX1_nextWord (wsV RX1 101 RX1 yX1_isSpelled wsX1_isSpelled) := goodIn_app (goodIn_m tw_wsX1_nextWord tm_wsX1_nextWord (iw := [124, 125, 126, 104]) rfl rfl zgood (by decide +kernel)) ggX1_nextWord_X1_isSpelled
set_option maxRecDepth 20000 in
theorem ggX1_nextNumber_X1_isDigit : GoodIn wsX1_nextNumber wsX1_isDigit := goodIn_m tw_wsX1_nextNumber tm_wsX1_nextNumber tw_wsX1_isDigit tm_wsX1_isDigit zgood (by decide +kernel)
set_option maxRecDepth 20000 in
theorem gX1_nextNumber_X1_isDigit : GoodIn wsX1_nextNumber (wsV RX1 83 RX1 yX1_isDigit wsX1_isDigit) := goodIn_app (goodIn_m tw_wsX1_nextNumber tm_wsX1_nextNumber (iw := [177, 178, 179, 104]) rfl rfl zgood (by decide +kernel)) ggX1_nextNumber_X1_isDigit
set_option maxRecDepth 20000 in
theorem tw_wsJ0_length_8abf5 : wsJ0_length_8abf5 = [132, 133, 134, 135, 136, 131, 137, 138, 139].map wTb.get := rfl
set_option maxRecDepth 20000 in
theorem tm_wsJ0_length_8abf5 : zmk [132, 133, 134, 135, 136, 131, 137, 138, 139] = 1391074315972796438638275395181068448432128 := by decide +kernel
set_option maxRecDepth 20000 in
theorem ggX1_isSpelled_J0_length_8abf5 : GoodIn wsX1_isSpelled wsJ0_length_8abf5 := goodIn_m tw_wsX1_isSpelled tm_wsX1_isSpelled tw_wsJ0_length_8abf5 tm_wsJ0_length_8abf5 zgood (by decide +kernel)
set_option maxRecDepth 20000 in
theorem gX1_isSpelled_J0_length_8abf5 : GoodIn wsX1_isSpelled (wsV RX1 105 RJ0 yJ0_length_8abf5 wsJ0_length_8abf5) := goodIn_app (goodIn_m tw_wsX1_isSpelled tm_wsX1_isSpelled (iw := [128, 129, 130, 131]) rfl rfl zgood (by decide +kernel)) ggX1_isSpelled_J0_length_8abf5
set_option maxRecDepth 20000 in
theorem tw_wsJ0_charAt_5068e : wsJ0_charAt_5068e = [143, 133, 144, 145, 146, 131, 147, 138, 139, 148, 149, 150, 151, 152, 153, 154, 155, 156, 157, 158, 159, 160, 161, 162, 163, 164, 165, 166, 167, 168, 169, 170, 171, 172, 173, 174, 175, 176].map wTb.get := rfl
set_option maxRecDepth 20000 in
theorem tm_wsJ0_charAt_5068e : zmk [143, 133, 144, 145, 146, 131, 147, 138, 139, 148, 149, 150, 151, 152, 153, 154, 155, 156, 157, 158, 159, 160, 161, 162, 163, 164, 165, 166, 167, 168, 169, 170, 171, 172, 173, 174, 175, 176] = 191561942598144693421386027321318810594345872194011136 := by decide +kernel
set_option maxRecDepth 20000 in
theorem ggX1_isSpelled_J0_charAt_5068e : GoodIn wsX1_isSpelled wsJ0_charAt_5068e := goodIn_m tw_wsX1_isSpelled tm_wsX1_isSpelled tw_wsJ0_charAt_5068e tm_wsJ0_charAt_5068e zgood (by decide +kernel)
set_option maxRecDepth 20000 in
theorem gX1_isSpelled_J0_charAt_5068e : GoodIn wsX1_isSpelled (wsV RX1 107 RJ0 yJ0_charAt_5068e wsJ0_charAt_5068e) := goodIn_app (goodIn_m tw_wsX1_isSpelled tm_wsX1_isSpelled (iw := [140, 141, 142, 131]) rfl rfl zgood (by decide +kernel)) ggX1_isSpelled_J0_charAt_5068e
set_option maxRecDepth 20000 in
theorem tw_wsX2_init : wsX2_init = [284, 285, 286, 287, 288, 289, 290, 291, 292, 293, 294, 295, 296, 297, 298, 299].map wTb.get := rfl
set_option maxRecDepth 20000 in
theorem tm_wsX2_init : zmk [284, 285, 286, 287, 288, 289, 290, 291, 292, 293, 294, 295, 296, 297, 298, 299] = 2037004893632210474603310977018868984748962115156511416403800420355825477294773422847426560 := by decide +kernel
set_option maxRecDepth 20000 in
theorem tw_wsJ7_fill_53178 : wsJ7_fill_53178 = [296].map wTb.get := rfl
set_option maxRecDepth 20000 in
theorem tm_wsJ7_fill_53178 : zmk [296] = 127314748520905380391777855525586135065716774604121015664758778084648831235208544136462336 := by decide +kernel
set_option maxRecDepth 20000 in
theorem ggX2_init_J7_fill_53178 : GoodIn wsX2_init wsJ7_fill_53178 := goodIn_m tw_wsX2_init tm_wsX2_init tw_wsJ7_fill_53178 tm_wsJ7_fill_53178 zgood (by decide +kernel)
set_option maxRecDepth 20000 in
theorem gX2_init_J7_fill_53178 : GoodIn wsX2_init (va_wsS RX2 23 yJ7_fill_53178 wsJ7_fill_53178) := goodIn_app (goodIn_m tw_wsX2_init tm_wsX2_init (iw := [293, 294, 295]) rfl rfl zgood (by decide +kernel)) ggX2_init_J7_fill_53178
set_option maxRecDepth 20000 in
theorem tw_wsX2_isSheet : wsX2_isSheet = [300, 301, 302, 303].map wTb.get := rfl
set_option maxRecDepth 20000 in
theorem tm_wsX2_isSheet : zmk [300, 301, 302, 303] = 30555539645017291294026685326140672415772025904989043759542106740315719496450050592750960640 := by decide +kernel
set_option maxRecDepth 20000 in
theorem tw_wsX5_within : wsX5_within = [303].map wTb.get := rfl
set_option maxRecDepth 20000 in
theorem tm_wsX5_within : zmk [303] = 16296287810675888690147565507275025288411747149327490005089123594835050398106693649467179008 := by decide +kernel
set_option maxRecDepth 20000 in
theorem ggX2_isSheet_X5_within : GoodIn wsX2_isSheet wsX5_within := goodIn_m tw_wsX2_isSheet tm_wsX2_isSheet tw_wsX5_within tm_wsX5_within zgood (by decide +kernel)
set_option maxRecDepth 20000 in
theorem gX2_isSheet_X5_within_n29 : GoodIn wsX2_isSheet (wsX5_within) := ggX2_isSheet_X5_within
set_option maxRecDepth 20000 in
theorem tw_wsX2_become : wsX2_become = [304, 291, 292, 290, 293, 294, 295, 296, 297, 298, 299].map wTb.get := rfl
set_option maxRecDepth 20000 in
theorem tm_wsX2_become : zmk [304, 291, 292, 290, 293, 294, 295, 296, 297, 298, 299] = 34627622304740624319994955173966841454514560867717726869944625783116909457988673871615623168 := by decide +kernel
set_option maxRecDepth 20000 in
theorem ggX2_become_J7_fill_53178 : GoodIn wsX2_become wsJ7_fill_53178 := goodIn_m tw_wsX2_become tm_wsX2_become tw_wsJ7_fill_53178 tm_wsJ7_fill_53178 zgood (by decide +kernel)
set_option maxRecDepth 20000 in
theorem gX2_become_J7_fill_53178 : GoodIn wsX2_become (va_wsS RX2 23 yJ7_fill_53178 wsJ7_fill_53178) := goodIn_app (goodIn_m tw_wsX2_become tm_wsX2_become (iw := [293, 294, 295]) rfl rfl zgood (by decide +kernel)) ggX2_become_J7_fill_53178
set_option maxRecDepth 20000 in
theorem tw_wsX3_one : wsX3_one = [51].map wTb.get := rfl
set_option maxRecDepth 20000 in
theorem tm_wsX3_one : zmk [51] = 2251799813685248 := by decide +kernel
set_option maxRecDepth 20000 in
theorem ggX3_value_X3_one : GoodIn wsX3_value wsX3_one := goodIn_m tw_wsX3_value tm_wsX3_value tw_wsX3_one tm_wsX3_one zgood (by decide +kernel)
set_option maxRecDepth 20000 in
theorem gX3_value_X3_one : GoodIn wsX3_value (va_wsS RX3 32 yX3_one wsX3_one) := goodIn_app (goodIn_m tw_wsX3_value tm_wsX3_value (iw := [49, 50, 43]) rfl rfl zgood (by decide +kernel)) ggX3_value_X3_one
set_option maxRecDepth 20000 in
theorem tw_wsX3_two : wsX3_two = [54].map wTb.get := rfl
set_option maxRecDepth 20000 in
theorem tm_wsX3_two : zmk [54] = 18014398509481984 := by decide +kernel
set_option maxRecDepth 20000 in
theorem ggX3_value_X3_two : GoodIn wsX3_value wsX3_two := goodIn_m tw_wsX3_value tm_wsX3_value tw_wsX3_two tm_wsX3_two zgood (by decide +kernel)
set_option maxRecDepth 20000 in
theorem gX3_value_X3_two : GoodIn wsX3_value (va_wsS RX3 36 yX3_two wsX3_two) := goodIn_app (goodIn_m tw_wsX3_value tm_wsX3_value (iw := [52, 53, 43]) rfl rfl zgood (by decide +kernel)) ggX3_value_X3_two
set_option maxRecDepth 20000 in
theorem tw_wsX4_solve : wsX4_solve = [305, 306, 307, 308, 309, 310, 311, 312, 313, 314, 315, 316].map wTb.get := rfl
set_option maxRecDepth 20000 in
theorem tm_wsX4_solve : zmk [305, 306, 307, 308, 309, 310, 311, 312, 313, 314, 315, 316] = 266933194338871056744617123009164914224184418305984286283359844483398125520987641978272392151040 := by decide +kernel
set_option maxRecDepth 20000 in
theorem tw_wsJ6_bitCount_0f7a4 : wsJ6_bitCount_0f7a4 = [311, 312, 313, 314].map wTb.get := rfl
set_option maxRecDepth 20000 in
theorem tm_wsJ6_bitCount_0f7a4 : zmk [311, 312, 313, 314] = 62577745192995412570166651547936097107501109053417561619542234604166593528729703613953967390720 := by decide +kernel
set_option maxRecDepth 20000 in
theorem ggX4_solve_J6_bitCount_0f7a4 : GoodIn wsX4_solve wsJ6_bitCount_0f7a4 := goodIn_m tw_wsX4_solve tm_wsX4_solve tw_wsJ6_bitCount_0f7a4 tm_wsJ6_bitCount_0f7a4 zgood (by decide +kernel)
set_option maxRecDepth 20000 in
theorem gX4_solve_J6_bitCount_0f7a4 : GoodIn wsX4_solve (va_wsS RX4 20 yJ6_bitCount_0f7a4 wsJ6_bitCount_0f7a4) := goodIn_app (goodIn_m tw_wsX4_solve tm_wsX4_solve (iw := [308, 309, 310]) rfl rfl zgood (by decide +kernel)) ggX4_solve_J6_bitCount_0f7a4
set_option maxRecDepth 20000 in
theorem tw_wsX4_chosen : wsX4_chosen = [317, 307, 306, 308, 309, 310, 311, 312, 313, 314, 315, 316].map wTb.get := rfl
set_option maxRecDepth 20000 in
theorem tm_wsX4_chosen : zmk [317, 307, 306, 308, 309, 310, 311, 312, 313, 314, 315, 316] = 533866388677742113489234246018329828448368836611968572566719688966796251041975283956544784302080 := by decide +kernel
set_option maxRecDepth 20000 in
theorem ggX4_chosen_J6_bitCount_0f7a4 : GoodIn wsX4_chosen wsJ6_bitCount_0f7a4 := goodIn_m tw_wsX4_chosen tm_wsX4_chosen tw_wsJ6_bitCount_0f7a4 tm_wsJ6_bitCount_0f7a4 zgood (by decide +kernel)
set_option maxRecDepth 20000 in
theorem gX4_chosen_J6_bitCount_0f7a4 : GoodIn wsX4_chosen (va_wsS RX4 20 yJ6_bitCount_0f7a4 wsJ6_bitCount_0f7a4) := goodIn_app (goodIn_m tw_wsX4_chosen tm_wsX4_chosen (iw := [308, 309, 310]) rfl rfl zgood (by decide +kernel)) ggX4_chosen_J6_bitCount_0f7a4
set_option maxRecDepth 20000 in
theorem tw_wsX4_digits : wsX4_digits = [318, 319, 320, 321, 322, 317, 307, 306, 308, 309, 310, 311, 312, 313, 314, 315, 316].map wTb.get := rfl
set_option maxRecDepth 20000 in
theorem tm_wsX4_digits : zmk [318, 319, 320, 321, 322, 317, 307, 306, 308, 309, 310, 311, 312, 313, 314, 315, 316] = 17087765917064795252050652468832358716619328884876027539656292149588999125841939546634500958060544 := by decide +kernel
set_option maxRecDepth 20000 in
theorem ggX4_digits_X4_chosen : GoodIn wsX4_digits wsX4_chosen := goodIn_m tw_wsX4_digits tm_wsX4_digits tw_wsX4_chosen tm_wsX4_chosen zgood (by decide +kernel)
set_option maxRecDepth 20000 in
theorem gX4_digits_X4_chosen : GoodIn wsX4_digits (wsV RX4 26 RX4 yX4_chosen wsX4_chosen) := goodIn_app (goodIn_m tw_wsX4_digits tm_wsX4_digits (iw := [319, 320, 321, 322]) rfl rfl zgood (by decide +kernel)) ggX4_digits_X4_chosen
set_option maxRecDepth 20000 in
theorem tw_wsX5_init : wsX5_init = [323, 324, 286, 287, 325, 326, 43, 327, 328, 329, 104, 330, 331, 332, 4, 333, 334, 335, 336, 337, 338, 339, 340, 341, 322, 342, 343, 344, 345, 346, 289, 47, 46, 48, 347, 348, 349, 350, 111, 93, 351, 352, 353, 354, 25, 28, 29, 61, 67, 30, 26, 27, 31, 355, 356, 284, 285, 288, 290, 291, 292, 293, 294, 295, 296, 357, 358, 359, 360, 307, 306, 361, 129, 130, 131, 132, 133, 134, 135, 136, 137, 138, 139, 362, 141, 142, 143, 144, 145, 146, 147, 148, 149, 150, 151, 152, 153, 154, 155, 156, 157, 158, 159, 160, 161, 162, 163, 164, 165, 166, 167, 168, 169, 170, 171, 172, 173, 174, 175, 176, 363, 364, 365, 366, 94, 367, 368, 369, 91, 92, 95, 96, 97, 98, 99, 100, 101, 102, 103, 105, 106, 107, 108, 109, 110, 112, 113, 114, 115, 116, 117, 118, 119, 120, 121, 122, 123, 124, 125, 126, 127, 128, 140, 177, 178, 179, 180, 181, 182, 183, 184, 185, 186, 187, 188, 189, 190, 191, 192, 193, 194, 195, 196, 197, 38, 35, 39, 198, 34, 36, 199, 200, 201, 202, 203, 204, 205, 206, 207, 208, 209, 210, 211, 212, 213, 214, 215, 216, 217, 218, 219, 220, 221, 222, 223, 224, 225, 226, 227, 228, 229, 230, 231, 232, 233, 234, 235, 236, 237, 238, 239, 240, 241, 242, 243, 244, 245, 246, 247, 248, 249, 250, 251, 45, 252, 253, 254, 255, 256, 257, 258, 259, 260, 261, 262, 263, 264, 265, 266, 267, 268, 269, 270, 271, 272, 273, 274, 275, 276, 55, 56, 57, 58, 59, 370, 371, 372, 373, 374, 375, 376, 377, 277, 278, 279, 280, 281, 282, 283, 12, 13, 14, 15, 16, 17, 18, 19, 20, 21, 22, 23, 297, 298, 299, 315, 316].map wTb.get := rfl
set_option maxRecDepth 20000 in
theorem tm_wsX5_init : zmk [323, 324, 286, 287, 325, 326, 43, 327, 328, 329, 104, 330, 331, 332, 4, 333, 334, 335, 336, 337, 338, 339, 340, 341, 322, 342, 343, 344, 345, 346, 289, 47, 46, 48, 347, 348, 349, 350, 111, 93, 351, 352, 353, 354, 25, 28, 29, 61, 67, 30, 26, 27, 31, 355, 356, 284, 285, 288, 290, 291, 292, 293, 294, 295, 296, 357, 358, 359, 360, 307, 306, 361, 129, 130, 131, 132, 133, 134, 135, 136, 137, 138, 139, 362, 141, 142, 143, 144, 145, 146, 147, 148, 149, 150, 151, 152, 153, 154, 155, 156, 157, 158, 159, 160, 161, 162, 163, 164, 165, 166, 167, 168, 169, 170, 171, 172, 173, 174, 175, 176, 363, 364, 365, 366, 94, 367, 368, 369, 91, 92, 95, 96, 97, 98, 99, 100, 101, 102, 103, 105, 106, 107, 108, 109, 110, 112, 113, 114, 115, 116, 117, 118, 119, 120, 121, 122, 123, 124, 125, 126, 127, 128, 140, 177, 178, 179, 180, 181, 182, 183, 184, 185, 186, 187, 188, 189, 190, 191, 192, 193, 194, 195, 196, 197, 38, 35, 39, 198, 34, 36, 199, 200, 201, 202, 203, 204, 205, 206, 207, 208, 209, 210, 211, 212, 213, 214, 215, 216, 217, 218, 219, 220, 221, 222, 223, 224, 225, 226, 227, 228, 229, 230, 231, 232, 233, 234, 235, 236, 237, 238, 239, 240, 241, 242, 243, 244, 245, 246, 247, 248, 249, 250, 251, 45, 252, 253, 254, 255, 256, 257, 258, 259, 260, 261, 262, 263, 264, 265, 266, 267, 268, 269, 270, 271, 272, 273, 274, 275, 276, 55, 56, 57, 58, 59, 370, 371, 372, 373, 374, 375, 376, 377, 277, 278, 279, 280, 281, 282, 283, 12, 13, 14, 15, 16, 17, 18, 19, 20, 21, 22, 23, 297, 298, 299, 315, 316] = 615656346818663729348553790442121512163467196394072666504960477385642045770385410354525026112876408809968831033360 := by decide +kernel
set_option maxRecDepth 20000 in
theorem tw_wsX3_init : wsX3_init = [344, 345, 286, 287, 346, 289, 47, 46, 48, 55, 56, 57, 58, 59].map wTb.get := rfl
set_option maxRecDepth 20000 in
theorem tm_wsX3_init : zmk [344, 345, 286, 287, 346, 289, 47, 46, 48, 55, 56, 57, 58, 59] = 250851411123914072950072435550579025076925478094038058185053194000650912533453962338848013416175576809472 := by decide +kernel
set_option maxRecDepth 20000 in
theorem ggX5_init_X3_init : GoodIn wsX5_init wsX3_init := goodIn_m tw_wsX5_init tm_wsX5_init tw_wsX3_init tm_wsX3_init zgood (by decide +kernel)
set_option maxRecDepth 20000 in
theorem gX5_init_X3_init_n9 : GoodIn wsX5_init (wsX3_init) := ggX5_init_X3_init
set_option maxRecDepth 20000 in
theorem tw_wsX1_init : wsX1_init = [349, 350, 286, 287, 289, 111, 93, 277, 278, 279, 280, 281, 282, 283].map wTb.get := rfl
set_option maxRecDepth 20000 in
theorem tm_wsX1_init : zmk [349, 350, 286, 287, 289, 111, 93, 277, 278, 279, 280, 281, 282, 283] = 3440247923985107268814710111744127126122995123927002358525585882343043254590034003353549649284735355060224 := by decide +kernel
set_option maxRecDepth 20000 in
theorem ggX5_init_X1_init : GoodIn wsX5_init wsX1_init := goodIn_m tw_wsX5_init tm_wsX5_init tw_wsX1_init tm_wsX1_init zgood (by decide +kernel)
set_option maxRecDepth 20000 in
theorem gX5_init_X1_init : GoodIn wsX5_init (wsX1_init) := ggX5_init_X1_init
set_option maxRecDepth 20000 in
theorem tw_wsX0_init : wsX0_init = [353, 354, 286, 287, 289, 25, 28, 29, 61, 67, 30, 26, 27, 31, 12, 13, 14, 15, 16, 17, 18, 19, 20, 21, 22, 23].map wTb.get := rfl
set_option maxRecDepth 20000 in
theorem tm_wsX0_init : zmk [353, 354, 286, 287, 289, 25, 28, 29, 61, 67, 30, 26, 27, 31, 12, 13, 14, 15, 16, 17, 18, 19, 20, 21, 22, 23] = 55043966783761716280027340387376999845044860922442504279978386559978855249084911330136783771223086428319744 := by decide +kernel
set_option maxRecDepth 20000 in
theorem ggX5_init_X0_init : GoodIn wsX5_init wsX0_init := goodIn_m tw_wsX5_init tm_wsX5_init tw_wsX0_init tm_wsX0_init zgood (by decide +kernel)
set_option maxRecDepth 20000 in
theorem gX5_init_X0_init : GoodIn wsX5_init (wsX0_init) := ggX5_init_X0_init
set_option maxRecDepth 20000 in
theorem ggX5_init_X2_init : GoodIn wsX5_init wsX2_init := goodIn_m tw_wsX5_init tm_wsX5_init tw_wsX2_init tm_wsX2_init zgood (by decide +kernel)
set_option maxRecDepth 20000 in
theorem gX5_init_X2_init : GoodIn wsX5_init (wsX2_init) := ggX5_init_X2_init
set_option maxRecDepth 20000 in
theorem tw_wsX4_init : wsX4_init = [358, 359, 286, 287, 360, 289, 307, 306, 315, 316].map wTb.get := rfl
set_option maxRecDepth 20000 in
theorem tm_wsX4_init : zmk [358, 359, 286, 287, 360, 289, 307, 306, 315, 316] = 4109949519854408788703483724823019807999897331883314456478937974653001157463225661138430925402341936996548608 := by decide +kernel
set_option maxRecDepth 20000 in
theorem ggX5_init_X4_init : GoodIn wsX5_init wsX4_init := goodIn_m tw_wsX5_init tm_wsX5_init tw_wsX4_init tm_wsX4_init zgood (by decide +kernel)
set_option maxRecDepth 20000 in
theorem gX5_init_X4_init_n47 : GoodIn wsX5_init (wsX4_init) := ggX5_init_X4_init
set_option maxRecDepth 20000 in
theorem ggX5_init_J0_length_8abf5 : GoodIn wsX5_init wsJ0_length_8abf5 := goodIn_m tw_wsX5_init tm_wsX5_init tw_wsJ0_length_8abf5 tm_wsJ0_length_8abf5 zgood (by decide +kernel)
set_option maxRecDepth 20000 in
theorem gX5_init_J0_length_8abf5 : GoodIn wsX5_init (wsV RX5 54 RJ0 yJ0_length_8abf5 wsJ0_length_8abf5) := goodIn_app (goodIn_m tw_wsX5_init tm_wsX5_init (iw := [361, 129, 130, 131]) rfl rfl zgood (by decide +kernel)) ggX5_init_J0_length_8abf5
set_option maxRecDepth 20000 in
theorem ggX5_init_J0_charAt_5068e : GoodIn wsX5_init wsJ0_charAt_5068e := goodIn_m tw_wsX5_init tm_wsX5_init tw_wsJ0_charAt_5068e tm_wsJ0_charAt_5068e zgood (by decide +kernel)
set_option maxRecDepth 20000 in
theorem gX5_init_J0_charAt_5068e : GoodIn wsX5_init (wsV RX5 60 RJ0 yJ0_charAt_5068e wsJ0_charAt_5068e) := goodIn_app (goodIn_m tw_wsX5_init tm_wsX5_init (iw := [362, 141, 142, 131]) rfl rfl zgood (by decide +kernel)) ggX5_init_J0_charAt_5068e
set_option maxRecDepth 20000 in
theorem tw_wsX1_add : wsX1_add = [366, 94, 111, 277, 278, 279, 280, 281, 282, 283].map wTb.get := rfl
set_option maxRecDepth 20000 in
theorem tm_wsX1_add : zmk [366, 94, 111, 277, 278, 279, 280, 281, 282, 283] = 150306725297525326584926789034386233835492683976590242548629265126269947560052436422435048544111074273279344640 := by decide +kernel
set_option maxRecDepth 20000 in
theorem ggX5_init_X1_add : GoodIn wsX5_init wsX1_add := goodIn_m tw_wsX5_init tm_wsX5_init tw_wsX1_add tm_wsX1_add zgood (by decide +kernel)
set_option maxRecDepth 20000 in
theorem gX5_init_X1_add : GoodIn wsX5_init (wsV RX5 64 RX1 yX1_add wsX1_add) := goodIn_app (goodIn_m tw_wsX5_init tm_wsX5_init (iw := [363, 364, 365, 104]) rfl rfl zgood (by decide +kernel)) ggX5_init_X1_add
set_option maxRecDepth 20000 in
theorem ggX5_init_X1_read : GoodIn wsX5_init wsX1_read := goodIn_m tw_wsX5_init tm_wsX5_init tw_wsX1_read tm_wsX1_read zgood (by decide +kernel)
set_option maxRecDepth 20000 in
theorem gX5_init_X1_read : GoodIn wsX5_init (wsV RX5 68 RX1 yX1_read wsX1_read) := goodIn_app (goodIn_m tw_wsX5_init tm_wsX5_init (iw := [367, 368, 369, 104]) rfl rfl zgood (by decide +kernel)) ggX5_init_X1_read
set_option maxRecDepth 20000 in
theorem tw_wsX5_judge : wsX5_judge = [378, 333, 379, 301, 302, 303, 380, 381, 382, 4, 383, 6, 28, 29, 61, 370, 371, 372, 373, 374, 375, 376, 377, 12, 13, 14, 15, 16, 17, 18, 19, 20, 21, 22, 23].map wTb.get := rfl
set_option maxRecDepth 20000 in
theorem tm_wsX5_judge : zmk [378, 333, 379, 301, 302, 303, 380, 381, 382, 4, 383, 6, 28, 29, 61, 370, 371, 372, 373, 374, 375, 376, 377, 12, 13, 14, 15, 16, 17, 18, 19, 20, 21, 22, 23] = 39399601288789736305059508054611565186786731270745925105050391004547875518727853437958443983456154418317036076658768 := by decide +kernel
set_option maxRecDepth 20000 in
theorem ggX5_judge_X5_within : GoodIn wsX5_judge wsX5_within := goodIn_m tw_wsX5_judge tm_wsX5_judge tw_wsX5_within tm_wsX5_within zgood (by decide +kernel)
set_option maxRecDepth 20000 in
theorem gX5_judge_X5_within : GoodIn wsX5_judge (va_wsS RX5 86 yX5_within wsX5_within) := goodIn_app (goodIn_m tw_wsX5_judge tm_wsX5_judge (iw := [379, 301, 302]) rfl rfl zgood (by decide +kernel)) ggX5_judge_X5_within
set_option maxRecDepth 20000 in
theorem tw_wsX0_addJudge : wsX0_addJudge = [383, 6, 28, 29, 61, 12, 13, 14, 15, 16, 17, 18, 19, 20, 21, 22, 23].map wTb.get := rfl
set_option maxRecDepth 20000 in
theorem tm_wsX0_addJudge : zmk [383, 6, 28, 29, 61, 12, 13, 14, 15, 16, 17, 18, 19, 20, 21, 22, 23] = 19701003098197239606139520050071806902539869635232723333974146702122860885748605305707133127442460126246324030926912 := by decide +kernel
set_option maxRecDepth 20000 in
theorem ggX5_judge_X0_addJudge : GoodIn wsX5_judge wsX0_addJudge := goodIn_m tw_wsX5_judge tm_wsX5_judge tw_wsX0_addJudge tm_wsX0_addJudge zgood (by decide +kernel)
set_option maxRecDepth 20000 in
theorem gX5_judge_X0_addJudge : GoodIn wsX5_judge (wsV RX5 90 RX0 yX0_addJudge wsX0_addJudge) := goodIn_app (goodIn_m tw_wsX5_judge tm_wsX5_judge (iw := [380, 381, 382, 4]) rfl rfl zgood (by decide +kernel)) ggX5_judge_X0_addJudge
set_option maxRecDepth 20000 in
theorem tw_wsX5_shoe : wsX5_shoe = [384, 333, 385, 386, 387, 2, 3, 4, 5, 6, 379, 301, 302, 303, 370, 371, 372, 373, 374, 375, 376, 377, 12, 13, 14, 15, 16, 17, 18, 19, 20, 21, 22, 23].map wTb.get := rfl
set_option maxRecDepth 20000 in
theorem tm_wsX5_shoe : zmk [384, 333, 385, 386, 387, 2, 3, 4, 5, 6, 379, 301, 302, 303, 370, 371, 372, 373, 374, 375, 376, 377, 12, 13, 14, 15, 16, 17, 18, 19, 20, 21, 22, 23] = 592874657078768436490041649461316390355016193835565246268886574917311998527727733745168215282542701504429628608999548 := by decide +kernel
set_option maxRecDepth 20000 in
theorem ggX5_shoe_X0_hasJudge : GoodIn wsX5_shoe wsX0_hasJudge := goodIn_m tw_wsX5_shoe tm_wsX5_shoe tw_wsX0_hasJudge tm_wsX0_hasJudge zgood (by decide +kernel)
set_option maxRecDepth 20000 in
theorem gX5_shoe_X0_hasJudge : GoodIn wsX5_shoe (wsV RX5 94 RX0 yX0_hasJudge wsX0_hasJudge) := goodIn_app (goodIn_m tw_wsX5_shoe tm_wsX5_shoe (iw := [387, 2, 3, 4]) rfl rfl zgood (by decide +kernel)) ggX5_shoe_X0_hasJudge
set_option maxRecDepth 20000 in
theorem ggX5_shoe_X5_within : GoodIn wsX5_shoe wsX5_within := goodIn_m tw_wsX5_shoe tm_wsX5_shoe tw_wsX5_within tm_wsX5_within zgood (by decide +kernel)
set_option maxRecDepth 20000 in
theorem gX5_shoe_X5_within : GoodIn wsX5_shoe (va_wsS RX5 86 yX5_within wsX5_within) := goodIn_app (goodIn_m tw_wsX5_shoe tm_wsX5_shoe (iw := [379, 301, 302]) rfl rfl zgood (by decide +kernel)) ggX5_shoe_X5_within
set_option maxRecDepth 20000 in
theorem tw_wsX5_bench : wsX5_bench = [388, 333, 385, 386, 389, 387, 2, 3, 4, 5, 6, 370, 371, 372, 373, 374, 375, 376, 377, 12, 13, 14, 15, 16, 17, 18, 19, 20, 21, 22, 23].map wTb.get := rfl
set_option maxRecDepth 20000 in
theorem tm_wsX5_bench : zmk [388, 333, 385, 386, 389, 387, 2, 3, 4, 5, 6, 370, 371, 372, 373, 374, 375, 376, 377, 12, 13, 14, 15, 16, 17, 18, 19, 20, 21, 22, 23] = 2443537635615671631991772785646433082579549989936999556722788726027420731659629835744065742480330386321852050461159548 := by decide +kernel
set_option maxRecDepth 20000 in
theorem ggX5_bench_X0_hasJudge : GoodIn wsX5_bench wsX0_hasJudge := goodIn_m tw_wsX5_bench tm_wsX5_bench tw_wsX0_hasJudge tm_wsX0_hasJudge zgood (by decide +kernel)
set_option maxRecDepth 20000 in
theorem gX5_bench_X0_hasJudge : GoodIn wsX5_bench (wsV RX5 94 RX0 yX0_hasJudge wsX0_hasJudge) := goodIn_app (goodIn_m tw_wsX5_bench tm_wsX5_bench (iw := [387, 2, 3, 4]) rfl rfl zgood (by decide +kernel)) ggX5_bench_X0_hasJudge
set_option maxRecDepth 20000 in
theorem tw_wsX5_feed : wsX5_feed = [390, 330, 391, 392, 393, 302, 394, 379, 301, 303, 363, 364, 365, 104, 366, 94, 111, 370, 371, 372, 373, 374, 375, 376, 377, 277, 278, 279, 280, 281, 282, 283].map wTb.get := rfl
set_option maxRecDepth 20000 in
theorem tm_wsX5_feed : zmk [390, 330, 391, 392, 393, 302, 394, 379, 301, 303, 363, 364, 365, 104, 366, 94, 111, 370, 371, 372, 373, 374, 375, 376, 377, 277, 278, 279, 280, 281, 282, 283] = 78175425139604607923016703879900710956538614596089586893443045579862210643698994149220717015567106241016633492663959552 := by decide +kernel
set_option maxRecDepth 20000 in
theorem tw_wsX5_isByte : wsX5_isByte = [394, 379, 301, 302, 303].map wTb.get := rfl
set_option maxRecDepth 20000 in
theorem tm_wsX5_isByte : zmk [394, 379, 301, 302, 303] = 40348885657801584040849120811068693693015866962567059070918720084837059284141610462825781631783956966486476155766439936 := by decide +kernel
set_option maxRecDepth 20000 in
theorem ggX5_feed_X5_isByte : GoodIn wsX5_feed wsX5_isByte := goodIn_m tw_wsX5_feed tm_wsX5_feed tw_wsX5_isByte tm_wsX5_isByte zgood (by decide +kernel)
set_option maxRecDepth 20000 in
theorem gX5_feed_X5_isByte : GoodIn wsX5_feed (va_wsS RX5 108 yX5_isByte wsX5_isByte) := goodIn_app (goodIn_m tw_wsX5_feed tm_wsX5_feed (iw := [392, 393, 302]) rfl rfl zgood (by decide +kernel)) ggX5_feed_X5_isByte
set_option maxRecDepth 20000 in
theorem ggX5_feed_X1_add : GoodIn wsX5_feed wsX1_add := goodIn_m tw_wsX5_feed tm_wsX5_feed tw_wsX1_add tm_wsX1_add zgood (by decide +kernel)
set_option maxRecDepth 20000 in
theorem gX5_feed_X1_add : GoodIn wsX5_feed (wsV RX5 64 RX1 yX1_add wsX1_add) := goodIn_app (goodIn_m tw_wsX5_feed tm_wsX5_feed (iw := [363, 364, 365, 104]) rfl rfl zgood (by decide +kernel)) ggX5_feed_X1_add
set_option maxRecDepth 20000 in
theorem tw_wsX5_text : wsX5_text = [395, 327, 396, 330, 367, 368, 369, 104, 91, 92, 93, 94, 95, 96, 97, 98, 43, 99, 100, 101, 102, 103, 105, 106, 107, 108, 109, 110, 111, 112, 113, 114, 115, 116, 117, 118, 119, 120, 121, 122, 123, 124, 125, 126, 127, 128, 129, 130, 131, 132, 133, 134, 135, 136, 137, 138, 139, 140, 141, 142, 143, 144, 145, 146, 147, 148, 149, 150, 151, 152, 153, 154, 155, 156, 157, 158, 159, 160, 161, 162, 163, 164, 165, 166, 167, 168, 169, 170, 171, 172, 173, 174, 175, 176, 177, 178, 179, 180, 181, 182, 183, 184, 185, 186, 187, 188, 189, 190, 191, 192, 193, 194, 195, 196, 197, 38, 35, 39, 198, 34, 36, 199, 200, 201, 202, 203, 204, 205, 206, 207, 208, 209, 210, 211, 212, 213, 214, 215, 216, 217, 218, 219, 220, 221, 222, 223, 224, 225, 226, 227, 228, 229, 230, 231, 232, 233, 234, 235, 236, 237, 238, 239, 240, 241, 242, 243, 244, 245, 246, 247, 248, 249, 250, 251, 45, 47, 252, 253, 254, 255, 256, 257, 258, 259, 260, 261, 262, 263, 264, 265, 266, 267, 268, 269, 270, 271, 272, 46, 273, 274, 275, 276, 370, 371, 372, 373, 374, 375, 376, 377, 55, 56, 57, 58, 59, 277, 278, 279, 280, 281, 282, 283].map wTb.get := rfl
set_option maxRecDepth 20000 in
theorem tm_wsX5_text : zmk [395, 327, 396, 330, 367, 368, 369, 104, 91, 92, 93, 94, 95, 96, 97, 98, 43, 99, 100, 101, 102, 103, 105, 106, 107, 108, 109, 110, 111, 112, 113, 114, 115, 116, 117, 118, 119, 120, 121, 122, 123, 124, 125, 126, 127, 128, 129, 130, 131, 132, 133, 134, 135, 136, 137, 138, 139, 140, 141, 142, 143, 144, 145, 146, 147, 148, 149, 150, 151, 152, 153, 154, 155, 156, 157, 158, 159, 160, 161, 162, 163, 164, 165, 166, 167, 168, 169, 170, 171, 172, 173, 174, 175, 176, 177, 178, 179, 180, 181, 182, 183, 184, 185, 186, 187, 188, 189, 190, 191, 192, 193, 194, 195, 196, 197, 38, 35, 39, 198, 34, 36, 199, 200, 201, 202, 203, 204, 205, 206, 207, 208, 209, 210, 211, 212, 213, 214, 215, 216, 217, 218, 219, 220, 221, 222, 223, 224, 225, 226, 227, 228, 229, 230, 231, 232, 233, 234, 235, 236, 237, 238, 239, 240, 241, 242, 243, 244, 245, 246, 247, 248, 249, 250, 251, 45, 47, 252, 253, 254, 255, 256, 257, 258, 259, 260, 261, 262, 263, 264, 265, 266, 267, 268, 269, 270, 271, 272, 46, 273, 274, 275, 276, 370, 371, 372, 373, 374, 375, 376, 377, 55, 56, 57, 58, 59, 277, 278, 279, 280, 281, 282, 283] = 242086541426381048351390118130811331070961823561750897837626382703294281816847203192218711605191656139313819784786739200 := by decide +kernel
set_option maxRecDepth 20000 in
theorem ggX5_text_X1_read : GoodIn wsX5_text wsX1_read := goodIn_m tw_wsX5_text tm_wsX5_text tw_wsX1_read tm_wsX1_read zgood (by decide +kernel)
set_option maxRecDepth 20000 in
theorem gX5_text_X1_read : GoodIn wsX5_text (wsV RX5 68 RX1 yX1_read wsX1_read) := goodIn_app (goodIn_m tw_wsX5_text tm_wsX5_text (iw := [367, 368, 369, 104]) rfl rfl zgood (by decide +kernel)) ggX5_text_X1_read
set_option maxRecDepth 20000 in
theorem tw_wsX5_asks : wsX5_asks = [397, 333, 379, 301, 302, 303, 387, 2, 3, 4, 5, 6, 398, 8, 9, 10, 11, 399, 69, 70, 24, 25, 26, 27, 28, 29, 30, 31, 32, 33, 34, 35, 36, 37, 38, 39, 40, 41, 42, 43, 44, 45, 46, 47, 48, 49, 50, 51, 52, 53, 54, 370, 371, 372, 373, 374, 375, 376, 377, 12, 13, 14, 15, 16, 17, 18, 19, 20, 21, 22, 23, 55, 56, 57, 58, 59].map wTb.get := rfl
set_option maxRecDepth 20000 in
theorem tm_wsX5_asks : zmk [397, 333, 379, 301, 302, 303, 387, 2, 3, 4, 5, 6, 398, 8, 9, 10, 11, 399, 69, 70, 24, 25, 26, 27, 28, 29, 30, 31, 32, 33, 34, 35, 36, 37, 38, 39, 40, 41, 42, 43, 44, 45, 46, 47, 48, 49, 50, 51, 52, 53, 54, 370, 371, 372, 373, 374, 375, 376, 377, 12, 13, 14, 15, 16, 17, 18, 19, 20, 21, 22, 23, 55, 56, 57, 58, 59] = 2259785703939749023030933363871395701132212026744512880846420185494154261210863292560404952471618952570474411289537937276 := by decide +kernel
set_option maxRecDepth 20000 in
theorem ggX5_asks_X5_within : GoodIn wsX5_asks wsX5_within := goodIn_m tw_wsX5_asks tm_wsX5_asks tw_wsX5_within tm_wsX5_within zgood (by decide +kernel)
set_option maxRecDepth 20000 in
theorem gX5_asks_X5_within : GoodIn wsX5_asks (va_wsS RX5 86 yX5_within wsX5_within) := goodIn_app (goodIn_m tw_wsX5_asks tm_wsX5_asks (iw := [379, 301, 302]) rfl rfl zgood (by decide +kernel)) ggX5_asks_X5_within
set_option maxRecDepth 20000 in
theorem ggX5_asks_X0_hasJudge : GoodIn wsX5_asks wsX0_hasJudge := goodIn_m tw_wsX5_asks tm_wsX5_asks tw_wsX0_hasJudge tm_wsX0_hasJudge zgood (by decide +kernel)
set_option maxRecDepth 20000 in
theorem gX5_asks_X0_hasJudge : GoodIn wsX5_asks (wsV RX5 94 RX0 yX0_hasJudge wsX0_hasJudge) := goodIn_app (goodIn_m tw_wsX5_asks tm_wsX5_asks (iw := [387, 2, 3, 4]) rfl rfl zgood (by decide +kernel)) ggX5_asks_X0_hasJudge
set_option maxRecDepth 20000 in
theorem ggX5_asks_X0_hasPebble : GoodIn wsX5_asks wsX0_hasPebble := goodIn_m tw_wsX5_asks tm_wsX5_asks tw_wsX0_hasPebble tm_wsX0_hasPebble zgood (by decide +kernel)
set_option maxRecDepth 20000 in
theorem gX5_asks_X0_hasPebble : GoodIn wsX5_asks (wsV RX5 111 RX0 yX0_hasPebble wsX0_hasPebble) := goodIn_app (goodIn_m tw_wsX5_asks tm_wsX5_asks (iw := [398, 8, 9, 4]) rfl rfl zgood (by decide +kernel)) ggX5_asks_X0_hasPebble
set_option maxRecDepth 20000 in
theorem ggX5_asks_X0_says : GoodIn wsX5_asks wsX0_says := goodIn_m tw_wsX5_asks tm_wsX5_asks tw_wsX0_says tm_wsX0_says zgood (by decide +kernel)
set_option maxRecDepth 20000 in
theorem gX5_asks_X0_says : GoodIn wsX5_asks (wsV RX5 114 RX0 yX0_says wsX0_says) := goodIn_app (goodIn_m tw_wsX5_asks tm_wsX5_asks (iw := [399, 69, 70, 4]) rfl rfl zgood (by decide +kernel)) ggX5_asks_X0_says
set_option maxRecDepth 20000 in
theorem tw_wsX5_pebble : wsX5_pebble = [400, 333, 379, 301, 302, 303, 401, 402, 403, 4, 404, 11, 67, 30, 26, 27, 370, 371, 372, 373, 374, 375, 376, 377, 12, 13, 14, 15, 16, 17, 18, 19, 20, 21, 22, 23].map wTb.get := rfl
set_option maxRecDepth 20000 in
theorem tm_wsX5_pebble : zmk [400, 333, 379, 301, 302, 303, 401, 402, 403, 4, 404, 11, 67, 30, 26, 27, 370, 371, 372, 373, 374, 375, 376, 377, 12, 13, 14, 15, 16, 17, 18, 19, 20, 21, 22, 23] = 80049748065258299130581800188141327266404158397810707481296689714933929908694032303093579905905732043627464613954878175248 := by decide +kernel
set_option maxRecDepth 20000 in
theorem ggX5_pebble_X5_within : GoodIn wsX5_pebble wsX5_within := goodIn_m tw_wsX5_pebble tm_wsX5_pebble tw_wsX5_within tm_wsX5_within zgood (by decide +kernel)
set_option maxRecDepth 20000 in
theorem gX5_pebble_X5_within : GoodIn wsX5_pebble (va_wsS RX5 86 yX5_within wsX5_within) := goodIn_app (goodIn_m tw_wsX5_pebble tm_wsX5_pebble (iw := [379, 301, 302]) rfl rfl zgood (by decide +kernel)) ggX5_pebble_X5_within
set_option maxRecDepth 20000 in
theorem tw_wsX0_addPebble : wsX0_addPebble = [404, 11, 67, 30, 26, 27, 12, 13, 14, 15, 16, 17, 18, 19, 20, 21, 22, 23].map wTb.get := rfl
set_option maxRecDepth 20000 in
theorem tm_wsX0_addPebble : zmk [404, 11, 67, 30, 26, 27, 12, 13, 14, 15, 16, 17, 18, 19, 20, 21, 22, 23] = 41315998049390537434494706752048189989275292685267576205290549704650361952269459114074325652482205303122024704154928150528 := by decide +kernel
set_option maxRecDepth 20000 in
theorem ggX5_pebble_X0_addPebble : GoodIn wsX5_pebble wsX0_addPebble := goodIn_m tw_wsX5_pebble tm_wsX5_pebble tw_wsX0_addPebble tm_wsX0_addPebble zgood (by decide +kernel)
set_option maxRecDepth 20000 in
theorem gX5_pebble_X0_addPebble : GoodIn wsX5_pebble (wsV RX5 118 RX0 yX0_addPebble wsX0_addPebble) := goodIn_app (goodIn_m tw_wsX5_pebble tm_wsX5_pebble (iw := [401, 402, 403, 4]) rfl rfl zgood (by decide +kernel)) ggX5_pebble_X0_addPebble
set_option maxRecDepth 20000 in
theorem tw_wsX5_put : wsX5_put = [405, 333, 406, 407, 398, 8, 9, 4, 10, 11, 379, 301, 302, 303, 370, 371, 372, 373, 374, 375, 376, 377, 12, 13, 14, 15, 16, 17, 18, 19, 20, 21, 22, 23].map wTb.get := rfl
set_option maxRecDepth 20000 in
theorem tm_wsX5_put : zmk [405, 333, 406, 407, 398, 8, 9, 4, 10, 11, 379, 301, 302, 303, 370, 371, 372, 373, 374, 375, 376, 377, 12, 13, 14, 15, 16, 17, 18, 19, 20, 21, 22, 23] = 579069537005553384081588180177723371980619802862058151335821610366414082863448593165272544427292367968468178645097379790608 := by decide +kernel
set_option maxRecDepth 20000 in
theorem ggX5_put_X0_hasPebble : GoodIn wsX5_put wsX0_hasPebble := goodIn_m tw_wsX5_put tm_wsX5_put tw_wsX0_hasPebble tm_wsX0_hasPebble zgood (by decide +kernel)
set_option maxRecDepth 20000 in
theorem gX5_put_X0_hasPebble : GoodIn wsX5_put (wsV RX5 111 RX0 yX0_hasPebble wsX0_hasPebble) := goodIn_app (goodIn_m tw_wsX5_put tm_wsX5_put (iw := [398, 8, 9, 4]) rfl rfl zgood (by decide +kernel)) ggX5_put_X0_hasPebble
set_option maxRecDepth 20000 in
theorem ggX5_put_X5_within : GoodIn wsX5_put wsX5_within := goodIn_m tw_wsX5_put tm_wsX5_put tw_wsX5_within tm_wsX5_within zgood (by decide +kernel)
set_option maxRecDepth 20000 in
theorem gX5_put_X5_within : GoodIn wsX5_put (va_wsS RX5 86 yX5_within wsX5_within) := goodIn_app (goodIn_m tw_wsX5_put tm_wsX5_put (iw := [379, 301, 302]) rfl rfl zgood (by decide +kernel)) ggX5_put_X5_within
set_option maxRecDepth 20000 in
theorem tw_wsX5_told : wsX5_told = [408, 333, 409, 410, 406, 407, 398, 8, 9, 4, 10, 11, 411, 64, 65, 66, 67, 26, 30, 370, 371, 372, 373, 374, 375, 376, 377, 12, 13, 14, 15, 16, 17, 18, 19, 20, 21, 22, 23].map wTb.get := rfl
set_option maxRecDepth 20000 in
theorem tm_wsX5_told : zmk [408, 333, 409, 410, 406, 407, 398, 8, 9, 4, 10, 11, 411, 64, 65, 66, 67, 26, 30, 370, 371, 372, 373, 374, 375, 376, 377, 12, 13, 14, 15, 16, 17, 18, 19, 20, 21, 22, 23] = 10412277071529188599854000911781444067794982847741791677753289500405561338063389733848165312145070448273313858189332926430992 := by decide +kernel
set_option maxRecDepth 20000 in
theorem ggX5_told_X0_hasPebble : GoodIn wsX5_told wsX0_hasPebble := goodIn_m tw_wsX5_told tm_wsX5_told tw_wsX0_hasPebble tm_wsX0_hasPebble zgood (by decide +kernel)
set_option maxRecDepth 20000 in
theorem gX5_told_X0_hasPebble : GoodIn wsX5_told (wsV RX5 111 RX0 yX0_hasPebble wsX0_hasPebble) := goodIn_app (goodIn_m tw_wsX5_told tm_wsX5_told (iw := [398, 8, 9, 4]) rfl rfl zgood (by decide +kernel)) ggX5_told_X0_hasPebble
set_option maxRecDepth 20000 in
theorem ggX5_told_X0_isSand : GoodIn wsX5_told wsX0_isSand := goodIn_m tw_wsX5_told tm_wsX5_told tw_wsX0_isSand tm_wsX0_isSand zgood (by decide +kernel)
set_option maxRecDepth 20000 in
theorem gX5_told_X0_isSand : GoodIn wsX5_told (wsV RX5 134 RX0 yX0_isSand wsX0_isSand) := goodIn_app (goodIn_m tw_wsX5_told tm_wsX5_told (iw := [411, 64, 65, 4]) rfl rfl zgood (by decide +kernel)) ggX5_told_X0_isSand
set_option maxRecDepth 20000 in
theorem tw_wsX5_walk : wsX5_walk = [412, 333, 386, 413, 414, 415, 4, 0, 1, 2, 3, 5, 6, 7, 8, 9, 10, 11, 379, 301, 302, 303, 416, 417, 418, 83, 84, 85, 86, 60, 61, 62, 33, 34, 35, 36, 26, 37, 38, 39, 63, 64, 65, 66, 67, 30, 68, 69, 70, 24, 25, 27, 28, 29, 31, 32, 40, 41, 42, 43, 44, 45, 46, 47, 48, 49, 50, 51, 52, 53, 54, 71, 72, 73, 74, 75, 76, 77, 78, 79, 80, 81, 82, 370, 371, 372, 373, 374, 375, 376, 377, 12, 13, 14, 15, 16, 17, 18, 19, 20, 21, 22, 23, 55, 56, 57, 58, 59].map wTb.get := rfl
set_option maxRecDepth 20000 in
theorem tm_wsX5_walk : zmk [412, 333, 386, 413, 414, 415, 4, 0, 1, 2, 3, 5, 6, 7, 8, 9, 10, 11, 379, 301, 302, 303, 416, 417, 418, 83, 84, 85, 86, 60, 61, 62, 33, 34, 35, 36, 26, 37, 38, 39, 63, 64, 65, 66, 67, 30, 68, 69, 70, 24, 25, 27, 28, 29, 31, 32, 40, 41, 42, 43, 44, 45, 46, 47, 48, 49, 50, 51, 52, 53, 54, 71, 72, 73, 74, 75, 76, 77, 78, 79, 80, 81, 82, 370, 371, 372, 373, 374, 375, 376, 377, 12, 13, 14, 15, 16, 17, 18, 19, 20, 21, 22, 23, 55, 56, 57, 58, 59] = 1343265728741237741988721071077562961291054954282558499446851684919047915262793713758042892633112745443856477201076719135490047 := by decide +kernel
set_option maxRecDepth 20000 in
theorem ggX5_walk_X0_hasBoth : GoodIn wsX5_walk wsX0_hasBoth := goodIn_m tw_wsX5_walk tm_wsX5_walk tw_wsX0_hasBoth tm_wsX0_hasBoth zgood (by decide +kernel)
set_option maxRecDepth 20000 in
theorem gX5_walk_X0_hasBoth : GoodIn wsX5_walk (wsV RX5 137 RX0 yX0_hasBoth wsX0_hasBoth) := goodIn_app (goodIn_m tw_wsX5_walk tm_wsX5_walk (iw := [413, 414, 415, 4]) rfl rfl zgood (by decide +kernel)) ggX5_walk_X0_hasBoth
set_option maxRecDepth 20000 in
theorem ggX5_walk_X5_within : GoodIn wsX5_walk wsX5_within := goodIn_m tw_wsX5_walk tm_wsX5_walk tw_wsX5_within tm_wsX5_within zgood (by decide +kernel)
set_option maxRecDepth 20000 in
theorem gX5_walk_X5_within : GoodIn wsX5_walk (va_wsS RX5 86 yX5_within wsX5_within) := goodIn_app (goodIn_m tw_wsX5_walk tm_wsX5_walk (iw := [379, 301, 302]) rfl rfl zgood (by decide +kernel)) ggX5_walk_X5_within
set_option maxRecDepth 20000 in
theorem ggX5_walk_X0_go : GoodIn wsX5_walk wsX0_go := goodIn_m tw_wsX5_walk tm_wsX5_walk tw_wsX0_go tm_wsX0_go zgood (by decide +kernel)
set_option maxRecDepth 20000 in
theorem gX5_walk_X0_go : GoodIn wsX5_walk (wsV RX5 140 RX0 yX0_go wsX0_go) := goodIn_app (goodIn_m tw_wsX5_walk tm_wsX5_walk (iw := [416, 417, 418, 4]) rfl rfl zgood (by decide +kernel)) ggX5_walk_X0_go
set_option maxRecDepth 20000 in
theorem tw_wsX5_hear : wsX5_hear = [419, 333, 334, 385, 413, 414, 415, 4, 0, 1, 2, 3, 5, 6, 7, 8, 9, 10, 11, 379, 301, 302, 303, 420, 421, 422, 423, 424, 425, 426, 427, 28, 428, 429, 430, 431, 29, 61, 67, 30, 26, 27, 32, 416, 417, 418, 83, 84, 85, 86, 60, 62, 33, 34, 35, 36, 37, 38, 39, 63, 64, 65, 66, 68, 69, 70, 24, 25, 31, 40, 41, 42, 43, 44, 45, 46, 47, 48, 49, 50, 51, 52, 53, 54, 71, 72, 73, 74, 75, 76, 77, 78, 79, 80, 81, 82, 432, 433, 434, 435, 406, 436, 437, 438, 90, 370, 371, 372, 373, 374, 375, 376, 377, 12, 13, 14, 15, 16, 17, 18, 19, 20, 21, 22, 23, 55, 56, 57, 58, 59].map wTb.get := rfl
set_option maxRecDepth 20000 in
theorem tm_wsX5_hear : zmk [419, 333, 334, 385, 413, 414, 415, 4, 0, 1, 2, 3, 5, 6, 7, 8, 9, 10, 11, 379, 301, 302, 303, 420, 421, 422, 423, 424, 425, 426, 427, 28, 428, 429, 430, 431, 29, 61, 67, 30, 26, 27, 32, 416, 417, 418, 83, 84, 85, 86, 60, 62, 33, 34, 35, 36, 37, 38, 39, 63, 64, 65, 66, 68, 69, 70, 24, 25, 31, 40, 41, 42, 43, 44, 45, 46, 47, 48, 49, 50, 51, 52, 53, 54, 71, 72, 73, 74, 75, 76, 77, 78, 79, 80, 81, 82, 432, 433, 434, 435, 406, 436, 437, 438, 90, 370, 371, 372, 373, 374, 375, 376, 377, 12, 13, 14, 15, 16, 17, 18, 19, 20, 21, 22, 23, 55, 56, 57, 58, 59] = 1419606862401330279662331571198189552544699955680770251386574034443372095903751400760179976569260388555646557837331593189049491259391 := by decide +kernel
set_option maxRecDepth 20000 in
theorem ggX5_hear_X0_hasBoth : GoodIn wsX5_hear wsX0_hasBoth := goodIn_m tw_wsX5_hear tm_wsX5_hear tw_wsX0_hasBoth tm_wsX0_hasBoth zgood (by decide +kernel)
set_option maxRecDepth 20000 in
theorem gX5_hear_X0_hasBoth : GoodIn wsX5_hear (wsV RX5 137 RX0 yX0_hasBoth wsX0_hasBoth) := goodIn_app (goodIn_m tw_wsX5_hear tm_wsX5_hear (iw := [413, 414, 415, 4]) rfl rfl zgood (by decide +kernel)) ggX5_hear_X0_hasBoth
set_option maxRecDepth 20000 in
theorem ggX5_hear_X5_within : GoodIn wsX5_hear wsX5_within := goodIn_m tw_wsX5_hear tm_wsX5_hear tw_wsX5_within tm_wsX5_within zgood (by decide +kernel)
set_option maxRecDepth 20000 in
theorem gX5_hear_X5_within : GoodIn wsX5_hear (va_wsS RX5 86 yX5_within wsX5_within) := goodIn_app (goodIn_m tw_wsX5_hear tm_wsX5_hear (iw := [379, 301, 302]) rfl rfl zgood (by decide +kernel)) ggX5_hear_X5_within
set_option maxRecDepth 20000 in
theorem tw_wsX5_think : wsX5_think = [423, 334, 333, 424, 425, 426, 4, 427, 28, 428, 429, 430, 431, 29, 61, 67, 30, 26, 27, 6, 11, 32, 370, 371, 372, 373, 374, 375, 376, 377, 12, 13, 14, 15, 16, 17, 18, 19, 20, 21, 22, 23].map wTb.get := rfl
set_option maxRecDepth 20000 in
theorem tm_wsX5_think : zmk [423, 334, 333, 424, 425, 426, 4, 427, 28, 428, 429, 430, 431, 29, 61, 67, 30, 26, 27, 6, 11, 32, 370, 371, 372, 373, 374, 375, 376, 377, 12, 13, 14, 15, 16, 17, 18, 19, 20, 21, 22, 23] = 11069017294497941185474639589714543456208616856668517375477449034443894207684526626944536956849265351157546455548026169463679219792 := by decide +kernel
set_option maxRecDepth 20000 in
theorem ggX5_hear_X5_think : GoodIn wsX5_hear wsX5_think := goodIn_m tw_wsX5_hear tm_wsX5_hear tw_wsX5_think tm_wsX5_think zgood (by decide +kernel)
set_option maxRecDepth 20000 in
theorem gX5_hear_X5_think : GoodIn wsX5_hear (wsV RX5 143 RX5 yX5_think wsX5_think) := goodIn_app (goodIn_m tw_wsX5_hear tm_wsX5_hear (iw := [420, 421, 422, 302]) rfl rfl zgood (by decide +kernel)) ggX5_hear_X5_think
set_option maxRecDepth 20000 in
theorem ggX5_hear_X0_go : GoodIn wsX5_hear wsX0_go := goodIn_m tw_wsX5_hear tm_wsX5_hear tw_wsX0_go tm_wsX0_go zgood (by decide +kernel)
set_option maxRecDepth 20000 in
theorem gX5_hear_X0_go : GoodIn wsX5_hear (wsV RX5 140 RX0 yX0_go wsX0_go) := goodIn_app (goodIn_m tw_wsX5_hear tm_wsX5_hear (iw := [416, 417, 418, 4]) rfl rfl zgood (by decide +kernel)) ggX5_hear_X0_go
set_option maxRecDepth 20000 in
theorem tw_wsX5_outcome : wsX5_outcome = [435, 334, 406, 436, 437, 438, 4, 90, 68, 69, 70, 24, 25, 26, 27, 28, 29, 30, 31, 32, 33, 34, 35, 36, 37, 38, 39, 40, 41, 42, 43, 44, 45, 46, 47, 48, 49, 50, 51, 52, 53, 54, 370, 371, 372, 373, 374, 375, 376, 377, 12, 13, 14, 15, 16, 17, 18, 19, 20, 21, 22, 23, 55, 56, 57, 58, 59].map wTb.get := rfl
set_option maxRecDepth 20000 in
theorem tm_wsX5_outcome : zmk [435, 334, 406, 436, 437, 438, 4, 90, 68, 69, 70, 24, 25, 26, 27, 28, 29, 30, 31, 32, 33, 34, 35, 36, 37, 38, 39, 40, 41, 42, 43, 44, 45, 46, 47, 48, 49, 50, 51, 52, 53, 54, 370, 371, 372, 373, 374, 375, 376, 377, 12, 13, 14, 15, 16, 17, 18, 19, 20, 21, 22, 23, 55, 56, 57, 58, 59] = 1330881453343255125408452397340597333135780257761914771446872612628966561915283856753738784353913416101906112888480371068729640874000 := by decide +kernel
set_option maxRecDepth 20000 in
theorem ggX5_hear_X5_outcome : GoodIn wsX5_hear wsX5_outcome := goodIn_m tw_wsX5_hear tm_wsX5_hear tw_wsX5_outcome tm_wsX5_outcome zgood (by decide +kernel)
set_option maxRecDepth 20000 in
theorem gX5_hear_X5_outcome : GoodIn wsX5_hear (wsV RX5 146 RX5 yX5_outcome wsX5_outcome) := goodIn_app (goodIn_m tw_wsX5_hear tm_wsX5_hear (iw := [432, 433, 434, 302]) rfl rfl zgood (by decide +kernel)) ggX5_hear_X5_outcome
set_option maxRecDepth 20000 in
theorem tw_wsX5_fewest : wsX5_fewest = [439, 333, 413, 414, 415, 4, 0, 1, 2, 3, 5, 6, 7, 8, 9, 10, 11, 440, 441, 442, 302, 443, 334, 420, 421, 422, 423, 424, 425, 426, 427, 28, 428, 429, 430, 431, 29, 61, 67, 30, 26, 27, 32, 436, 437, 438, 90, 68, 69, 70, 24, 25, 31, 33, 34, 35, 36, 37, 38, 39, 40, 41, 42, 43, 44, 45, 46, 47, 48, 49, 50, 51, 52, 53, 54, 444, 85, 86, 60, 62, 63, 64, 65, 66, 71, 72, 73, 74, 75, 76, 77, 78, 79, 80, 81, 82, 445, 446, 447, 370, 371, 372, 373, 374, 375, 376, 377, 12, 13, 14, 15, 16, 17, 18, 19, 20, 21, 22, 23, 55, 56, 57, 58, 59].map wTb.get := rfl
set_option maxRecDepth 20000 in
theorem tm_wsX5_fewest : zmk [439, 333, 413, 414, 415, 4, 0, 1, 2, 3, 5, 6, 7, 8, 9, 10, 11, 440, 441, 442, 302, 443, 334, 420, 421, 422, 423, 424, 425, 426, 427, 28, 428, 429, 430, 431, 29, 61, 67, 30, 26, 27, 32, 436, 437, 438, 90, 68, 69, 70, 24, 25, 31, 33, 34, 35, 36, 37, 38, 39, 40, 41, 42, 43, 44, 45, 46, 47, 48, 49, 50, 51, 52, 53, 54, 444, 85, 86, 60, 62, 63, 64, 65, 66, 71, 72, 73, 74, 75, 76, 77, 78, 79, 80, 81, 82, 445, 446, 447, 370, 371, 372, 373, 374, 375, 376, 377, 12, 13, 14, 15, 16, 17, 18, 19, 20, 21, 22, 23, 55, 56, 57, 58, 59] = 726672361554350930502519779334353832455029612361076300811869223459508738130648435583269660517142177303690115852409232505034901041446911 := by decide +kernel
set_option maxRecDepth 20000 in
theorem ggX5_fewest_X0_hasBoth : GoodIn wsX5_fewest wsX0_hasBoth := goodIn_m tw_wsX5_fewest tm_wsX5_fewest tw_wsX0_hasBoth tm_wsX0_hasBoth zgood (by decide +kernel)
set_option maxRecDepth 20000 in
theorem gX5_fewest_X0_hasBoth : GoodIn wsX5_fewest (wsV RX5 137 RX0 yX0_hasBoth wsX0_hasBoth) := goodIn_app (goodIn_m tw_wsX5_fewest tm_wsX5_fewest (iw := [413, 414, 415, 4]) rfl rfl zgood (by decide +kernel)) ggX5_fewest_X0_hasBoth
set_option maxRecDepth 20000 in
theorem tw_wsX5_guiltyBits : wsX5_guiltyBits = [443, 334, 420, 421, 422, 302, 423, 333, 424, 425, 426, 4, 427, 28, 428, 429, 430, 431, 29, 61, 67, 30, 26, 27, 6, 11, 32, 436, 437, 438, 90, 68, 69, 70, 24, 25, 31, 33, 34, 35, 36, 37, 38, 39, 40, 41, 42, 43, 44, 45, 46, 47, 48, 49, 50, 51, 52, 53, 54, 444, 85, 86, 60, 62, 63, 64, 65, 66, 71, 72, 73, 74, 75, 76, 77, 78, 79, 80, 81, 82, 370, 371, 372, 373, 374, 375, 376, 377, 12, 13, 14, 15, 16, 17, 18, 19, 20, 21, 22, 23, 55, 56, 57, 58, 59].map wTb.get := rfl
set_option maxRecDepth 20000 in
theorem tm_wsX5_guiltyBits : zmk [443, 334, 420, 421, 422, 302, 423, 333, 424, 425, 426, 4, 427, 28, 428, 429, 430, 431, 29, 61, 67, 30, 26, 27, 6, 11, 32, 436, 437, 438, 90, 68, 69, 70, 24, 25, 31, 33, 34, 35, 36, 37, 38, 39, 40, 41, 42, 43, 44, 45, 46, 47, 48, 49, 50, 51, 52, 53, 54, 444, 85, 86, 60, 62, 63, 64, 65, 66, 71, 72, 73, 74, 75, 76, 77, 78, 79, 80, 81, 82, 370, 371, 372, 373, 374, 375, 376, 377, 12, 13, 14, 15, 16, 17, 18, 19, 20, 21, 22, 23, 55, 56, 57, 58, 59] = 69394374396770506141283540332901953053860872099224077784257022877567739246011150650971746238876882339738721140882315887940370824165456 := by decide +kernel
set_option maxRecDepth 20000 in
theorem ggX5_fewest_X5_guiltyBits : GoodIn wsX5_fewest wsX5_guiltyBits := goodIn_m tw_wsX5_fewest tm_wsX5_fewest tw_wsX5_guiltyBits tm_wsX5_guiltyBits zgood (by decide +kernel)
set_option maxRecDepth 20000 in
theorem gX5_fewest_X5_guiltyBits : GoodIn wsX5_fewest (wsV RX5 150 RX5 yX5_guiltyBits wsX5_guiltyBits) := goodIn_app (goodIn_m tw_wsX5_fewest tm_wsX5_fewest (iw := [440, 441, 442, 302]) rfl rfl zgood (by decide +kernel)) ggX5_fewest_X5_guiltyBits
set_option maxRecDepth 20000 in
theorem tw_wsX5_leastBit : wsX5_leastBit = [447].map wTb.get := rfl
set_option maxRecDepth 20000 in
theorem tm_wsX5_leastBit : zmk [447] = 363419362147803445274661903944002267176820680343659030140745099590319644056698961663095525356881782780381260803133088966767300814307328 := by decide +kernel
set_option maxRecDepth 20000 in
theorem ggX5_fewest_X5_leastBit : GoodIn wsX5_fewest wsX5_leastBit := goodIn_m tw_wsX5_fewest tm_wsX5_fewest tw_wsX5_leastBit tm_wsX5_leastBit zgood (by decide +kernel)
set_option maxRecDepth 20000 in
theorem gX5_fewest_X5_leastBit : GoodIn wsX5_fewest (va_wsS RX5 154 yX5_leastBit wsX5_leastBit) := goodIn_app (goodIn_m tw_wsX5_fewest tm_wsX5_fewest (iw := [445, 446, 302]) rfl rfl zgood (by decide +kernel)) ggX5_fewest_X5_leastBit
set_option maxRecDepth 20000 in
theorem tw_wsX5_sand : wsX5_sand = [448, 333, 334, 413, 414, 415, 4, 0, 1, 2, 3, 5, 6, 7, 8, 9, 10, 11, 420, 421, 422, 302, 423, 424, 425, 426, 427, 28, 428, 429, 430, 431, 29, 61, 67, 30, 26, 27, 32, 411, 64, 65, 66, 444, 85, 86, 60, 62, 33, 34, 35, 36, 37, 38, 39, 63, 68, 69, 70, 24, 25, 31, 40, 41, 42, 43, 44, 45, 46, 47, 48, 49, 50, 51, 52, 53, 54, 71, 72, 73, 74, 75, 76, 77, 78, 79, 80, 81, 82, 370, 371, 372, 373, 374, 375, 376, 377, 12, 13, 14, 15, 16, 17, 18, 19, 20, 21, 22, 23, 55, 56, 57, 58, 59].map wTb.get := rfl
set_option maxRecDepth 20000 in
theorem tm_wsX5_sand : zmk [448, 333, 334, 413, 414, 415, 4, 0, 1, 2, 3, 5, 6, 7, 8, 9, 10, 11, 420, 421, 422, 302, 423, 424, 425, 426, 427, 28, 428, 429, 430, 431, 29, 61, 67, 30, 26, 27, 32, 411, 64, 65, 66, 444, 85, 86, 60, 62, 33, 34, 35, 36, 37, 38, 39, 63, 68, 69, 70, 24, 25, 31, 40, 41, 42, 43, 44, 45, 46, 47, 48, 49, 50, 51, 52, 53, 54, 71, 72, 73, 74, 75, 76, 77, 78, 79, 80, 81, 82, 370, 371, 372, 373, 374, 375, 376, 377, 12, 13, 14, 15, 16, 17, 18, 19, 20, 21, 22, 23, 55, 56, 57, 58, 59] = 772277232688538541063187524626754595673414297695484969303987521355735219763630612160921650315344578767753727531143088865297779956645887 := by decide +kernel
set_option maxRecDepth 20000 in
theorem ggX5_sand_X0_hasBoth : GoodIn wsX5_sand wsX0_hasBoth := goodIn_m tw_wsX5_sand tm_wsX5_sand tw_wsX0_hasBoth tm_wsX0_hasBoth zgood (by decide +kernel)
set_option maxRecDepth 20000 in
theorem gX5_sand_X0_hasBoth : GoodIn wsX5_sand (wsV RX5 137 RX0 yX0_hasBoth wsX0_hasBoth) := goodIn_app (goodIn_m tw_wsX5_sand tm_wsX5_sand (iw := [413, 414, 415, 4]) rfl rfl zgood (by decide +kernel)) ggX5_sand_X0_hasBoth
set_option maxRecDepth 20000 in
theorem ggX5_sand_X5_think : GoodIn wsX5_sand wsX5_think := goodIn_m tw_wsX5_sand tm_wsX5_sand tw_wsX5_think tm_wsX5_think zgood (by decide +kernel)
set_option maxRecDepth 20000 in
theorem gX5_sand_X5_think : GoodIn wsX5_sand (wsV RX5 143 RX5 yX5_think wsX5_think) := goodIn_app (goodIn_m tw_wsX5_sand tm_wsX5_sand (iw := [420, 421, 422, 302]) rfl rfl zgood (by decide +kernel)) ggX5_sand_X5_think
set_option maxRecDepth 20000 in
theorem ggX5_sand_X0_isSand : GoodIn wsX5_sand wsX0_isSand := goodIn_m tw_wsX5_sand tm_wsX5_sand tw_wsX0_isSand tm_wsX0_isSand zgood (by decide +kernel)
set_option maxRecDepth 20000 in
theorem gX5_sand_X0_isSand : GoodIn wsX5_sand (wsV RX5 134 RX0 yX0_isSand wsX0_isSand) := goodIn_app (goodIn_m tw_wsX5_sand tm_wsX5_sand (iw := [411, 64, 65, 4]) rfl rfl zgood (by decide +kernel)) ggX5_sand_X0_isSand
set_option maxRecDepth 20000 in
theorem ggX5_sand_X0_mile : GoodIn wsX5_sand wsX0_mile := goodIn_m tw_wsX5_sand tm_wsX5_sand tw_wsX0_mile tm_wsX0_mile zgood (by decide +kernel)
set_option maxRecDepth 20000 in
theorem gX5_sand_X0_mile : GoodIn wsX5_sand (wsV RX5 158 RX0 yX0_mile wsX0_mile) := goodIn_app (goodIn_m tw_wsX5_sand tm_wsX5_sand (iw := [444, 85, 86, 4]) rfl rfl zgood (by decide +kernel)) ggX5_sand_X0_mile
set_option maxRecDepth 20000 in
theorem tw_wsX5_unlike : wsX5_unlike = [449, 333, 413, 414, 415, 4, 0, 1, 2, 3, 5, 6, 7, 8, 9, 10, 11, 387, 440, 441, 442, 302, 443, 334, 420, 421, 422, 423, 424, 425, 426, 427, 28, 428, 429, 430, 431, 29, 61, 67, 30, 26, 27, 32, 436, 437, 438, 90, 68, 69, 70, 24, 25, 31, 33, 34, 35, 36, 37, 38, 39, 40, 41, 42, 43, 44, 45, 46, 47, 48, 49, 50, 51, 52, 53, 54, 444, 85, 86, 60, 62, 63, 64, 65, 66, 71, 72, 73, 74, 75, 76, 77, 78, 79, 80, 81, 82, 445, 446, 447, 370, 371, 372, 373, 374, 375, 376, 377, 12, 13, 14, 15, 16, 17, 18, 19, 20, 21, 22, 23, 55, 56, 57, 58, 59].map wTb.get := rfl
set_option maxRecDepth 20000 in
theorem tm_wsX5_unlike : zmk [449, 333, 413, 414, 415, 4, 0, 1, 2, 3, 5, 6, 7, 8, 9, 10, 11, 387, 440, 441, 442, 302, 443, 334, 420, 421, 422, 423, 424, 425, 426, 427, 28, 428, 429, 430, 431, 29, 61, 67, 30, 26, 27, 32, 436, 437, 438, 90, 68, 69, 70, 24, 25, 31, 33, 34, 35, 36, 37, 38, 39, 40, 41, 42, 43, 44, 45, 46, 47, 48, 49, 50, 51, 52, 53, 54, 444, 85, 86, 60, 62, 63, 64, 65, 66, 71, 72, 73, 74, 75, 76, 77, 78, 79, 80, 81, 82, 445, 446, 447, 370, 371, 372, 373, 374, 375, 376, 377, 12, 13, 14, 15, 16, 17, 18, 19, 20, 21, 22, 23, 55, 56, 57, 58, 59] = 2178930203262174854708279296619237476004385198754268913729000250439236201591434149150621069220721673852543424804008674869780693452324863 := by decide +kernel
set_option maxRecDepth 20000 in
theorem ggX5_unlike_X0_hasBoth : GoodIn wsX5_unlike wsX0_hasBoth := goodIn_m tw_wsX5_unlike tm_wsX5_unlike tw_wsX0_hasBoth tm_wsX0_hasBoth zgood (by decide +kernel)
set_option maxRecDepth 20000 in
theorem gX5_unlike_X0_hasBoth : GoodIn wsX5_unlike (wsV RX5 137 RX0 yX0_hasBoth wsX0_hasBoth) := goodIn_app (goodIn_m tw_wsX5_unlike tm_wsX5_unlike (iw := [413, 414, 415, 4]) rfl rfl zgood (by decide +kernel)) ggX5_unlike_X0_hasBoth
set_option maxRecDepth 20000 in
theorem ggX5_unlike_X0_hasJudge : GoodIn wsX5_unlike wsX0_hasJudge := goodIn_m tw_wsX5_unlike tm_wsX5_unlike tw_wsX0_hasJudge tm_wsX0_hasJudge zgood (by decide +kernel)
set_option maxRecDepth 20000 in
theorem gX5_unlike_X0_hasJudge : GoodIn wsX5_unlike (wsV RX5 94 RX0 yX0_hasJudge wsX0_hasJudge) := goodIn_app (goodIn_m tw_wsX5_unlike tm_wsX5_unlike (iw := [387, 2, 3, 4]) rfl rfl zgood (by decide +kernel)) ggX5_unlike_X0_hasJudge
set_option maxRecDepth 20000 in
theorem ggX5_unlike_X5_guiltyBits : GoodIn wsX5_unlike wsX5_guiltyBits := goodIn_m tw_wsX5_unlike tm_wsX5_unlike tw_wsX5_guiltyBits tm_wsX5_guiltyBits zgood (by decide +kernel)
set_option maxRecDepth 20000 in
theorem gX5_unlike_X5_guiltyBits : GoodIn wsX5_unlike (wsV RX5 150 RX5 yX5_guiltyBits wsX5_guiltyBits) := goodIn_app (goodIn_m tw_wsX5_unlike tm_wsX5_unlike (iw := [440, 441, 442, 302]) rfl rfl zgood (by decide +kernel)) ggX5_unlike_X5_guiltyBits
set_option maxRecDepth 20000 in
theorem ggX5_unlike_X5_leastBit : GoodIn wsX5_unlike wsX5_leastBit := goodIn_m tw_wsX5_unlike tm_wsX5_unlike tw_wsX5_leastBit tm_wsX5_leastBit zgood (by decide +kernel)
set_option maxRecDepth 20000 in
theorem gX5_unlike_X5_leastBit : GoodIn wsX5_unlike (va_wsS RX5 154 yX5_leastBit wsX5_leastBit) := goodIn_app (goodIn_m tw_wsX5_unlike tm_wsX5_unlike (iw := [445, 446, 302]) rfl rfl zgood (by decide +kernel)) ggX5_unlike_X5_leastBit
set_option maxRecDepth 20000 in
theorem tw_wsX5_hardest : wsX5_hardest = [450, 333, 451, 379, 301, 302, 303, 452, 453, 454, 455, 456, 334, 420, 421, 422, 423, 424, 425, 426, 4, 427, 28, 428, 429, 430, 431, 29, 61, 67, 30, 26, 27, 6, 11, 32, 416, 417, 418, 83, 84, 85, 86, 60, 62, 33, 34, 35, 36, 37, 38, 39, 63, 64, 65, 66, 68, 69, 70, 24, 25, 31, 40, 41, 42, 43, 44, 45, 46, 47, 48, 49, 50, 51, 52, 53, 54, 71, 72, 73, 74, 75, 76, 77, 78, 79, 80, 81, 82, 436, 437, 438, 90, 370, 371, 372, 373, 374, 375, 376, 377, 12, 13, 14, 15, 16, 17, 18, 19, 20, 21, 22, 23, 55, 56, 57, 58, 59].map wTb.get := rfl
set_option maxRecDepth 20000 in
theorem tm_wsX5_hardest : zmk [450, 333, 451, 379, 301, 302, 303, 452, 453, 454, 455, 456, 334, 420, 421, 422, 423, 424, 425, 426, 4, 427, 28, 428, 429, 430, 431, 29, 61, 67, 30, 26, 27, 6, 11, 32, 416, 417, 418, 83, 84, 85, 86, 60, 62, 33, 34, 35, 36, 37, 38, 39, 63, 64, 65, 66, 68, 69, 70, 24, 25, 31, 40, 41, 42, 43, 44, 45, 46, 47, 48, 49, 50, 51, 52, 53, 54, 71, 72, 73, 74, 75, 76, 77, 78, 79, 80, 81, 82, 436, 437, 438, 90, 370, 371, 372, 373, 374, 375, 376, 377, 12, 13, 14, 15, 16, 17, 18, 19, 20, 21, 22, 23, 55, 56, 57, 58, 59] = 369235325187346970055282135642465174539078127667438353075778150049963890738025415317623231645009813712236759190563689074808984356490573904 := by decide +kernel
set_option maxRecDepth 20000 in
theorem ggX5_hardest_X5_within : GoodIn wsX5_hardest wsX5_within := goodIn_m tw_wsX5_hardest tm_wsX5_hardest tw_wsX5_within tm_wsX5_within zgood (by decide +kernel)
set_option maxRecDepth 20000 in
theorem gX5_hardest_X5_within : GoodIn wsX5_hardest (va_wsS RX5 86 yX5_within wsX5_within) := goodIn_app (goodIn_m tw_wsX5_hardest tm_wsX5_hardest (iw := [379, 301, 302]) rfl rfl zgood (by decide +kernel)) ggX5_hardest_X5_within
set_option maxRecDepth 20000 in
theorem tw_wsX5_guiltyOfAll : wsX5_guiltyOfAll = [455, 333, 456, 334, 420, 421, 422, 302, 423, 424, 425, 426, 4, 427, 28, 428, 429, 430, 431, 29, 61, 67, 30, 26, 27, 6, 11, 32, 416, 417, 418, 83, 84, 85, 86, 60, 62, 33, 34, 35, 36, 37, 38, 39, 63, 64, 65, 66, 68, 69, 70, 24, 25, 31, 40, 41, 42, 43, 44, 45, 46, 47, 48, 49, 50, 51, 52, 53, 54, 71, 72, 73, 74, 75, 76, 77, 78, 79, 80, 81, 82, 436, 437, 438, 90, 370, 371, 372, 373, 374, 375, 376, 377, 12, 13, 14, 15, 16, 17, 18, 19, 20, 21, 22, 23, 55, 56, 57, 58, 59].map wTb.get := rfl
set_option maxRecDepth 20000 in
theorem tm_wsX5_guiltyOfAll : zmk [455, 333, 456, 334, 420, 421, 422, 302, 423, 424, 425, 426, 4, 427, 28, 428, 429, 430, 431, 29, 61, 67, 30, 26, 27, 6, 11, 32, 416, 417, 418, 83, 84, 85, 86, 60, 62, 33, 34, 35, 36, 37, 38, 39, 63, 64, 65, 66, 68, 69, 70, 24, 25, 31, 40, 41, 42, 43, 44, 45, 46, 47, 48, 49, 50, 51, 52, 53, 54, 71, 72, 73, 74, 75, 76, 77, 78, 79, 80, 81, 82, 436, 437, 438, 90, 370, 371, 372, 373, 374, 375, 376, 377, 12, 13, 14, 15, 16, 17, 18, 19, 20, 21, 22, 23, 55, 56, 57, 58, 59] = 279107323374691715627164752151658974951751215201837424349597095747027960082661917830491974741038409788509195322022404859803551485583685712 := by decide +kernel
set_option maxRecDepth 20000 in
theorem ggX5_hardest_X5_guiltyOfAll : GoodIn wsX5_hardest wsX5_guiltyOfAll := goodIn_m tw_wsX5_hardest tm_wsX5_hardest tw_wsX5_guiltyOfAll tm_wsX5_guiltyOfAll zgood (by decide +kernel)
set_option maxRecDepth 20000 in
theorem gX5_hardest_X5_guiltyOfAll : GoodIn wsX5_hardest (wsV RX5 161 RX5 yX5_guiltyOfAll wsX5_guiltyOfAll) := goodIn_app (goodIn_m tw_wsX5_hardest tm_wsX5_hardest (iw := [452, 453, 454, 302]) rfl rfl zgood (by decide +kernel)) ggX5_hardest_X5_guiltyOfAll
set_option maxRecDepth 20000 in
theorem tw_wsX5_thick : wsX5_thick = [457, 333, 334, 385, 413, 414, 415, 4, 0, 1, 2, 3, 5, 6, 7, 8, 9, 10, 11, 379, 301, 302, 303, 420, 421, 422, 423, 424, 425, 426, 427, 28, 428, 429, 430, 431, 29, 61, 67, 30, 26, 27, 32, 416, 417, 418, 83, 84, 85, 86, 60, 62, 33, 34, 35, 36, 37, 38, 39, 63, 64, 65, 66, 68, 69, 70, 24, 25, 31, 40, 41, 42, 43, 44, 45, 46, 47, 48, 49, 50, 51, 52, 53, 54, 71, 72, 73, 74, 75, 76, 77, 78, 79, 80, 81, 82, 436, 437, 438, 90, 370, 371, 372, 373, 374, 375, 376, 377, 12, 13, 14, 15, 16, 17, 18, 19, 20, 21, 22, 23, 55, 56, 57, 58, 59].map wTb.get := rfl
set_option maxRecDepth 20000 in
theorem tm_wsX5_thick : zmk [457, 333, 334, 385, 413, 414, 415, 4, 0, 1, 2, 3, 5, 6, 7, 8, 9, 10, 11, 379, 301, 302, 303, 420, 421, 422, 423, 424, 425, 426, 427, 28, 428, 429, 430, 431, 29, 61, 67, 30, 26, 27, 32, 416, 417, 418, 83, 84, 85, 86, 60, 62, 33, 34, 35, 36, 37, 38, 39, 63, 64, 65, 66, 68, 69, 70, 24, 25, 31, 40, 41, 42, 43, 44, 45, 46, 47, 48, 49, 50, 51, 52, 53, 54, 71, 72, 73, 74, 75, 76, 77, 78, 79, 80, 81, 82, 436, 437, 438, 90, 370, 371, 372, 373, 374, 375, 376, 377, 12, 13, 14, 15, 16, 17, 18, 19, 20, 21, 22, 23, 55, 56, 57, 58, 59] = 372142680084677474154567250572575210663916591903309475193498269318347140113956370494973421032872704778841134033304384049318341251245801471 := by decide +kernel
set_option maxRecDepth 20000 in
theorem ggX5_thick_X0_hasBoth : GoodIn wsX5_thick wsX0_hasBoth := goodIn_m tw_wsX5_thick tm_wsX5_thick tw_wsX0_hasBoth tm_wsX0_hasBoth zgood (by decide +kernel)
set_option maxRecDepth 20000 in
theorem gX5_thick_X0_hasBoth : GoodIn wsX5_thick (wsV RX5 137 RX0 yX0_hasBoth wsX0_hasBoth) := goodIn_app (goodIn_m tw_wsX5_thick tm_wsX5_thick (iw := [413, 414, 415, 4]) rfl rfl zgood (by decide +kernel)) ggX5_thick_X0_hasBoth
set_option maxRecDepth 20000 in
theorem ggX5_thick_X5_within : GoodIn wsX5_thick wsX5_within := goodIn_m tw_wsX5_thick tm_wsX5_thick tw_wsX5_within tm_wsX5_within zgood (by decide +kernel)
set_option maxRecDepth 20000 in
theorem gX5_thick_X5_within : GoodIn wsX5_thick (va_wsS RX5 86 yX5_within wsX5_within) := goodIn_app (goodIn_m tw_wsX5_thick tm_wsX5_thick (iw := [379, 301, 302]) rfl rfl zgood (by decide +kernel)) ggX5_thick_X5_within
set_option maxRecDepth 20000 in
theorem ggX5_thick_X5_think : GoodIn wsX5_thick wsX5_think := goodIn_m tw_wsX5_thick tm_wsX5_thick tw_wsX5_think tm_wsX5_think zgood (by decide +kernel)
set_option maxRecDepth 20000 in
theorem gX5_thick_X5_think : GoodIn wsX5_thick (wsV RX5 143 RX5 yX5_think wsX5_think) := goodIn_app (goodIn_m tw_wsX5_thick tm_wsX5_thick (iw := [420, 421, 422, 302]) rfl rfl zgood (by decide +kernel)) ggX5_thick_X5_think
set_option maxRecDepth 20000 in
theorem ggX5_thick_X0_go : GoodIn wsX5_thick wsX0_go := goodIn_m tw_wsX5_thick tm_wsX5_thick tw_wsX0_go tm_wsX0_go zgood (by decide +kernel)
set_option maxRecDepth 20000 in
theorem gX5_thick_X0_go : GoodIn wsX5_thick (wsV RX5 140 RX0 yX0_go wsX0_go) := goodIn_app (goodIn_m tw_wsX5_thick tm_wsX5_thick (iw := [416, 417, 418, 4]) rfl rfl zgood (by decide +kernel)) ggX5_thick_X0_go
set_option maxRecDepth 20000 in
theorem ggX5_thick_X0_verdict : GoodIn wsX5_thick wsX0_verdict := goodIn_m tw_wsX5_thick tm_wsX5_thick tw_wsX0_verdict tm_wsX0_verdict zgood (by decide +kernel)
set_option maxRecDepth 20000 in
theorem gX5_thick_X0_verdict : GoodIn wsX5_thick (wsV RX5 164 RX0 yX0_verdict wsX0_verdict) := goodIn_app (goodIn_m tw_wsX5_thick tm_wsX5_thick (iw := [436, 437, 438, 4]) rfl rfl zgood (by decide +kernel)) ggX5_thick_X0_verdict
set_option maxRecDepth 20000 in
theorem tw_wsX5_order : wsX5_order = [458, 333, 342, 456, 387, 2, 3, 4, 5, 6, 379, 301, 302, 303, 459, 460, 461, 462, 463, 464, 465, 334, 466, 420, 421, 422, 423, 424, 425, 426, 427, 28, 428, 429, 430, 431, 29, 61, 67, 30, 26, 27, 11, 32, 467, 80, 81, 82, 33, 34, 35, 36, 416, 417, 418, 83, 84, 85, 86, 60, 62, 37, 38, 39, 63, 64, 65, 66, 68, 69, 70, 24, 25, 31, 40, 41, 42, 43, 44, 45, 46, 47, 48, 49, 50, 51, 52, 53, 54, 71, 72, 73, 74, 75, 76, 77, 78, 79, 436, 437, 438, 90, 468, 469, 470, 322, 305, 306, 307, 308, 309, 310, 311, 312, 313, 314, 471, 472, 473, 318, 319, 320, 321, 317, 474, 475, 476, 477, 370, 371, 372, 373, 374, 375, 376, 377, 12, 13, 14, 15, 16, 17, 18, 19, 20, 21, 22, 23, 315, 316, 55, 56, 57, 58, 59].map wTb.get := rfl
set_option maxRecDepth 20000 in
theorem tm_wsX5_order : zmk [458, 333, 342, 456, 387, 2, 3, 4, 5, 6, 379, 301, 302, 303, 459, 460, 461, 462, 463, 464, 465, 334, 466, 420, 421, 422, 423, 424, 425, 426, 427, 28, 428, 429, 430, 431, 29, 61, 67, 30, 26, 27, 11, 32, 467, 80, 81, 82, 33, 34, 35, 36, 416, 417, 418, 83, 84, 85, 86, 60, 62, 37, 38, 39, 63, 64, 65, 66, 68, 69, 70, 24, 25, 31, 40, 41, 42, 43, 44, 45, 46, 47, 48, 49, 50, 51, 52, 53, 54, 71, 72, 73, 74, 75, 76, 77, 78, 79, 436, 437, 438, 90, 468, 469, 470, 322, 305, 306, 307, 308, 309, 310, 311, 312, 313, 314, 471, 472, 473, 318, 319, 320, 321, 317, 474, 475, 476, 477, 370, 371, 372, 373, 374, 375, 376, 377, 12, 13, 14, 15, 16, 17, 18, 19, 20, 21, 22, 23, 315, 316, 55, 56, 57, 58, 59] = 780436579368111043997977022108464403379703032192283081255504574668364431173030958102037447533293926015458642049015505840812406148489958882539644 := by decide +kernel
set_option maxRecDepth 20000 in
theorem ggX5_order_X0_hasJudge : GoodIn wsX5_order wsX0_hasJudge := goodIn_m tw_wsX5_order tm_wsX5_order tw_wsX0_hasJudge tm_wsX0_hasJudge zgood (by decide +kernel)
set_option maxRecDepth 20000 in
theorem gX5_order_X0_hasJudge : GoodIn wsX5_order (wsV RX5 94 RX0 yX0_hasJudge wsX0_hasJudge) := goodIn_app (goodIn_m tw_wsX5_order tm_wsX5_order (iw := [387, 2, 3, 4]) rfl rfl zgood (by decide +kernel)) ggX5_order_X0_hasJudge
set_option maxRecDepth 20000 in
theorem ggX5_order_X5_within : GoodIn wsX5_order wsX5_within := goodIn_m tw_wsX5_order tm_wsX5_order tw_wsX5_within tm_wsX5_within zgood (by decide +kernel)
set_option maxRecDepth 20000 in
theorem gX5_order_X5_within : GoodIn wsX5_order (va_wsS RX5 86 yX5_within wsX5_within) := goodIn_app (goodIn_m tw_wsX5_order tm_wsX5_order (iw := [379, 301, 302]) rfl rfl zgood (by decide +kernel)) ggX5_order_X5_within
set_option maxRecDepth 20000 in
theorem tw_wsX5_isPairOfBits : wsX5_isPairOfBits = [461, 379, 301, 302, 303].map wTb.get := rfl
set_option maxRecDepth 20000 in
theorem tm_wsX5_isPairOfBits : zmk [461, 379, 301, 302, 303] = 5954262829429611647380061865531226782752505410499031182982581925637407489907895455527046527637279595870504149985314332981815945635303522304 := by decide +kernel
set_option maxRecDepth 20000 in
theorem ggX5_order_X5_isPairOfBits : GoodIn wsX5_order wsX5_isPairOfBits := goodIn_m tw_wsX5_order tm_wsX5_order tw_wsX5_isPairOfBits tm_wsX5_isPairOfBits zgood (by decide +kernel)
set_option maxRecDepth 20000 in
theorem gX5_order_X5_isPairOfBits : GoodIn wsX5_order (va_wsS RX5 167 yX5_isPairOfBits wsX5_isPairOfBits) := goodIn_app (goodIn_m tw_wsX5_order tm_wsX5_order (iw := [459, 460, 302]) rfl rfl zgood (by decide +kernel)) ggX5_order_X5_isPairOfBits
set_option maxRecDepth 20000 in
theorem tw_wsX5_weighCases : wsX5_weighCases = [465, 333, 456, 334, 342, 466, 420, 421, 422, 302, 423, 424, 425, 426, 4, 427, 28, 428, 429, 430, 431, 29, 61, 67, 30, 26, 27, 6, 11, 32, 467, 80, 81, 82, 33, 34, 35, 36, 416, 417, 418, 83, 84, 85, 86, 60, 62, 37, 38, 39, 63, 64, 65, 66, 68, 69, 70, 24, 25, 31, 40, 41, 42, 43, 44, 45, 46, 47, 48, 49, 50, 51, 52, 53, 54, 71, 72, 73, 74, 75, 76, 77, 78, 79, 436, 437, 438, 90, 370, 371, 372, 373, 374, 375, 376, 377, 12, 13, 14, 15, 16, 17, 18, 19, 20, 21, 22, 23, 315, 316, 55, 56, 57, 58, 59].map wTb.get := rfl
set_option maxRecDepth 20000 in
theorem tm_wsX5_weighCases : zmk [465, 333, 456, 334, 342, 466, 420, 421, 422, 302, 423, 424, 425, 426, 4, 427, 28, 428, 429, 430, 431, 29, 61, 67, 30, 26, 27, 6, 11, 32, 467, 80, 81, 82, 33, 34, 35, 36, 416, 417, 418, 83, 84, 85, 86, 60, 62, 37, 38, 39, 63, 64, 65, 66, 68, 69, 70, 24, 25, 31, 40, 41, 42, 43, 44, 45, 46, 47, 48, 49, 50, 51, 52, 53, 54, 71, 72, 73, 74, 75, 76, 77, 78, 79, 436, 437, 438, 90, 370, 371, 372, 373, 374, 375, 376, 377, 12, 13, 14, 15, 16, 17, 18, 19, 20, 21, 22, 23, 315, 316, 55, 56, 57, 58, 59] = 667063508862781358540203642337217706691116827286050931752957039406092237598281287960060480424866756716048906434445806726272603792876706461776 := by decide +kernel
set_option maxRecDepth 20000 in
theorem ggX5_order_X5_weighCases : GoodIn wsX5_order wsX5_weighCases := goodIn_m tw_wsX5_order tm_wsX5_order tw_wsX5_weighCases tm_wsX5_weighCases zgood (by decide +kernel)
set_option maxRecDepth 20000 in
theorem gX5_order_X5_weighCases : GoodIn wsX5_order (wsV RX5 170 RX5 yX5_weighCases wsX5_weighCases) := goodIn_app (goodIn_m tw_wsX5_order tm_wsX5_order (iw := [462, 463, 464, 302]) rfl rfl zgood (by decide +kernel)) ggX5_order_X5_weighCases
set_option maxRecDepth 20000 in
theorem ggX5_order_X4_solve : GoodIn wsX5_order wsX4_solve := goodIn_m tw_wsX5_order tm_wsX5_order tw_wsX4_solve tm_wsX4_solve zgood (by decide +kernel)
set_option maxRecDepth 20000 in
theorem gX5_order_X4_solve : GoodIn wsX5_order (wsV RX5 174 RX4 yX4_solve wsX4_solve) := goodIn_app (goodIn_m tw_wsX5_order tm_wsX5_order (iw := [468, 469, 470, 322]) rfl rfl zgood (by decide +kernel)) ggX5_order_X4_solve
set_option maxRecDepth 20000 in
theorem ggX5_order_X4_digits : GoodIn wsX5_order wsX4_digits := goodIn_m tw_wsX5_order tm_wsX5_order tw_wsX4_digits tm_wsX4_digits zgood (by decide +kernel)
set_option maxRecDepth 20000 in
theorem gX5_order_X4_digits : GoodIn wsX5_order (wsV RX5 178 RX4 yX4_digits wsX4_digits) := goodIn_app (goodIn_m tw_wsX5_order tm_wsX5_order (iw := [471, 472, 473, 322]) rfl rfl zgood (by decide +kernel)) ggX5_order_X4_digits
set_option maxRecDepth 20000 in
theorem tw_wsX4_total : wsX4_total = [477, 306, 315, 316].map wTb.get := rfl
set_option maxRecDepth 20000 in
theorem tm_wsX4_total : zmk [477, 306, 315, 316] = 390218568789499028922699653724145788218574767833321773012314690680505521817948156225984573725884627212080942253897919641626116865024884096368640 := by decide +kernel
set_option maxRecDepth 20000 in
theorem ggX5_order_X4_total : GoodIn wsX5_order wsX4_total := goodIn_m tw_wsX5_order tm_wsX5_order tw_wsX4_total tm_wsX4_total zgood (by decide +kernel)
set_option maxRecDepth 20000 in
theorem gX5_order_X4_total : GoodIn wsX5_order (wsV RX5 181 RX4 yX4_total wsX4_total) := goodIn_app (goodIn_m tw_wsX5_order tm_wsX5_order (iw := [474, 475, 476, 322]) rfl rfl zgood (by decide +kernel)) ggX5_order_X4_total
set_option maxRecDepth 20000 in
theorem tw_wsX5_counsel : wsX5_counsel = [478, 333, 342, 456, 387, 2, 3, 4, 5, 6, 379, 301, 302, 303, 462, 463, 464, 465, 334, 466, 420, 421, 422, 423, 424, 425, 426, 427, 28, 428, 429, 430, 431, 29, 61, 67, 30, 26, 27, 11, 32, 467, 80, 81, 82, 33, 34, 35, 36, 416, 417, 418, 83, 84, 85, 86, 60, 62, 37, 38, 39, 63, 64, 65, 66, 68, 69, 70, 24, 25, 31, 40, 41, 42, 43, 44, 45, 46, 47, 48, 49, 50, 51, 52, 53, 54, 71, 72, 73, 74, 75, 76, 77, 78, 79, 436, 437, 438, 90, 468, 469, 470, 322, 305, 306, 307, 308, 309, 310, 311, 312, 313, 314, 474, 475, 476, 477, 479, 320, 321, 317, 370, 371, 372, 373, 374, 375, 376, 377, 12, 13, 14, 15, 16, 17, 18, 19, 20, 21, 22, 23, 315, 316, 55, 56, 57, 58, 59].map wTb.get := rfl
set_option maxRecDepth 20000 in
theorem tm_wsX5_counsel : zmk [478, 333, 342, 456, 387, 2, 3, 4, 5, 6, 379, 301, 302, 303, 462, 463, 464, 465, 334, 466, 420, 421, 422, 423, 424, 425, 426, 427, 28, 428, 429, 430, 431, 29, 61, 67, 30, 26, 27, 11, 32, 467, 80, 81, 82, 33, 34, 35, 36, 416, 417, 418, 83, 84, 85, 86, 60, 62, 37, 38, 39, 63, 64, 65, 66, 68, 69, 70, 24, 25, 31, 40, 41, 42, 43, 44, 45, 46, 47, 48, 49, 50, 51, 52, 53, 54, 71, 72, 73, 74, 75, 76, 77, 78, 79, 436, 437, 438, 90, 468, 469, 470, 322, 305, 306, 307, 308, 309, 310, 311, 312, 313, 314, 474, 475, 476, 477, 479, 320, 321, 317, 370, 371, 372, 373, 374, 375, 376, 377, 12, 13, 14, 15, 16, 17, 18, 19, 20, 21, 22, 23, 315, 316, 55, 56, 57, 58, 59] = 3079056671900948580723915832213571527355097352026361644464373151578759425147086104226630396141785272106300787047946454797171145611467666250266748 := by decide +kernel
set_option maxRecDepth 20000 in
theorem ggX5_counsel_X0_hasJudge : GoodIn wsX5_counsel wsX0_hasJudge := goodIn_m tw_wsX5_counsel tm_wsX5_counsel tw_wsX0_hasJudge tm_wsX0_hasJudge zgood (by decide +kernel)
set_option maxRecDepth 20000 in
theorem gX5_counsel_X0_hasJudge : GoodIn wsX5_counsel (wsV RX5 94 RX0 yX0_hasJudge wsX0_hasJudge) := goodIn_app (goodIn_m tw_wsX5_counsel tm_wsX5_counsel (iw := [387, 2, 3, 4]) rfl rfl zgood (by decide +kernel)) ggX5_counsel_X0_hasJudge
set_option maxRecDepth 20000 in
theorem ggX5_counsel_X5_within : GoodIn wsX5_counsel wsX5_within := goodIn_m tw_wsX5_counsel tm_wsX5_counsel tw_wsX5_within tm_wsX5_within zgood (by decide +kernel)
set_option maxRecDepth 20000 in
theorem gX5_counsel_X5_within : GoodIn wsX5_counsel (va_wsS RX5 86 yX5_within wsX5_within) := goodIn_app (goodIn_m tw_wsX5_counsel tm_wsX5_counsel (iw := [379, 301, 302]) rfl rfl zgood (by decide +kernel)) ggX5_counsel_X5_within
set_option maxRecDepth 20000 in
theorem ggX5_counsel_X5_weighCases : GoodIn wsX5_counsel wsX5_weighCases := goodIn_m tw_wsX5_counsel tm_wsX5_counsel tw_wsX5_weighCases tm_wsX5_weighCases zgood (by decide +kernel)
set_option maxRecDepth 20000 in
theorem gX5_counsel_X5_weighCases : GoodIn wsX5_counsel (wsV RX5 170 RX5 yX5_weighCases wsX5_weighCases) := goodIn_app (goodIn_m tw_wsX5_counsel tm_wsX5_counsel (iw := [462, 463, 464, 302]) rfl rfl zgood (by decide +kernel)) ggX5_counsel_X5_weighCases
set_option maxRecDepth 20000 in
theorem ggX5_counsel_X4_solve : GoodIn wsX5_counsel wsX4_solve := goodIn_m tw_wsX5_counsel tm_wsX5_counsel tw_wsX4_solve tm_wsX4_solve zgood (by decide +kernel)
set_option maxRecDepth 20000 in
theorem gX5_counsel_X4_solve : GoodIn wsX5_counsel (wsV RX5 174 RX4 yX4_solve wsX4_solve) := goodIn_app (goodIn_m tw_wsX5_counsel tm_wsX5_counsel (iw := [468, 469, 470, 322]) rfl rfl zgood (by decide +kernel)) ggX5_counsel_X4_solve
set_option maxRecDepth 20000 in
theorem ggX5_counsel_X4_total : GoodIn wsX5_counsel wsX4_total := goodIn_m tw_wsX5_counsel tm_wsX5_counsel tw_wsX4_total tm_wsX4_total zgood (by decide +kernel)
set_option maxRecDepth 20000 in
theorem gX5_counsel_X4_total : GoodIn wsX5_counsel (wsV RX5 181 RX4 yX4_total wsX4_total) := goodIn_app (goodIn_m tw_wsX5_counsel tm_wsX5_counsel (iw := [474, 475, 476, 322]) rfl rfl zgood (by decide +kernel)) ggX5_counsel_X4_total
set_option maxRecDepth 20000 in
theorem ggX5_counsel_X4_chosen : GoodIn wsX5_counsel wsX4_chosen := goodIn_m tw_wsX5_counsel tm_wsX5_counsel tw_wsX4_chosen tm_wsX4_chosen zgood (by decide +kernel)
set_option maxRecDepth 20000 in
theorem gX5_counsel_X4_chosen : GoodIn wsX5_counsel (wsV RX5 184 RX4 yX4_chosen wsX4_chosen) := goodIn_app (goodIn_m tw_wsX5_counsel tm_wsX5_counsel (iw := [479, 320, 321, 322]) rfl rfl zgood (by decide +kernel)) ggX5_counsel_X4_chosen
set_option maxRecDepth 20000 in
theorem tw_wsX5_reversed : wsX5_reversed = [480, 481, 482, 483, 302, 484, 333, 485, 486, 487, 488, 339, 489, 490, 491, 492, 493, 494, 338, 300, 301, 303, 398, 8, 9, 4, 10, 11, 379, 387, 2, 3, 5, 6, 420, 421, 422, 423, 334, 424, 425, 426, 427, 28, 428, 429, 430, 431, 29, 61, 67, 30, 26, 27, 32, 495, 496, 497, 498, 416, 417, 418, 83, 84, 85, 86, 60, 62, 33, 34, 35, 36, 37, 38, 39, 63, 64, 65, 66, 68, 69, 70, 24, 25, 31, 40, 41, 42, 43, 44, 45, 46, 47, 48, 49, 50, 51, 52, 53, 54, 71, 72, 73, 74, 75, 76, 77, 78, 79, 80, 81, 82, 436, 437, 438, 90, 370, 371, 372, 373, 374, 375, 376, 377, 297, 298, 299, 12, 13, 14, 15, 16, 17, 18, 19, 20, 21, 22, 23, 55, 56, 57, 58, 59].map wTb.get := rfl
set_option maxRecDepth 20000 in
theorem tm_wsX5_reversed : zmk [480, 481, 482, 483, 302, 484, 333, 485, 486, 487, 488, 339, 489, 490, 491, 492, 493, 494, 338, 300, 301, 303, 398, 8, 9, 4, 10, 11, 379, 387, 2, 3, 5, 6, 420, 421, 422, 423, 334, 424, 425, 426, 427, 28, 428, 429, 430, 431, 29, 61, 67, 30, 26, 27, 32, 495, 496, 497, 498, 416, 417, 418, 83, 84, 85, 86, 60, 62, 33, 34, 35, 36, 37, 38, 39, 63, 64, 65, 66, 68, 69, 70, 24, 25, 31, 40, 41, 42, 43, 44, 45, 46, 47, 48, 49, 50, 51, 52, 53, 54, 71, 72, 73, 74, 75, 76, 77, 78, 79, 80, 81, 82, 436, 437, 438, 90, 370, 371, 372, 373, 374, 375, 376, 377, 297, 298, 299, 12, 13, 14, 15, 16, 17, 18, 19, 20, 21, 22, 23, 55, 56, 57, 58, 59] = 1636692182199520620267608645486871886268821931599404644668891832387426629917424212954429355259577287787046097891791372815378047006808407267403020369788 := by decide +kernel
set_option maxRecDepth 20000 in
theorem tw_wsX5_refusalOf : wsX5_refusalOf = [484, 333, 485, 486, 487, 302, 488, 339, 489, 490, 491, 492, 493, 494, 338, 300, 301, 303, 398, 8, 9, 4, 10, 11, 379, 387, 2, 3, 5, 6, 370, 371, 372, 373, 374, 375, 376, 377, 297, 298, 299, 12, 13, 14, 15, 16, 17, 18, 19, 20, 21, 22, 23].map wTb.get := rfl
set_option maxRecDepth 20000 in
theorem tm_wsX5_refusalOf : zmk [484, 333, 485, 486, 487, 302, 488, 339, 489, 490, 491, 492, 493, 494, 338, 300, 301, 303, 398, 8, 9, 4, 10, 11, 379, 387, 2, 3, 5, 6, 370, 371, 372, 373, 374, 375, 376, 377, 297, 298, 299, 12, 13, 14, 15, 16, 17, 18, 19, 20, 21, 22, 23] = 102243508519949377562210072470831662376013517524738927570945794621700029967889298319764525282169697191290104650197972986470905079571758872855278780284 := by decide +kernel
set_option maxRecDepth 20000 in
theorem ggX5_reversed_X5_refusalOf : GoodIn wsX5_reversed wsX5_refusalOf := goodIn_m tw_wsX5_reversed tm_wsX5_reversed tw_wsX5_refusalOf tm_wsX5_refusalOf zgood (by decide +kernel)
set_option maxRecDepth 20000 in
theorem gX5_reversed_X5_refusalOf : GoodIn wsX5_reversed (wsV RX5 187 RX5 yX5_refusalOf wsX5_refusalOf) := goodIn_app (goodIn_m tw_wsX5_reversed tm_wsX5_reversed (iw := [481, 482, 483, 302]) rfl rfl zgood (by decide +kernel)) ggX5_reversed_X5_refusalOf
set_option maxRecDepth 20000 in
theorem ggX5_reversed_X5_think : GoodIn wsX5_reversed wsX5_think := goodIn_m tw_wsX5_reversed tm_wsX5_reversed tw_wsX5_think tm_wsX5_think zgood (by decide +kernel)
set_option maxRecDepth 20000 in
theorem gX5_reversed_X5_think : GoodIn wsX5_reversed (wsV RX5 143 RX5 yX5_think wsX5_think) := goodIn_app (goodIn_m tw_wsX5_reversed tm_wsX5_reversed (iw := [420, 421, 422, 302]) rfl rfl zgood (by decide +kernel)) ggX5_reversed_X5_think
set_option maxRecDepth 20000 in
theorem tw_wsX5_firstOtherwise : wsX5_firstOtherwise = [498, 339, 491, 490, 334, 416, 417, 418, 4, 83, 84, 85, 86, 60, 61, 62, 33, 34, 35, 36, 26, 37, 38, 39, 63, 64, 65, 66, 67, 30, 68, 69, 70, 24, 25, 27, 28, 29, 31, 32, 40, 41, 42, 43, 44, 45, 46, 47, 48, 49, 50, 51, 52, 53, 54, 71, 72, 73, 74, 75, 76, 77, 78, 79, 80, 81, 82, 436, 437, 438, 90, 370, 371, 372, 373, 374, 375, 376, 377, 297, 298, 299, 12, 13, 14, 15, 16, 17, 18, 19, 20, 21, 22, 23, 55, 56, 57, 58, 59].map wTb.get := rfl
set_option maxRecDepth 20000 in
theorem tm_wsX5_firstOtherwise : zmk [498, 339, 491, 490, 334, 416, 417, 418, 4, 83, 84, 85, 86, 60, 61, 62, 33, 34, 35, 36, 26, 37, 38, 39, 63, 64, 65, 66, 67, 30, 68, 69, 70, 24, 25, 27, 28, 29, 31, 32, 40, 41, 42, 43, 44, 45, 46, 47, 48, 49, 50, 51, 52, 53, 54, 71, 72, 73, 74, 75, 76, 77, 78, 79, 80, 81, 82, 436, 437, 438, 90, 370, 371, 372, 373, 374, 375, 376, 377, 297, 298, 299, 12, 13, 14, 15, 16, 17, 18, 19, 20, 21, 22, 23, 55, 56, 57, 58, 59] = 827937663520606196880258898475245524775290520548424683460677740609739947190724585053642897366675615902732597250344936418973770423793178562625764585488 := by decide +kernel
set_option maxRecDepth 20000 in
theorem ggX5_reversed_X5_firstOtherwise : GoodIn wsX5_reversed wsX5_firstOtherwise := goodIn_m tw_wsX5_reversed tm_wsX5_reversed tw_wsX5_firstOtherwise tm_wsX5_firstOtherwise zgood (by decide +kernel)
set_option maxRecDepth 20000 in
theorem gX5_reversed_X5_firstOtherwise : GoodIn wsX5_reversed (wsV RX5 190 RX5 yX5_firstOtherwise wsX5_firstOtherwise) := goodIn_app (goodIn_m tw_wsX5_reversed tm_wsX5_reversed (iw := [495, 496, 497, 302]) rfl rfl zgood (by decide +kernel)) ggX5_reversed_X5_firstOtherwise
set_option maxRecDepth 20000 in
theorem tw_wsX5_kinds : wsX5_kinds = [499, 333, 334, 409, 410, 481, 482, 483, 302, 484, 485, 486, 487, 488, 339, 489, 490, 491, 492, 493, 494, 338, 300, 301, 303, 398, 8, 9, 4, 10, 11, 379, 387, 2, 3, 5, 6, 420, 421, 422, 423, 424, 425, 426, 427, 28, 428, 429, 430, 431, 29, 61, 67, 30, 26, 27, 32, 495, 496, 497, 498, 416, 417, 418, 83, 84, 85, 86, 60, 62, 33, 34, 35, 36, 37, 38, 39, 63, 64, 65, 66, 68, 69, 70, 24, 25, 31, 40, 41, 42, 43, 44, 45, 46, 47, 48, 49, 50, 51, 52, 53, 54, 71, 72, 73, 74, 75, 76, 77, 78, 79, 80, 81, 82, 436, 437, 438, 90, 370, 371, 372, 373, 374, 375, 376, 377, 12, 13, 14, 15, 16, 17, 18, 19, 20, 21, 22, 23, 297, 298, 299, 55, 56, 57, 58, 59].map wTb.get := rfl
set_option maxRecDepth 20000 in
theorem tm_wsX5_kinds : zmk [499, 333, 334, 409, 410, 481, 482, 483, 302, 484, 485, 486, 487, 488, 339, 489, 490, 491, 492, 493, 494, 338, 300, 301, 303, 398, 8, 9, 4, 10, 11, 379, 387, 2, 3, 5, 6, 420, 421, 422, 423, 424, 425, 426, 427, 28, 428, 429, 430, 431, 29, 61, 67, 30, 26, 27, 32, 495, 496, 497, 498, 416, 417, 418, 83, 84, 85, 86, 60, 62, 33, 34, 35, 36, 37, 38, 39, 63, 64, 65, 66, 68, 69, 70, 24, 25, 31, 40, 41, 42, 43, 44, 45, 46, 47, 48, 49, 50, 51, 52, 53, 54, 71, 72, 73, 74, 75, 76, 77, 78, 79, 80, 81, 82, 436, 437, 438, 90, 370, 371, 372, 373, 374, 375, 376, 377, 12, 13, 14, 15, 16, 17, 18, 19, 20, 21, 22, 23, 297, 298, 299, 55, 56, 57, 58, 59] = 3273384364399041239281972116269777481952328799734286222636012896248962000533709986338337052762861050288386355079775549551655488917322696655922127699836 := by decide +kernel
set_option maxRecDepth 20000 in
theorem ggX5_kinds_X5_refusalOf : GoodIn wsX5_kinds wsX5_refusalOf := goodIn_m tw_wsX5_kinds tm_wsX5_kinds tw_wsX5_refusalOf tm_wsX5_refusalOf zgood (by decide +kernel)
set_option maxRecDepth 20000 in
theorem gX5_kinds_X5_refusalOf : GoodIn wsX5_kinds (wsV RX5 187 RX5 yX5_refusalOf wsX5_refusalOf) := goodIn_app (goodIn_m tw_wsX5_kinds tm_wsX5_kinds (iw := [481, 482, 483, 302]) rfl rfl zgood (by decide +kernel)) ggX5_kinds_X5_refusalOf
set_option maxRecDepth 20000 in
theorem ggX5_kinds_X0_hasPebble : GoodIn wsX5_kinds wsX0_hasPebble := goodIn_m tw_wsX5_kinds tm_wsX5_kinds tw_wsX0_hasPebble tm_wsX0_hasPebble zgood (by decide +kernel)
set_option maxRecDepth 20000 in
theorem gX5_kinds_X0_hasPebble : GoodIn wsX5_kinds (wsV RX5 111 RX0 yX0_hasPebble wsX0_hasPebble) := goodIn_app (goodIn_m tw_wsX5_kinds tm_wsX5_kinds (iw := [398, 8, 9, 4]) rfl rfl zgood (by decide +kernel)) ggX5_kinds_X0_hasPebble
set_option maxRecDepth 20000 in
theorem ggX5_kinds_X5_within : GoodIn wsX5_kinds wsX5_within := goodIn_m tw_wsX5_kinds tm_wsX5_kinds tw_wsX5_within tm_wsX5_within zgood (by decide +kernel)
set_option maxRecDepth 20000 in
theorem gX5_kinds_X5_within : GoodIn wsX5_kinds (va_wsS RX5 86 yX5_within wsX5_within) := goodIn_app (goodIn_m tw_wsX5_kinds tm_wsX5_kinds (iw := [379, 301, 302]) rfl rfl zgood (by decide +kernel)) ggX5_kinds_X5_within
set_option maxRecDepth 20000 in
theorem ggX5_kinds_X5_think : GoodIn wsX5_kinds wsX5_think := goodIn_m tw_wsX5_kinds tm_wsX5_kinds tw_wsX5_think tm_wsX5_think zgood (by decide +kernel)
set_option maxRecDepth 20000 in
theorem gX5_kinds_X5_think : GoodIn wsX5_kinds (wsV RX5 143 RX5 yX5_think wsX5_think) := goodIn_app (goodIn_m tw_wsX5_kinds tm_wsX5_kinds (iw := [420, 421, 422, 302]) rfl rfl zgood (by decide +kernel)) ggX5_kinds_X5_think
set_option maxRecDepth 20000 in
theorem ggX5_kinds_X5_firstOtherwise : GoodIn wsX5_kinds wsX5_firstOtherwise := goodIn_m tw_wsX5_kinds tm_wsX5_kinds tw_wsX5_firstOtherwise tm_wsX5_firstOtherwise zgood (by decide +kernel)
set_option maxRecDepth 20000 in
theorem gX5_kinds_X5_firstOtherwise : GoodIn wsX5_kinds (wsV RX5 190 RX5 yX5_firstOtherwise wsX5_firstOtherwise) := goodIn_app (goodIn_m tw_wsX5_kinds tm_wsX5_kinds (iw := [495, 496, 497, 302]) rfl rfl zgood (by decide +kernel)) ggX5_kinds_X5_firstOtherwise
set_option maxRecDepth 20000 in
theorem tw_wsX5_soled : wsX5_soled = [500, 334, 385, 481, 482, 483, 302, 484, 333, 485, 486, 487, 488, 339, 489, 490, 491, 492, 493, 494, 338, 300, 301, 303, 398, 8, 9, 4, 10, 11, 379, 387, 2, 3, 5, 6, 420, 421, 422, 423, 424, 425, 426, 427, 28, 428, 429, 430, 431, 29, 61, 67, 30, 26, 27, 32, 495, 496, 497, 498, 416, 417, 418, 83, 84, 85, 86, 60, 62, 33, 34, 35, 36, 37, 38, 39, 63, 64, 65, 66, 68, 69, 70, 24, 25, 31, 40, 41, 42, 43, 44, 45, 46, 47, 48, 49, 50, 51, 52, 53, 54, 71, 72, 73, 74, 75, 76, 77, 78, 79, 80, 81, 82, 436, 437, 438, 90, 370, 371, 372, 373, 374, 375, 376, 377, 12, 13, 14, 15, 16, 17, 18, 19, 20, 21, 22, 23, 297, 298, 299, 55, 56, 57, 58, 59].map wTb.get := rfl
set_option maxRecDepth 20000 in
theorem tm_wsX5_soled : zmk [500, 334, 385, 481, 482, 483, 302, 484, 333, 485, 486, 487, 488, 339, 489, 490, 491, 492, 493, 494, 338, 300, 301, 303, 398, 8, 9, 4, 10, 11, 379, 387, 2, 3, 5, 6, 420, 421, 422, 423, 424, 425, 426, 427, 28, 428, 429, 430, 431, 29, 61, 67, 30, 26, 27, 32, 495, 496, 497, 498, 416, 417, 418, 83, 84, 85, 86, 60, 62, 33, 34, 35, 36, 37, 38, 39, 63, 64, 65, 66, 68, 69, 70, 24, 25, 31, 40, 41, 42, 43, 44, 45, 46, 47, 48, 49, 50, 51, 52, 53, 54, 71, 72, 73, 74, 75, 76, 77, 78, 79, 80, 81, 82, 436, 437, 438, 90, 370, 371, 372, 373, 374, 375, 376, 377, 12, 13, 14, 15, 16, 17, 18, 19, 20, 21, 22, 23, 297, 298, 299, 55, 56, 57, 58, 59] = 4910079668347112174288566960717241324123170621833285193739112541613828411109838489002972663175965189937405165186841545246504917874549402645702222282620 := by decide +kernel
set_option maxRecDepth 20000 in
theorem ggX5_soled_X5_refusalOf : GoodIn wsX5_soled wsX5_refusalOf := goodIn_m tw_wsX5_soled tm_wsX5_soled tw_wsX5_refusalOf tm_wsX5_refusalOf zgood (by decide +kernel)
set_option maxRecDepth 20000 in
theorem gX5_soled_X5_refusalOf : GoodIn wsX5_soled (wsV RX5 187 RX5 yX5_refusalOf wsX5_refusalOf) := goodIn_app (goodIn_m tw_wsX5_soled tm_wsX5_soled (iw := [481, 482, 483, 302]) rfl rfl zgood (by decide +kernel)) ggX5_soled_X5_refusalOf
set_option maxRecDepth 20000 in
theorem ggX5_soled_X5_think : GoodIn wsX5_soled wsX5_think := goodIn_m tw_wsX5_soled tm_wsX5_soled tw_wsX5_think tm_wsX5_think zgood (by decide +kernel)
set_option maxRecDepth 20000 in
theorem gX5_soled_X5_think : GoodIn wsX5_soled (wsV RX5 143 RX5 yX5_think wsX5_think) := goodIn_app (goodIn_m tw_wsX5_soled tm_wsX5_soled (iw := [420, 421, 422, 302]) rfl rfl zgood (by decide +kernel)) ggX5_soled_X5_think
set_option maxRecDepth 20000 in
theorem ggX5_soled_X5_firstOtherwise : GoodIn wsX5_soled wsX5_firstOtherwise := goodIn_m tw_wsX5_soled tm_wsX5_soled tw_wsX5_firstOtherwise tm_wsX5_firstOtherwise zgood (by decide +kernel)
set_option maxRecDepth 20000 in
theorem gX5_soled_X5_firstOtherwise : GoodIn wsX5_soled (wsV RX5 190 RX5 yX5_firstOtherwise wsX5_firstOtherwise) := goodIn_app (goodIn_m tw_wsX5_soled tm_wsX5_soled (iw := [495, 496, 497, 302]) rfl rfl zgood (by decide +kernel)) ggX5_soled_X5_firstOtherwise
set_option maxRecDepth 20000 in
theorem tw_wsX5_sizes : wsX5_sizes = [501, 333, 334, 406, 407, 481, 482, 483, 302, 484, 485, 486, 487, 488, 339, 489, 490, 491, 492, 493, 494, 338, 300, 301, 303, 398, 8, 9, 4, 10, 11, 379, 387, 2, 3, 5, 6, 459, 460, 461, 420, 421, 422, 423, 424, 425, 426, 427, 28, 428, 429, 430, 431, 29, 61, 67, 30, 26, 27, 32, 495, 496, 497, 498, 416, 417, 418, 83, 84, 85, 86, 60, 62, 33, 34, 35, 36, 37, 38, 39, 63, 64, 65, 66, 68, 69, 70, 24, 25, 31, 40, 41, 42, 43, 44, 45, 46, 47, 48, 49, 50, 51, 52, 53, 54, 71, 72, 73, 74, 75, 76, 77, 78, 79, 80, 81, 82, 436, 437, 438, 90, 370, 371, 372, 373, 374, 375, 376, 377, 12, 13, 14, 15, 16, 17, 18, 19, 20, 21, 22, 23, 297, 298, 299, 55, 56, 57, 58, 59].map wTb.get := rfl
set_option maxRecDepth 20000 in
theorem tm_wsX5_sizes : zmk [501, 333, 334, 406, 407, 481, 482, 483, 302, 484, 485, 486, 487, 488, 339, 489, 490, 491, 492, 493, 494, 338, 300, 301, 303, 398, 8, 9, 4, 10, 11, 379, 387, 2, 3, 5, 6, 459, 460, 461, 420, 421, 422, 423, 424, 425, 426, 427, 28, 428, 429, 430, 431, 29, 61, 67, 30, 26, 27, 32, 495, 496, 497, 498, 416, 417, 418, 83, 84, 85, 86, 60, 62, 33, 34, 35, 36, 37, 38, 39, 63, 64, 65, 66, 68, 69, 70, 24, 25, 31, 40, 41, 42, 43, 44, 45, 46, 47, 48, 49, 50, 51, 52, 53, 54, 71, 72, 73, 74, 75, 76, 77, 78, 79, 80, 81, 82, 436, 437, 438, 90, 370, 371, 372, 373, 374, 375, 376, 377, 12, 13, 14, 15, 16, 17, 18, 19, 20, 21, 22, 23, 297, 298, 299, 55, 56, 57, 58, 59] = 8183470276253674004253258478423547480238369157305821842235715381006233553073699062253229688689891156927114330164751392766723560213152075153490107694972 := by decide +kernel
set_option maxRecDepth 20000 in
theorem ggX5_sizes_X5_refusalOf : GoodIn wsX5_sizes wsX5_refusalOf := goodIn_m tw_wsX5_sizes tm_wsX5_sizes tw_wsX5_refusalOf tm_wsX5_refusalOf zgood (by decide +kernel)
set_option maxRecDepth 20000 in
theorem gX5_sizes_X5_refusalOf : GoodIn wsX5_sizes (wsV RX5 187 RX5 yX5_refusalOf wsX5_refusalOf) := goodIn_app (goodIn_m tw_wsX5_sizes tm_wsX5_sizes (iw := [481, 482, 483, 302]) rfl rfl zgood (by decide +kernel)) ggX5_sizes_X5_refusalOf
set_option maxRecDepth 20000 in
theorem ggX5_sizes_X0_hasPebble : GoodIn wsX5_sizes wsX0_hasPebble := goodIn_m tw_wsX5_sizes tm_wsX5_sizes tw_wsX0_hasPebble tm_wsX0_hasPebble zgood (by decide +kernel)
set_option maxRecDepth 20000 in
theorem gX5_sizes_X0_hasPebble : GoodIn wsX5_sizes (wsV RX5 111 RX0 yX0_hasPebble wsX0_hasPebble) := goodIn_app (goodIn_m tw_wsX5_sizes tm_wsX5_sizes (iw := [398, 8, 9, 4]) rfl rfl zgood (by decide +kernel)) ggX5_sizes_X0_hasPebble
set_option maxRecDepth 20000 in
theorem ggX5_sizes_X5_isPairOfBits : GoodIn wsX5_sizes wsX5_isPairOfBits := goodIn_m tw_wsX5_sizes tm_wsX5_sizes tw_wsX5_isPairOfBits tm_wsX5_isPairOfBits zgood (by decide +kernel)
set_option maxRecDepth 20000 in
theorem gX5_sizes_X5_isPairOfBits : GoodIn wsX5_sizes (va_wsS RX5 167 yX5_isPairOfBits wsX5_isPairOfBits) := goodIn_app (goodIn_m tw_wsX5_sizes tm_wsX5_sizes (iw := [459, 460, 302]) rfl rfl zgood (by decide +kernel)) ggX5_sizes_X5_isPairOfBits
set_option maxRecDepth 20000 in
theorem ggX5_sizes_X5_think : GoodIn wsX5_sizes wsX5_think := goodIn_m tw_wsX5_sizes tm_wsX5_sizes tw_wsX5_think tm_wsX5_think zgood (by decide +kernel)
set_option maxRecDepth 20000 in
theorem gX5_sizes_X5_think : GoodIn wsX5_sizes (wsV RX5 143 RX5 yX5_think wsX5_think) := goodIn_app (goodIn_m tw_wsX5_sizes tm_wsX5_sizes (iw := [420, 421, 422, 302]) rfl rfl zgood (by decide +kernel)) ggX5_sizes_X5_think
set_option maxRecDepth 20000 in
theorem ggX5_sizes_X5_firstOtherwise : GoodIn wsX5_sizes wsX5_firstOtherwise := goodIn_m tw_wsX5_sizes tm_wsX5_sizes tw_wsX5_firstOtherwise tm_wsX5_firstOtherwise zgood (by decide +kernel)
set_option maxRecDepth 20000 in
theorem gX5_sizes_X5_firstOtherwise : GoodIn wsX5_sizes (wsV RX5 190 RX5 yX5_firstOtherwise wsX5_firstOtherwise) := goodIn_app (goodIn_m tw_wsX5_sizes tm_wsX5_sizes (iw := [495, 496, 497, 302]) rfl rfl zgood (by decide +kernel)) ggX5_sizes_X5_firstOtherwise
set_option maxRecDepth 20000 in
theorem tw_wsX5_whose : wsX5_whose = [502, 333, 451, 485, 486, 487, 302, 488, 339, 489, 490, 491, 492, 493, 494, 338, 300, 301, 303, 398, 8, 9, 4, 10, 11, 379, 420, 421, 422, 423, 334, 424, 425, 426, 427, 28, 428, 429, 430, 431, 29, 61, 67, 30, 26, 27, 6, 32, 495, 496, 497, 498, 416, 417, 418, 83, 84, 85, 86, 60, 62, 33, 34, 35, 36, 37, 38, 39, 63, 64, 65, 66, 68, 69, 70, 24, 25, 31, 40, 41, 42, 43, 44, 45, 46, 47, 48, 49, 50, 51, 52, 53, 54, 71, 72, 73, 74, 75, 76, 77, 78, 79, 80, 81, 82, 436, 437, 438, 90, 370, 371, 372, 373, 374, 375, 376, 377, 12, 13, 14, 15, 16, 17, 18, 19, 20, 21, 22, 23, 297, 298, 299, 55, 56, 57, 58, 59].map wTb.get := rfl
set_option maxRecDepth 20000 in
theorem tm_wsX5_whose : zmk [502, 333, 451, 485, 486, 487, 302, 488, 339, 489, 490, 491, 492, 493, 494, 338, 300, 301, 303, 398, 8, 9, 4, 10, 11, 379, 420, 421, 422, 423, 334, 424, 425, 426, 427, 28, 428, 429, 430, 431, 29, 61, 67, 30, 26, 27, 6, 32, 495, 496, 497, 498, 416, 417, 418, 83, 84, 85, 86, 60, 62, 33, 34, 35, 36, 37, 38, 39, 63, 64, 65, 66, 68, 69, 70, 24, 25, 31, 40, 41, 42, 43, 44, 45, 46, 47, 48, 49, 50, 51, 52, 53, 54, 71, 72, 73, 74, 75, 76, 77, 78, 79, 80, 81, 82, 436, 437, 438, 90, 370, 371, 372, 373, 374, 375, 376, 377, 12, 13, 14, 15, 16, 17, 18, 19, 20, 21, 22, 23, 297, 298, 299, 55, 56, 57, 58, 59] = 14730157839579034119270988968138268986354325442109682319394945368301785240295898301144017558671038323702118417898006488032980125353202263367661742194512 := by decide +kernel
set_option maxRecDepth 20000 in
theorem tw_wsX5_refusalOfSheet : wsX5_refusalOfSheet = [488, 339, 489, 490, 491, 333, 492, 493, 494, 338, 300, 301, 302, 303, 398, 8, 9, 4, 10, 11, 379, 370, 371, 372, 373, 374, 375, 376, 377, 297, 298, 299, 12, 13, 14, 15, 16, 17, 18, 19, 20, 21, 22, 23].map wTb.get := rfl
set_option maxRecDepth 20000 in
theorem tm_wsX5_refusalOfSheet : zmk [488, 339, 489, 490, 491, 333, 492, 493, 494, 338, 300, 301, 302, 303, 398, 8, 9, 4, 10, 11, 379, 370, 371, 372, 373, 374, 375, 376, 377, 297, 298, 299, 12, 13, 14, 15, 16, 17, 18, 19, 20, 21, 22, 23] = 101494288867873539426678489135680987246584282814665636262418795802479500112658390847362308231087225152437574209043944082845958486083603231357846683408 := by decide +kernel
set_option maxRecDepth 20000 in
theorem ggX5_whose_X5_refusalOfSheet : GoodIn wsX5_whose wsX5_refusalOfSheet := goodIn_m tw_wsX5_whose tm_wsX5_whose tw_wsX5_refusalOfSheet tm_wsX5_refusalOfSheet zgood (by decide +kernel)
set_option maxRecDepth 20000 in
theorem gX5_whose_X5_refusalOfSheet : GoodIn wsX5_whose (wsV RX5 193 RX5 yX5_refusalOfSheet wsX5_refusalOfSheet) := goodIn_app (goodIn_m tw_wsX5_whose tm_wsX5_whose (iw := [485, 486, 487, 302]) rfl rfl zgood (by decide +kernel)) ggX5_whose_X5_refusalOfSheet
set_option maxRecDepth 20000 in
theorem ggX5_whose_X5_think : GoodIn wsX5_whose wsX5_think := goodIn_m tw_wsX5_whose tm_wsX5_whose tw_wsX5_think tm_wsX5_think zgood (by decide +kernel)
set_option maxRecDepth 20000 in
theorem gX5_whose_X5_think : GoodIn wsX5_whose (wsV RX5 143 RX5 yX5_think wsX5_think) := goodIn_app (goodIn_m tw_wsX5_whose tm_wsX5_whose (iw := [420, 421, 422, 302]) rfl rfl zgood (by decide +kernel)) ggX5_whose_X5_think
set_option maxRecDepth 20000 in
theorem ggX5_whose_X5_firstOtherwise : GoodIn wsX5_whose wsX5_firstOtherwise := goodIn_m tw_wsX5_whose tm_wsX5_whose tw_wsX5_firstOtherwise tm_wsX5_firstOtherwise zgood (by decide +kernel)
set_option maxRecDepth 20000 in
theorem gX5_whose_X5_firstOtherwise : GoodIn wsX5_whose (wsV RX5 190 RX5 yX5_firstOtherwise wsX5_firstOtherwise) := goodIn_app (goodIn_m tw_wsX5_whose tm_wsX5_whose (iw := [495, 496, 497, 302]) rfl rfl zgood (by decide +kernel)) ggX5_whose_X5_firstOtherwise
set_option maxRecDepth 20000 in
theorem tw_wsX5_laws : wsX5_laws = [503, 327, 396, 334, 504, 481, 482, 483, 302, 484, 333, 485, 486, 487, 488, 339, 489, 490, 491, 492, 493, 494, 338, 300, 301, 303, 398, 8, 9, 4, 10, 11, 379, 387, 2, 3, 5, 6, 420, 421, 422, 423, 424, 425, 426, 427, 28, 428, 429, 430, 431, 29, 61, 67, 30, 26, 27, 32, 495, 496, 497, 498, 416, 417, 418, 83, 84, 85, 86, 60, 62, 33, 34, 35, 36, 37, 38, 39, 63, 64, 65, 66, 68, 69, 70, 24, 25, 31, 40, 41, 42, 43, 44, 45, 46, 47, 48, 49, 50, 51, 52, 53, 54, 71, 72, 73, 74, 75, 76, 77, 78, 79, 80, 81, 82, 436, 437, 438, 90, 370, 371, 372, 373, 374, 375, 376, 377, 55, 56, 57, 58, 59, 12, 13, 14, 15, 16, 17, 18, 19, 20, 21, 22, 23, 297, 298, 299].map wTb.get := rfl
set_option maxRecDepth 20000 in
theorem tm_wsX5_laws : zmk [503, 327, 396, 334, 504, 481, 482, 483, 302, 484, 333, 485, 486, 487, 488, 339, 489, 490, 491, 492, 493, 494, 338, 300, 301, 303, 398, 8, 9, 4, 10, 11, 379, 387, 2, 3, 5, 6, 420, 421, 422, 423, 424, 425, 426, 427, 28, 428, 429, 430, 431, 29, 61, 67, 30, 26, 27, 32, 495, 496, 497, 498, 416, 417, 418, 83, 84, 85, 86, 60, 62, 33, 34, 35, 36, 37, 38, 39, 63, 64, 65, 66, 68, 69, 70, 24, 25, 31, 40, 41, 42, 43, 44, 45, 46, 47, 48, 49, 50, 51, 52, 53, 54, 71, 72, 73, 74, 75, 76, 77, 78, 79, 80, 81, 82, 436, 437, 438, 90, 370, 371, 372, 373, 374, 375, 376, 377, 55, 56, 57, 58, 59, 12, 13, 14, 15, 16, 17, 18, 19, 20, 21, 22, 23, 297, 298, 299] = 80198063649958375184591929987752183136919305719821670695651324593656314271432704926559514036131136648044285962922292109708674217196537308146397800824700 := by decide +kernel
set_option maxRecDepth 20000 in
theorem ggX5_laws_X5_refusalOf : GoodIn wsX5_laws wsX5_refusalOf := goodIn_m tw_wsX5_laws tm_wsX5_laws tw_wsX5_refusalOf tm_wsX5_refusalOf zgood (by decide +kernel)
set_option maxRecDepth 20000 in
theorem gX5_laws_X5_refusalOf : GoodIn wsX5_laws (wsV RX5 187 RX5 yX5_refusalOf wsX5_refusalOf) := goodIn_app (goodIn_m tw_wsX5_laws tm_wsX5_laws (iw := [481, 482, 483, 302]) rfl rfl zgood (by decide +kernel)) ggX5_laws_X5_refusalOf
set_option maxRecDepth 20000 in
theorem ggX5_laws_X5_think : GoodIn wsX5_laws wsX5_think := goodIn_m tw_wsX5_laws tm_wsX5_laws tw_wsX5_think tm_wsX5_think zgood (by decide +kernel)
set_option maxRecDepth 20000 in
theorem gX5_laws_X5_think : GoodIn wsX5_laws (wsV RX5 143 RX5 yX5_think wsX5_think) := goodIn_app (goodIn_m tw_wsX5_laws tm_wsX5_laws (iw := [420, 421, 422, 302]) rfl rfl zgood (by decide +kernel)) ggX5_laws_X5_think
set_option maxRecDepth 20000 in
theorem ggX5_laws_X5_firstOtherwise : GoodIn wsX5_laws wsX5_firstOtherwise := goodIn_m tw_wsX5_laws tm_wsX5_laws tw_wsX5_firstOtherwise tm_wsX5_firstOtherwise zgood (by decide +kernel)
set_option maxRecDepth 20000 in
theorem gX5_laws_X5_firstOtherwise : GoodIn wsX5_laws (wsV RX5 190 RX5 yX5_firstOtherwise wsX5_firstOtherwise) := goodIn_app (goodIn_m tw_wsX5_laws tm_wsX5_laws (iw := [495, 496, 497, 302]) rfl rfl zgood (by decide +kernel)) ggX5_laws_X5_firstOtherwise
set_option maxRecDepth 20000 in
theorem tw_wsX5_film : wsX5_film = [505, 339, 333, 456, 334, 492, 493, 494, 338, 300, 301, 302, 303, 387, 2, 3, 4, 5, 6, 379, 420, 421, 422, 423, 424, 425, 426, 427, 28, 428, 429, 430, 431, 29, 61, 67, 30, 26, 27, 11, 32, 506, 507, 508, 304, 291, 292, 290, 293, 294, 295, 296, 416, 417, 418, 83, 84, 85, 86, 60, 62, 33, 34, 35, 36, 37, 38, 39, 63, 64, 65, 66, 68, 69, 70, 24, 25, 31, 40, 41, 42, 43, 44, 45, 46, 47, 48, 49, 50, 51, 52, 53, 54, 71, 72, 73, 74, 75, 76, 77, 78, 79, 80, 81, 82, 436, 437, 438, 90, 509, 510, 511, 512, 370, 371, 372, 373, 374, 375, 376, 377, 12, 13, 14, 15, 16, 17, 18, 19, 20, 21, 22, 23, 297, 298, 299, 55, 56, 57, 58, 59].map wTb.get := rfl
set_option maxRecDepth 20000 in
theorem tm_wsX5_film : zmk [505, 339, 333, 456, 334, 492, 493, 494, 338, 300, 301, 302, 303, 387, 2, 3, 4, 5, 6, 379, 420, 421, 422, 423, 424, 425, 426, 427, 28, 428, 429, 430, 431, 29, 61, 67, 30, 26, 27, 11, 32, 506, 507, 508, 304, 291, 292, 290, 293, 294, 295, 296, 416, 417, 418, 83, 84, 85, 86, 60, 62, 33, 34, 35, 36, 37, 38, 39, 63, 64, 65, 66, 68, 69, 70, 24, 25, 31, 40, 41, 42, 43, 44, 45, 46, 47, 48, 49, 50, 51, 52, 53, 54, 71, 72, 73, 74, 75, 76, 77, 78, 79, 80, 81, 82, 436, 437, 438, 90, 509, 510, 511, 512, 370, 371, 372, 373, 374, 375, 376, 377, 12, 13, 14, 15, 16, 17, 18, 19, 20, 21, 22, 23, 297, 298, 299, 55, 56, 57, 58, 59] = 26710956867206952505508852764123015348919869623776544567703788762465965151760718411370467203199032487003265512727521011646491965114474837963725388587726972 := by decide +kernel
set_option maxRecDepth 20000 in
theorem ggX5_film_X2_isSheet : GoodIn wsX5_film wsX2_isSheet := goodIn_m tw_wsX5_film tm_wsX5_film tw_wsX2_isSheet tm_wsX2_isSheet zgood (by decide +kernel)
set_option maxRecDepth 20000 in
theorem gX5_film_X2_isSheet : GoodIn wsX5_film (wsV RX5 196 RX2 yX2_isSheet wsX2_isSheet) := goodIn_app (goodIn_m tw_wsX5_film tm_wsX5_film (iw := [492, 493, 494, 338]) rfl rfl zgood (by decide +kernel)) ggX5_film_X2_isSheet
set_option maxRecDepth 20000 in
theorem ggX5_film_X0_hasJudge : GoodIn wsX5_film wsX0_hasJudge := goodIn_m tw_wsX5_film tm_wsX5_film tw_wsX0_hasJudge tm_wsX0_hasJudge zgood (by decide +kernel)
set_option maxRecDepth 20000 in
theorem gX5_film_X0_hasJudge : GoodIn wsX5_film (wsV RX5 94 RX0 yX0_hasJudge wsX0_hasJudge) := goodIn_app (goodIn_m tw_wsX5_film tm_wsX5_film (iw := [387, 2, 3, 4]) rfl rfl zgood (by decide +kernel)) ggX5_film_X0_hasJudge
set_option maxRecDepth 20000 in
theorem ggX5_film_X5_within : GoodIn wsX5_film wsX5_within := goodIn_m tw_wsX5_film tm_wsX5_film tw_wsX5_within tm_wsX5_within zgood (by decide +kernel)
set_option maxRecDepth 20000 in
theorem gX5_film_X5_within : GoodIn wsX5_film (va_wsS RX5 86 yX5_within wsX5_within) := goodIn_app (goodIn_m tw_wsX5_film tm_wsX5_film (iw := [379, 301, 302]) rfl rfl zgood (by decide +kernel)) ggX5_film_X5_within
set_option maxRecDepth 20000 in
theorem ggX5_film_X5_think : GoodIn wsX5_film wsX5_think := goodIn_m tw_wsX5_film tm_wsX5_film tw_wsX5_think tm_wsX5_think zgood (by decide +kernel)
set_option maxRecDepth 20000 in
theorem gX5_film_X5_think : GoodIn wsX5_film (wsV RX5 143 RX5 yX5_think wsX5_think) := goodIn_app (goodIn_m tw_wsX5_film tm_wsX5_film (iw := [420, 421, 422, 302]) rfl rfl zgood (by decide +kernel)) ggX5_film_X5_think
set_option maxRecDepth 20000 in
theorem ggX5_film_X2_become : GoodIn wsX5_film wsX2_become := goodIn_m tw_wsX5_film tm_wsX5_film tw_wsX2_become tm_wsX2_become zgood (by decide +kernel)
set_option maxRecDepth 20000 in
theorem gX5_film_X2_become : GoodIn wsX5_film (wsV RX5 199 RX2 yX2_become wsX2_become) := goodIn_app (goodIn_m tw_wsX5_film tm_wsX5_film (iw := [506, 507, 508, 338]) rfl rfl zgood (by decide +kernel)) ggX5_film_X2_become
set_option maxRecDepth 20000 in
theorem ggX5_film_X0_go : GoodIn wsX5_film wsX0_go := goodIn_m tw_wsX5_film tm_wsX5_film tw_wsX0_go tm_wsX0_go zgood (by decide +kernel)
set_option maxRecDepth 20000 in
theorem gX5_film_X0_go : GoodIn wsX5_film (wsV RX5 140 RX0 yX0_go wsX0_go) := goodIn_app (goodIn_m tw_wsX5_film tm_wsX5_film (iw := [416, 417, 418, 4]) rfl rfl zgood (by decide +kernel)) ggX5_film_X0_go
set_option maxRecDepth 20000 in
theorem ggX5_film_X0_verdict : GoodIn wsX5_film wsX0_verdict := goodIn_m tw_wsX5_film tm_wsX5_film tw_wsX0_verdict tm_wsX0_verdict zgood (by decide +kernel)
set_option maxRecDepth 20000 in
theorem gX5_film_X0_verdict : GoodIn wsX5_film (wsV RX5 164 RX0 yX0_verdict wsX0_verdict) := goodIn_app (goodIn_m tw_wsX5_film tm_wsX5_film (iw := [436, 437, 438, 4]) rfl rfl zgood (by decide +kernel)) ggX5_film_X0_verdict
set_option maxRecDepth 20000 in
theorem tw_wsX2_store : wsX2_store = [512, 290, 291, 297, 298, 299].map wTb.get := rfl
set_option maxRecDepth 20000 in
theorem tm_wsX2_store : zmk [512, 290, 291, 297, 298, 299] = 13407807929942597099574024998205846127479365820592393377723561445510138388203139741992628862502871168691272176453748442769662343719748121203503667422953472 := by decide +kernel
set_option maxRecDepth 20000 in
theorem ggX5_film_X2_store : GoodIn wsX5_film wsX2_store := goodIn_m tw_wsX5_film tm_wsX5_film tw_wsX2_store tm_wsX2_store zgood (by decide +kernel)
set_option maxRecDepth 20000 in
theorem gX5_film_X2_store : GoodIn wsX5_film (wsV RX5 203 RX2 yX2_store wsX2_store) := goodIn_app (goodIn_m tw_wsX5_film tm_wsX5_film (iw := [509, 510, 511, 338]) rfl rfl zgood (by decide +kernel)) ggX5_film_X2_store
set_option maxRecDepth 20000 in
theorem tw_wsX5_drawn : wsX5_drawn = [513, 333, 514, 334, 413, 414, 415, 4, 0, 1, 2, 3, 5, 6, 7, 8, 9, 10, 11, 379, 301, 302, 303, 515, 516, 517, 420, 421, 422, 423, 424, 425, 426, 427, 28, 428, 429, 430, 431, 29, 61, 67, 30, 26, 27, 32, 518, 519, 520, 87, 88, 89, 84, 85, 86, 60, 62, 33, 34, 35, 36, 37, 38, 39, 63, 64, 65, 66, 68, 69, 70, 24, 25, 31, 40, 41, 42, 43, 44, 45, 46, 47, 48, 49, 50, 51, 52, 53, 54, 71, 72, 73, 74, 75, 76, 77, 78, 79, 80, 81, 82, 432, 433, 434, 435, 406, 436, 437, 438, 90, 370, 371, 372, 373, 374, 375, 376, 377, 12, 13, 14, 15, 16, 17, 18, 19, 20, 21, 22, 23, 55, 56, 57, 58, 59].map wTb.get := rfl
set_option maxRecDepth 20000 in
theorem tm_wsX5_drawn : zmk [513, 333, 514, 334, 413, 414, 415, 4, 0, 1, 2, 3, 5, 6, 7, 8, 9, 10, 11, 379, 301, 302, 303, 515, 516, 517, 420, 421, 422, 423, 424, 425, 426, 427, 28, 428, 429, 430, 431, 29, 61, 67, 30, 26, 27, 32, 518, 519, 520, 87, 88, 89, 84, 85, 86, 60, 62, 33, 34, 35, 36, 37, 38, 39, 63, 64, 65, 66, 68, 69, 70, 24, 25, 31, 40, 41, 42, 43, 44, 45, 46, 47, 48, 49, 50, 51, 52, 53, 54, 71, 72, 73, 74, 75, 76, 77, 78, 79, 80, 81, 82, 432, 433, 434, 435, 406, 436, 437, 438, 90, 370, 371, 372, 373, 374, 375, 376, 377, 12, 13, 14, 15, 16, 17, 18, 19, 20, 21, 22, 23, 55, 56, 57, 58, 59] = 6837982044270724520782754168689305471424522872201323677087298482124913974897567345382396353170027037048161080843572734206491700655399594046634437797864275967 := by decide +kernel
set_option maxRecDepth 20000 in
theorem ggX5_drawn_X0_hasBoth : GoodIn wsX5_drawn wsX0_hasBoth := goodIn_m tw_wsX5_drawn tm_wsX5_drawn tw_wsX0_hasBoth tm_wsX0_hasBoth zgood (by decide +kernel)
set_option maxRecDepth 20000 in
theorem gX5_drawn_X0_hasBoth : GoodIn wsX5_drawn (wsV RX5 137 RX0 yX0_hasBoth wsX0_hasBoth) := goodIn_app (goodIn_m tw_wsX5_drawn tm_wsX5_drawn (iw := [413, 414, 415, 4]) rfl rfl zgood (by decide +kernel)) ggX5_drawn_X0_hasBoth
set_option maxRecDepth 20000 in
theorem ggX5_drawn_X5_within : GoodIn wsX5_drawn wsX5_within := goodIn_m tw_wsX5_drawn tm_wsX5_drawn tw_wsX5_within tm_wsX5_within zgood (by decide +kernel)
set_option maxRecDepth 20000 in
theorem gX5_drawn_X5_within : GoodIn wsX5_drawn (va_wsS RX5 86 yX5_within wsX5_within) := goodIn_app (goodIn_m tw_wsX5_drawn tm_wsX5_drawn (iw := [379, 301, 302]) rfl rfl zgood (by decide +kernel)) ggX5_drawn_X5_within
set_option maxRecDepth 20000 in
theorem tw_wsX5_isMoreMiles : wsX5_isMoreMiles = [517, 379, 301, 302, 303].map wTb.get := rfl
set_option maxRecDepth 20000 in
theorem tm_wsX5_isMoreMiles : zmk [517, 379, 301, 302, 303] = 429049853758163107186368799942587076079340937571650225414629349947618082118967717207270419224280577324970459652096020424057697236764093588586365861886951424 := by decide +kernel
set_option maxRecDepth 20000 in
theorem ggX5_drawn_X5_isMoreMiles : GoodIn wsX5_drawn wsX5_isMoreMiles := goodIn_m tw_wsX5_drawn tm_wsX5_drawn tw_wsX5_isMoreMiles tm_wsX5_isMoreMiles zgood (by decide +kernel)
set_option maxRecDepth 20000 in
theorem gX5_drawn_X5_isMoreMiles : GoodIn wsX5_drawn (va_wsS RX5 207 yX5_isMoreMiles wsX5_isMoreMiles) := goodIn_app (goodIn_m tw_wsX5_drawn tm_wsX5_drawn (iw := [515, 516, 302]) rfl rfl zgood (by decide +kernel)) ggX5_drawn_X5_isMoreMiles
set_option maxRecDepth 20000 in
theorem ggX5_drawn_X5_think : GoodIn wsX5_drawn wsX5_think := goodIn_m tw_wsX5_drawn tm_wsX5_drawn tw_wsX5_think tm_wsX5_think zgood (by decide +kernel)
set_option maxRecDepth 20000 in
theorem gX5_drawn_X5_think : GoodIn wsX5_drawn (wsV RX5 143 RX5 yX5_think wsX5_think) := goodIn_app (goodIn_m tw_wsX5_drawn tm_wsX5_drawn (iw := [420, 421, 422, 302]) rfl rfl zgood (by decide +kernel)) ggX5_drawn_X5_think
set_option maxRecDepth 20000 in
theorem ggX5_drawn_X0_goByLots : GoodIn wsX5_drawn wsX0_goByLots := goodIn_m tw_wsX5_drawn tm_wsX5_drawn tw_wsX0_goByLots tm_wsX0_goByLots zgood (by decide +kernel)
set_option maxRecDepth 20000 in
theorem gX5_drawn_X0_goByLots : GoodIn wsX5_drawn (wsV RX5 210 RX0 yX0_goByLots wsX0_goByLots) := goodIn_app (goodIn_m tw_wsX5_drawn tm_wsX5_drawn (iw := [518, 519, 520, 4]) rfl rfl zgood (by decide +kernel)) ggX5_drawn_X0_goByLots
set_option maxRecDepth 20000 in
theorem ggX5_drawn_X5_outcome : GoodIn wsX5_drawn wsX5_outcome := goodIn_m tw_wsX5_drawn tm_wsX5_drawn tw_wsX5_outcome tm_wsX5_outcome zgood (by decide +kernel)
set_option maxRecDepth 20000 in
theorem gX5_drawn_X5_outcome : GoodIn wsX5_drawn (wsV RX5 146 RX5 yX5_outcome wsX5_outcome) := goodIn_app (goodIn_m tw_wsX5_drawn tm_wsX5_drawn (iw := [432, 433, 434, 302]) rfl rfl zgood (by decide +kernel)) ggX5_drawn_X5_outcome
set_option maxRecDepth 20000 in
theorem tw_wsX5_odds : wsX5_odds = [521, 514, 522, 333, 334, 379, 301, 302, 303, 413, 414, 415, 4, 0, 1, 2, 3, 5, 6, 7, 8, 9, 10, 11, 515, 516, 517, 420, 421, 422, 423, 424, 425, 426, 427, 28, 428, 429, 430, 431, 29, 61, 67, 30, 26, 27, 32, 518, 519, 520, 87, 88, 89, 84, 85, 86, 60, 62, 33, 34, 35, 36, 37, 38, 39, 63, 64, 65, 66, 68, 69, 70, 24, 25, 31, 40, 41, 42, 43, 44, 45, 46, 47, 48, 49, 50, 51, 52, 53, 54, 71, 72, 73, 74, 75, 76, 77, 78, 79, 80, 81, 82, 436, 437, 438, 90, 523, 524, 525, 526, 370, 371, 372, 373, 374, 375, 376, 377, 12, 13, 14, 15, 16, 17, 18, 19, 20, 21, 22, 23, 55, 56, 57, 58, 59].map wTb.get := rfl
set_option maxRecDepth 20000 in
theorem tm_wsX5_odds : zmk [521, 514, 522, 333, 334, 379, 301, 302, 303, 413, 414, 415, 4, 0, 1, 2, 3, 5, 6, 7, 8, 9, 10, 11, 515, 516, 517, 420, 421, 422, 423, 424, 425, 426, 427, 28, 428, 429, 430, 431, 29, 61, 67, 30, 26, 27, 32, 518, 519, 520, 87, 88, 89, 84, 85, 86, 60, 62, 33, 34, 35, 36, 37, 38, 39, 63, 64, 65, 66, 68, 69, 70, 24, 25, 31, 40, 41, 42, 43, 44, 45, 46, 47, 48, 49, 50, 51, 52, 53, 54, 71, 72, 73, 74, 75, 76, 77, 78, 79, 80, 81, 82, 436, 437, 438, 90, 523, 524, 525, 526, 370, 371, 372, 373, 374, 375, 376, 377, 12, 13, 14, 15, 16, 17, 18, 19, 20, 21, 22, 23, 55, 56, 57, 58, 59] = 439293419016639251370443356294460484654631104277321378895619200073547706521239586283850970308205852906823463443314192995897792141099630391516888036845811662847 := by decide +kernel
set_option maxRecDepth 20000 in
theorem ggX5_odds_X5_within : GoodIn wsX5_odds wsX5_within := goodIn_m tw_wsX5_odds tm_wsX5_odds tw_wsX5_within tm_wsX5_within zgood (by decide +kernel)
set_option maxRecDepth 20000 in
theorem gX5_odds_X5_within : GoodIn wsX5_odds (va_wsS RX5 86 yX5_within wsX5_within) := goodIn_app (goodIn_m tw_wsX5_odds tm_wsX5_odds (iw := [379, 301, 302]) rfl rfl zgood (by decide +kernel)) ggX5_odds_X5_within
set_option maxRecDepth 20000 in
theorem ggX5_odds_X0_hasBoth : GoodIn wsX5_odds wsX0_hasBoth := goodIn_m tw_wsX5_odds tm_wsX5_odds tw_wsX0_hasBoth tm_wsX0_hasBoth zgood (by decide +kernel)
set_option maxRecDepth 20000 in
theorem gX5_odds_X0_hasBoth : GoodIn wsX5_odds (wsV RX5 137 RX0 yX0_hasBoth wsX0_hasBoth) := goodIn_app (goodIn_m tw_wsX5_odds tm_wsX5_odds (iw := [413, 414, 415, 4]) rfl rfl zgood (by decide +kernel)) ggX5_odds_X0_hasBoth
set_option maxRecDepth 20000 in
theorem ggX5_odds_X5_isMoreMiles : GoodIn wsX5_odds wsX5_isMoreMiles := goodIn_m tw_wsX5_odds tm_wsX5_odds tw_wsX5_isMoreMiles tm_wsX5_isMoreMiles zgood (by decide +kernel)
set_option maxRecDepth 20000 in
theorem gX5_odds_X5_isMoreMiles : GoodIn wsX5_odds (va_wsS RX5 207 yX5_isMoreMiles wsX5_isMoreMiles) := goodIn_app (goodIn_m tw_wsX5_odds tm_wsX5_odds (iw := [515, 516, 302]) rfl rfl zgood (by decide +kernel)) ggX5_odds_X5_isMoreMiles
set_option maxRecDepth 20000 in
theorem ggX5_odds_X5_think : GoodIn wsX5_odds wsX5_think := goodIn_m tw_wsX5_odds tm_wsX5_odds tw_wsX5_think tm_wsX5_think zgood (by decide +kernel)
set_option maxRecDepth 20000 in
theorem gX5_odds_X5_think : GoodIn wsX5_odds (wsV RX5 143 RX5 yX5_think wsX5_think) := goodIn_app (goodIn_m tw_wsX5_odds tm_wsX5_odds (iw := [420, 421, 422, 302]) rfl rfl zgood (by decide +kernel)) ggX5_odds_X5_think
set_option maxRecDepth 20000 in
theorem ggX5_odds_X0_goByLots : GoodIn wsX5_odds wsX0_goByLots := goodIn_m tw_wsX5_odds tm_wsX5_odds tw_wsX0_goByLots tm_wsX0_goByLots zgood (by decide +kernel)
set_option maxRecDepth 20000 in
theorem gX5_odds_X0_goByLots : GoodIn wsX5_odds (wsV RX5 210 RX0 yX0_goByLots wsX0_goByLots) := goodIn_app (goodIn_m tw_wsX5_odds tm_wsX5_odds (iw := [518, 519, 520, 4]) rfl rfl zgood (by decide +kernel)) ggX5_odds_X0_goByLots
set_option maxRecDepth 20000 in
theorem ggX5_odds_X0_verdict : GoodIn wsX5_odds wsX0_verdict := goodIn_m tw_wsX5_odds tm_wsX5_odds tw_wsX0_verdict tm_wsX0_verdict zgood (by decide +kernel)
set_option maxRecDepth 20000 in
theorem gX5_odds_X0_verdict : GoodIn wsX5_odds (wsV RX5 164 RX0 yX0_verdict wsX0_verdict) := goodIn_app (goodIn_m tw_wsX5_odds tm_wsX5_odds (iw := [436, 437, 438, 4]) rfl rfl zgood (by decide +kernel)) ggX5_odds_X0_verdict
set_option maxRecDepth 20000 in
theorem tw_wsX5_commonDivisor : wsX5_commonDivisor = [525, 526, 38, 35, 39].map wTb.get := rfl
set_option maxRecDepth 20000 in
theorem tm_wsX5_commonDivisor : zmk [525, 526, 38, 35, 39] = 329510287686269266319131238355906874428932894406878659650934246040906072803087490501882862751749818638910222946791081185781855423986398903003553358832516202496 := by decide +kernel
set_option maxRecDepth 20000 in
theorem ggX5_odds_X5_commonDivisor : GoodIn wsX5_odds wsX5_commonDivisor := goodIn_m tw_wsX5_odds tm_wsX5_odds tw_wsX5_commonDivisor tm_wsX5_commonDivisor zgood (by decide +kernel)
set_option maxRecDepth 20000 in
theorem gX5_odds_X5_commonDivisor : GoodIn wsX5_odds (va_wsS RX5 215 yX5_commonDivisor wsX5_commonDivisor) := goodIn_app (goodIn_m tw_wsX5_odds tm_wsX5_odds (iw := [523, 524, 302]) rfl rfl zgood (by decide +kernel)) ggX5_odds_X5_commonDivisor
set_option maxRecDepth 20000 in
theorem tw_wsX5_image : wsX5_image = [527, 335, 333, 528, 456, 424, 425, 426, 4, 427, 28, 428, 429, 430, 431, 29, 61, 67, 30, 26, 27, 6, 11, 32, 370, 371, 372, 373, 374, 375, 376, 377, 12, 13, 14, 15, 16, 17, 18, 19, 20, 21, 22, 23].map wTb.get := rfl
set_option maxRecDepth 20000 in
theorem tm_wsX5_image : zmk [527, 335, 333, 528, 456, 424, 425, 426, 4, 427, 28, 428, 429, 430, 431, 29, 61, 67, 30, 26, 27, 6, 11, 32, 370, 371, 372, 373, 374, 375, 376, 377, 12, 13, 14, 15, 16, 17, 18, 19, 20, 21, 22, 23] = 1318041150745077065276711024148094528892224826841718150993467437978332292518589127342639506269322297613623983271894397702415112910167650355049164704802150545488 := by decide +kernel
set_option maxRecDepth 20000 in
theorem tw_wsX0_become : wsX0_become = [427, 28, 428, 429, 430, 431, 29, 61, 67, 30, 26, 27, 6, 11, 32, 12, 13, 14, 15, 16, 17, 18, 19, 20, 21, 22, 23].map wTb.get := rfl
set_option maxRecDepth 20000 in
theorem tm_wsX0_become : zmk [427, 28, 428, 429, 430, 431, 29, 61, 67, 30, 26, 27, 6, 11, 32, 12, 13, 14, 15, 16, 17, 18, 19, 20, 21, 22, 23] = 10744095064718157580866354963554449350816193667081289228785608374881657567746799289279900823653540865127390942625318636442557085760 := by decide +kernel
set_option maxRecDepth 20000 in
theorem ggX5_image_X0_become : GoodIn wsX5_image wsX0_become := goodIn_m tw_wsX5_image tm_wsX5_image tw_wsX0_become tm_wsX0_become zgood (by decide +kernel)
set_option maxRecDepth 20000 in
theorem gX5_image_X0_become : GoodIn wsX5_image (wsV RX5 218 RX0 yX0_become wsX0_become) := goodIn_app (goodIn_m tw_wsX5_image tm_wsX5_image (iw := [424, 425, 426, 4]) rfl rfl zgood (by decide +kernel)) ggX5_image_X0_become
set_option maxRecDepth 20000 in
theorem tw_wsX5_back : wsX5_back = [529, 528, 333, 335, 456, 424, 425, 426, 4, 427, 28, 428, 429, 430, 431, 29, 61, 67, 30, 26, 27, 6, 11, 32, 370, 371, 372, 373, 374, 375, 376, 377, 12, 13, 14, 15, 16, 17, 18, 19, 20, 21, 22, 23].map wTb.get := rfl
set_option maxRecDepth 20000 in
theorem tm_wsX5_back : zmk [529, 528, 333, 335, 456, 424, 425, 426, 4, 427, 28, 428, 429, 430, 431, 29, 61, 67, 30, 26, 27, 6, 11, 32, 370, 371, 372, 373, 374, 375, 376, 377, 12, 13, 14, 15, 16, 17, 18, 19, 20, 21, 22, 23] = 2636082301490154130553235977571722026607956404469232789597204422141956583730939089350170957276321572169264875059058722445542534606113245967063378136696241518672 := by decide +kernel
set_option maxRecDepth 20000 in
theorem ggX5_back_X0_become : GoodIn wsX5_back wsX0_become := goodIn_m tw_wsX5_back tm_wsX5_back tw_wsX0_become tm_wsX0_become zgood (by decide +kernel)
set_option maxRecDepth 20000 in
theorem gX5_back_X0_become : GoodIn wsX5_back (wsV RX5 218 RX0 yX0_become wsX0_become) := goodIn_app (goodIn_m tw_wsX5_back tm_wsX5_back (iw := [424, 425, 426, 4]) rfl rfl zgood (by decide +kernel)) ggX5_back_X0_become
set_option maxRecDepth 20000 in
theorem tw_wsX5_sheet : wsX5_sheet = [530, 339, 492, 493, 494, 338, 300, 301, 302, 303, 506, 507, 508, 304, 291, 292, 290, 293, 294, 295, 296, 370, 371, 372, 373, 374, 375, 376, 377, 297, 298, 299].map wTb.get := rfl
set_option maxRecDepth 20000 in
theorem tm_wsX5_sheet : zmk [530, 339, 492, 493, 494, 338, 300, 301, 302, 303, 506, 507, 508, 304, 291, 292, 290, 293, 294, 295, 296, 370, 371, 372, 373, 374, 375, 376, 377, 297, 298, 299] = 3514777868555371285976951104296830661779000731660684242065064173478164475067418870690770025603787337016358649051205365465310128069993774343591444672650154082304 := by decide +kernel
set_option maxRecDepth 20000 in
theorem ggX5_sheet_X2_isSheet : GoodIn wsX5_sheet wsX2_isSheet := goodIn_m tw_wsX5_sheet tm_wsX5_sheet tw_wsX2_isSheet tm_wsX2_isSheet zgood (by decide +kernel)
set_option maxRecDepth 20000 in
theorem gX5_sheet_X2_isSheet : GoodIn wsX5_sheet (wsV RX5 196 RX2 yX2_isSheet wsX2_isSheet) := goodIn_app (goodIn_m tw_wsX5_sheet tm_wsX5_sheet (iw := [492, 493, 494, 338]) rfl rfl zgood (by decide +kernel)) ggX5_sheet_X2_isSheet
set_option maxRecDepth 20000 in
theorem ggX5_sheet_X2_become : GoodIn wsX5_sheet wsX2_become := goodIn_m tw_wsX5_sheet tm_wsX5_sheet tw_wsX2_become tm_wsX2_become zgood (by decide +kernel)
set_option maxRecDepth 20000 in
theorem gX5_sheet_X2_become : GoodIn wsX5_sheet (wsV RX5 199 RX2 yX2_become wsX2_become) := goodIn_app (goodIn_m tw_wsX5_sheet tm_wsX5_sheet (iw := [506, 507, 508, 338]) rfl rfl zgood (by decide +kernel)) ggX5_sheet_X2_become
set_option maxRecDepth 20000 in
theorem tw_wsX5_cell : wsX5_cell = [531, 339, 489, 490, 492, 493, 494, 338, 300, 301, 302, 303, 509, 510, 511, 512, 290, 291, 370, 371, 372, 373, 374, 375, 376, 377, 297, 298, 299].map wTb.get := rfl
set_option maxRecDepth 20000 in
theorem tm_wsX5_cell : zmk [531, 339, 489, 490, 492, 493, 494, 338, 300, 301, 302, 303, 509, 510, 511, 512, 290, 291, 370, 371, 372, 373, 374, 375, 376, 377, 297, 298, 299] = 7029577943707914770718973612881793579562982739534963441866720403432023482048672327943173833223654929404190886043295218996474576440493234801528564031989852667904 := by decide +kernel
set_option maxRecDepth 20000 in
theorem ggX5_cell_X2_isSheet : GoodIn wsX5_cell wsX2_isSheet := goodIn_m tw_wsX5_cell tm_wsX5_cell tw_wsX2_isSheet tm_wsX2_isSheet zgood (by decide +kernel)
set_option maxRecDepth 20000 in
theorem gX5_cell_X2_isSheet : GoodIn wsX5_cell (wsV RX5 196 RX2 yX2_isSheet wsX2_isSheet) := goodIn_app (goodIn_m tw_wsX5_cell tm_wsX5_cell (iw := [492, 493, 494, 338]) rfl rfl zgood (by decide +kernel)) ggX5_cell_X2_isSheet
set_option maxRecDepth 20000 in
theorem ggX5_cell_X2_store : GoodIn wsX5_cell wsX2_store := goodIn_m tw_wsX5_cell tm_wsX5_cell tw_wsX2_store tm_wsX2_store zgood (by decide +kernel)
set_option maxRecDepth 20000 in
theorem gX5_cell_X2_store : GoodIn wsX5_cell (wsV RX5 203 RX2 yX2_store wsX2_store) := goodIn_app (goodIn_m tw_wsX5_cell tm_wsX5_cell (iw := [509, 510, 511, 338]) rfl rfl zgood (by decide +kernel)) ggX5_cell_X2_store
set_option maxRecDepth 20000 in
theorem tw_wsX5_copy : wsX5_copy = [532, 339, 489, 491, 533, 429, 430, 431, 492, 493, 494, 338, 300, 301, 302, 303, 534, 535, 536, 537, 292, 370, 371, 372, 373, 374, 375, 376, 377, 297, 298, 299].map wTb.get := rfl
set_option maxRecDepth 20000 in
theorem tm_wsX5_copy : zmk [532, 339, 489, 491, 533, 429, 430, 431, 492, 493, 494, 338, 300, 301, 302, 303, 534, 535, 536, 537, 292, 370, 371, 372, 373, 374, 375, 376, 377, 297, 298, 299] = 885723653300789286316548237770057892853581943188372753247763049670924351287120855296043021021524212264168331891204043124474967368282735085949284027487313834541056 := by decide +kernel
set_option maxRecDepth 20000 in
theorem ggX5_copy_X2_isSheet : GoodIn wsX5_copy wsX2_isSheet := goodIn_m tw_wsX5_copy tm_wsX5_copy tw_wsX2_isSheet tm_wsX2_isSheet zgood (by decide +kernel)
set_option maxRecDepth 20000 in
theorem gX5_copy_X2_isSheet : GoodIn wsX5_copy (wsV RX5 196 RX2 yX2_isSheet wsX2_isSheet) := goodIn_app (goodIn_m tw_wsX5_copy tm_wsX5_copy (iw := [492, 493, 494, 338]) rfl rfl zgood (by decide +kernel)) ggX5_copy_X2_isSheet
set_option maxRecDepth 20000 in
theorem tw_wsX2_holds : wsX2_holds = [537, 292, 297, 298, 299].map wTb.get := rfl
set_option maxRecDepth 20000 in
theorem tm_wsX2_holds : zmk [537, 292, 297, 298, 299] = 449891379454319638281053850768598185886969711830191663310075557261183759857512438107135980369765179043547115424994232382772609391219746784275040763206668304515072 := by decide +kernel
set_option maxRecDepth 20000 in
theorem ggX5_copy_X2_holds : GoodIn wsX5_copy wsX2_holds := goodIn_m tw_wsX5_copy tm_wsX5_copy tw_wsX2_holds tm_wsX2_holds zgood (by decide +kernel)
set_option maxRecDepth 20000 in
theorem gX5_copy_X2_holds : GoodIn wsX5_copy (wsV RX5 231 RX2 yX2_holds wsX2_holds) := goodIn_app (goodIn_m tw_wsX5_copy tm_wsX5_copy (iw := [534, 535, 536, 338]) rfl rfl zgood (by decide +kernel)) ggX5_copy_X2_holds
set_option maxRecDepth 20000 in
theorem tw_wsX5_pebblesBy : wsX5_pebblesBy = [538, 339, 489, 491, 492, 493, 494, 338, 300, 301, 302, 303, 379, 534, 535, 536, 537, 292, 539, 540, 541, 400, 333, 401, 402, 403, 4, 404, 11, 67, 30, 26, 27, 370, 371, 372, 373, 374, 375, 376, 377, 297, 298, 299, 12, 13, 14, 15, 16, 17, 18, 19, 20, 21, 22, 23].map wTb.get := rfl
set_option maxRecDepth 20000 in
theorem tm_wsX5_pebblesBy : zmk [538, 339, 489, 491, 492, 493, 494, 338, 300, 301, 302, 303, 379, 534, 535, 536, 537, 292, 539, 540, 541, 400, 333, 401, 402, 403, 4, 404, 11, 67, 30, 26, 27, 370, 371, 372, 373, 374, 375, 376, 377, 297, 298, 299, 12, 13, 14, 15, 16, 17, 18, 19, 20, 21, 22, 23] = 14340287720106535968659314962318437685191920514505485666524982361687960700088354555901915240944511374227354826955761522480455981669154407912399209801925162528929808 := by decide +kernel
set_option maxRecDepth 20000 in
theorem ggX5_pebblesBy_X2_isSheet : GoodIn wsX5_pebblesBy wsX2_isSheet := goodIn_m tw_wsX5_pebblesBy tm_wsX5_pebblesBy tw_wsX2_isSheet tm_wsX2_isSheet zgood (by decide +kernel)
set_option maxRecDepth 20000 in
theorem gX5_pebblesBy_X2_isSheet : GoodIn wsX5_pebblesBy (wsV RX5 196 RX2 yX2_isSheet wsX2_isSheet) := goodIn_app (goodIn_m tw_wsX5_pebblesBy tm_wsX5_pebblesBy (iw := [492, 493, 494, 338]) rfl rfl zgood (by decide +kernel)) ggX5_pebblesBy_X2_isSheet
set_option maxRecDepth 20000 in
theorem ggX5_pebblesBy_X5_within : GoodIn wsX5_pebblesBy wsX5_within := goodIn_m tw_wsX5_pebblesBy tm_wsX5_pebblesBy tw_wsX5_within tm_wsX5_within zgood (by decide +kernel)
set_option maxRecDepth 20000 in
theorem gX5_pebblesBy_X5_within : GoodIn wsX5_pebblesBy (va_wsS RX5 86 yX5_within wsX5_within) := goodIn_app (goodIn_m tw_wsX5_pebblesBy tm_wsX5_pebblesBy (iw := [379, 301, 302]) rfl rfl zgood (by decide +kernel)) ggX5_pebblesBy_X5_within
set_option maxRecDepth 20000 in
theorem ggX5_pebblesBy_X2_holds : GoodIn wsX5_pebblesBy wsX2_holds := goodIn_m tw_wsX5_pebblesBy tm_wsX5_pebblesBy tw_wsX2_holds tm_wsX2_holds zgood (by decide +kernel)
set_option maxRecDepth 20000 in
theorem gX5_pebblesBy_X2_holds : GoodIn wsX5_pebblesBy (wsV RX5 231 RX2 yX2_holds wsX2_holds) := goodIn_app (goodIn_m tw_wsX5_pebblesBy tm_wsX5_pebblesBy (iw := [534, 535, 536, 338]) rfl rfl zgood (by decide +kernel)) ggX5_pebblesBy_X2_holds
set_option maxRecDepth 20000 in
theorem ggX5_pebblesBy_X5_pebble : GoodIn wsX5_pebblesBy wsX5_pebble := goodIn_m tw_wsX5_pebblesBy tm_wsX5_pebblesBy tw_wsX5_pebble tm_wsX5_pebble zgood (by decide +kernel)
set_option maxRecDepth 20000 in
theorem gX5_pebblesBy_X5_pebble : GoodIn wsX5_pebblesBy (wsV RX5 245 RX5 yX5_pebble wsX5_pebble) := goodIn_app (goodIn_m tw_wsX5_pebblesBy tm_wsX5_pebblesBy (iw := [539, 540, 541, 302]) rfl rfl zgood (by decide +kernel)) ggX5_pebblesBy_X5_pebble
set_option maxRecDepth 20000 in
theorem tw_wsX5_taken : wsX5_taken = [542, 543, 544, 333, 545, 389, 546, 409, 379, 301, 302, 303, 387, 2, 3, 4, 5, 6, 398, 8, 9, 10, 11, 547, 548, 549, 370, 371, 372, 373, 374, 375, 376, 377, 12, 13, 14, 15, 16, 17, 18, 19, 20, 21, 22, 23].map wTb.get := rfl
set_option maxRecDepth 20000 in
theorem tm_wsX5_taken : zmk [542, 543, 544, 333, 545, 389, 546, 409, 379, 301, 302, 303, 387, 2, 3, 4, 5, 6, 398, 8, 9, 10, 11, 547, 548, 549, 370, 371, 372, 373, 374, 375, 376, 377, 12, 13, 14, 15, 16, 17, 18, 19, 20, 21, 22, 23] = 3671113656347248248373399422271761196837674171293441947441130228912652342022731634307611586306116588352558444933720883590255052136146091168489767021510412074060087164 := by decide +kernel
set_option maxRecDepth 20000 in
theorem ggX5_taken_X5_within : GoodIn wsX5_taken wsX5_within := goodIn_m tw_wsX5_taken tm_wsX5_taken tw_wsX5_within tm_wsX5_within zgood (by decide +kernel)
set_option maxRecDepth 20000 in
theorem gX5_taken_X5_within : GoodIn wsX5_taken (va_wsS RX5 86 yX5_within wsX5_within) := goodIn_app (goodIn_m tw_wsX5_taken tm_wsX5_taken (iw := [379, 301, 302]) rfl rfl zgood (by decide +kernel)) ggX5_taken_X5_within
set_option maxRecDepth 20000 in
theorem ggX5_taken_X0_hasJudge : GoodIn wsX5_taken wsX0_hasJudge := goodIn_m tw_wsX5_taken tm_wsX5_taken tw_wsX0_hasJudge tm_wsX0_hasJudge zgood (by decide +kernel)
set_option maxRecDepth 20000 in
theorem gX5_taken_X0_hasJudge : GoodIn wsX5_taken (wsV RX5 94 RX0 yX0_hasJudge wsX0_hasJudge) := goodIn_app (goodIn_m tw_wsX5_taken tm_wsX5_taken (iw := [387, 2, 3, 4]) rfl rfl zgood (by decide +kernel)) ggX5_taken_X0_hasJudge
set_option maxRecDepth 20000 in
theorem ggX5_taken_X0_hasPebble : GoodIn wsX5_taken wsX0_hasPebble := goodIn_m tw_wsX5_taken tm_wsX5_taken tw_wsX0_hasPebble tm_wsX0_hasPebble zgood (by decide +kernel)
set_option maxRecDepth 20000 in
theorem gX5_taken_X0_hasPebble : GoodIn wsX5_taken (wsV RX5 111 RX0 yX0_hasPebble wsX0_hasPebble) := goodIn_app (goodIn_m tw_wsX5_taken tm_wsX5_taken (iw := [398, 8, 9, 4]) rfl rfl zgood (by decide +kernel)) ggX5_taken_X0_hasPebble
set_option maxRecDepth 20000 in
theorem tw_wsX5_isOfKind : wsX5_isOfKind = [549].map wTb.get := rfl
set_option maxRecDepth 20000 in
theorem tm_wsX5_isOfKind : zmk [549] = 1842755090244893238399196572748178169393027939656465052918069482541808673043041431682679065028153695088607604995490158642466105776330465152617887818082371115063181312 := by decide +kernel
set_option maxRecDepth 20000 in
theorem ggX5_taken_X5_isOfKind : GoodIn wsX5_taken wsX5_isOfKind := goodIn_m tw_wsX5_taken tm_wsX5_taken tw_wsX5_isOfKind tm_wsX5_isOfKind zgood (by decide +kernel)
set_option maxRecDepth 20000 in
theorem gX5_taken_X5_isOfKind : GoodIn wsX5_taken (va_wsS RX5 256 yX5_isOfKind wsX5_isOfKind) := goodIn_app (goodIn_m tw_wsX5_taken tm_wsX5_taken (iw := [547, 548, 302]) rfl rfl zgood (by decide +kernel)) ggX5_taken_X5_isOfKind
set_option maxRecDepth 20000 in
theorem ggX5_isByte_X5_within : GoodIn wsX5_isByte wsX5_within := goodIn_m tw_wsX5_isByte tm_wsX5_isByte tw_wsX5_within tm_wsX5_within zgood (by decide +kernel)
set_option maxRecDepth 20000 in
theorem gX5_isByte_X5_within : GoodIn wsX5_isByte (va_wsS RX5 86 yX5_within wsX5_within) := goodIn_app (goodIn_m tw_wsX5_isByte tm_wsX5_isByte (iw := [379, 301, 302]) rfl rfl zgood (by decide +kernel)) ggX5_isByte_X5_within
set_option maxRecDepth 20000 in
theorem ggX5_isPairOfBits_X5_within : GoodIn wsX5_isPairOfBits wsX5_within := goodIn_m tw_wsX5_isPairOfBits tm_wsX5_isPairOfBits tw_wsX5_within tm_wsX5_within zgood (by decide +kernel)
set_option maxRecDepth 20000 in
theorem gX5_isPairOfBits_X5_within : GoodIn wsX5_isPairOfBits (va_wsS RX5 86 yX5_within wsX5_within) := goodIn_app (goodIn_m tw_wsX5_isPairOfBits tm_wsX5_isPairOfBits (iw := [379, 301, 302]) rfl rfl zgood (by decide +kernel)) ggX5_isPairOfBits_X5_within
set_option maxRecDepth 20000 in
theorem ggX5_isMoreMiles_X5_within : GoodIn wsX5_isMoreMiles wsX5_within := goodIn_m tw_wsX5_isMoreMiles tm_wsX5_isMoreMiles tw_wsX5_within tm_wsX5_within zgood (by decide +kernel)
set_option maxRecDepth 20000 in
theorem gX5_isMoreMiles_X5_within : GoodIn wsX5_isMoreMiles (va_wsS RX5 86 yX5_within wsX5_within) := goodIn_app (goodIn_m tw_wsX5_isMoreMiles tm_wsX5_isMoreMiles (iw := [379, 301, 302]) rfl rfl zgood (by decide +kernel)) ggX5_isMoreMiles_X5_within
set_option maxRecDepth 20000 in
theorem ggX5_think_X0_become : GoodIn wsX5_think wsX0_become := goodIn_m tw_wsX5_think tm_wsX5_think tw_wsX0_become tm_wsX0_become zgood (by decide +kernel)
set_option maxRecDepth 20000 in
theorem gX5_think_X0_become : GoodIn wsX5_think (wsV RX5 218 RX0 yX0_become wsX0_become) := goodIn_app (goodIn_m tw_wsX5_think tm_wsX5_think (iw := [424, 425, 426, 4]) rfl rfl zgood (by decide +kernel)) ggX5_think_X0_become
set_option maxRecDepth 20000 in
theorem ggX5_outcome_X0_verdict : GoodIn wsX5_outcome wsX0_verdict := goodIn_m tw_wsX5_outcome tm_wsX5_outcome tw_wsX0_verdict tm_wsX0_verdict zgood (by decide +kernel)
set_option maxRecDepth 20000 in
theorem gX5_outcome_X0_verdict : GoodIn wsX5_outcome (wsV RX5 164 RX0 yX0_verdict wsX0_verdict) := goodIn_app (goodIn_m tw_wsX5_outcome tm_wsX5_outcome (iw := [436, 437, 438, 4]) rfl rfl zgood (by decide +kernel)) ggX5_outcome_X0_verdict
set_option maxRecDepth 20000 in
theorem ggX5_guiltyBits_X5_think : GoodIn wsX5_guiltyBits wsX5_think := goodIn_m tw_wsX5_guiltyBits tm_wsX5_guiltyBits tw_wsX5_think tm_wsX5_think zgood (by decide +kernel)
set_option maxRecDepth 20000 in
theorem gX5_guiltyBits_X5_think : GoodIn wsX5_guiltyBits (wsV RX5 143 RX5 yX5_think wsX5_think) := goodIn_app (goodIn_m tw_wsX5_guiltyBits tm_wsX5_guiltyBits (iw := [420, 421, 422, 302]) rfl rfl zgood (by decide +kernel)) ggX5_guiltyBits_X5_think
set_option maxRecDepth 20000 in
theorem ggX5_guiltyBits_X0_verdict : GoodIn wsX5_guiltyBits wsX0_verdict := goodIn_m tw_wsX5_guiltyBits tm_wsX5_guiltyBits tw_wsX0_verdict tm_wsX0_verdict zgood (by decide +kernel)
set_option maxRecDepth 20000 in
theorem gX5_guiltyBits_X0_verdict : GoodIn wsX5_guiltyBits (wsV RX5 164 RX0 yX0_verdict wsX0_verdict) := goodIn_app (goodIn_m tw_wsX5_guiltyBits tm_wsX5_guiltyBits (iw := [436, 437, 438, 4]) rfl rfl zgood (by decide +kernel)) ggX5_guiltyBits_X0_verdict
set_option maxRecDepth 20000 in
theorem ggX5_guiltyBits_X0_mile : GoodIn wsX5_guiltyBits wsX0_mile := goodIn_m tw_wsX5_guiltyBits tm_wsX5_guiltyBits tw_wsX0_mile tm_wsX0_mile zgood (by decide +kernel)
set_option maxRecDepth 20000 in
theorem gX5_guiltyBits_X0_mile : GoodIn wsX5_guiltyBits (wsV RX5 158 RX0 yX0_mile wsX0_mile) := goodIn_app (goodIn_m tw_wsX5_guiltyBits tm_wsX5_guiltyBits (iw := [444, 85, 86, 4]) rfl rfl zgood (by decide +kernel)) ggX5_guiltyBits_X0_mile
set_option maxRecDepth 20000 in
theorem ggX5_guiltyOfAll_X5_think : GoodIn wsX5_guiltyOfAll wsX5_think := goodIn_m tw_wsX5_guiltyOfAll tm_wsX5_guiltyOfAll tw_wsX5_think tm_wsX5_think zgood (by decide +kernel)
set_option maxRecDepth 20000 in
theorem gX5_guiltyOfAll_X5_think : GoodIn wsX5_guiltyOfAll (wsV RX5 143 RX5 yX5_think wsX5_think) := goodIn_app (goodIn_m tw_wsX5_guiltyOfAll tm_wsX5_guiltyOfAll (iw := [420, 421, 422, 302]) rfl rfl zgood (by decide +kernel)) ggX5_guiltyOfAll_X5_think
set_option maxRecDepth 20000 in
theorem ggX5_guiltyOfAll_X0_go : GoodIn wsX5_guiltyOfAll wsX0_go := goodIn_m tw_wsX5_guiltyOfAll tm_wsX5_guiltyOfAll tw_wsX0_go tm_wsX0_go zgood (by decide +kernel)
set_option maxRecDepth 20000 in
theorem gX5_guiltyOfAll_X0_go : GoodIn wsX5_guiltyOfAll (wsV RX5 140 RX0 yX0_go wsX0_go) := goodIn_app (goodIn_m tw_wsX5_guiltyOfAll tm_wsX5_guiltyOfAll (iw := [416, 417, 418, 4]) rfl rfl zgood (by decide +kernel)) ggX5_guiltyOfAll_X0_go
set_option maxRecDepth 20000 in
theorem ggX5_guiltyOfAll_X0_verdict : GoodIn wsX5_guiltyOfAll wsX0_verdict := goodIn_m tw_wsX5_guiltyOfAll tm_wsX5_guiltyOfAll tw_wsX0_verdict tm_wsX0_verdict zgood (by decide +kernel)
set_option maxRecDepth 20000 in
theorem gX5_guiltyOfAll_X0_verdict : GoodIn wsX5_guiltyOfAll (wsV RX5 164 RX0 yX0_verdict wsX0_verdict) := goodIn_app (goodIn_m tw_wsX5_guiltyOfAll tm_wsX5_guiltyOfAll (iw := [436, 437, 438, 4]) rfl rfl zgood (by decide +kernel)) ggX5_guiltyOfAll_X0_verdict
set_option maxRecDepth 20000 in
theorem ggX5_weighCases_X5_think : GoodIn wsX5_weighCases wsX5_think := goodIn_m tw_wsX5_weighCases tm_wsX5_weighCases tw_wsX5_think tm_wsX5_think zgood (by decide +kernel)
set_option maxRecDepth 20000 in
theorem gX5_weighCases_X5_think : GoodIn wsX5_weighCases (wsV RX5 143 RX5 yX5_think wsX5_think) := goodIn_app (goodIn_m tw_wsX5_weighCases tm_wsX5_weighCases (iw := [420, 421, 422, 302]) rfl rfl zgood (by decide +kernel)) ggX5_weighCases_X5_think
set_option maxRecDepth 20000 in
theorem ggX5_weighCases_X0_tread : GoodIn wsX5_weighCases wsX0_tread := goodIn_m tw_wsX5_weighCases tm_wsX5_weighCases tw_wsX0_tread tm_wsX0_tread zgood (by decide +kernel)
set_option maxRecDepth 20000 in
theorem gX5_weighCases_X0_tread : GoodIn wsX5_weighCases (wsV RX5 264 RX0 yX0_tread wsX0_tread) := goodIn_app (goodIn_m tw_wsX5_weighCases tm_wsX5_weighCases (iw := [467, 80, 81, 4]) rfl rfl zgood (by decide +kernel)) ggX5_weighCases_X0_tread
set_option maxRecDepth 20000 in
theorem ggX5_weighCases_X0_go : GoodIn wsX5_weighCases wsX0_go := goodIn_m tw_wsX5_weighCases tm_wsX5_weighCases tw_wsX0_go tm_wsX0_go zgood (by decide +kernel)
set_option maxRecDepth 20000 in
theorem gX5_weighCases_X0_go : GoodIn wsX5_weighCases (wsV RX5 140 RX0 yX0_go wsX0_go) := goodIn_app (goodIn_m tw_wsX5_weighCases tm_wsX5_weighCases (iw := [416, 417, 418, 4]) rfl rfl zgood (by decide +kernel)) ggX5_weighCases_X0_go
set_option maxRecDepth 20000 in
theorem ggX5_weighCases_X0_verdict : GoodIn wsX5_weighCases wsX0_verdict := goodIn_m tw_wsX5_weighCases tm_wsX5_weighCases tw_wsX0_verdict tm_wsX0_verdict zgood (by decide +kernel)
set_option maxRecDepth 20000 in
theorem gX5_weighCases_X0_verdict : GoodIn wsX5_weighCases (wsV RX5 164 RX0 yX0_verdict wsX0_verdict) := goodIn_app (goodIn_m tw_wsX5_weighCases tm_wsX5_weighCases (iw := [436, 437, 438, 4]) rfl rfl zgood (by decide +kernel)) ggX5_weighCases_X0_verdict
set_option maxRecDepth 20000 in
theorem ggX5_refusalOfSheet_X2_isSheet : GoodIn wsX5_refusalOfSheet wsX2_isSheet := goodIn_m tw_wsX5_refusalOfSheet tm_wsX5_refusalOfSheet tw_wsX2_isSheet tm_wsX2_isSheet zgood (by decide +kernel)
set_option maxRecDepth 20000 in
theorem gX5_refusalOfSheet_X2_isSheet : GoodIn wsX5_refusalOfSheet (wsV RX5 196 RX2 yX2_isSheet wsX2_isSheet) := goodIn_app (goodIn_m tw_wsX5_refusalOfSheet tm_wsX5_refusalOfSheet (iw := [492, 493, 494, 338]) rfl rfl zgood (by decide +kernel)) ggX5_refusalOfSheet_X2_isSheet
set_option maxRecDepth 20000 in
theorem ggX5_refusalOfSheet_X0_hasPebble : GoodIn wsX5_refusalOfSheet wsX0_hasPebble := goodIn_m tw_wsX5_refusalOfSheet tm_wsX5_refusalOfSheet tw_wsX0_hasPebble tm_wsX0_hasPebble zgood (by decide +kernel)
set_option maxRecDepth 20000 in
theorem gX5_refusalOfSheet_X0_hasPebble : GoodIn wsX5_refusalOfSheet (wsV RX5 111 RX0 yX0_hasPebble wsX0_hasPebble) := goodIn_app (goodIn_m tw_wsX5_refusalOfSheet tm_wsX5_refusalOfSheet (iw := [398, 8, 9, 4]) rfl rfl zgood (by decide +kernel)) ggX5_refusalOfSheet_X0_hasPebble
set_option maxRecDepth 20000 in
theorem ggX5_refusalOfSheet_X5_within : GoodIn wsX5_refusalOfSheet wsX5_within := goodIn_m tw_wsX5_refusalOfSheet tm_wsX5_refusalOfSheet tw_wsX5_within tm_wsX5_within zgood (by decide +kernel)
set_option maxRecDepth 20000 in
theorem gX5_refusalOfSheet_X5_within : GoodIn wsX5_refusalOfSheet (va_wsS RX5 86 yX5_within wsX5_within) := goodIn_app (goodIn_m tw_wsX5_refusalOfSheet tm_wsX5_refusalOfSheet (iw := [379, 301, 302]) rfl rfl zgood (by decide +kernel)) ggX5_refusalOfSheet_X5_within
set_option maxRecDepth 20000 in
theorem ggX5_refusalOf_X5_refusalOfSheet : GoodIn wsX5_refusalOf wsX5_refusalOfSheet := goodIn_m tw_wsX5_refusalOf tm_wsX5_refusalOf tw_wsX5_refusalOfSheet tm_wsX5_refusalOfSheet zgood (by decide +kernel)
set_option maxRecDepth 20000 in
theorem gX5_refusalOf_X5_refusalOfSheet : GoodIn wsX5_refusalOf (wsV RX5 193 RX5 yX5_refusalOfSheet wsX5_refusalOfSheet) := goodIn_app (goodIn_m tw_wsX5_refusalOf tm_wsX5_refusalOf (iw := [485, 486, 487, 302]) rfl rfl zgood (by decide +kernel)) ggX5_refusalOf_X5_refusalOfSheet
set_option maxRecDepth 20000 in
theorem ggX5_refusalOf_X0_hasJudge : GoodIn wsX5_refusalOf wsX0_hasJudge := goodIn_m tw_wsX5_refusalOf tm_wsX5_refusalOf tw_wsX0_hasJudge tm_wsX0_hasJudge zgood (by decide +kernel)
set_option maxRecDepth 20000 in
theorem gX5_refusalOf_X0_hasJudge : GoodIn wsX5_refusalOf (wsV RX5 94 RX0 yX0_hasJudge wsX0_hasJudge) := goodIn_app (goodIn_m tw_wsX5_refusalOf tm_wsX5_refusalOf (iw := [387, 2, 3, 4]) rfl rfl zgood (by decide +kernel)) ggX5_refusalOf_X0_hasJudge
set_option maxRecDepth 20000 in
theorem ggX5_firstOtherwise_X0_go : GoodIn wsX5_firstOtherwise wsX0_go := goodIn_m tw_wsX5_firstOtherwise tm_wsX5_firstOtherwise tw_wsX0_go tm_wsX0_go zgood (by decide +kernel)
set_option maxRecDepth 20000 in
theorem gX5_firstOtherwise_X0_go : GoodIn wsX5_firstOtherwise (wsV RX5 140 RX0 yX0_go wsX0_go) := goodIn_app (goodIn_m tw_wsX5_firstOtherwise tm_wsX5_firstOtherwise (iw := [416, 417, 418, 4]) rfl rfl zgood (by decide +kernel)) ggX5_firstOtherwise_X0_go
set_option maxRecDepth 20000 in
theorem ggX5_firstOtherwise_X0_verdict : GoodIn wsX5_firstOtherwise wsX0_verdict := goodIn_m tw_wsX5_firstOtherwise tm_wsX5_firstOtherwise tw_wsX0_verdict tm_wsX0_verdict zgood (by decide +kernel)
set_option maxRecDepth 20000 in
theorem gX5_firstOtherwise_X0_verdict : GoodIn wsX5_firstOtherwise (wsV RX5 164 RX0 yX0_verdict wsX0_verdict) := goodIn_app (goodIn_m tw_wsX5_firstOtherwise tm_wsX5_firstOtherwise (iw := [436, 437, 438, 4]) rfl rfl zgood (by decide +kernel)) ggX5_firstOtherwise_X0_verdict
set_option maxRecDepth 20000 in
theorem tw_wsX6_init : wsX6_init = [550, 551, 286, 287, 289, 552, 553, 554, 555, 556, 557, 558, 559, 560, 561, 562, 563, 564, 565, 566, 567, 568, 569, 570, 571, 572, 573, 574, 575, 576, 577, 578, 579, 580, 581, 582, 583, 584, 585, 586, 587, 588, 589, 590, 591, 592, 593, 594, 595, 596, 597, 598, 599, 600, 601, 602, 603, 604, 605, 606, 607, 608, 609, 610, 611, 612, 613, 614, 615, 616, 617, 618, 619, 620, 621, 622, 623, 624, 625, 626, 627, 628, 629, 630, 631, 632, 633, 634, 635, 636, 637, 638, 639, 640, 641, 642, 643, 644, 645, 646, 647, 648, 649, 650, 651, 652, 653, 654, 655, 656, 657, 658, 659, 660, 661, 662, 663, 664, 665, 666, 667, 668, 669, 670, 671, 672, 673, 674].map wTb.get := rfl
set_option maxRecDepth 20000 in
theorem tm_wsX6_init : zmk [550, 551, 286, 287, 289, 552, 553, 554, 555, 556, 557, 558, 559, 560, 561, 562, 563, 564, 565, 566, 567, 568, 569, 570, 571, 572, 573, 574, 575, 576, 577, 578, 579, 580, 581, 582, 583, 584, 585, 586, 587, 588, 589, 590, 591, 592, 593, 594, 595, 596, 597, 598, 599, 600, 601, 602, 603, 604, 605, 606, 607, 608, 609, 610, 611, 612, 613, 614, 615, 616, 617, 618, 619, 620, 621, 622, 623, 624, 625, 626, 627, 628, 629, 630, 631, 632, 633, 634, 635, 636, 637, 638, 639, 640, 641, 642, 643, 644, 645, 646, 647, 648, 649, 650, 651, 652, 653, 654, 655, 656, 657, 658, 659, 660, 661, 662, 663, 664, 665, 666, 667, 668, 669, 670, 671, 672, 673, 674] = 156764265941034957982331212844852467341025906863409924282670904474225895383343551980348247776048091744796465525117883980816832380976224923845334277871698836915478517418710092430708817715504682116577230848 := by decide +kernel
set_option maxRecDepth 20000 in
theorem tw_wsX6_text : wsX6_text = [581, 582, 583, 584, 585, 586, 558, 576, 587, 588, 589, 590, 580, 591, 556, 592, 593, 594, 595, 596, 597, 598, 565, 599, 600, 601, 602, 603, 604, 605, 606, 607, 608, 609, 557, 610, 611, 612, 613, 566, 614, 615, 616, 617, 618, 619, 620, 621, 622, 623, 624, 625, 626, 627, 628, 629, 630, 631, 632, 633, 634, 635, 636, 637, 638, 639, 640, 641, 642, 643, 644, 645, 646, 647, 648, 649, 650, 651, 652, 653, 654, 655, 656, 657, 658, 659, 660, 661, 662, 663, 664, 665, 666, 667, 668, 669, 670, 671, 672, 673, 674].map wTb.get := rfl
set_option maxRecDepth 20000 in
theorem tm_wsX6_text : zmk [581, 582, 583, 584, 585, 586, 558, 576, 587, 588, 589, 590, 580, 591, 556, 592, 593, 594, 595, 596, 597, 598, 565, 599, 600, 601, 602, 603, 604, 605, 606, 607, 608, 609, 557, 610, 611, 612, 613, 566, 614, 615, 616, 617, 618, 619, 620, 621, 622, 623, 624, 625, 626, 627, 628, 629, 630, 631, 632, 633, 634, 635, 636, 637, 638, 639, 640, 641, 642, 643, 644, 645, 646, 647, 648, 649, 650, 651, 652, 653, 654, 655, 656, 657, 658, 659, 660, 661, 662, 663, 664, 665, 666, 667, 668, 669, 670, 671, 672, 673, 674] = 156764265941034957982331212841142875274116192760386329739094493825376449286201624171424043570885852270662265556504142516470704029742696095687542023303390924057150016487824371776795362184928247736252235776 := by decide +kernel
set_option maxRecDepth 20000 in
theorem ggX6_init_X6_text : GoodIn wsX6_init wsX6_text := goodIn_m tw_wsX6_init tm_wsX6_init tw_wsX6_text tm_wsX6_text zgood (by decide +kernel)
set_option maxRecDepth 20000 in
theorem gX6_init_X6_text : GoodIn wsX6_init (wsV RX6 84 RX6 yX6_text wsX6_text) := goodIn_app (goodIn_m tw_wsX6_init tm_wsX6_init (iw := [577, 578, 579, 580]) rfl rfl zgood (by decide +kernel)) ggX6_init_X6_text
set_option maxRecDepth 20000 in
theorem tw_wsX6_isPebble : wsX6_isPebble = [675, 676, 592, 593, 580, 594, 633, 634, 635, 636, 637, 638, 639, 640, 641, 642, 643, 644, 645, 646, 647, 648, 649, 650, 651, 652, 653, 654, 655, 656, 657, 658, 659, 660, 661, 662, 663, 664, 665, 666, 667, 668, 669, 670, 671, 672, 673, 674].map wTb.get := rfl
set_option maxRecDepth 20000 in
theorem tm_wsX6_isPebble : zmk [675, 676, 592, 593, 580, 594, 633, 634, 635, 636, 637, 638, 639, 640, 641, 642, 643, 644, 645, 646, 647, 648, 649, 650, 651, 652, 653, 654, 655, 656, 657, 658, 659, 660, 661, 662, 663, 664, 665, 666, 667, 668, 669, 670, 671, 672, 673, 674] = 627057063764104187861999791446537858238897016518243677831666389141570121411725717046281011361729013069093552512469773327478881617914475561952045026359148221707062909653461010916963967848143682179461808128 := by decide +kernel
set_option maxRecDepth 20000 in
theorem tw_wsX6_in : wsX6_in = [594].map wTb.get := rfl
set_option maxRecDepth 20000 in
theorem tm_wsX6_in : zmk [594] = 64836180763765514976756372870174392984569472378788076562432145776416450178326689787495422639798496785753091978301574830974924235553308989185732419283030682610330965678148586307584 := by decide +kernel
set_option maxRecDepth 20000 in
theorem ggX6_isPebble_X6_in : GoodIn wsX6_isPebble wsX6_in := goodIn_m tw_wsX6_isPebble tm_wsX6_isPebble tw_wsX6_in tm_wsX6_in zgood (by decide +kernel)
set_option maxRecDepth 20000 in
theorem gX6_isPebble_X6_in : GoodIn wsX6_isPebble (va_wsS RX6 91 yX6_in wsX6_in) := goodIn_app (goodIn_m tw_wsX6_isPebble tm_wsX6_isPebble (iw := [592, 593, 580]) rfl rfl zgood (by decide +kernel)) ggX6_isPebble_X6_in
set_option maxRecDepth 20000 in
theorem tw_wsX6_isJudge : wsX6_isJudge = [677, 678, 592, 593, 580, 594, 633, 634, 635, 636, 637, 638, 639, 640, 641, 642, 643, 644, 645, 646, 647, 648, 649, 650, 651, 652, 653, 654, 655, 656, 657, 658, 659, 660, 661, 662, 663, 664, 665, 666, 667, 668, 669, 670, 671, 672, 673, 674].map wTb.get := rfl
set_option maxRecDepth 20000 in
theorem tm_wsX6_isJudge : zmk [677, 678, 592, 593, 580, 594, 633, 634, 635, 636, 637, 638, 639, 640, 641, 642, 643, 644, 645, 646, 647, 648, 649, 650, 651, 652, 653, 654, 655, 656, 657, 658, 659, 660, 661, 662, 663, 664, 665, 666, 667, 668, 669, 670, 671, 672, 673, 674] = 2037935457233418809702980707050210064341299769913341074666890067719070386910892187783231612298687089458014298353305462616368495074987873042444348783307468123221027236039793564057037202315617441098749706240 := by decide +kernel
set_option maxRecDepth 20000 in
theorem ggX6_isJudge_X6_in : GoodIn wsX6_isJudge wsX6_in := goodIn_m tw_wsX6_isJudge tm_wsX6_isJudge tw_wsX6_in tm_wsX6_in zgood (by decide +kernel)
set_option maxRecDepth 20000 in
theorem gX6_isJudge_X6_in : GoodIn wsX6_isJudge (va_wsS RX6 91 yX6_in wsX6_in) := goodIn_app (goodIn_m tw_wsX6_isJudge tm_wsX6_isJudge (iw := [592, 593, 580]) rfl rfl zgood (by decide +kernel)) ggX6_isJudge_X6_in
set_option maxRecDepth 20000 in
theorem tw_wsX6_isCase : wsX6_isCase = [679, 592, 593, 580, 594].map wTb.get := rfl
set_option maxRecDepth 20000 in
theorem tm_wsX6_isCase : zmk [679, 592, 593, 580, 594] = 2508228255056559327717299518984913100528603554571015935293010839952694792018827099449458963736421859031492963930978129689041909933652786958114085781232936105975575674633583467145455053374697883193139265536 := by decide +kernel
set_option maxRecDepth 20000 in
theorem ggX6_isCase_X6_in : GoodIn wsX6_isCase wsX6_in := goodIn_m tw_wsX6_isCase tm_wsX6_isCase tw_wsX6_in tm_wsX6_in zgood (by decide +kernel)
set_option maxRecDepth 20000 in
theorem gX6_isCase_X6_in : GoodIn wsX6_isCase (va_wsS RX6 91 yX6_in wsX6_in) := goodIn_app (goodIn_m tw_wsX6_isCase tm_wsX6_isCase (iw := [592, 593, 580]) rfl rfl zgood (by decide +kernel)) ggX6_isCase_X6_in
set_option maxRecDepth 20000 in
theorem tw_wsX6_judge : wsX6_judge = [680, 678, 555, 592, 593, 580, 594, 633, 634, 635, 636, 637, 638, 639, 640, 641, 642, 643, 644, 645, 646, 647, 648, 649, 650, 651, 652, 653, 654, 655, 656, 657, 658, 659, 660, 661, 662, 663, 664, 665, 666, 667, 668, 669, 670, 671, 672, 673, 674].map wTb.get := rfl
set_option maxRecDepth 20000 in
theorem tm_wsX6_judge : zmk [680, 678, 555, 592, 593, 580, 594, 633, 634, 635, 636, 637, 638, 639, 640, 641, 642, 643, 644, 645, 646, 647, 648, 649, 650, 651, 652, 653, 654, 655, 656, 657, 658, 659, 660, 661, 662, 663, 664, 665, 666, 667, 668, 669, 670, 671, 672, 673, 674] = 6427334903582397633208254666706079150111155772918206143189578981727176837971674995991758356378201996217332373821771147587272085992129168356313513857969166858826747021149089054704809863238363109100577882112 := by decide +kernel
set_option maxRecDepth 20000 in
theorem ggX6_judge_X6_in : GoodIn wsX6_judge wsX6_in := goodIn_m tw_wsX6_judge tm_wsX6_judge tw_wsX6_in tm_wsX6_in zgood (by decide +kernel)
set_option maxRecDepth 20000 in
theorem gX6_judge_X6_in : GoodIn wsX6_judge (va_wsS RX6 91 yX6_in wsX6_in) := goodIn_app (goodIn_m tw_wsX6_judge tm_wsX6_judge (iw := [592, 593, 580]) rfl rfl zgood (by decide +kernel)) ggX6_judge_X6_in
set_option maxRecDepth 20000 in
theorem tw_wsX6_shoe : wsX6_shoe = [681, 555, 682, 683, 684, 580, 677, 678, 592, 593, 594, 633, 634, 635, 636, 637, 638, 639, 640, 641, 642, 643, 644, 645, 646, 647, 648, 649, 650, 651, 652, 653, 654, 655, 656, 657, 658, 659, 660, 661, 662, 663, 664, 665, 666, 667, 668, 669, 670, 671, 672, 673, 674].map wTb.get := rfl
set_option maxRecDepth 20000 in
theorem tm_wsX6_shoe : zmk [681, 555, 682, 683, 684, 580, 677, 678, 592, 593, 594, 633, 634, 635, 636, 637, 638, 639, 640, 641, 642, 643, 644, 645, 646, 647, 648, 649, 650, 651, 652, 653, 654, 655, 656, 657, 658, 659, 660, 661, 662, 663, 664, 665, 666, 667, 668, 669, 670, 671, 672, 673, 674] = 152531630760626978472740945038108578715382196457832736571014964363308315442996469521195976142294305017825569609783866971725618723991285440780627636244172961104495052820267082335432393699203423477186835775488 := by decide +kernel
set_option maxRecDepth 20000 in
theorem ggX6_shoe_X6_isJudge : GoodIn wsX6_shoe wsX6_isJudge := goodIn_m tw_wsX6_shoe tm_wsX6_shoe tw_wsX6_isJudge tm_wsX6_isJudge zgood (by decide +kernel)
set_option maxRecDepth 20000 in
theorem gX6_shoe_X6_isJudge : GoodIn wsX6_shoe (wsV RX6 104 RX6 yX6_isJudge wsX6_isJudge) := goodIn_app (goodIn_m tw_wsX6_shoe tm_wsX6_shoe (iw := [682, 683, 684, 580]) rfl rfl zgood (by decide +kernel)) ggX6_shoe_X6_isJudge
set_option maxRecDepth 20000 in
theorem ggX6_shoe_X6_in : GoodIn wsX6_shoe wsX6_in := goodIn_m tw_wsX6_shoe tm_wsX6_shoe tw_wsX6_in tm_wsX6_in zgood (by decide +kernel)
set_option maxRecDepth 20000 in
theorem gX6_shoe_X6_in : GoodIn wsX6_shoe (va_wsS RX6 91 yX6_in wsX6_in) := goodIn_app (goodIn_m tw_wsX6_shoe tm_wsX6_shoe (iw := [592, 593, 580]) rfl rfl zgood (by decide +kernel)) ggX6_shoe_X6_in
set_option maxRecDepth 20000 in
theorem tw_wsX6_bench : wsX6_bench = [685, 555, 682, 683, 684, 580, 677, 678, 592, 593, 594, 633, 634, 635, 636, 637, 638, 639, 640, 641, 642, 643, 644, 645, 646, 647, 648, 649, 650, 651, 652, 653, 654, 655, 656, 657, 658, 659, 660, 661, 662, 663, 664, 665, 666, 667, 668, 669, 670, 671, 672, 673, 674].map wTb.get := rfl
set_option maxRecDepth 20000 in
theorem tm_wsX6_bench : zmk [685, 555, 682, 683, 684, 580, 677, 678, 592, 593, 594, 633, 634, 635, 636, 637, 638, 639, 640, 641, 642, 643, 644, 645, 646, 647, 648, 649, 650, 651, 652, 653, 654, 655, 656, 657, 658, 659, 660, 661, 662, 663, 664, 665, 666, 667, 668, 669, 670, 671, 672, 673, 674] = 303025326064020538135778909369166947366305156819976458900105490078241677096240893066470706908903166499310449166139673829207177492745781172033140036985327083932651247634809221337040205375733957761910878240768 := by decide +kernel
set_option maxRecDepth 20000 in
theorem ggX6_bench_X6_isJudge : GoodIn wsX6_bench wsX6_isJudge := goodIn_m tw_wsX6_bench tm_wsX6_bench tw_wsX6_isJudge tm_wsX6_isJudge zgood (by decide +kernel)
set_option maxRecDepth 20000 in
theorem gX6_bench_X6_isJudge : GoodIn wsX6_bench (wsV RX6 104 RX6 yX6_isJudge wsX6_isJudge) := goodIn_app (goodIn_m tw_wsX6_bench tm_wsX6_bench (iw := [682, 683, 684, 580]) rfl rfl zgood (by decide +kernel)) ggX6_bench_X6_isJudge
set_option maxRecDepth 20000 in
theorem ggX6_bench_X6_in : GoodIn wsX6_bench wsX6_in := goodIn_m tw_wsX6_bench tm_wsX6_bench tw_wsX6_in tm_wsX6_in zgood (by decide +kernel)
set_option maxRecDepth 20000 in
theorem gX6_bench_X6_in : GoodIn wsX6_bench (va_wsS RX6 91 yX6_in wsX6_in) := goodIn_app (goodIn_m tw_wsX6_bench tm_wsX6_bench (iw := [592, 593, 580]) rfl rfl zgood (by decide +kernel)) ggX6_bench_X6_in
set_option maxRecDepth 20000 in
theorem tw_wsX6_isByte : wsX6_isByte = [686, 592, 593, 580, 594].map wTb.get := rfl
set_option maxRecDepth 20000 in
theorem tm_wsX6_isByte : zmk [686, 592, 593, 580, 594] = 321053216647239593947814324019725126744982202987775228198534623603228310291386190270280972419725178661507821358217435978025007970464002084775932000683342496092239521365414444353881989768697662119192362483712 := by decide +kernel
set_option maxRecDepth 20000 in
theorem ggX6_isByte_X6_in : GoodIn wsX6_isByte wsX6_in := goodIn_m tw_wsX6_isByte tm_wsX6_isByte tw_wsX6_in tm_wsX6_in zgood (by decide +kernel)
set_option maxRecDepth 20000 in
theorem gX6_isByte_X6_in : GoodIn wsX6_isByte (va_wsS RX6 91 yX6_in wsX6_in) := goodIn_app (goodIn_m tw_wsX6_isByte tm_wsX6_isByte (iw := [592, 593, 580]) rfl rfl zgood (by decide +kernel)) ggX6_isByte_X6_in
set_option maxRecDepth 20000 in
theorem tw_wsX6_feed : wsX6_feed = [687, 576, 556, 592, 593, 580, 594, 688, 689, 686, 633, 634, 635, 636, 637, 638, 639, 640, 641, 642, 643, 644, 645, 646, 647, 648, 649, 650, 651, 652, 653, 654, 655, 656, 657, 658, 659, 660, 661, 662, 663, 664, 665, 666, 667, 668, 669, 670, 671, 672, 673, 674].map wTb.get := rfl
set_option maxRecDepth 20000 in
theorem tm_wsX6_feed : zmk [687, 576, 556, 592, 593, 580, 594, 688, 689, 686, 633, 634, 635, 636, 637, 638, 639, 640, 641, 642, 643, 644, 645, 646, 647, 648, 649, 650, 651, 652, 653, 654, 655, 656, 657, 658, 659, 660, 661, 662, 663, 664, 665, 666, 667, 668, 669, 670, 671, 672, 673, 674] = 4815955013974534908531129864746780024616376840110071065913486198182651778207098299130374623599029249519446057149301356935964173773978013347124952557069737063760137277156786731963677104739218542983209293971456 := by decide +kernel
set_option maxRecDepth 20000 in
theorem ggX6_feed_X6_in : GoodIn wsX6_feed wsX6_in := goodIn_m tw_wsX6_feed tm_wsX6_feed tw_wsX6_in tm_wsX6_in zgood (by decide +kernel)
set_option maxRecDepth 20000 in
theorem gX6_feed_X6_in : GoodIn wsX6_feed (va_wsS RX6 91 yX6_in wsX6_in) := goodIn_app (goodIn_m tw_wsX6_feed tm_wsX6_feed (iw := [592, 593, 580]) rfl rfl zgood (by decide +kernel)) ggX6_feed_X6_in
set_option maxRecDepth 20000 in
theorem ggX6_feed_X6_isByte : GoodIn wsX6_feed wsX6_isByte := goodIn_m tw_wsX6_feed tm_wsX6_feed tw_wsX6_isByte tm_wsX6_isByte zgood (by decide +kernel)
set_option maxRecDepth 20000 in
theorem gX6_feed_X6_isByte : GoodIn wsX6_feed (va_wsS RX6 108 yX6_isByte wsX6_isByte) := goodIn_app (goodIn_m tw_wsX6_feed tm_wsX6_feed (iw := [688, 689, 580]) rfl rfl zgood (by decide +kernel)) ggX6_feed_X6_isByte
set_option maxRecDepth 20000 in
theorem tw_wsX6_next : wsX6_next = [591, 583, 576, 556, 587, 585, 586, 592, 593, 580, 594, 595, 596, 597, 598, 565, 633, 634, 635, 636, 637, 638, 639, 640, 641, 642, 643, 644, 645, 646, 647, 648, 649, 650, 651, 652, 653, 654, 655, 656, 657, 658, 659, 660, 661, 662, 663, 664, 665, 666, 667, 668, 669, 670, 671, 672, 673, 674].map wTb.get := rfl
set_option maxRecDepth 20000 in
theorem tm_wsX6_next : zmk [591, 583, 576, 556, 587, 585, 586, 592, 593, 580, 594, 595, 596, 597, 598, 565, 633, 634, 635, 636, 637, 638, 639, 640, 641, 642, 643, 644, 645, 646, 647, 648, 649, 650, 651, 652, 653, 654, 655, 656, 657, 658, 659, 660, 661, 662, 663, 664, 665, 666, 667, 668, 669, 670, 671, 672, 673, 674] = 156764265940999313915008107020263866313208820979592726347640925974572791472729527938726354346679841476860681700122267979398233332512911039857426684513033102577710960620310383230568211614504661262719254528 := by decide +kernel
set_option maxRecDepth 20000 in
theorem ggX6_next_X6_in : GoodIn wsX6_next wsX6_in := goodIn_m tw_wsX6_next tm_wsX6_next tw_wsX6_in tm_wsX6_in zgood (by decide +kernel)
set_option maxRecDepth 20000 in
theorem gX6_next_X6_in : GoodIn wsX6_next (va_wsS RX6 91 yX6_in wsX6_in) := goodIn_app (goodIn_m tw_wsX6_next tm_wsX6_next (iw := [592, 593, 580]) rfl rfl zgood (by decide +kernel)) ggX6_next_X6_in
set_option maxRecDepth 20000 in
theorem tw_wsX6_wordFrom : wsX6_wordFrom = [598, 565, 556, 633, 634, 635, 636, 637, 638, 639, 640, 641, 642, 643, 644, 645, 646, 647, 648, 649, 650, 651, 652, 653, 654, 655, 656, 657, 658, 659, 660, 661, 662, 663, 664, 665, 666, 667, 668, 669, 670, 671, 672, 673, 674].map wTb.get := rfl
set_option maxRecDepth 20000 in
theorem tm_wsX6_wordFrom : zmk [598, 565, 556, 633, 634, 635, 636, 637, 638, 639, 640, 641, 642, 643, 644, 645, 646, 647, 648, 649, 650, 651, 652, 653, 654, 655, 656, 657, 658, 659, 660, 661, 662, 663, 664, 665, 666, 667, 668, 669, 670, 671, 672, 673, 674] = 156764265940999313915007076823599174442451757460559511446887924293193977413595148288871017565119508118402972532178001620886444735968038754742801361149553480867632375149174652743522149449397867311412543488 := by decide +kernel
set_option maxRecDepth 20000 in
theorem ggX6_next_X6_wordFrom : GoodIn wsX6_next wsX6_wordFrom := goodIn_m tw_wsX6_next tm_wsX6_next tw_wsX6_wordFrom tm_wsX6_wordFrom zgood (by decide +kernel)
set_option maxRecDepth 20000 in
theorem gX6_next_X6_wordFrom : GoodIn wsX6_next (wsV RX6 123 RX6 yX6_wordFrom wsX6_wordFrom) := goodIn_app (goodIn_m tw_wsX6_next tm_wsX6_next (iw := [595, 596, 597, 580]) rfl rfl zgood (by decide +kernel)) ggX6_next_X6_wordFrom
set_option maxRecDepth 20000 in
theorem tw_wsX6_unwinds : wsX6_unwinds = [613, 603, 566, 604, 614, 615, 580, 616, 606, 607, 608, 609, 557, 582, 584, 633, 634, 635, 636, 637, 638, 639, 640, 641, 642, 643, 644, 645, 646, 647, 648, 649, 650, 651, 652, 653, 654, 655, 656, 657, 658, 659, 660, 661, 662, 663, 664, 665, 666, 667, 668, 669, 670, 671, 672, 673, 674].map wTb.get := rfl
set_option maxRecDepth 20000 in
theorem tm_wsX6_unwinds : zmk [613, 603, 566, 604, 614, 615, 580, 616, 606, 607, 608, 609, 557, 582, 584, 633, 634, 635, 636, 637, 638, 639, 640, 641, 642, 643, 644, 645, 646, 647, 648, 649, 650, 651, 652, 653, 654, 655, 656, 657, 658, 659, 660, 661, 662, 663, 664, 665, 666, 667, 668, 669, 670, 671, 672, 673, 674] = 156764265940999314428981635951685401905026386271834026773051020080288569307226056672588036394093078798139100583698709988667004838907598778304895997054424515081343371395917412001968398031268367526497615872 := by decide +kernel
set_option maxRecDepth 20000 in
theorem tw_wsX6_rank : wsX6_rank = [616].map wTb.get := rfl
set_option maxRecDepth 20000 in
theorem tm_wsX6_rank : zmk [616] = 271942652322184754529069161754863937192751676276240344678115398758606622648756348282451201159797394262471336696958208519857448620878186106577674229128492724195241610667721328144244801536 := by decide +kernel
set_option maxRecDepth 20000 in
theorem ggX6_unwinds_X6_rank : GoodIn wsX6_unwinds wsX6_rank := goodIn_m tw_wsX6_unwinds tm_wsX6_unwinds tw_wsX6_rank tm_wsX6_rank zgood (by decide +kernel)
set_option maxRecDepth 20000 in
theorem gX6_unwinds_X6_rank : GoodIn wsX6_unwinds (va_wsS RX6 133 yX6_rank wsX6_rank) := goodIn_app (goodIn_m tw_wsX6_unwinds tm_wsX6_unwinds (iw := [614, 615, 580]) rfl rfl zgood (by decide +kernel)) ggX6_unwinds_X6_rank
set_option maxRecDepth 20000 in
theorem tw_wsX6_puts : wsX6_puts = [609, 557, 582, 584, 633, 634, 635, 636, 637, 638, 639, 640, 641, 642, 643, 644, 645, 646, 647, 648, 649, 650, 651, 652, 653, 654, 655, 656, 657, 658, 659, 660, 661, 662, 663, 664, 665, 666, 667, 668, 669, 670, 671, 672, 673, 674].map wTb.get := rfl
set_option maxRecDepth 20000 in
theorem tm_wsX6_puts : zmk [609, 557, 582, 584, 633, 634, 635, 636, 637, 638, 639, 640, 641, 642, 643, 644, 645, 646, 647, 648, 649, 650, 651, 652, 653, 654, 655, 656, 657, 658, 659, 660, 661, 662, 663, 664, 665, 666, 667, 668, 669, 670, 671, 672, 673, 674] = 156764265940999313917130591495119630529438990346187332677556214150948372550384237649774205825998461801791533709723966826538919039635738434285829123284535781436557252312082540862175117838872862845179002880 := by decide +kernel
set_option maxRecDepth 20000 in
theorem ggX6_unwinds_X6_puts : GoodIn wsX6_unwinds wsX6_puts := goodIn_m tw_wsX6_unwinds tm_wsX6_unwinds tw_wsX6_puts tm_wsX6_puts zgood (by decide +kernel)
set_option maxRecDepth 20000 in
theorem gX6_unwinds_X6_puts : GoodIn wsX6_unwinds (wsV RX6 140 RX6 yX6_puts wsX6_puts) := goodIn_app (goodIn_m tw_wsX6_unwinds tm_wsX6_unwinds (iw := [606, 607, 608, 580]) rfl rfl zgood (by decide +kernel)) ggX6_unwinds_X6_puts
set_option maxRecDepth 20000 in
theorem tw_wsX6_opensOne : wsX6_opensOne = [620, 604, 621, 622, 623, 580, 624, 566, 603, 633, 634, 635, 636, 637, 638, 639, 640, 641, 642, 643, 644, 645, 646, 647, 648, 649, 650, 651, 652, 653, 654, 655, 656, 657, 658, 659, 660, 661, 662, 663, 664, 665, 666, 667, 668, 669, 670, 671, 672, 673, 674].map wTb.get := rfl
set_option maxRecDepth 20000 in
theorem tm_wsX6_opensOne : zmk [620, 604, 621, 622, 623, 580, 624, 566, 603, 633, 634, 635, 636, 637, 638, 639, 640, 641, 642, 643, 644, 645, 646, 647, 648, 649, 650, 651, 652, 653, 654, 655, 656, 657, 658, 659, 660, 661, 662, 663, 664, 665, 666, 667, 668, 669, 670, 671, 672, 673, 674] = 156764265940999448798661179625955751398015272842780001680019688259820500879998695908027194515114382479001937108077075439435965208356934096242884976017821700029566973741421501133365439525403015114964074496 := by decide +kernel
set_option maxRecDepth 20000 in
theorem tw_wsX6_holds : wsX6_holds = [624, 566, 603, 633, 634, 635, 636, 637, 638, 639, 640, 641, 642, 643, 644, 645, 646, 647, 648, 649, 650, 651, 652, 653, 654, 655, 656, 657, 658, 659, 660, 661, 662, 663, 664, 665, 666, 667, 668, 669, 670, 671, 672, 673, 674].map wTb.get := rfl
set_option maxRecDepth 20000 in
theorem tm_wsX6_holds : zmk [624, 566, 603, 633, 634, 635, 636, 637, 638, 639, 640, 641, 642, 643, 644, 645, 646, 647, 648, 649, 650, 651, 652, 653, 654, 655, 656, 657, 658, 659, 660, 661, 662, 663, 664, 665, 666, 667, 668, 669, 670, 671, 672, 673, 674] = 156764265940999383532358230048555282110510580604647976504886827781859797556283673886537699471121832558666753569194236368626658052367545775012039413406327692433917773546341132374755609676764127989453553664 := by decide +kernel
set_option maxRecDepth 20000 in
theorem ggX6_opensOne_X6_holds : GoodIn wsX6_opensOne wsX6_holds := goodIn_m tw_wsX6_opensOne tm_wsX6_opensOne tw_wsX6_holds tm_wsX6_holds zgood (by decide +kernel)
set_option maxRecDepth 20000 in
theorem gX6_opensOne_X6_holds : GoodIn wsX6_opensOne (wsV RX6 144 RX6 yX6_holds wsX6_holds) := goodIn_app (goodIn_m tw_wsX6_opensOne tm_wsX6_opensOne (iw := [621, 622, 623, 580]) rfl rfl zgood (by decide +kernel)) ggX6_opensOne_X6_holds
set_option maxRecDepth 20000 in
theorem tw_wsX6_between : wsX6_between = [632, 603, 566, 614, 615, 580, 616, 610, 611, 612, 613, 604, 606, 607, 608, 609, 557, 582, 584, 621, 622, 623, 624, 633, 634, 635, 636, 637, 638, 639, 640, 641, 642, 643, 644, 645, 646, 647, 648, 649, 650, 651, 652, 653, 654, 655, 656, 657, 658, 659, 660, 661, 662, 663, 664, 665, 666, 667, 668, 669, 670, 671, 672, 673, 674].map wTb.get := rfl
set_option maxRecDepth 20000 in
theorem tm_wsX6_between : zmk [632, 603, 566, 614, 615, 580, 616, 610, 611, 612, 613, 604, 606, 607, 608, 609, 557, 582, 584, 621, 622, 623, 624, 633, 634, 635, 636, 637, 638, 639, 640, 641, 642, 643, 644, 645, 646, 647, 648, 649, 650, 651, 652, 653, 654, 655, 656, 657, 658, 659, 660, 661, 662, 663, 664, 665, 666, 667, 668, 669, 670, 671, 672, 673, 674] = 156764265941017267024861064898179350461425734936449986598169286955596627472559376586611416045389018690027965895331181293888193683231049744492460334296987952230186636782526776780992789489249158257092591616 := by decide +kernel
set_option maxRecDepth 20000 in
theorem ggX6_between_X6_rank : GoodIn wsX6_between wsX6_rank := goodIn_m tw_wsX6_between tm_wsX6_between tw_wsX6_rank tm_wsX6_rank zgood (by decide +kernel)
set_option maxRecDepth 20000 in
theorem gX6_between_X6_rank : GoodIn wsX6_between (va_wsS RX6 133 yX6_rank wsX6_rank) := goodIn_app (goodIn_m tw_wsX6_between tm_wsX6_between (iw := [614, 615, 580]) rfl rfl zgood (by decide +kernel)) ggX6_between_X6_rank
set_option maxRecDepth 20000 in
theorem ggX6_between_X6_unwinds : GoodIn wsX6_between wsX6_unwinds := goodIn_m tw_wsX6_between tm_wsX6_between tw_wsX6_unwinds tm_wsX6_unwinds zgood (by decide +kernel)
set_option maxRecDepth 20000 in
theorem gX6_between_X6_unwinds : GoodIn wsX6_between (wsV RX6 147 RX6 yX6_unwinds wsX6_unwinds) := goodIn_app (goodIn_m tw_wsX6_between tm_wsX6_between (iw := [610, 611, 612, 580]) rfl rfl zgood (by decide +kernel)) ggX6_between_X6_unwinds
set_option maxRecDepth 20000 in
theorem ggX6_between_X6_holds : GoodIn wsX6_between wsX6_holds := goodIn_m tw_wsX6_between tm_wsX6_between tw_wsX6_holds tm_wsX6_holds zgood (by decide +kernel)
set_option maxRecDepth 20000 in
theorem gX6_between_X6_holds : GoodIn wsX6_between (wsV RX6 144 RX6 yX6_holds wsX6_holds) := goodIn_app (goodIn_m tw_wsX6_between tm_wsX6_between (iw := [621, 622, 623, 580]) rfl rfl zgood (by decide +kernel)) ggX6_between_X6_holds
set_option maxRecDepth 20000 in
theorem tw_wsX6_eRead : wsX6_eRead = [602, 603, 604, 585, 605, 586, 588, 589, 590, 580, 591, 583, 576, 556, 587, 592, 593, 594, 595, 596, 597, 598, 565, 606, 607, 608, 609, 557, 582, 584, 610, 611, 612, 613, 566, 614, 615, 616, 617, 618, 619, 620, 621, 622, 623, 624, 625, 626, 627, 628, 629, 630, 631, 632, 633, 634, 635, 636, 637, 638, 639, 640, 641, 642, 643, 644, 645, 646, 647, 648, 649, 650, 651, 652, 653, 654, 655, 656, 657, 658, 659, 660, 661, 662, 663, 664, 665, 666, 667, 668, 669, 670, 671, 672, 673, 674].map wTb.get := rfl
set_option maxRecDepth 20000 in
theorem tm_wsX6_eRead : zmk [602, 603, 604, 585, 605, 586, 588, 589, 590, 580, 591, 583, 576, 556, 587, 592, 593, 594, 595, 596, 597, 598, 565, 606, 607, 608, 609, 557, 582, 584, 610, 611, 612, 613, 566, 614, 615, 616, 617, 618, 619, 620, 621, 622, 623, 624, 625, 626, 627, 628, 629, 630, 631, 632, 633, 634, 635, 636, 637, 638, 639, 640, 641, 642, 643, 644, 645, 646, 647, 648, 649, 650, 651, 652, 653, 654, 655, 656, 657, 658, 659, 660, 661, 662, 663, 664, 665, 666, 667, 668, 669, 670, 671, 672, 673, 674] = 156764265941034957982316689528737218008131448037541991942048594935372174856582555389410001397021620827334806234345489797699236603057739171925793423724422076803110216225745337800271503817110914831812132864 := by decide +kernel
set_option maxRecDepth 20000 in
theorem ggX6_eRead_X6_next : GoodIn wsX6_eRead wsX6_next := goodIn_m tw_wsX6_eRead tm_wsX6_eRead tw_wsX6_next tm_wsX6_next zgood (by decide +kernel)
set_option maxRecDepth 20000 in
theorem gX6_eRead_X6_next : GoodIn wsX6_eRead (wsV RX6 150 RX6 yX6_next wsX6_next) := goodIn_app (goodIn_m tw_wsX6_eRead tm_wsX6_eRead (iw := [588, 589, 590, 580]) rfl rfl zgood (by decide +kernel)) ggX6_eRead_X6_next
set_option maxRecDepth 20000 in
theorem ggX6_eRead_X6_puts : GoodIn wsX6_eRead wsX6_puts := goodIn_m tw_wsX6_eRead tm_wsX6_eRead tw_wsX6_puts tm_wsX6_puts zgood (by decide +kernel)
set_option maxRecDepth 20000 in
theorem gX6_eRead_X6_puts : GoodIn wsX6_eRead (wsV RX6 140 RX6 yX6_puts wsX6_puts) := goodIn_app (goodIn_m tw_wsX6_eRead tm_wsX6_eRead (iw := [606, 607, 608, 580]) rfl rfl zgood (by decide +kernel)) ggX6_eRead_X6_puts
set_option maxRecDepth 20000 in
theorem ggX6_eRead_X6_unwinds : GoodIn wsX6_eRead wsX6_unwinds := goodIn_m tw_wsX6_eRead tm_wsX6_eRead tw_wsX6_unwinds tm_wsX6_unwinds zgood (by decide +kernel)
set_option maxRecDepth 20000 in
theorem gX6_eRead_X6_unwinds : GoodIn wsX6_eRead (wsV RX6 147 RX6 yX6_unwinds wsX6_unwinds) := goodIn_app (goodIn_m tw_wsX6_eRead tm_wsX6_eRead (iw := [610, 611, 612, 580]) rfl rfl zgood (by decide +kernel)) ggX6_eRead_X6_unwinds
set_option maxRecDepth 20000 in
theorem ggX6_eRead_X6_opensOne : GoodIn wsX6_eRead wsX6_opensOne := goodIn_m tw_wsX6_eRead tm_wsX6_eRead tw_wsX6_opensOne tm_wsX6_opensOne zgood (by decide +kernel)
set_option maxRecDepth 20000 in
theorem gX6_eRead_X6_opensOne : GoodIn wsX6_eRead (wsV RX6 154 RX6 yX6_opensOne wsX6_opensOne) := goodIn_app (goodIn_m tw_wsX6_eRead tm_wsX6_eRead (iw := [617, 618, 619, 580]) rfl rfl zgood (by decide +kernel)) ggX6_eRead_X6_opensOne
set_option maxRecDepth 20000 in
theorem tw_wsX6_signOf : wsX6_signOf = [628, 585, 633, 634, 635, 636, 637, 638, 639, 640, 641, 642, 643, 644, 645, 646, 647, 648, 649, 650, 651, 652, 653, 654, 655, 656, 657, 658, 659, 660, 661, 662, 663, 664, 665, 666, 667, 668, 669, 670, 671, 672, 673, 674].map wTb.get := rfl
set_option maxRecDepth 20000 in
theorem tm_wsX6_signOf : zmk [628, 585, 633, 634, 635, 636, 637, 638, 639, 640, 641, 642, 643, 644, 645, 646, 647, 648, 649, 650, 651, 652, 653, 654, 655, 656, 657, 658, 659, 660, 661, 662, 663, 664, 665, 666, 667, 668, 669, 670, 671, 672, 673, 674] = 156764265941000427792109951240094549813057952879588014684681807023703654081077297061144014115368097440705932428472091259451296453308256737445545797294198968748134836276384277873421294552992863592135000064 := by decide +kernel
set_option maxRecDepth 20000 in
theorem ggX6_eRead_X6_signOf : GoodIn wsX6_eRead wsX6_signOf := goodIn_m tw_wsX6_eRead tm_wsX6_eRead tw_wsX6_signOf tm_wsX6_signOf zgood (by decide +kernel)
set_option maxRecDepth 20000 in
theorem gX6_eRead_X6_signOf : GoodIn wsX6_eRead (wsV RX6 157 RX6 yX6_signOf wsX6_signOf) := goodIn_app (goodIn_m tw_wsX6_eRead tm_wsX6_eRead (iw := [625, 626, 627, 580]) rfl rfl zgood (by decide +kernel)) ggX6_eRead_X6_signOf
set_option maxRecDepth 20000 in
theorem ggX6_eRead_X6_between : GoodIn wsX6_eRead wsX6_between := goodIn_m tw_wsX6_eRead tm_wsX6_eRead tw_wsX6_between tm_wsX6_between zgood (by decide +kernel)
set_option maxRecDepth 20000 in
theorem gX6_eRead_X6_between : GoodIn wsX6_eRead (wsV RX6 160 RX6 yX6_between wsX6_between) := goodIn_app (goodIn_m tw_wsX6_eRead tm_wsX6_eRead (iw := [629, 630, 631, 580]) rfl rfl zgood (by decide +kernel)) ggX6_eRead_X6_between
set_option maxRecDepth 20000 in
theorem ggX6_text_X6_next : GoodIn wsX6_text wsX6_next := goodIn_m tw_wsX6_text tm_wsX6_text tw_wsX6_next tm_wsX6_next zgood (by decide +kernel)
set_option maxRecDepth 20000 in
theorem gX6_text_X6_next : GoodIn wsX6_text (wsV RX6 150 RX6 yX6_next wsX6_next) := goodIn_app (goodIn_m tw_wsX6_text tm_wsX6_text (iw := [588, 589, 590, 580]) rfl rfl zgood (by decide +kernel)) ggX6_text_X6_next
set_option maxRecDepth 20000 in
theorem ggX6_text_X6_eRead : GoodIn wsX6_text wsX6_eRead := goodIn_m tw_wsX6_text tm_wsX6_text tw_wsX6_eRead tm_wsX6_eRead zgood (by decide +kernel)
set_option maxRecDepth 20000 in
theorem gX6_text_X6_eRead : GoodIn wsX6_text (wsV RX6 163 RX6 yX6_eRead wsX6_eRead) := goodIn_app (goodIn_m tw_wsX6_text tm_wsX6_text (iw := [599, 600, 601, 580]) rfl rfl zgood (by decide +kernel)) ggX6_text_X6_eRead
set_option maxRecDepth 20000 in
theorem tw_wsX6_says : wsX6_says = [690, 558, 691, 557, 605, 567, 568, 692, 693, 580, 694, 633, 634, 635, 636, 637, 638, 639, 640, 641, 642, 643, 644, 645, 646, 647, 648, 649, 650, 651, 652, 653, 654, 655, 656, 657, 658, 659, 660, 661, 662, 663, 664, 665, 666, 667, 668, 669, 670, 671, 672, 673, 674].map wTb.get := rfl
set_option maxRecDepth 20000 in
theorem tm_wsX6_says : zmk [690, 558, 691, 557, 605, 567, 568, 692, 693, 580, 694, 633, 634, 635, 636, 637, 638, 639, 640, 641, 642, 643, 644, 645, 646, 647, 648, 649, 650, 651, 652, 653, 654, 655, 656, 657, 658, 659, 660, 661, 662, 663, 664, 665, 666, 667, 668, 669, 670, 671, 672, 673, 674] = 159242552221296779597429819796327842018258621715523571874562740721733752190760571297574516663968038179320707439617847412381663575359316355812409647449569162094462048269660685158436818316666716057594487560470528 := by decide +kernel
set_option maxRecDepth 20000 in
theorem tw_wsX6_two : wsX6_two = [694].map wTb.get := rfl
set_option maxRecDepth 20000 in
theorem tm_wsX6_two : zmk [694] = 82189623461693336050640466920002010399224059419112091554660639110448939910891887845526039629337319550421608888377784651765928628909121935361372105791435638280550369861381946846744746216942542457363957058371584 := by decide +kernel
set_option maxRecDepth 20000 in
theorem ggX6_says_X6_two : GoodIn wsX6_says wsX6_two := goodIn_m tw_wsX6_says tm_wsX6_says tw_wsX6_two tm_wsX6_two zgood (by decide +kernel)
set_option maxRecDepth 20000 in
theorem gX6_says_X6_two : GoodIn wsX6_says (va_wsS RX6 167 yX6_two wsX6_two) := goodIn_app (goodIn_m tw_wsX6_says tm_wsX6_says (iw := [692, 693, 580]) rfl rfl zgood (by decide +kernel)) ggX6_says_X6_two
set_option maxRecDepth 20000 in
theorem tw_wsX6_force : wsX6_force = [695, 582, 691, 592, 593, 580, 594, 633, 634, 635, 636, 637, 638, 639, 640, 641, 642, 643, 644, 645, 646, 647, 648, 649, 650, 651, 652, 653, 654, 655, 656, 657, 658, 659, 660, 661, 662, 663, 664, 665, 666, 667, 668, 669, 670, 671, 672, 673, 674].map wTb.get := rfl
set_option maxRecDepth 20000 in
theorem tm_wsX6_force : zmk [695, 582, 691, 592, 593, 580, 594, 633, 634, 635, 636, 637, 638, 639, 640, 641, 642, 643, 644, 645, 646, 647, 648, 649, 650, 651, 652, 653, 654, 655, 656, 657, 658, 659, 660, 661, 662, 663, 664, 665, 666, 667, 668, 669, 670, 671, 672, 673, 674] = 174653106620364280106924907211157199907953025307068760970360756625620441962417849486194056009855110066389265159146190143129164104997229003570288777783492492875119600662314932989113049171722008370494365964959744 := by decide +kernel
set_option maxRecDepth 20000 in
theorem ggX6_force_X6_in : GoodIn wsX6_force wsX6_in := goodIn_m tw_wsX6_force tm_wsX6_force tw_wsX6_in tm_wsX6_in zgood (by decide +kernel)
set_option maxRecDepth 20000 in
theorem gX6_force_X6_in : GoodIn wsX6_force (va_wsS RX6 91 yX6_in wsX6_in) := goodIn_app (goodIn_m tw_wsX6_force tm_wsX6_force (iw := [592, 593, 580]) rfl rfl zgood (by decide +kernel)) ggX6_force_X6_in
set_option maxRecDepth 20000 in
theorem tw_wsX6_asksOf : wsX6_asksOf = [696, 568, 554, 555, 553, 697, 698, 699, 580, 690, 558, 691, 557, 605, 567, 692, 693, 694, 700, 701, 702, 633, 634, 635, 636, 637, 638, 639, 640, 641, 642, 643, 644, 645, 646, 647, 648, 649, 650, 651, 652, 653, 654, 655, 656, 657, 658, 659, 660, 661, 662, 663, 664, 665, 666, 667, 668, 669, 670, 671, 672, 673, 674].map wTb.get := rfl
set_option maxRecDepth 20000 in
theorem tm_wsX6_asksOf : zmk [696, 568, 554, 555, 553, 697, 698, 699, 580, 690, 558, 691, 557, 605, 567, 692, 693, 694, 700, 701, 702, 633, 634, 635, 636, 637, 638, 639, 640, 641, 642, 643, 644, 645, 646, 647, 648, 649, 650, 651, 652, 653, 654, 655, 656, 657, 658, 659, 660, 661, 662, 663, 664, 665, 666, 667, 668, 669, 670, 671, 672, 673, 674] = 41911571270761511493322787015157349124824081013013036189070210109539811374719794568843931889891412296617280067418103831330113755521248542672603289313550632903511817894055536632316864989726913909624049560289542144 := by decide +kernel
set_option maxRecDepth 20000 in
theorem ggX6_asksOf_X6_says : GoodIn wsX6_asksOf wsX6_says := goodIn_m tw_wsX6_asksOf tm_wsX6_asksOf tw_wsX6_says tm_wsX6_says zgood (by decide +kernel)
set_option maxRecDepth 20000 in
theorem gX6_asksOf_X6_says : GoodIn wsX6_asksOf (wsV RX6 171 RX6 yX6_says wsX6_says) := goodIn_app (goodIn_m tw_wsX6_asksOf tm_wsX6_asksOf (iw := [697, 698, 699, 580]) rfl rfl zgood (by decide +kernel)) ggX6_asksOf_X6_says
set_option maxRecDepth 20000 in
theorem tw_wsX6_within : wsX6_within = [702].map wTb.get := rfl
set_option maxRecDepth 20000 in
theorem tm_wsX6_within : zmk [702] = 21040543606193494028963959531520514662201359211292695437993123612274928617188323288454666145110353804907931875424712870852077729000735215452511259082607523399820894684513778392766655031537290869085173006943125504 := by decide +kernel
set_option maxRecDepth 20000 in
theorem ggX6_asksOf_X6_within : GoodIn wsX6_asksOf wsX6_within := goodIn_m tw_wsX6_asksOf tm_wsX6_asksOf tw_wsX6_within tm_wsX6_within zgood (by decide +kernel)
set_option maxRecDepth 20000 in
theorem gX6_asksOf_X6_within : GoodIn wsX6_asksOf (va_wsS RX6 174 yX6_within wsX6_within) := goodIn_app (goodIn_m tw_wsX6_asksOf tm_wsX6_asksOf (iw := [700, 701, 580]) rfl rfl zgood (by decide +kernel)) ggX6_asksOf_X6_within
set_option maxRecDepth 20000 in
theorem tw_wsX6_asks : wsX6_asks = [703, 592, 593, 580, 594, 682, 683, 684, 677, 678, 704, 705, 706, 675, 676, 707, 708, 709, 696, 568, 554, 555, 553, 697, 698, 699, 690, 558, 691, 557, 605, 567, 692, 693, 694, 700, 701, 702, 633, 634, 635, 636, 637, 638, 639, 640, 641, 642, 643, 644, 645, 646, 647, 648, 649, 650, 651, 652, 653, 654, 655, 656, 657, 658, 659, 660, 661, 662, 663, 664, 665, 666, 667, 668, 669, 670, 671, 672, 673, 674].map wTb.get := rfl
set_option maxRecDepth 20000 in
theorem tm_wsX6_asks : zmk [703, 592, 593, 580, 594, 682, 683, 684, 677, 678, 704, 705, 706, 675, 676, 707, 708, 709, 696, 568, 554, 555, 553, 697, 698, 699, 690, 558, 691, 557, 605, 567, 692, 693, 694, 700, 701, 702, 633, 634, 635, 636, 637, 638, 639, 640, 641, 642, 643, 644, 645, 646, 647, 648, 649, 650, 651, 652, 653, 654, 655, 656, 657, 658, 659, 660, 661, 662, 663, 664, 665, 666, 667, 668, 669, 670, 671, 672, 673, 674] = 5386209790056155267133015229925103088447883408303109813755612632309089534704101891575535877155509437868553965197757796811560025700014908268173103427217229402566479094853675360976664978371306318277402860691788922880 := by decide +kernel
set_option maxRecDepth 20000 in
theorem ggX6_asks_X6_in : GoodIn wsX6_asks wsX6_in := goodIn_m tw_wsX6_asks tm_wsX6_asks tw_wsX6_in tm_wsX6_in zgood (by decide +kernel)
set_option maxRecDepth 20000 in
theorem gX6_asks_X6_in : GoodIn wsX6_asks (va_wsS RX6 91 yX6_in wsX6_in) := goodIn_app (goodIn_m tw_wsX6_asks tm_wsX6_asks (iw := [592, 593, 580]) rfl rfl zgood (by decide +kernel)) ggX6_asks_X6_in
set_option maxRecDepth 20000 in
theorem ggX6_asks_X6_isJudge : GoodIn wsX6_asks wsX6_isJudge := goodIn_m tw_wsX6_asks tm_wsX6_asks tw_wsX6_isJudge tm_wsX6_isJudge zgood (by decide +kernel)
set_option maxRecDepth 20000 in
theorem gX6_asks_X6_isJudge : GoodIn wsX6_asks (wsV RX6 104 RX6 yX6_isJudge wsX6_isJudge) := goodIn_app (goodIn_m tw_wsX6_asks tm_wsX6_asks (iw := [682, 683, 684, 580]) rfl rfl zgood (by decide +kernel)) ggX6_asks_X6_isJudge
set_option maxRecDepth 20000 in
theorem ggX6_asks_X6_isPebble : GoodIn wsX6_asks wsX6_isPebble := goodIn_m tw_wsX6_asks tm_wsX6_asks tw_wsX6_isPebble tm_wsX6_isPebble zgood (by decide +kernel)
set_option maxRecDepth 20000 in
theorem gX6_asks_X6_isPebble : GoodIn wsX6_asks (wsV RX6 177 RX6 yX6_isPebble wsX6_isPebble) := goodIn_app (goodIn_m tw_wsX6_asks tm_wsX6_asks (iw := [704, 705, 706, 580]) rfl rfl zgood (by decide +kernel)) ggX6_asks_X6_isPebble
set_option maxRecDepth 20000 in
theorem ggX6_asks_X6_asksOf : GoodIn wsX6_asks wsX6_asksOf := goodIn_m tw_wsX6_asks tm_wsX6_asks tw_wsX6_asksOf tm_wsX6_asksOf zgood (by decide +kernel)
set_option maxRecDepth 20000 in
theorem gX6_asks_X6_asksOf : GoodIn wsX6_asks (wsV RX6 180 RX6 yX6_asksOf wsX6_asksOf) := goodIn_app (goodIn_m tw_wsX6_asks tm_wsX6_asks (iw := [707, 708, 709, 580]) rfl rfl zgood (by decide +kernel)) ggX6_asks_X6_asksOf
set_option maxRecDepth 20000 in
theorem tw_wsX6_pebble : wsX6_pebble = [710, 676, 552, 553, 554, 592, 593, 580, 594, 633, 634, 635, 636, 637, 638, 639, 640, 641, 642, 643, 644, 645, 646, 647, 648, 649, 650, 651, 652, 653, 654, 655, 656, 657, 658, 659, 660, 661, 662, 663, 664, 665, 666, 667, 668, 669, 670, 671, 672, 673, 674].map wTb.get := rfl
set_option maxRecDepth 20000 in
theorem tm_wsX6_pebble : zmk [710, 676, 552, 553, 554, 592, 593, 580, 594, 633, 634, 635, 636, 637, 638, 639, 640, 641, 642, 643, 644, 645, 646, 647, 648, 649, 650, 651, 652, 653, 654, 655, 656, 657, 658, 659, 660, 661, 662, 663, 664, 665, 666, 667, 668, 669, 670, 671, 672, 673, 674] = 5386379163655827269237842869948920332125233349088309916654297633164933825595956609020000206955632450499687233490281250269808026649353834031214698425340229812355377266974696065411082686077104010983508114520519213056 := by decide +kernel
set_option maxRecDepth 20000 in
theorem ggX6_pebble_X6_in : GoodIn wsX6_pebble wsX6_in := goodIn_m tw_wsX6_pebble tm_wsX6_pebble tw_wsX6_in tm_wsX6_in zgood (by decide +kernel)
set_option maxRecDepth 20000 in
theorem gX6_pebble_X6_in : GoodIn wsX6_pebble (va_wsS RX6 91 yX6_in wsX6_in) := goodIn_app (goodIn_m tw_wsX6_pebble tm_wsX6_pebble (iw := [592, 593, 580]) rfl rfl zgood (by decide +kernel)) ggX6_pebble_X6_in
set_option maxRecDepth 20000 in
theorem tw_wsX6_put : wsX6_put = [711, 554, 704, 705, 706, 580, 675, 676, 592, 593, 594, 633, 634, 635, 636, 637, 638, 639, 640, 641, 642, 643, 644, 645, 646, 647, 648, 649, 650, 651, 652, 653, 654, 655, 656, 657, 658, 659, 660, 661, 662, 663, 664, 665, 666, 667, 668, 669, 670, 671, 672, 673, 674].map wTb.get := rfl
set_option maxRecDepth 20000 in
theorem tm_wsX6_put : zmk [711, 554, 704, 705, 706, 580, 675, 676, 592, 593, 594, 633, 634, 635, 636, 637, 638, 639, 640, 641, 642, 643, 644, 645, 646, 647, 648, 649, 650, 651, 652, 653, 654, 655, 656, 657, 658, 659, 660, 661, 662, 663, 664, 665, 666, 667, 668, 669, 670, 671, 672, 673, 674] = 11361893547971543839404642334883077709035271832395920715922367012088902132751206398597822329474878947705390449239776380309969072801721628043171473709395551022118116427903418626590029612830873447332772981610771382272 := by decide +kernel
set_option maxRecDepth 20000 in
theorem ggX6_put_X6_isPebble : GoodIn wsX6_put wsX6_isPebble := goodIn_m tw_wsX6_put tm_wsX6_put tw_wsX6_isPebble tm_wsX6_isPebble zgood (by decide +kernel)
set_option maxRecDepth 20000 in
theorem gX6_put_X6_isPebble : GoodIn wsX6_put (wsV RX6 177 RX6 yX6_isPebble wsX6_isPebble) := goodIn_app (goodIn_m tw_wsX6_put tm_wsX6_put (iw := [704, 705, 706, 580]) rfl rfl zgood (by decide +kernel)) ggX6_put_X6_isPebble
set_option maxRecDepth 20000 in
theorem ggX6_put_X6_in : GoodIn wsX6_put wsX6_in := goodIn_m tw_wsX6_put tm_wsX6_put tw_wsX6_in tm_wsX6_in zgood (by decide +kernel)
set_option maxRecDepth 20000 in
theorem gX6_put_X6_in : GoodIn wsX6_put (va_wsS RX6 91 yX6_in wsX6_in) := goodIn_app (goodIn_m tw_wsX6_put tm_wsX6_put (iw := [592, 593, 580]) rfl rfl zgood (by decide +kernel)) ggX6_put_X6_in
set_option maxRecDepth 20000 in
theorem tw_wsX6_told : wsX6_told = [712, 552, 553, 554, 704, 705, 706, 580, 675, 676, 592, 593, 594, 713, 714, 715, 716, 633, 634, 635, 636, 637, 638, 639, 640, 641, 642, 643, 644, 645, 646, 647, 648, 649, 650, 651, 652, 653, 654, 655, 656, 657, 658, 659, 660, 661, 662, 663, 664, 665, 666, 667, 668, 669, 670, 671, 672, 673, 674].map wTb.get := rfl
set_option maxRecDepth 20000 in
theorem tm_wsX6_told : zmk [712, 552, 553, 554, 704, 705, 706, 580, 675, 676, 592, 593, 594, 713, 714, 715, 716, 633, 634, 635, 636, 637, 638, 639, 640, 641, 642, 643, 644, 645, 646, 647, 648, 649, 650, 651, 652, 653, 654, 655, 656, 657, 658, 659, 660, 661, 662, 663, 664, 665, 666, 667, 668, 669, 670, 671, 672, 673, 674] = 668500151456606749352007026423331791638908122719533610757489481108381053422522875619679388044113204143859952450085412170915093699313068174616678806059520304365216063022056931928110130721466371178234873241219983474688 := by decide +kernel
set_option maxRecDepth 20000 in
theorem ggX6_told_X6_isPebble : GoodIn wsX6_told wsX6_isPebble := goodIn_m tw_wsX6_told tm_wsX6_told tw_wsX6_isPebble tm_wsX6_isPebble zgood (by decide +kernel)
set_option maxRecDepth 20000 in
theorem gX6_told_X6_isPebble : GoodIn wsX6_told (wsV RX6 177 RX6 yX6_isPebble wsX6_isPebble) := goodIn_app (goodIn_m tw_wsX6_told tm_wsX6_told (iw := [704, 705, 706, 580]) rfl rfl zgood (by decide +kernel)) ggX6_told_X6_isPebble
set_option maxRecDepth 20000 in
theorem tw_wsX6_isSand : wsX6_isSand = [716, 554, 552, 553, 633, 634, 635, 636, 637, 638, 639, 640, 641, 642, 643, 644, 645, 646, 647, 648, 649, 650, 651, 652, 653, 654, 655, 656, 657, 658, 659, 660, 661, 662, 663, 664, 665, 666, 667, 668, 669, 670, 671, 672, 673, 674].map wTb.get := rfl
set_option maxRecDepth 20000 in
theorem tm_wsX6_isSand : zmk [716, 554, 552, 553, 633, 634, 635, 636, 637, 638, 639, 640, 641, 642, 643, 644, 645, 646, 647, 648, 649, 650, 651, 652, 653, 654, 655, 656, 657, 658, 659, 660, 661, 662, 663, 664, 665, 666, 667, 668, 669, 670, 671, 672, 673, 674] = 344728266444030970436486512278347118264951776151114258224650975267274541890332651337307843205881216142664769891246878627637995026955775544293333227365619420600908994924081282817030184428005190014497217445625000361984 := by decide +kernel
set_option maxRecDepth 20000 in
theorem ggX6_told_X6_isSand : GoodIn wsX6_told wsX6_isSand := goodIn_m tw_wsX6_told tm_wsX6_told tw_wsX6_isSand tm_wsX6_isSand zgood (by decide +kernel)
set_option maxRecDepth 20000 in
theorem gX6_told_X6_isSand : GoodIn wsX6_told (wsV RX6 183 RX6 yX6_isSand wsX6_isSand) := goodIn_app (goodIn_m tw_wsX6_told tm_wsX6_told (iw := [713, 714, 715, 580]) rfl rfl zgood (by decide +kernel)) ggX6_told_X6_isSand
set_option maxRecDepth 20000 in
theorem tw_wsX6_hurtsOf : wsX6_hurtsOf = [717, 555, 553, 552, 707, 708, 709, 580, 696, 568, 554, 697, 698, 699, 690, 558, 691, 557, 605, 567, 692, 693, 694, 700, 701, 702, 633, 634, 635, 636, 637, 638, 639, 640, 641, 642, 643, 644, 645, 646, 647, 648, 649, 650, 651, 652, 653, 654, 655, 656, 657, 658, 659, 660, 661, 662, 663, 664, 665, 666, 667, 668, 669, 670, 671, 672, 673, 674].map wTb.get := rfl
set_option maxRecDepth 20000 in
theorem tm_wsX6_hurtsOf : zmk [717, 555, 553, 552, 707, 708, 709, 580, 696, 568, 554, 697, 698, 699, 690, 558, 691, 557, 605, 567, 692, 693, 694, 700, 701, 702, 633, 634, 635, 636, 637, 638, 639, 640, 641, 642, 643, 644, 645, 646, 647, 648, 649, 650, 651, 652, 653, 654, 655, 656, 657, 658, 659, 660, 661, 662, 663, 664, 665, 666, 667, 668, 669, 670, 671, 672, 673, 674] = 694211526226806516515072275650939977084472067179996362967180163572191178322233867152620333614887935864242450269939879608367422880401238909272149292503409823479758390518512361117000443386688970369312310863548391620608 := by decide +kernel
set_option maxRecDepth 20000 in
theorem ggX6_hurtsOf_X6_asksOf : GoodIn wsX6_hurtsOf wsX6_asksOf := goodIn_m tw_wsX6_hurtsOf tm_wsX6_hurtsOf tw_wsX6_asksOf tm_wsX6_asksOf zgood (by decide +kernel)
set_option maxRecDepth 20000 in
theorem gX6_hurtsOf_X6_asksOf : GoodIn wsX6_hurtsOf (wsV RX6 180 RX6 yX6_asksOf wsX6_asksOf) := goodIn_app (goodIn_m tw_wsX6_hurtsOf tm_wsX6_hurtsOf (iw := [707, 708, 709, 580]) rfl rfl zgood (by decide +kernel)) ggX6_hurtsOf_X6_asksOf
set_option maxRecDepth 20000 in
theorem tw_wsX6_wearsOf : wsX6_wearsOf = [718, 552, 707, 708, 709, 580, 696, 568, 554, 555, 553, 697, 698, 699, 690, 558, 691, 557, 605, 567, 692, 693, 694, 700, 701, 702, 633, 634, 635, 636, 637, 638, 639, 640, 641, 642, 643, 644, 645, 646, 647, 648, 649, 650, 651, 652, 653, 654, 655, 656, 657, 658, 659, 660, 661, 662, 663, 664, 665, 666, 667, 668, 669, 670, 671, 672, 673, 674].map wTb.get := rfl
set_option maxRecDepth 20000 in
theorem tm_wsX6_wearsOf : zmk [718, 552, 707, 708, 709, 580, 696, 568, 554, 555, 553, 697, 698, 699, 690, 558, 691, 557, 605, 567, 692, 693, 694, 700, 701, 702, 633, 634, 635, 636, 637, 638, 639, 640, 641, 642, 643, 644, 645, 646, 647, 648, 649, 650, 651, 652, 653, 654, 655, 656, 657, 658, 659, 660, 661, 662, 663, 664, 665, 666, 667, 668, 669, 670, 671, 672, 673, 674] = 1383668059114554928856163301579804201535486205815635407079338838099216039250260844668702833857864009343465561963856870960448305904297330449220038230122293150245089467540659851491178195460102917567495259955060728135680 := by decide +kernel
set_option maxRecDepth 20000 in
theorem ggX6_wearsOf_X6_asksOf : GoodIn wsX6_wearsOf wsX6_asksOf := goodIn_m tw_wsX6_wearsOf tm_wsX6_wearsOf tw_wsX6_asksOf tm_wsX6_asksOf zgood (by decide +kernel)
set_option maxRecDepth 20000 in
theorem gX6_wearsOf_X6_asksOf : GoodIn wsX6_wearsOf (wsV RX6 180 RX6 yX6_asksOf wsX6_asksOf) := goodIn_app (goodIn_m tw_wsX6_wearsOf tm_wsX6_wearsOf (iw := [707, 708, 709, 580]) rfl rfl zgood (by decide +kernel)) ggX6_wearsOf_X6_asksOf
set_option maxRecDepth 20000 in
theorem tw_wsX6_mile : wsX6_mile = [719, 555, 720, 554, 713, 714, 715, 580, 716, 552, 553, 721, 722, 723, 717, 707, 708, 709, 696, 568, 697, 698, 699, 690, 558, 691, 557, 605, 567, 692, 693, 694, 700, 701, 702, 724, 725, 726, 718, 633, 634, 635, 636, 637, 638, 639, 640, 641, 642, 643, 644, 645, 646, 647, 648, 649, 650, 651, 652, 653, 654, 655, 656, 657, 658, 659, 660, 661, 662, 663, 664, 665, 666, 667, 668, 669, 670, 671, 672, 673, 674].map wTb.get := rfl
set_option maxRecDepth 20000 in
theorem tm_wsX6_mile : zmk [719, 555, 720, 554, 713, 714, 715, 580, 716, 552, 553, 721, 722, 723, 717, 707, 708, 709, 696, 568, 697, 698, 699, 690, 558, 691, 557, 605, 567, 692, 693, 694, 700, 701, 702, 724, 725, 726, 718, 633, 634, 635, 636, 637, 638, 639, 640, 641, 642, 643, 644, 645, 646, 647, 648, 649, 650, 651, 652, 653, 654, 655, 656, 657, 658, 659, 660, 661, 662, 663, 664, 665, 666, 667, 668, 669, 670, 671, 672, 673, 674] = 705965153637087948065679873611758487576443747507774011049448494287560684853885830180010262925914225100517034268666152220827605701137109378554715789418019872896490616991861510795752454704984568582410582797162449125507072 := by decide +kernel
set_option maxRecDepth 20000 in
theorem ggX6_mile_X6_isSand : GoodIn wsX6_mile wsX6_isSand := goodIn_m tw_wsX6_mile tm_wsX6_mile tw_wsX6_isSand tm_wsX6_isSand zgood (by decide +kernel)
set_option maxRecDepth 20000 in
theorem gX6_mile_X6_isSand : GoodIn wsX6_mile (wsV RX6 183 RX6 yX6_isSand wsX6_isSand) := goodIn_app (goodIn_m tw_wsX6_mile tm_wsX6_mile (iw := [713, 714, 715, 580]) rfl rfl zgood (by decide +kernel)) ggX6_mile_X6_isSand
set_option maxRecDepth 20000 in
theorem ggX6_mile_X6_hurtsOf : GoodIn wsX6_mile wsX6_hurtsOf := goodIn_m tw_wsX6_mile tm_wsX6_mile tw_wsX6_hurtsOf tm_wsX6_hurtsOf zgood (by decide +kernel)
set_option maxRecDepth 20000 in
theorem gX6_mile_X6_hurtsOf : GoodIn wsX6_mile (wsV RX6 186 RX6 yX6_hurtsOf wsX6_hurtsOf) := goodIn_app (goodIn_m tw_wsX6_mile tm_wsX6_mile (iw := [721, 722, 723, 580]) rfl rfl zgood (by decide +kernel)) ggX6_mile_X6_hurtsOf
set_option maxRecDepth 20000 in
theorem ggX6_mile_X6_wearsOf : GoodIn wsX6_mile wsX6_wearsOf := goodIn_m tw_wsX6_mile tm_wsX6_mile tw_wsX6_wearsOf tm_wsX6_wearsOf zgood (by decide +kernel)
set_option maxRecDepth 20000 in
theorem gX6_mile_X6_wearsOf : GoodIn wsX6_mile (wsV RX6 189 RX6 yX6_wearsOf wsX6_wearsOf) := goodIn_app (goodIn_m tw_wsX6_mile tm_wsX6_mile (iw := [724, 725, 726, 580]) rfl rfl zgood (by decide +kernel)) ggX6_mile_X6_wearsOf
set_option maxRecDepth 20000 in
theorem ggX6_mile_X6_within : GoodIn wsX6_mile wsX6_within := goodIn_m tw_wsX6_mile tm_wsX6_mile tw_wsX6_within tm_wsX6_within zgood (by decide +kernel)
set_option maxRecDepth 20000 in
theorem gX6_mile_X6_within : GoodIn wsX6_mile (va_wsS RX6 174 yX6_within wsX6_within) := goodIn_app (goodIn_m tw_wsX6_mile tm_wsX6_mile (iw := [700, 701, 580]) rfl rfl zgood (by decide +kernel)) ggX6_mile_X6_within
set_option maxRecDepth 20000 in
theorem tw_wsX6_caseOf : wsX6_caseOf = [727, 728, 729, 730, 580, 719, 555, 720, 554, 713, 714, 715, 716, 552, 553, 721, 722, 723, 717, 707, 708, 709, 696, 568, 697, 698, 699, 690, 558, 691, 557, 605, 567, 692, 693, 694, 700, 701, 702, 724, 725, 726, 718, 633, 634, 635, 636, 637, 638, 639, 640, 641, 642, 643, 644, 645, 646, 647, 648, 649, 650, 651, 652, 653, 654, 655, 656, 657, 658, 659, 660, 661, 662, 663, 664, 665, 666, 667, 668, 669, 670, 671, 672, 673, 674].map wTb.get := rfl
set_option maxRecDepth 20000 in
theorem tm_wsX6_caseOf : zmk [727, 728, 729, 730, 580, 719, 555, 720, 554, 713, 714, 715, 716, 552, 553, 721, 722, 723, 717, 707, 708, 709, 696, 568, 697, 698, 699, 690, 558, 691, 557, 605, 567, 692, 693, 694, 700, 701, 702, 724, 725, 726, 718, 633, 634, 635, 636, 637, 638, 639, 640, 641, 642, 643, 644, 645, 646, 647, 648, 649, 650, 651, 652, 653, 654, 655, 656, 657, 658, 659, 660, 661, 662, 663, 664, 665, 666, 667, 668, 669, 670, 671, 672, 673, 674] = 11296017498792903561624838031879112975144020916951189728612205735022662548708380204827037466658026713741384029887231139388789968948181075432154289871244067772011975960052046962943122726552622797546500680842791937997012992 := by decide +kernel
set_option maxRecDepth 20000 in
theorem ggX6_caseOf_X6_mile : GoodIn wsX6_caseOf wsX6_mile := goodIn_m tw_wsX6_caseOf tm_wsX6_caseOf tw_wsX6_mile tm_wsX6_mile zgood (by decide +kernel)
set_option maxRecDepth 20000 in
theorem gX6_caseOf_X6_mile : GoodIn wsX6_caseOf (wsV RX6 193 RX6 yX6_mile wsX6_mile) := goodIn_app (goodIn_m tw_wsX6_caseOf tm_wsX6_caseOf (iw := [728, 729, 730, 580]) rfl rfl zgood (by decide +kernel)) ggX6_caseOf_X6_mile
set_option maxRecDepth 20000 in
theorem tw_wsX6_walk : wsX6_walk = [731, 555, 682, 683, 684, 580, 677, 678, 592, 593, 594, 704, 705, 706, 675, 676, 732, 733, 679, 734, 735, 736, 727, 728, 729, 730, 719, 720, 554, 713, 714, 715, 716, 552, 553, 721, 722, 723, 717, 707, 708, 709, 696, 568, 697, 698, 699, 690, 558, 691, 557, 605, 567, 692, 693, 694, 700, 701, 702, 724, 725, 726, 718, 633, 634, 635, 636, 637, 638, 639, 640, 641, 642, 643, 644, 645, 646, 647, 648, 649, 650, 651, 652, 653, 654, 655, 656, 657, 658, 659, 660, 661, 662, 663, 664, 665, 666, 667, 668, 669, 670, 671, 672, 673, 674].map wTb.get := rfl
set_option maxRecDepth 20000 in
theorem tm_wsX6_walk : zmk [731, 555, 682, 683, 684, 580, 677, 678, 592, 593, 594, 704, 705, 706, 675, 676, 732, 733, 679, 734, 735, 736, 727, 728, 729, 730, 719, 720, 554, 713, 714, 715, 716, 552, 553, 721, 722, 723, 717, 707, 708, 709, 696, 568, 697, 698, 699, 690, 558, 691, 557, 605, 567, 692, 693, 694, 700, 701, 702, 724, 725, 726, 718, 633, 634, 635, 636, 637, 638, 639, 640, 641, 642, 643, 644, 645, 646, 647, 648, 649, 650, 651, 652, 653, 654, 655, 656, 657, 658, 659, 660, 661, 662, 663, 664, 665, 666, 667, 668, 669, 670, 671, 672, 673, 674] = 722947535682399079086692626417842251043294037886740349002159773594913365776655019941484326927467108175664557908346570919511770886073328409254192847311172259368824418003043634742688892816166971398215217832881043231249268736 := by decide +kernel
set_option maxRecDepth 20000 in
theorem ggX6_walk_X6_isJudge : GoodIn wsX6_walk wsX6_isJudge := goodIn_m tw_wsX6_walk tm_wsX6_walk tw_wsX6_isJudge tm_wsX6_isJudge zgood (by decide +kernel)
set_option maxRecDepth 20000 in
theorem gX6_walk_X6_isJudge : GoodIn wsX6_walk (wsV RX6 104 RX6 yX6_isJudge wsX6_isJudge) := goodIn_app (goodIn_m tw_wsX6_walk tm_wsX6_walk (iw := [682, 683, 684, 580]) rfl rfl zgood (by decide +kernel)) ggX6_walk_X6_isJudge
set_option maxRecDepth 20000 in
theorem ggX6_walk_X6_isPebble : GoodIn wsX6_walk wsX6_isPebble := goodIn_m tw_wsX6_walk tm_wsX6_walk tw_wsX6_isPebble tm_wsX6_isPebble zgood (by decide +kernel)
set_option maxRecDepth 20000 in
theorem gX6_walk_X6_isPebble : GoodIn wsX6_walk (wsV RX6 177 RX6 yX6_isPebble wsX6_isPebble) := goodIn_app (goodIn_m tw_wsX6_walk tm_wsX6_walk (iw := [704, 705, 706, 580]) rfl rfl zgood (by decide +kernel)) ggX6_walk_X6_isPebble
set_option maxRecDepth 20000 in
theorem ggX6_walk_X6_isCase : GoodIn wsX6_walk wsX6_isCase := goodIn_m tw_wsX6_walk tm_wsX6_walk tw_wsX6_isCase tm_wsX6_isCase zgood (by decide +kernel)
set_option maxRecDepth 20000 in
theorem gX6_walk_X6_isCase : GoodIn wsX6_walk (va_wsS RX6 196 yX6_isCase wsX6_isCase) := goodIn_app (goodIn_m tw_wsX6_walk tm_wsX6_walk (iw := [732, 733, 580]) rfl rfl zgood (by decide +kernel)) ggX6_walk_X6_isCase
set_option maxRecDepth 20000 in
theorem ggX6_walk_X6_caseOf : GoodIn wsX6_walk wsX6_caseOf := goodIn_m tw_wsX6_walk tm_wsX6_walk tw_wsX6_caseOf tm_wsX6_caseOf zgood (by decide +kernel)
set_option maxRecDepth 20000 in
theorem gX6_walk_X6_caseOf : GoodIn wsX6_walk (wsV RX6 199 RX6 yX6_caseOf wsX6_caseOf) := goodIn_app (goodIn_m tw_wsX6_walk tm_wsX6_walk (iw := [734, 735, 736, 580]) rfl rfl zgood (by decide +kernel)) ggX6_walk_X6_caseOf
set_option maxRecDepth 20000 in
theorem tw_wsX6_heard : wsX6_heard = [737, 738, 554, 739, 555, 740, 741, 742, 743, 744, 580, 745, 569, 734, 735, 736, 727, 728, 729, 730, 719, 720, 713, 714, 715, 716, 552, 553, 721, 722, 723, 717, 707, 708, 709, 696, 568, 697, 698, 699, 690, 558, 691, 557, 605, 567, 692, 693, 694, 700, 701, 702, 724, 725, 726, 718, 746, 747, 748, 749, 633, 634, 635, 636, 637, 638, 639, 640, 641, 642, 643, 644, 645, 646, 647, 648, 649, 650, 651, 652, 653, 654, 655, 656, 657, 658, 659, 660, 661, 662, 663, 664, 665, 666, 667, 668, 669, 670, 671, 672, 673, 674].map wTb.get := rfl
set_option maxRecDepth 20000 in
theorem tm_wsX6_heard : zmk [737, 738, 554, 739, 555, 740, 741, 742, 743, 744, 580, 745, 569, 734, 735, 736, 727, 728, 729, 730, 719, 720, 713, 714, 715, 716, 552, 553, 721, 722, 723, 717, 707, 708, 709, 696, 568, 697, 698, 699, 690, 558, 691, 557, 605, 567, 692, 693, 694, 700, 701, 702, 724, 725, 726, 718, 746, 747, 748, 749, 633, 634, 635, 636, 637, 638, 639, 640, 641, 642, 643, 644, 645, 646, 647, 648, 649, 650, 651, 652, 653, 654, 655, 656, 657, 658, 659, 660, 661, 662, 663, 664, 665, 666, 667, 668, 669, 670, 671, 672, 673, 674] = 5922307449103675870105476760002201063904366459643097211686053230965136680537301251968804816384447054127540572406408847860812888258120051673258912458178904644017731127097282271504780445510118802554297916944474687461018403078144 := by decide +kernel
set_option maxRecDepth 20000 in
theorem tw_wsX6_keeps : wsX6_keeps = [745, 569, 555, 554, 633, 634, 635, 636, 637, 638, 639, 640, 641, 642, 643, 644, 645, 646, 647, 648, 649, 650, 651, 652, 653, 654, 655, 656, 657, 658, 659, 660, 661, 662, 663, 664, 665, 666, 667, 668, 669, 670, 671, 672, 673, 674].map wTb.get := rfl
set_option maxRecDepth 20000 in
theorem tm_wsX6_keeps : zmk [745, 569, 555, 554, 633, 634, 635, 636, 637, 638, 639, 640, 641, 642, 643, 644, 645, 646, 647, 648, 649, 650, 651, 652, 653, 654, 655, 656, 657, 658, 659, 660, 661, 662, 663, 664, 665, 666, 667, 668, 669, 670, 671, 672, 673, 674] = 185074578797901741880213561348663490966509336006549693423288636821828108947525529645054115141849372136681699847083102549093514826701693669515574011088884387622578729820562935119093527885370173261761430972474311875010569961472 := by decide +kernel
set_option maxRecDepth 20000 in
theorem ggX6_heard_X6_keeps : GoodIn wsX6_heard wsX6_keeps := goodIn_m tw_wsX6_heard tm_wsX6_heard tw_wsX6_keeps tm_wsX6_keeps zgood (by decide +kernel)
set_option maxRecDepth 20000 in
theorem gX6_heard_X6_keeps : GoodIn wsX6_heard (wsV RX6 202 RX6 yX6_keeps wsX6_keeps) := goodIn_app (goodIn_m tw_wsX6_heard tm_wsX6_heard (iw := [742, 743, 744, 580]) rfl rfl zgood (by decide +kernel)) ggX6_heard_X6_keeps
set_option maxRecDepth 20000 in
theorem ggX6_heard_X6_caseOf : GoodIn wsX6_heard wsX6_caseOf := goodIn_m tw_wsX6_heard tm_wsX6_heard tw_wsX6_caseOf tm_wsX6_caseOf zgood (by decide +kernel)
set_option maxRecDepth 20000 in
theorem gX6_heard_X6_caseOf : GoodIn wsX6_heard (wsV RX6 199 RX6 yX6_caseOf wsX6_caseOf) := goodIn_app (goodIn_m tw_wsX6_heard tm_wsX6_heard (iw := [734, 735, 736, 580]) rfl rfl zgood (by decide +kernel)) ggX6_heard_X6_caseOf
set_option maxRecDepth 20000 in
theorem ggX6_heard_X6_asksOf : GoodIn wsX6_heard wsX6_asksOf := goodIn_m tw_wsX6_heard tm_wsX6_heard tw_wsX6_asksOf tm_wsX6_asksOf zgood (by decide +kernel)
set_option maxRecDepth 20000 in
theorem gX6_heard_X6_asksOf : GoodIn wsX6_heard (wsV RX6 180 RX6 yX6_asksOf wsX6_asksOf) := goodIn_app (goodIn_m tw_wsX6_heard tm_wsX6_heard (iw := [707, 708, 709, 580]) rfl rfl zgood (by decide +kernel)) ggX6_heard_X6_asksOf
set_option maxRecDepth 20000 in
theorem tw_wsX6_laysBack : wsX6_laysBack = [749, 555, 569, 554, 633, 634, 635, 636, 637, 638, 639, 640, 641, 642, 643, 644, 645, 646, 647, 648, 649, 650, 651, 652, 653, 654, 655, 656, 657, 658, 659, 660, 661, 662, 663, 664, 665, 666, 667, 668, 669, 670, 671, 672, 673, 674].map wTb.get := rfl
set_option maxRecDepth 20000 in
theorem tm_wsX6_laysBack : zmk [749, 555, 569, 554, 633, 634, 635, 636, 637, 638, 639, 640, 641, 642, 643, 644, 645, 646, 647, 648, 649, 650, 651, 652, 653, 654, 655, 656, 657, 658, 659, 660, 661, 662, 663, 664, 665, 666, 667, 668, 669, 670, 671, 672, 673, 674] = 2961193260766427870081065517589500865755424285513124463288060070937090651945798102992524414437000268358953137546516202545251840577734787106670380759195091888088308519591732190286813760428597449155323865634547808605742617853952 := by decide +kernel
set_option maxRecDepth 20000 in
theorem ggX6_heard_X6_laysBack : GoodIn wsX6_heard wsX6_laysBack := goodIn_m tw_wsX6_heard tm_wsX6_heard tw_wsX6_laysBack tm_wsX6_laysBack zgood (by decide +kernel)
set_option maxRecDepth 20000 in
theorem gX6_heard_X6_laysBack : GoodIn wsX6_heard (wsV RX6 218 RX6 yX6_laysBack wsX6_laysBack) := goodIn_app (goodIn_m tw_wsX6_heard tm_wsX6_heard (iw := [746, 747, 748, 580]) rfl rfl zgood (by decide +kernel)) ggX6_heard_X6_laysBack
set_option maxRecDepth 20000 in
theorem tw_wsX6_hear : wsX6_hear = [750, 682, 683, 684, 580, 677, 678, 592, 593, 594, 704, 705, 706, 675, 676, 732, 733, 679, 751, 752, 753, 737, 738, 554, 739, 555, 740, 741, 742, 743, 744, 745, 569, 734, 735, 736, 727, 728, 729, 730, 719, 720, 713, 714, 715, 716, 552, 553, 721, 722, 723, 717, 707, 708, 709, 696, 568, 697, 698, 699, 690, 558, 691, 557, 605, 567, 692, 693, 694, 700, 701, 702, 724, 725, 726, 718, 746, 747, 748, 749, 754, 755, 756, 757, 633, 634, 635, 636, 637, 638, 639, 640, 641, 642, 643, 644, 645, 646, 647, 648, 649, 650, 651, 652, 653, 654, 655, 656, 657, 658, 659, 660, 661, 662, 663, 664, 665, 666, 667, 668, 669, 670, 671, 672, 673, 674].map wTb.get := rfl
set_option maxRecDepth 20000 in
theorem tm_wsX6_hear : zmk [750, 682, 683, 684, 580, 677, 678, 592, 593, 594, 704, 705, 706, 675, 676, 732, 733, 679, 751, 752, 753, 737, 738, 554, 739, 555, 740, 741, 742, 743, 744, 745, 569, 734, 735, 736, 727, 728, 729, 730, 719, 720, 713, 714, 715, 716, 552, 553, 721, 722, 723, 717, 707, 708, 709, 696, 568, 697, 698, 699, 690, 558, 691, 557, 605, 567, 692, 693, 694, 700, 701, 702, 724, 725, 726, 718, 746, 747, 748, 749, 754, 755, 756, 757, 633, 634, 635, 636, 637, 638, 639, 640, 641, 642, 643, 644, 645, 646, 647, 648, 649, 650, 651, 652, 653, 654, 655, 656, 657, 658, 659, 660, 661, 662, 663, 664, 665, 666, 667, 668, 669, 670, 671, 672, 673, 674] = 1516130938216317487743955161625990096257059323032544839647605359121595583268107486746374405750982008495685355239358560096359502407689354586359671546612409049801854067353546542015056876134683318166596542025151647772957622321283072 := by decide +kernel
set_option maxRecDepth 20000 in
theorem ggX6_hear_X6_isJudge : GoodIn wsX6_hear wsX6_isJudge := goodIn_m tw_wsX6_hear tm_wsX6_hear tw_wsX6_isJudge tm_wsX6_isJudge zgood (by decide +kernel)
set_option maxRecDepth 20000 in
theorem gX6_hear_X6_isJudge : GoodIn wsX6_hear (wsV RX6 104 RX6 yX6_isJudge wsX6_isJudge) := goodIn_app (goodIn_m tw_wsX6_hear tm_wsX6_hear (iw := [682, 683, 684, 580]) rfl rfl zgood (by decide +kernel)) ggX6_hear_X6_isJudge
set_option maxRecDepth 20000 in
theorem ggX6_hear_X6_isPebble : GoodIn wsX6_hear wsX6_isPebble := goodIn_m tw_wsX6_hear tm_wsX6_hear tw_wsX6_isPebble tm_wsX6_isPebble zgood (by decide +kernel)
set_option maxRecDepth 20000 in
theorem gX6_hear_X6_isPebble : GoodIn wsX6_hear (wsV RX6 177 RX6 yX6_isPebble wsX6_isPebble) := goodIn_app (goodIn_m tw_wsX6_hear tm_wsX6_hear (iw := [704, 705, 706, 580]) rfl rfl zgood (by decide +kernel)) ggX6_hear_X6_isPebble
set_option maxRecDepth 20000 in
theorem ggX6_hear_X6_isCase : GoodIn wsX6_hear wsX6_isCase := goodIn_m tw_wsX6_hear tm_wsX6_hear tw_wsX6_isCase tm_wsX6_isCase zgood (by decide +kernel)
set_option maxRecDepth 20000 in
theorem gX6_hear_X6_isCase : GoodIn wsX6_hear (va_wsS RX6 196 yX6_isCase wsX6_isCase) := goodIn_app (goodIn_m tw_wsX6_hear tm_wsX6_hear (iw := [732, 733, 580]) rfl rfl zgood (by decide +kernel)) ggX6_hear_X6_isCase
set_option maxRecDepth 20000 in
theorem ggX6_hear_X6_in : GoodIn wsX6_hear wsX6_in := goodIn_m tw_wsX6_hear tm_wsX6_hear tw_wsX6_in tm_wsX6_in zgood (by decide +kernel)
set_option maxRecDepth 20000 in
theorem gX6_hear_X6_in : GoodIn wsX6_hear (va_wsS RX6 91 yX6_in wsX6_in) := goodIn_app (goodIn_m tw_wsX6_hear tm_wsX6_hear (iw := [592, 593, 580]) rfl rfl zgood (by decide +kernel)) ggX6_hear_X6_in
set_option maxRecDepth 20000 in
theorem ggX6_hear_X6_heard : GoodIn wsX6_hear wsX6_heard := goodIn_m tw_wsX6_hear tm_wsX6_hear tw_wsX6_heard tm_wsX6_heard zgood (by decide +kernel)
set_option maxRecDepth 20000 in
theorem gX6_hear_X6_heard : GoodIn wsX6_hear (wsV RX6 221 RX6 yX6_heard wsX6_heard) := goodIn_app (goodIn_m tw_wsX6_hear tm_wsX6_hear (iw := [751, 752, 753, 580]) rfl rfl zgood (by decide +kernel)) ggX6_hear_X6_heard
set_option maxRecDepth 20000 in
theorem tw_wsX6_toldCase : wsX6_toldCase = [757, 738, 739, 741, 740, 633, 634, 635, 636, 637, 638, 639, 640, 641, 642, 643, 644, 645, 646, 647, 648, 649, 650, 651, 652, 653, 654, 655, 656, 657, 658, 659, 660, 661, 662, 663, 664, 665, 666, 667, 668, 669, 670, 671, 672, 673, 674].map wTb.get := rfl
set_option maxRecDepth 20000 in
theorem tm_wsX6_toldCase : zmk [757, 738, 739, 741, 740, 633, 634, 635, 636, 637, 638, 639, 640, 641, 642, 643, 644, 645, 646, 647, 648, 649, 650, 651, 652, 653, 654, 655, 656, 657, 658, 659, 660, 661, 662, 663, 664, 665, 666, 667, 668, 669, 670, 671, 672, 673, 674] = 758087163183408413851089366771005398350330828949344481979963013011120235153994549789646745437177562011658096167425648462197952847001273803809717167690599120024903885505501701211800498749827138902771118896275260086582532015915008 := by decide +kernel
set_option maxRecDepth 20000 in
theorem ggX6_hear_X6_toldCase : GoodIn wsX6_hear wsX6_toldCase := goodIn_m tw_wsX6_hear tm_wsX6_hear tw_wsX6_toldCase tm_wsX6_toldCase zgood (by decide +kernel)
set_option maxRecDepth 20000 in
theorem gX6_hear_X6_toldCase : GoodIn wsX6_hear (wsV RX6 225 RX6 yX6_toldCase wsX6_toldCase) := goodIn_app (goodIn_m tw_wsX6_hear tm_wsX6_hear (iw := [754, 755, 756, 580]) rfl rfl zgood (by decide +kernel)) ggX6_hear_X6_toldCase
set_option maxRecDepth 20000 in
theorem tw_wsX6_tellsMiles : wsX6_tellsMiles = [758, 571, 742, 743, 744, 580, 745, 569, 555, 554, 707, 708, 709, 696, 568, 553, 697, 698, 699, 690, 558, 691, 557, 605, 567, 692, 693, 694, 700, 701, 702, 713, 714, 715, 716, 552, 728, 729, 730, 719, 720, 721, 722, 723, 717, 724, 725, 726, 718, 746, 747, 748, 749, 633, 634, 635, 636, 637, 638, 639, 640, 641, 642, 643, 644, 645, 646, 647, 648, 649, 650, 651, 652, 653, 654, 655, 656, 657, 658, 659, 660, 661, 662, 663, 664, 665, 666, 667, 668, 669, 670, 671, 672, 673, 674].map wTb.get := rfl
set_option maxRecDepth 20000 in
theorem tm_wsX6_tellsMiles : zmk [758, 571, 742, 743, 744, 580, 745, 569, 555, 554, 707, 708, 709, 696, 568, 553, 697, 698, 699, 690, 558, 691, 557, 605, 567, 692, 693, 694, 700, 701, 702, 713, 714, 715, 716, 552, 728, 729, 730, 719, 720, 721, 722, 723, 717, 724, 725, 726, 718, 746, 747, 748, 749, 633, 634, 635, 636, 637, 638, 639, 640, 641, 642, 643, 644, 645, 646, 647, 648, 649, 650, 651, 652, 653, 654, 655, 656, 657, 658, 659, 660, 661, 662, 663, 664, 665, 666, 667, 668, 669, 670, 671, 672, 673, 674] = 1522030212301608196619701279496235252367435204664407944699399836431208714555388728121272368719043576511480803309331010656682708179034864545750727868074587191221330523806657350680942977946334391804748905122999688039922358800089088 := by decide +kernel
set_option maxRecDepth 20000 in
theorem ggX6_tellsMiles_X6_keeps : GoodIn wsX6_tellsMiles wsX6_keeps := goodIn_m tw_wsX6_tellsMiles tm_wsX6_tellsMiles tw_wsX6_keeps tm_wsX6_keeps zgood (by decide +kernel)
set_option maxRecDepth 20000 in
theorem gX6_tellsMiles_X6_keeps : GoodIn wsX6_tellsMiles (wsV RX6 202 RX6 yX6_keeps wsX6_keeps) := goodIn_app (goodIn_m tw_wsX6_tellsMiles tm_wsX6_tellsMiles (iw := [742, 743, 744, 580]) rfl rfl zgood (by decide +kernel)) ggX6_tellsMiles_X6_keeps
set_option maxRecDepth 20000 in
theorem ggX6_tellsMiles_X6_asksOf : GoodIn wsX6_tellsMiles wsX6_asksOf := goodIn_m tw_wsX6_tellsMiles tm_wsX6_tellsMiles tw_wsX6_asksOf tm_wsX6_asksOf zgood (by decide +kernel)
set_option maxRecDepth 20000 in
theorem gX6_tellsMiles_X6_asksOf : GoodIn wsX6_tellsMiles (wsV RX6 180 RX6 yX6_asksOf wsX6_asksOf) := goodIn_app (goodIn_m tw_wsX6_tellsMiles tm_wsX6_tellsMiles (iw := [707, 708, 709, 580]) rfl rfl zgood (by decide +kernel)) ggX6_tellsMiles_X6_asksOf
set_option maxRecDepth 20000 in
theorem ggX6_tellsMiles_X6_isSand : GoodIn wsX6_tellsMiles wsX6_isSand := goodIn_m tw_wsX6_tellsMiles tm_wsX6_tellsMiles tw_wsX6_isSand tm_wsX6_isSand zgood (by decide +kernel)
set_option maxRecDepth 20000 in
theorem gX6_tellsMiles_X6_isSand : GoodIn wsX6_tellsMiles (wsV RX6 183 RX6 yX6_isSand wsX6_isSand) := goodIn_app (goodIn_m tw_wsX6_tellsMiles tm_wsX6_tellsMiles (iw := [713, 714, 715, 580]) rfl rfl zgood (by decide +kernel)) ggX6_tellsMiles_X6_isSand
set_option maxRecDepth 20000 in
theorem ggX6_tellsMiles_X6_mile : GoodIn wsX6_tellsMiles wsX6_mile := goodIn_m tw_wsX6_tellsMiles tm_wsX6_tellsMiles tw_wsX6_mile tm_wsX6_mile zgood (by decide +kernel)
set_option maxRecDepth 20000 in
theorem gX6_tellsMiles_X6_mile : GoodIn wsX6_tellsMiles (wsV RX6 193 RX6 yX6_mile wsX6_mile) := goodIn_app (goodIn_m tw_wsX6_tellsMiles tm_wsX6_tellsMiles (iw := [728, 729, 730, 580]) rfl rfl zgood (by decide +kernel)) ggX6_tellsMiles_X6_mile
set_option maxRecDepth 20000 in
theorem ggX6_tellsMiles_X6_laysBack : GoodIn wsX6_tellsMiles wsX6_laysBack := goodIn_m tw_wsX6_tellsMiles tm_wsX6_tellsMiles tw_wsX6_laysBack tm_wsX6_laysBack zgood (by decide +kernel)
set_option maxRecDepth 20000 in
theorem gX6_tellsMiles_X6_laysBack : GoodIn wsX6_tellsMiles (wsV RX6 218 RX6 yX6_laysBack wsX6_laysBack) := goodIn_app (goodIn_m tw_wsX6_tellsMiles tm_wsX6_tellsMiles (iw := [746, 747, 748, 580]) rfl rfl zgood (by decide +kernel)) ggX6_tellsMiles_X6_laysBack
set_option maxRecDepth 20000 in
theorem tw_wsX6_fewest : wsX6_fewest = [759, 571, 682, 683, 684, 580, 677, 678, 592, 593, 594, 704, 705, 706, 675, 676, 760, 761, 762, 758, 742, 743, 744, 745, 569, 555, 554, 707, 708, 709, 696, 568, 553, 697, 698, 699, 690, 558, 691, 557, 605, 567, 692, 693, 694, 700, 701, 702, 713, 714, 715, 716, 552, 728, 729, 730, 719, 720, 721, 722, 723, 717, 724, 725, 726, 718, 746, 747, 748, 749, 633, 634, 635, 636, 637, 638, 639, 640, 641, 642, 643, 644, 645, 646, 647, 648, 649, 650, 651, 652, 653, 654, 655, 656, 657, 658, 659, 660, 661, 662, 663, 664, 665, 666, 667, 668, 669, 670, 671, 672, 673, 674].map wTb.get := rfl
set_option maxRecDepth 20000 in
theorem tm_wsX6_fewest : zmk [759, 571, 682, 683, 684, 580, 677, 678, 592, 593, 594, 704, 705, 706, 675, 676, 760, 761, 762, 758, 742, 743, 744, 745, 569, 555, 554, 707, 708, 709, 696, 568, 553, 697, 698, 699, 690, 558, 691, 557, 605, 567, 692, 693, 694, 700, 701, 702, 713, 714, 715, 716, 552, 728, 729, 730, 719, 720, 721, 722, 723, 717, 724, 725, 726, 718, 746, 747, 748, 749, 633, 634, 635, 636, 637, 638, 639, 640, 641, 642, 643, 644, 645, 646, 647, 648, 649, 650, 651, 652, 653, 654, 655, 656, 657, 658, 659, 660, 661, 662, 663, 664, 665, 666, 667, 668, 669, 670, 671, 672, 673, 674] = 47005958697673940870197823516210219894746606523689554639715960550923278799135572395262081597191829676154572509254908583737822001638545235080440271956547724111807432633795975730793949527440477659128952088778079813005947793823498240 := by decide +kernel
set_option maxRecDepth 20000 in
theorem ggX6_fewest_X6_isJudge : GoodIn wsX6_fewest wsX6_isJudge := goodIn_m tw_wsX6_fewest tm_wsX6_fewest tw_wsX6_isJudge tm_wsX6_isJudge zgood (by decide +kernel)
set_option maxRecDepth 20000 in
theorem gX6_fewest_X6_isJudge : GoodIn wsX6_fewest (wsV RX6 104 RX6 yX6_isJudge wsX6_isJudge) := goodIn_app (goodIn_m tw_wsX6_fewest tm_wsX6_fewest (iw := [682, 683, 684, 580]) rfl rfl zgood (by decide +kernel)) ggX6_fewest_X6_isJudge
set_option maxRecDepth 20000 in
theorem ggX6_fewest_X6_isPebble : GoodIn wsX6_fewest wsX6_isPebble := goodIn_m tw_wsX6_fewest tm_wsX6_fewest tw_wsX6_isPebble tm_wsX6_isPebble zgood (by decide +kernel)
set_option maxRecDepth 20000 in
theorem gX6_fewest_X6_isPebble : GoodIn wsX6_fewest (wsV RX6 177 RX6 yX6_isPebble wsX6_isPebble) := goodIn_app (goodIn_m tw_wsX6_fewest tm_wsX6_fewest (iw := [704, 705, 706, 580]) rfl rfl zgood (by decide +kernel)) ggX6_fewest_X6_isPebble
set_option maxRecDepth 20000 in
theorem ggX6_fewest_X6_tellsMiles : GoodIn wsX6_fewest wsX6_tellsMiles := goodIn_m tw_wsX6_fewest tm_wsX6_fewest tw_wsX6_tellsMiles tm_wsX6_tellsMiles zgood (by decide +kernel)
set_option maxRecDepth 20000 in
theorem gX6_fewest_X6_tellsMiles : GoodIn wsX6_fewest (wsV RX6 228 RX6 yX6_tellsMiles wsX6_tellsMiles) := goodIn_app (goodIn_m tw_wsX6_fewest tm_wsX6_fewest (iw := [760, 761, 762, 580]) rfl rfl zgood (by decide +kernel)) ggX6_fewest_X6_tellsMiles
set_option maxRecDepth 20000 in
theorem tw_wsX6_sand : wsX6_sand = [763, 682, 683, 684, 580, 677, 678, 592, 593, 594, 704, 705, 706, 675, 676, 760, 761, 762, 758, 571, 742, 743, 744, 745, 569, 555, 554, 707, 708, 709, 696, 568, 553, 697, 698, 699, 690, 558, 691, 557, 605, 567, 692, 693, 694, 700, 701, 702, 713, 714, 715, 716, 552, 728, 729, 730, 719, 720, 721, 722, 723, 717, 724, 725, 726, 718, 746, 747, 748, 749, 633, 634, 635, 636, 637, 638, 639, 640, 641, 642, 643, 644, 645, 646, 647, 648, 649, 650, 651, 652, 653, 654, 655, 656, 657, 658, 659, 660, 661, 662, 663, 664, 665, 666, 667, 668, 669, 670, 671, 672, 673, 674].map wTb.get := rfl
set_option maxRecDepth 20000 in
theorem tm_wsX6_sand : zmk [763, 682, 683, 684, 580, 677, 678, 592, 593, 594, 704, 705, 706, 675, 676, 760, 761, 762, 758, 571, 742, 743, 744, 745, 569, 555, 554, 707, 708, 709, 696, 568, 553, 697, 698, 699, 690, 558, 691, 557, 605, 567, 692, 693, 694, 700, 701, 702, 713, 714, 715, 716, 552, 728, 729, 730, 719, 720, 721, 722, 723, 717, 724, 725, 726, 718, 746, 747, 748, 749, 633, 634, 635, 636, 637, 638, 639, 640, 641, 642, 643, 644, 645, 646, 647, 648, 649, 650, 651, 652, 653, 654, 655, 656, 657, 658, 659, 660, 661, 662, 663, 664, 665, 666, 667, 668, 669, 670, 671, 672, 673, 674] = 92489887183046272954640581967260099443288189056405275669180375727467740303619270236987034980843581959860267744522420494074880010743471437954784625717519827799437949509406812807461877817428713347369079018281491983442261666493890560 := by decide +kernel
set_option maxRecDepth 20000 in
theorem ggX6_sand_X6_isJudge : GoodIn wsX6_sand wsX6_isJudge := goodIn_m tw_wsX6_sand tm_wsX6_sand tw_wsX6_isJudge tm_wsX6_isJudge zgood (by decide +kernel)
set_option maxRecDepth 20000 in
theorem gX6_sand_X6_isJudge : GoodIn wsX6_sand (wsV RX6 104 RX6 yX6_isJudge wsX6_isJudge) := goodIn_app (goodIn_m tw_wsX6_sand tm_wsX6_sand (iw := [682, 683, 684, 580]) rfl rfl zgood (by decide +kernel)) ggX6_sand_X6_isJudge
set_option maxRecDepth 20000 in
theorem ggX6_sand_X6_isPebble : GoodIn wsX6_sand wsX6_isPebble := goodIn_m tw_wsX6_sand tm_wsX6_sand tw_wsX6_isPebble tm_wsX6_isPebble zgood (by decide +kernel)
set_option maxRecDepth 20000 in
theorem gX6_sand_X6_isPebble : GoodIn wsX6_sand (wsV RX6 177 RX6 yX6_isPebble wsX6_isPebble) := goodIn_app (goodIn_m tw_wsX6_sand tm_wsX6_sand (iw := [704, 705, 706, 580]) rfl rfl zgood (by decide +kernel)) ggX6_sand_X6_isPebble
set_option maxRecDepth 20000 in
theorem ggX6_sand_X6_tellsMiles : GoodIn wsX6_sand wsX6_tellsMiles := goodIn_m tw_wsX6_sand tm_wsX6_sand tw_wsX6_tellsMiles tm_wsX6_tellsMiles zgood (by decide +kernel)
set_option maxRecDepth 20000 in
theorem gX6_sand_X6_tellsMiles : GoodIn wsX6_sand (wsV RX6 228 RX6 yX6_tellsMiles wsX6_tellsMiles) := goodIn_app (goodIn_m tw_wsX6_sand tm_wsX6_sand (iw := [760, 761, 762, 580]) rfl rfl zgood (by decide +kernel)) ggX6_sand_X6_tellsMiles
set_option maxRecDepth 20000 in
theorem tw_wsX6_unlike : wsX6_unlike = [764, 572, 571, 682, 683, 684, 580, 677, 678, 592, 593, 594, 704, 705, 706, 675, 676, 760, 761, 762, 758, 742, 743, 744, 745, 569, 555, 554, 707, 708, 709, 696, 568, 553, 697, 698, 699, 690, 558, 691, 557, 605, 567, 692, 693, 694, 700, 701, 702, 713, 714, 715, 716, 552, 728, 729, 730, 719, 720, 721, 722, 723, 717, 724, 725, 726, 718, 746, 747, 748, 749, 633, 634, 635, 636, 637, 638, 639, 640, 641, 642, 643, 644, 645, 646, 647, 648, 649, 650, 651, 652, 653, 654, 655, 656, 657, 658, 659, 660, 661, 662, 663, 664, 665, 666, 667, 668, 669, 670, 671, 672, 673, 674].map wTb.get := rfl
set_option maxRecDepth 20000 in
theorem tm_wsX6_unlike : zmk [764, 572, 571, 682, 683, 684, 580, 677, 678, 592, 593, 594, 704, 705, 706, 675, 676, 760, 761, 762, 758, 742, 743, 744, 745, 569, 555, 554, 707, 708, 709, 696, 568, 553, 697, 698, 699, 690, 558, 691, 557, 605, 567, 692, 693, 694, 700, 701, 702, 713, 714, 715, 716, 552, 728, 729, 730, 719, 720, 721, 722, 723, 717, 724, 725, 726, 718, 746, 747, 748, 749, 633, 634, 635, 636, 637, 638, 639, 640, 641, 642, 643, 644, 645, 646, 647, 648, 649, 650, 651, 652, 653, 654, 655, 656, 657, 658, 659, 660, 661, 662, 663, 664, 665, 666, 667, 668, 669, 670, 671, 672, 673, 674] = 141006077567443427178046190981713304295065877091302044767291210065873901608447329342390713206115980105131835068802395472773547963691217629385563378128884428711427021974184381064617128308060336698781519377778999954902451053934936064 := by decide +kernel
set_option maxRecDepth 20000 in
theorem ggX6_unlike_X6_isJudge : GoodIn wsX6_unlike wsX6_isJudge := goodIn_m tw_wsX6_unlike tm_wsX6_unlike tw_wsX6_isJudge tm_wsX6_isJudge zgood (by decide +kernel)
set_option maxRecDepth 20000 in
theorem gX6_unlike_X6_isJudge : GoodIn wsX6_unlike (wsV RX6 104 RX6 yX6_isJudge wsX6_isJudge) := goodIn_app (goodIn_m tw_wsX6_unlike tm_wsX6_unlike (iw := [682, 683, 684, 580]) rfl rfl zgood (by decide +kernel)) ggX6_unlike_X6_isJudge
set_option maxRecDepth 20000 in
theorem ggX6_unlike_X6_isPebble : GoodIn wsX6_unlike wsX6_isPebble := goodIn_m tw_wsX6_unlike tm_wsX6_unlike tw_wsX6_isPebble tm_wsX6_isPebble zgood (by decide +kernel)
set_option maxRecDepth 20000 in
theorem gX6_unlike_X6_isPebble : GoodIn wsX6_unlike (wsV RX6 177 RX6 yX6_isPebble wsX6_isPebble) := goodIn_app (goodIn_m tw_wsX6_unlike tm_wsX6_unlike (iw := [704, 705, 706, 580]) rfl rfl zgood (by decide +kernel)) ggX6_unlike_X6_isPebble
set_option maxRecDepth 20000 in
theorem ggX6_unlike_X6_tellsMiles : GoodIn wsX6_unlike wsX6_tellsMiles := goodIn_m tw_wsX6_unlike tm_wsX6_unlike tw_wsX6_tellsMiles tm_wsX6_tellsMiles zgood (by decide +kernel)
set_option maxRecDepth 20000 in
theorem gX6_unlike_X6_tellsMiles : GoodIn wsX6_unlike (wsV RX6 228 RX6 yX6_tellsMiles wsX6_tellsMiles) := goodIn_app (goodIn_m tw_wsX6_unlike tm_wsX6_unlike (iw := [760, 761, 762, 580]) rfl rfl zgood (by decide +kernel)) ggX6_unlike_X6_tellsMiles
set_option maxRecDepth 20000 in
theorem tw_wsX6_hardest : wsX6_hardest = [765, 678, 676, 741, 732, 733, 580, 679, 592, 593, 594, 751, 752, 753, 737, 738, 554, 739, 555, 740, 742, 743, 744, 745, 569, 734, 735, 736, 727, 728, 729, 730, 719, 720, 713, 714, 715, 716, 552, 553, 721, 722, 723, 717, 707, 708, 709, 696, 568, 697, 698, 699, 690, 558, 691, 557, 605, 567, 692, 693, 694, 700, 701, 702, 724, 725, 726, 718, 746, 747, 748, 749, 633, 634, 635, 636, 637, 638, 639, 640, 641, 642, 643, 644, 645, 646, 647, 648, 649, 650, 651, 652, 653, 654, 655, 656, 657, 658, 659, 660, 661, 662, 663, 664, 665, 666, 667, 668, 669, 670, 671, 672, 673, 674].map wTb.get := rfl
set_option maxRecDepth 20000 in
theorem tm_wsX6_hardest : zmk [765, 678, 676, 741, 732, 733, 580, 679, 592, 593, 594, 751, 752, 753, 737, 738, 554, 739, 555, 740, 742, 743, 744, 745, 569, 734, 735, 736, 727, 728, 729, 730, 719, 720, 713, 714, 715, 716, 552, 553, 721, 722, 723, 717, 707, 708, 709, 696, 568, 697, 698, 699, 690, 558, 691, 557, 605, 567, 692, 693, 694, 700, 701, 702, 724, 725, 726, 718, 746, 747, 748, 749, 633, 634, 635, 636, 637, 638, 639, 640, 641, 642, 643, 644, 645, 646, 647, 648, 649, 650, 651, 652, 653, 654, 655, 656, 657, 658, 659, 660, 661, 662, 663, 664, 665, 666, 667, 668, 669, 670, 671, 672, 673, 674] = 194153597324115515558852030982315407964254995026916123836638166791202608869511517646860639461765657789354907586067029391275820026862616000446668945425444922504789588595958666783730573175711794442008678191123054609702027105706967040 := by decide +kernel
set_option maxRecDepth 20000 in
theorem ggX6_hardest_X6_isCase : GoodIn wsX6_hardest wsX6_isCase := goodIn_m tw_wsX6_hardest tm_wsX6_hardest tw_wsX6_isCase tm_wsX6_isCase zgood (by decide +kernel)
set_option maxRecDepth 20000 in
theorem gX6_hardest_X6_isCase : GoodIn wsX6_hardest (va_wsS RX6 196 yX6_isCase wsX6_isCase) := goodIn_app (goodIn_m tw_wsX6_hardest tm_wsX6_hardest (iw := [732, 733, 580]) rfl rfl zgood (by decide +kernel)) ggX6_hardest_X6_isCase
set_option maxRecDepth 20000 in
theorem ggX6_hardest_X6_in : GoodIn wsX6_hardest wsX6_in := goodIn_m tw_wsX6_hardest tm_wsX6_hardest tw_wsX6_in tm_wsX6_in zgood (by decide +kernel)
set_option maxRecDepth 20000 in
theorem gX6_hardest_X6_in : GoodIn wsX6_hardest (va_wsS RX6 91 yX6_in wsX6_in) := goodIn_app (goodIn_m tw_wsX6_hardest tm_wsX6_hardest (iw := [592, 593, 580]) rfl rfl zgood (by decide +kernel)) ggX6_hardest_X6_in
set_option maxRecDepth 20000 in
theorem ggX6_hardest_X6_heard : GoodIn wsX6_hardest wsX6_heard := goodIn_m tw_wsX6_hardest tm_wsX6_hardest tw_wsX6_heard tm_wsX6_heard zgood (by decide +kernel)
set_option maxRecDepth 20000 in
theorem gX6_hardest_X6_heard : GoodIn wsX6_hardest (wsV RX6 221 RX6 yX6_heard wsX6_heard) := goodIn_app (goodIn_m tw_wsX6_hardest tm_wsX6_hardest (iw := [751, 752, 753, 580]) rfl rfl zgood (by decide +kernel)) ggX6_hardest_X6_heard
set_option maxRecDepth 20000 in
theorem tw_wsX6_thick : wsX6_thick = [766, 555, 741, 682, 683, 684, 580, 677, 678, 592, 593, 594, 704, 705, 706, 675, 676, 732, 733, 679, 751, 752, 753, 737, 738, 554, 739, 740, 742, 743, 744, 745, 569, 734, 735, 736, 727, 728, 729, 730, 719, 720, 713, 714, 715, 716, 552, 553, 721, 722, 723, 717, 707, 708, 709, 696, 568, 697, 698, 699, 690, 558, 691, 557, 605, 567, 692, 693, 694, 700, 701, 702, 724, 725, 726, 718, 746, 747, 748, 749, 633, 634, 635, 636, 637, 638, 639, 640, 641, 642, 643, 644, 645, 646, 647, 648, 649, 650, 651, 652, 653, 654, 655, 656, 657, 658, 659, 660, 661, 662, 663, 664, 665, 666, 667, 668, 669, 670, 671, 672, 673, 674].map wTb.get := rfl
set_option maxRecDepth 20000 in
theorem tm_wsX6_thick : zmk [766, 555, 741, 682, 683, 684, 580, 677, 678, 592, 593, 594, 704, 705, 706, 675, 676, 732, 733, 679, 751, 752, 753, 737, 738, 554, 739, 740, 742, 743, 744, 745, 569, 734, 735, 736, 727, 728, 729, 730, 719, 720, 713, 714, 715, 716, 552, 553, 721, 722, 723, 717, 707, 708, 709, 696, 568, 697, 698, 699, 690, 558, 691, 557, 605, 567, 692, 693, 694, 700, 701, 702, 724, 725, 726, 718, 746, 747, 748, 749, 633, 634, 635, 636, 637, 638, 639, 640, 641, 642, 643, 644, 645, 646, 647, 648, 649, 650, 651, 652, 653, 654, 655, 656, 657, 658, 659, 660, 661, 662, 663, 664, 665, 666, 667, 668, 669, 670, 671, 672, 673, 674] = 388218358861704133041609829258149673054853756129500383982730807045641206772755483863755597216368321248673207541019591657161229646223595138008275632330814689034676150863318339109857814388476069941036269440713341448377008965552177152 := by decide +kernel
set_option maxRecDepth 20000 in
theorem ggX6_thick_X6_isJudge : GoodIn wsX6_thick wsX6_isJudge := goodIn_m tw_wsX6_thick tm_wsX6_thick tw_wsX6_isJudge tm_wsX6_isJudge zgood (by decide +kernel)
set_option maxRecDepth 20000 in
theorem gX6_thick_X6_isJudge : GoodIn wsX6_thick (wsV RX6 104 RX6 yX6_isJudge wsX6_isJudge) := goodIn_app (goodIn_m tw_wsX6_thick tm_wsX6_thick (iw := [682, 683, 684, 580]) rfl rfl zgood (by decide +kernel)) ggX6_thick_X6_isJudge
set_option maxRecDepth 20000 in
theorem ggX6_thick_X6_isPebble : GoodIn wsX6_thick wsX6_isPebble := goodIn_m tw_wsX6_thick tm_wsX6_thick tw_wsX6_isPebble tm_wsX6_isPebble zgood (by decide +kernel)
set_option maxRecDepth 20000 in
theorem gX6_thick_X6_isPebble : GoodIn wsX6_thick (wsV RX6 177 RX6 yX6_isPebble wsX6_isPebble) := goodIn_app (goodIn_m tw_wsX6_thick tm_wsX6_thick (iw := [704, 705, 706, 580]) rfl rfl zgood (by decide +kernel)) ggX6_thick_X6_isPebble
set_option maxRecDepth 20000 in
theorem ggX6_thick_X6_isCase : GoodIn wsX6_thick wsX6_isCase := goodIn_m tw_wsX6_thick tm_wsX6_thick tw_wsX6_isCase tm_wsX6_isCase zgood (by decide +kernel)
set_option maxRecDepth 20000 in
theorem gX6_thick_X6_isCase : GoodIn wsX6_thick (va_wsS RX6 196 yX6_isCase wsX6_isCase) := goodIn_app (goodIn_m tw_wsX6_thick tm_wsX6_thick (iw := [732, 733, 580]) rfl rfl zgood (by decide +kernel)) ggX6_thick_X6_isCase
set_option maxRecDepth 20000 in
theorem ggX6_thick_X6_heard : GoodIn wsX6_thick wsX6_heard := goodIn_m tw_wsX6_thick tm_wsX6_thick tw_wsX6_heard tm_wsX6_heard zgood (by decide +kernel)
set_option maxRecDepth 20000 in
theorem gX6_thick_X6_heard : GoodIn wsX6_thick (wsV RX6 221 RX6 yX6_heard wsX6_heard) := goodIn_app (goodIn_m tw_wsX6_thick tm_wsX6_thick (iw := [751, 752, 753, 580]) rfl rfl zgood (by decide +kernel)) ggX6_thick_X6_heard
set_option maxRecDepth 20000 in
theorem tw_wsX6_tellsPlaces : wsX6_tellsPlaces = [767, 555, 676, 573, 738, 574, 741, 751, 752, 753, 580, 737, 554, 739, 740, 742, 743, 744, 745, 569, 734, 735, 736, 727, 728, 729, 730, 719, 720, 713, 714, 715, 716, 552, 553, 721, 722, 723, 717, 707, 708, 709, 696, 568, 697, 698, 699, 690, 558, 691, 557, 605, 567, 692, 693, 694, 700, 701, 702, 724, 725, 726, 718, 746, 747, 748, 749, 633, 634, 635, 636, 637, 638, 639, 640, 641, 642, 643, 644, 645, 646, 647, 648, 649, 650, 651, 652, 653, 654, 655, 656, 657, 658, 659, 660, 661, 662, 663, 664, 665, 666, 667, 668, 669, 670, 671, 672, 673, 674].map wTb.get := rfl
set_option maxRecDepth 20000 in
theorem tm_wsX6_tellsPlaces : zmk [767, 555, 676, 573, 738, 574, 741, 751, 752, 753, 580, 737, 554, 739, 740, 742, 743, 744, 745, 569, 734, 735, 736, 727, 728, 729, 730, 719, 720, 713, 714, 715, 716, 552, 553, 721, 722, 723, 717, 707, 708, 709, 696, 568, 697, 698, 699, 690, 558, 691, 557, 605, 567, 692, 693, 694, 700, 701, 702, 724, 725, 726, 718, 746, 747, 748, 749, 633, 634, 635, 636, 637, 638, 639, 640, 641, 642, 643, 644, 645, 646, 647, 648, 649, 650, 651, 652, 653, 654, 655, 656, 657, 658, 659, 660, 661, 662, 663, 664, 665, 666, 667, 668, 669, 670, 671, 672, 673, 674] = 776347881869105031230722115466632871387837191149295637389662016496397265609225305505202780601119582962570668222034028823656833976116544696761272856812472430680517315765430102775486341287047127820108027687669903709310249608539013120 := by decide +kernel
set_option maxRecDepth 20000 in
theorem ggX6_tellsPlaces_X6_heard : GoodIn wsX6_tellsPlaces wsX6_heard := goodIn_m tw_wsX6_tellsPlaces tm_wsX6_tellsPlaces tw_wsX6_heard tm_wsX6_heard zgood (by decide +kernel)
set_option maxRecDepth 20000 in
theorem gX6_tellsPlaces_X6_heard : GoodIn wsX6_tellsPlaces (wsV RX6 221 RX6 yX6_heard wsX6_heard) := goodIn_app (goodIn_m tw_wsX6_tellsPlaces tm_wsX6_tellsPlaces (iw := [751, 752, 753, 580]) rfl rfl zgood (by decide +kernel)) ggX6_tellsPlaces_X6_heard
set_option maxRecDepth 20000 in
theorem ggX6_tellsPlaces_X6_within : GoodIn wsX6_tellsPlaces wsX6_within := goodIn_m tw_wsX6_tellsPlaces tm_wsX6_tellsPlaces tw_wsX6_within tm_wsX6_within zgood (by decide +kernel)
set_option maxRecDepth 20000 in
theorem gX6_tellsPlaces_X6_within : GoodIn wsX6_tellsPlaces (va_wsS RX6 174 yX6_within wsX6_within) := goodIn_app (goodIn_m tw_wsX6_tellsPlaces tm_wsX6_tellsPlaces (iw := [700, 701, 580]) rfl rfl zgood (by decide +kernel)) ggX6_tellsPlaces_X6_within
set_option maxRecDepth 20000 in
theorem tw_wsX6_order : wsX6_order = [768, 676, 769, 770, 682, 683, 684, 580, 677, 678, 592, 593, 594, 732, 733, 679, 771, 772, 773, 767, 555, 573, 738, 574, 741, 751, 752, 753, 737, 554, 739, 740, 742, 743, 744, 745, 569, 734, 735, 736, 727, 728, 729, 730, 719, 720, 713, 714, 715, 716, 552, 553, 721, 722, 723, 717, 707, 708, 709, 696, 568, 697, 698, 699, 690, 558, 691, 557, 605, 567, 692, 693, 694, 700, 701, 702, 724, 725, 726, 718, 746, 747, 748, 749, 774, 775, 776, 777, 633, 634, 635, 636, 637, 638, 639, 640, 641, 642, 643, 644, 645, 646, 647, 648, 649, 650, 651, 652, 653, 654, 655, 656, 657, 658, 659, 660, 661, 662, 663, 664, 665, 666, 667, 668, 669, 670, 671, 672, 673, 674].map wTb.get := rfl
set_option maxRecDepth 20000 in
theorem tm_wsX6_order : zmk [768, 676, 769, 770, 682, 683, 684, 580, 677, 678, 592, 593, 594, 732, 733, 679, 771, 772, 773, 767, 555, 573, 738, 574, 741, 751, 752, 753, 737, 554, 739, 740, 742, 743, 744, 745, 569, 734, 735, 736, 727, 728, 729, 730, 719, 720, 713, 714, 715, 716, 552, 553, 721, 722, 723, 717, 707, 708, 709, 696, 568, 697, 698, 699, 690, 558, 691, 557, 605, 567, 692, 693, 694, 700, 701, 702, 724, 725, 726, 718, 746, 747, 748, 749, 774, 775, 776, 777, 633, 634, 635, 636, 637, 638, 639, 640, 641, 642, 643, 644, 645, 646, 647, 648, 649, 650, 651, 652, 653, 654, 655, 656, 657, 658, 659, 660, 661, 662, 663, 664, 665, 666, 667, 668, 669, 670, 671, 672, 673, 674] = 1589002356305562122023645736177383707240911444945924402108631330940841924068000469938477302499924144754542296337897606939098959023024350327378501956580053505105074747849948362506370714169697067937832523621876200919240013795598060748800 := by decide +kernel
set_option maxRecDepth 20000 in
theorem ggX6_order_X6_isJudge : GoodIn wsX6_order wsX6_isJudge := goodIn_m tw_wsX6_order tm_wsX6_order tw_wsX6_isJudge tm_wsX6_isJudge zgood (by decide +kernel)
set_option maxRecDepth 20000 in
theorem gX6_order_X6_isJudge : GoodIn wsX6_order (wsV RX6 104 RX6 yX6_isJudge wsX6_isJudge) := goodIn_app (goodIn_m tw_wsX6_order tm_wsX6_order (iw := [682, 683, 684, 580]) rfl rfl zgood (by decide +kernel)) ggX6_order_X6_isJudge
set_option maxRecDepth 20000 in
theorem ggX6_order_X6_isCase : GoodIn wsX6_order wsX6_isCase := goodIn_m tw_wsX6_order tm_wsX6_order tw_wsX6_isCase tm_wsX6_isCase zgood (by decide +kernel)
set_option maxRecDepth 20000 in
theorem gX6_order_X6_isCase : GoodIn wsX6_order (va_wsS RX6 196 yX6_isCase wsX6_isCase) := goodIn_app (goodIn_m tw_wsX6_order tm_wsX6_order (iw := [732, 733, 580]) rfl rfl zgood (by decide +kernel)) ggX6_order_X6_isCase
set_option maxRecDepth 20000 in
theorem ggX6_order_X6_in : GoodIn wsX6_order wsX6_in := goodIn_m tw_wsX6_order tm_wsX6_order tw_wsX6_in tm_wsX6_in zgood (by decide +kernel)
set_option maxRecDepth 20000 in
theorem gX6_order_X6_in : GoodIn wsX6_order (va_wsS RX6 91 yX6_in wsX6_in) := goodIn_app (goodIn_m tw_wsX6_order tm_wsX6_order (iw := [592, 593, 580]) rfl rfl zgood (by decide +kernel)) ggX6_order_X6_in
set_option maxRecDepth 20000 in
theorem ggX6_order_X6_tellsPlaces : GoodIn wsX6_order wsX6_tellsPlaces := goodIn_m tw_wsX6_order tm_wsX6_order tw_wsX6_tellsPlaces tm_wsX6_tellsPlaces zgood (by decide +kernel)
set_option maxRecDepth 20000 in
theorem gX6_order_X6_tellsPlaces : GoodIn wsX6_order (wsV RX6 237 RX6 yX6_tellsPlaces wsX6_tellsPlaces) := goodIn_app (goodIn_m tw_wsX6_order tm_wsX6_order (iw := [771, 772, 773, 580]) rfl rfl zgood (by decide +kernel)) ggX6_order_X6_tellsPlaces
set_option maxRecDepth 20000 in
theorem tw_wsX6_tells : wsX6_tells = [777, 769, 770, 676, 573, 574, 633, 634, 635, 636, 637, 638, 639, 640, 641, 642, 643, 644, 645, 646, 647, 648, 649, 650, 651, 652, 653, 654, 655, 656, 657, 658, 659, 660, 661, 662, 663, 664, 665, 666, 667, 668, 669, 670, 671, 672, 673, 674].map wTb.get := rfl
set_option maxRecDepth 20000 in
theorem tm_wsX6_tells : zmk [777, 769, 770, 676, 573, 574, 633, 634, 635, 636, 637, 638, 639, 640, 641, 642, 643, 644, 645, 646, 647, 648, 649, 650, 651, 652, 653, 654, 655, 656, 657, 658, 659, 660, 661, 662, 663, 664, 665, 666, 667, 668, 669, 670, 671, 672, 673, 674] = 804204371811767228407171375024046616420890026096328513035163460214275910623349223211771093154419847857833400191045603410296483913996690635867880802908316123695829461110243472633996420003977287230187069877824924994819698795001409437696 := by decide +kernel
set_option maxRecDepth 20000 in
theorem ggX6_order_X6_tells : GoodIn wsX6_order wsX6_tells := goodIn_m tw_wsX6_order tm_wsX6_order tw_wsX6_tells tm_wsX6_tells zgood (by decide +kernel)
set_option maxRecDepth 20000 in
theorem gX6_order_X6_tells : GoodIn wsX6_order (wsV RX6 241 RX6 yX6_tells wsX6_tells) := goodIn_app (goodIn_m tw_wsX6_order tm_wsX6_order (iw := [774, 775, 776, 580]) rfl rfl zgood (by decide +kernel)) ggX6_order_X6_tells
set_option maxRecDepth 20000 in
theorem tw_wsX6_counsel : wsX6_counsel = [778, 676, 575, 574, 682, 683, 684, 580, 677, 678, 592, 593, 594, 732, 733, 679, 771, 772, 773, 767, 555, 573, 738, 741, 751, 752, 753, 737, 554, 739, 740, 742, 743, 744, 745, 569, 734, 735, 736, 727, 728, 729, 730, 719, 720, 713, 714, 715, 716, 552, 553, 721, 722, 723, 717, 707, 708, 709, 696, 568, 697, 698, 699, 690, 558, 691, 557, 605, 567, 692, 693, 694, 700, 701, 702, 724, 725, 726, 718, 746, 747, 748, 749, 779, 780, 781, 633, 634, 635, 636, 637, 638, 639, 640, 641, 642, 643, 644, 645, 646, 647, 648, 649, 650, 651, 652, 653, 654, 655, 656, 657, 658, 659, 660, 661, 662, 663, 664, 665, 666, 667, 668, 669, 670, 671, 672, 673, 674].map wTb.get := rfl
set_option maxRecDepth 20000 in
theorem tm_wsX6_counsel : zmk [778, 676, 575, 574, 682, 683, 684, 580, 677, 678, 592, 593, 594, 732, 733, 679, 771, 772, 773, 767, 555, 573, 738, 741, 751, 752, 753, 737, 554, 739, 740, 742, 743, 744, 745, 569, 734, 735, 736, 727, 728, 729, 730, 719, 720, 713, 714, 715, 716, 552, 553, 721, 722, 723, 717, 707, 708, 709, 696, 568, 697, 698, 699, 690, 558, 691, 557, 605, 567, 692, 693, 694, 700, 701, 702, 724, 725, 726, 718, 746, 747, 748, 749, 779, 780, 781, 633, 634, 635, 636, 637, 638, 639, 640, 641, 642, 643, 644, 645, 646, 647, 648, 649, 650, 651, 652, 653, 654, 655, 656, 657, 658, 659, 660, 661, 662, 663, 664, 665, 666, 667, 668, 669, 670, 671, 672, 673, 674] = 23934395258789665825622907513618182985053271889306538726233007437914994022635290025150070750594227919461586754867625100627054557046581427129369713864448304263197290016553754061161008645947810637683447854790114886597424716865958655819776 := by decide +kernel
set_option maxRecDepth 20000 in
theorem ggX6_counsel_X6_isJudge : GoodIn wsX6_counsel wsX6_isJudge := goodIn_m tw_wsX6_counsel tm_wsX6_counsel tw_wsX6_isJudge tm_wsX6_isJudge zgood (by decide +kernel)
set_option maxRecDepth 20000 in
theorem gX6_counsel_X6_isJudge : GoodIn wsX6_counsel (wsV RX6 104 RX6 yX6_isJudge wsX6_isJudge) := goodIn_app (goodIn_m tw_wsX6_counsel tm_wsX6_counsel (iw := [682, 683, 684, 580]) rfl rfl zgood (by decide +kernel)) ggX6_counsel_X6_isJudge
set_option maxRecDepth 20000 in
theorem ggX6_counsel_X6_isCase : GoodIn wsX6_counsel wsX6_isCase := goodIn_m tw_wsX6_counsel tm_wsX6_counsel tw_wsX6_isCase tm_wsX6_isCase zgood (by decide +kernel)
set_option maxRecDepth 20000 in
theorem gX6_counsel_X6_isCase : GoodIn wsX6_counsel (va_wsS RX6 196 yX6_isCase wsX6_isCase) := goodIn_app (goodIn_m tw_wsX6_counsel tm_wsX6_counsel (iw := [732, 733, 580]) rfl rfl zgood (by decide +kernel)) ggX6_counsel_X6_isCase
set_option maxRecDepth 20000 in
theorem ggX6_counsel_X6_in : GoodIn wsX6_counsel wsX6_in := goodIn_m tw_wsX6_counsel tm_wsX6_counsel tw_wsX6_in tm_wsX6_in zgood (by decide +kernel)
set_option maxRecDepth 20000 in
theorem gX6_counsel_X6_in : GoodIn wsX6_counsel (va_wsS RX6 91 yX6_in wsX6_in) := goodIn_app (goodIn_m tw_wsX6_counsel tm_wsX6_counsel (iw := [592, 593, 580]) rfl rfl zgood (by decide +kernel)) ggX6_counsel_X6_in
set_option maxRecDepth 20000 in
theorem ggX6_counsel_X6_tellsPlaces : GoodIn wsX6_counsel wsX6_tellsPlaces := goodIn_m tw_wsX6_counsel tm_wsX6_counsel tw_wsX6_tellsPlaces tm_wsX6_tellsPlaces zgood (by decide +kernel)
set_option maxRecDepth 20000 in
theorem gX6_counsel_X6_tellsPlaces : GoodIn wsX6_counsel (wsV RX6 237 RX6 yX6_tellsPlaces wsX6_tellsPlaces) := goodIn_app (goodIn_m tw_wsX6_counsel tm_wsX6_counsel (iw := [771, 772, 773, 580]) rfl rfl zgood (by decide +kernel)) ggX6_counsel_X6_tellsPlaces
set_option maxRecDepth 20000 in
theorem tw_wsX6_ones : wsX6_ones = [781].map wTb.get := rfl
set_option maxRecDepth 20000 in
theorem tm_wsX6_ones : zmk [781] = 12718228212127407596740439969484820932664410252219978638451114295509409404406799452822555925124271947370395489870897751704957583721388559494711601357137355892362895163562802426267773219894054460008554489394925312007314201426461145956352 := by decide +kernel
set_option maxRecDepth 20000 in
theorem ggX6_counsel_X6_ones : GoodIn wsX6_counsel wsX6_ones := goodIn_m tw_wsX6_counsel tm_wsX6_counsel tw_wsX6_ones tm_wsX6_ones zgood (by decide +kernel)
set_option maxRecDepth 20000 in
theorem gX6_counsel_X6_ones : GoodIn wsX6_counsel (va_wsS RX6 245 yX6_ones wsX6_ones) := goodIn_app (goodIn_m tw_wsX6_counsel tm_wsX6_counsel (iw := [779, 780, 580]) rfl rfl zgood (by decide +kernel)) ggX6_counsel_X6_ones
set_option maxRecDepth 20000 in
theorem tw_wsX6_sheetWrong : wsX6_sheetWrong = [782, 561, 562, 563, 592, 593, 580, 594, 704, 705, 706, 675, 676, 732, 733, 679, 633, 634, 635, 636, 637, 638, 639, 640, 641, 642, 643, 644, 645, 646, 647, 648, 649, 650, 651, 652, 653, 654, 655, 656, 657, 658, 659, 660, 661, 662, 663, 664, 665, 666, 667, 668, 669, 670, 671, 672, 673, 674].map wTb.get := rfl
set_option maxRecDepth 20000 in
theorem tm_wsX6_sheetWrong : zmk [782, 561, 562, 563, 592, 593, 580, 594, 704, 705, 706, 675, 676, 732, 733, 679, 633, 634, 635, 636, 637, 638, 639, 640, 641, 642, 643, 644, 645, 646, 647, 648, 649, 650, 651, 652, 653, 654, 655, 656, 657, 658, 659, 660, 661, 662, 663, 664, 665, 666, 667, 668, 669, 670, 671, 672, 673, 674] = 25436456424254882969816478071413677347092665069891139583003618844325917159568925635739549156298715799388774292442416920719963313259072799060873659122227421088283629812416523371099675888891800233290689196865536212018105010257195207491584 := by decide +kernel
set_option maxRecDepth 20000 in
theorem ggX6_sheetWrong_X6_in : GoodIn wsX6_sheetWrong wsX6_in := goodIn_m tw_wsX6_sheetWrong tm_wsX6_sheetWrong tw_wsX6_in tm_wsX6_in zgood (by decide +kernel)
set_option maxRecDepth 20000 in
theorem gX6_sheetWrong_X6_in : GoodIn wsX6_sheetWrong (va_wsS RX6 91 yX6_in wsX6_in) := goodIn_app (goodIn_m tw_wsX6_sheetWrong tm_wsX6_sheetWrong (iw := [592, 593, 580]) rfl rfl zgood (by decide +kernel)) ggX6_sheetWrong_X6_in
set_option maxRecDepth 20000 in
theorem ggX6_sheetWrong_X6_isPebble : GoodIn wsX6_sheetWrong wsX6_isPebble := goodIn_m tw_wsX6_sheetWrong tm_wsX6_sheetWrong tw_wsX6_isPebble tm_wsX6_isPebble zgood (by decide +kernel)
set_option maxRecDepth 20000 in
theorem gX6_sheetWrong_X6_isPebble : GoodIn wsX6_sheetWrong (wsV RX6 177 RX6 yX6_isPebble wsX6_isPebble) := goodIn_app (goodIn_m tw_wsX6_sheetWrong tm_wsX6_sheetWrong (iw := [704, 705, 706, 580]) rfl rfl zgood (by decide +kernel)) ggX6_sheetWrong_X6_isPebble
set_option maxRecDepth 20000 in
theorem ggX6_sheetWrong_X6_isCase : GoodIn wsX6_sheetWrong wsX6_isCase := goodIn_m tw_wsX6_sheetWrong tm_wsX6_sheetWrong tw_wsX6_isCase tm_wsX6_isCase zgood (by decide +kernel)
set_option maxRecDepth 20000 in
theorem gX6_sheetWrong_X6_isCase : GoodIn wsX6_sheetWrong (va_wsS RX6 196 yX6_isCase wsX6_isCase) := goodIn_app (goodIn_m tw_wsX6_sheetWrong tm_wsX6_sheetWrong (iw := [732, 733, 580]) rfl rfl zgood (by decide +kernel)) ggX6_sheetWrong_X6_isCase
set_option maxRecDepth 20000 in
theorem tw_wsX6_toldWrong : wsX6_toldWrong = [783, 784, 785, 786, 580, 782, 561, 562, 563, 592, 593, 594, 704, 705, 706, 675, 676, 732, 733, 679, 682, 683, 684, 677, 678, 633, 634, 635, 636, 637, 638, 639, 640, 641, 642, 643, 644, 645, 646, 647, 648, 649, 650, 651, 652, 653, 654, 655, 656, 657, 658, 659, 660, 661, 662, 663, 664, 665, 666, 667, 668, 669, 670, 671, 672, 673, 674].map wTb.get := rfl
set_option maxRecDepth 20000 in
theorem tm_wsX6_toldWrong : zmk [783, 784, 785, 786, 580, 782, 561, 562, 563, 592, 593, 594, 704, 705, 706, 675, 676, 732, 733, 679, 682, 683, 684, 677, 678, 633, 634, 635, 636, 637, 638, 639, 640, 641, 642, 643, 644, 645, 646, 647, 648, 649, 650, 651, 652, 653, 654, 655, 656, 657, 658, 659, 660, 661, 662, 663, 664, 665, 666, 667, 668, 669, 670, 671, 672, 673, 674] = 788530149151899338774242876240645275260431739944937814631333602615239479390652753742462502785993740446176197368632854372534169218026957483990622941203170082298837633505327670259533744023710032234732713000366742321001008892855832121704448 := by decide +kernel
set_option maxRecDepth 20000 in
theorem ggX6_toldWrong_X6_sheetWrong : GoodIn wsX6_toldWrong wsX6_sheetWrong := goodIn_m tw_wsX6_toldWrong tm_wsX6_toldWrong tw_wsX6_sheetWrong tm_wsX6_sheetWrong zgood (by decide +kernel)
set_option maxRecDepth 20000 in
theorem gX6_toldWrong_X6_sheetWrong : GoodIn wsX6_toldWrong (wsV RX6 248 RX6 yX6_sheetWrong wsX6_sheetWrong) := goodIn_app (goodIn_m tw_wsX6_toldWrong tm_wsX6_toldWrong (iw := [784, 785, 786, 580]) rfl rfl zgood (by decide +kernel)) ggX6_toldWrong_X6_sheetWrong
set_option maxRecDepth 20000 in
theorem ggX6_toldWrong_X6_isJudge : GoodIn wsX6_toldWrong wsX6_isJudge := goodIn_m tw_wsX6_toldWrong tm_wsX6_toldWrong tw_wsX6_isJudge tm_wsX6_isJudge zgood (by decide +kernel)
set_option maxRecDepth 20000 in
theorem gX6_toldWrong_X6_isJudge : GoodIn wsX6_toldWrong (wsV RX6 104 RX6 yX6_isJudge wsX6_isJudge) := goodIn_app (goodIn_m tw_wsX6_toldWrong tm_wsX6_toldWrong (iw := [682, 683, 684, 580]) rfl rfl zgood (by decide +kernel)) ggX6_toldWrong_X6_isJudge
set_option maxRecDepth 20000 in
theorem tw_wsX6_firstOther : wsX6_firstOther = [787, 562, 563, 742, 743, 744, 580, 745, 569, 555, 554, 734, 735, 736, 727, 728, 729, 730, 719, 720, 713, 714, 715, 716, 552, 553, 721, 722, 723, 717, 707, 708, 709, 696, 568, 697, 698, 699, 690, 558, 691, 557, 605, 567, 692, 693, 694, 700, 701, 702, 724, 725, 726, 718, 746, 747, 748, 749, 633, 634, 635, 636, 637, 638, 639, 640, 641, 642, 643, 644, 645, 646, 647, 648, 649, 650, 651, 652, 653, 654, 655, 656, 657, 658, 659, 660, 661, 662, 663, 664, 665, 666, 667, 668, 669, 670, 671, 672, 673, 674].map wTb.get := rfl
set_option maxRecDepth 20000 in
theorem tm_wsX6_firstOther : zmk [787, 562, 563, 742, 743, 744, 580, 745, 569, 555, 554, 734, 735, 736, 727, 728, 729, 730, 719, 720, 713, 714, 715, 716, 552, 553, 721, 722, 723, 717, 707, 708, 709, 696, 568, 697, 698, 699, 690, 558, 691, 557, 605, 567, 692, 693, 694, 700, 701, 702, 724, 725, 726, 718, 746, 747, 748, 749, 633, 634, 635, 636, 637, 638, 639, 640, 641, 642, 643, 644, 645, 646, 647, 648, 649, 650, 651, 652, 653, 654, 655, 656, 657, 658, 659, 660, 661, 662, 663, 664, 665, 666, 667, 668, 669, 670, 671, 672, 673, 674] = 813966605582053982265715525503078228322752721279259442975869958005097655184374833819170032643598815659343743315254032921203614299835784199384440713844522845946225867918234072110821927648388648493489401540224239358024951900445342015946752 := by decide +kernel
set_option maxRecDepth 20000 in
theorem ggX6_firstOther_X6_keeps : GoodIn wsX6_firstOther wsX6_keeps := goodIn_m tw_wsX6_firstOther tm_wsX6_firstOther tw_wsX6_keeps tm_wsX6_keeps zgood (by decide +kernel)
set_option maxRecDepth 20000 in
theorem gX6_firstOther_X6_keeps : GoodIn wsX6_firstOther (wsV RX6 202 RX6 yX6_keeps wsX6_keeps) := goodIn_app (goodIn_m tw_wsX6_firstOther tm_wsX6_firstOther (iw := [742, 743, 744, 580]) rfl rfl zgood (by decide +kernel)) ggX6_firstOther_X6_keeps
set_option maxRecDepth 20000 in
theorem ggX6_firstOther_X6_caseOf : GoodIn wsX6_firstOther wsX6_caseOf := goodIn_m tw_wsX6_firstOther tm_wsX6_firstOther tw_wsX6_caseOf tm_wsX6_caseOf zgood (by decide +kernel)
set_option maxRecDepth 20000 in
theorem gX6_firstOther_X6_caseOf : GoodIn wsX6_firstOther (wsV RX6 199 RX6 yX6_caseOf wsX6_caseOf) := goodIn_app (goodIn_m tw_wsX6_firstOther tm_wsX6_firstOther (iw := [734, 735, 736, 580]) rfl rfl zgood (by decide +kernel)) ggX6_firstOther_X6_caseOf
set_option maxRecDepth 20000 in
theorem ggX6_firstOther_X6_asksOf : GoodIn wsX6_firstOther wsX6_asksOf := goodIn_m tw_wsX6_firstOther tm_wsX6_firstOther tw_wsX6_asksOf tm_wsX6_asksOf zgood (by decide +kernel)
set_option maxRecDepth 20000 in
theorem gX6_firstOther_X6_asksOf : GoodIn wsX6_firstOther (wsV RX6 180 RX6 yX6_asksOf wsX6_asksOf) := goodIn_app (goodIn_m tw_wsX6_firstOther tm_wsX6_firstOther (iw := [707, 708, 709, 580]) rfl rfl zgood (by decide +kernel)) ggX6_firstOther_X6_asksOf
set_option maxRecDepth 20000 in
theorem ggX6_firstOther_X6_laysBack : GoodIn wsX6_firstOther wsX6_laysBack := goodIn_m tw_wsX6_firstOther tm_wsX6_firstOther tw_wsX6_laysBack tm_wsX6_laysBack zgood (by decide +kernel)
set_option maxRecDepth 20000 in
theorem gX6_firstOther_X6_laysBack : GoodIn wsX6_firstOther (wsV RX6 218 RX6 yX6_laysBack wsX6_laysBack) := goodIn_app (goodIn_m tw_wsX6_firstOther tm_wsX6_firstOther (iw := [746, 747, 748, 580]) rfl rfl zgood (by decide +kernel)) ggX6_firstOther_X6_laysBack
set_option maxRecDepth 20000 in
theorem tw_wsX6_reversed : wsX6_reversed = [788, 789, 790, 791, 580, 783, 784, 785, 786, 782, 561, 562, 563, 592, 593, 594, 704, 705, 706, 675, 676, 732, 733, 679, 682, 683, 684, 677, 678, 792, 793, 794, 787, 742, 743, 744, 745, 569, 555, 554, 734, 735, 736, 727, 728, 729, 730, 719, 720, 713, 714, 715, 716, 552, 553, 721, 722, 723, 717, 707, 708, 709, 696, 568, 697, 698, 699, 690, 558, 691, 557, 605, 567, 692, 693, 694, 700, 701, 702, 724, 725, 726, 718, 746, 747, 748, 749, 633, 634, 635, 636, 637, 638, 639, 640, 641, 642, 643, 644, 645, 646, 647, 648, 649, 650, 651, 652, 653, 654, 655, 656, 657, 658, 659, 660, 661, 662, 663, 664, 665, 666, 667, 668, 669, 670, 671, 672, 673, 674].map wTb.get := rfl
set_option maxRecDepth 20000 in
theorem tm_wsX6_reversed : zmk [788, 789, 790, 791, 580, 783, 784, 785, 786, 782, 561, 562, 563, 592, 593, 594, 704, 705, 706, 675, 676, 732, 733, 679, 682, 683, 684, 677, 678, 792, 793, 794, 787, 742, 743, 744, 745, 569, 555, 554, 734, 735, 736, 727, 728, 729, 730, 719, 720, 713, 714, 715, 716, 552, 553, 721, 722, 723, 717, 707, 708, 709, 696, 568, 697, 698, 699, 690, 558, 691, 557, 605, 567, 692, 693, 694, 700, 701, 702, 724, 725, 726, 718, 746, 747, 748, 749, 633, 634, 635, 636, 637, 638, 639, 640, 641, 642, 643, 644, 645, 646, 647, 648, 649, 650, 651, 652, 653, 654, 655, 656, 657, 658, 659, 660, 661, 662, 663, 664, 665, 666, 667, 668, 669, 670, 671, 672, 673, 674] = 208350014571077091213652550545688972428211571580312856089262478099757131509951305571256852007524012187505274654767646530682018762728643349593282367662190266314158757729375606331289340042501681157267998970349824883213920147033503990387048448 := by decide +kernel
set_option maxRecDepth 20000 in
theorem ggX6_reversed_X6_toldWrong : GoodIn wsX6_reversed wsX6_toldWrong := goodIn_m tw_wsX6_reversed tm_wsX6_reversed tw_wsX6_toldWrong tm_wsX6_toldWrong zgood (by decide +kernel)
set_option maxRecDepth 20000 in
theorem gX6_reversed_X6_toldWrong : GoodIn wsX6_reversed (wsV RX6 251 RX6 yX6_toldWrong wsX6_toldWrong) := goodIn_app (goodIn_m tw_wsX6_reversed tm_wsX6_reversed (iw := [789, 790, 791, 580]) rfl rfl zgood (by decide +kernel)) ggX6_reversed_X6_toldWrong
set_option maxRecDepth 20000 in
theorem ggX6_reversed_X6_firstOther : GoodIn wsX6_reversed wsX6_firstOther := goodIn_m tw_wsX6_reversed tm_wsX6_reversed tw_wsX6_firstOther tm_wsX6_firstOther zgood (by decide +kernel)
set_option maxRecDepth 20000 in
theorem gX6_reversed_X6_firstOther : GoodIn wsX6_reversed (wsV RX6 254 RX6 yX6_firstOther wsX6_firstOther) := goodIn_app (goodIn_m tw_wsX6_reversed tm_wsX6_reversed (iw := [792, 793, 794, 580]) rfl rfl zgood (by decide +kernel)) ggX6_reversed_X6_firstOther
set_option maxRecDepth 20000 in
theorem tw_wsX6_kinds : wsX6_kinds = [795, 552, 553, 789, 790, 791, 580, 783, 784, 785, 786, 782, 561, 562, 563, 592, 593, 594, 704, 705, 706, 675, 676, 732, 733, 679, 682, 683, 684, 677, 678, 792, 793, 794, 787, 742, 743, 744, 745, 569, 555, 554, 734, 735, 736, 727, 728, 729, 730, 719, 720, 713, 714, 715, 716, 721, 722, 723, 717, 707, 708, 709, 696, 568, 697, 698, 699, 690, 558, 691, 557, 605, 567, 692, 693, 694, 700, 701, 702, 724, 725, 726, 718, 746, 747, 748, 749, 633, 634, 635, 636, 637, 638, 639, 640, 641, 642, 643, 644, 645, 646, 647, 648, 649, 650, 651, 652, 653, 654, 655, 656, 657, 658, 659, 660, 661, 662, 663, 664, 665, 666, 667, 668, 669, 670, 671, 672, 673, 674].map wTb.get := rfl
set_option maxRecDepth 20000 in
theorem tm_wsX6_kinds : zmk [795, 552, 553, 789, 790, 791, 580, 783, 784, 785, 786, 782, 561, 562, 563, 592, 593, 594, 704, 705, 706, 675, 676, 732, 733, 679, 682, 683, 684, 677, 678, 792, 793, 794, 787, 742, 743, 744, 745, 569, 555, 554, 734, 735, 736, 727, 728, 729, 730, 719, 720, 713, 714, 715, 716, 721, 722, 723, 717, 707, 708, 709, 696, 568, 697, 698, 699, 690, 558, 691, 557, 605, 567, 692, 693, 694, 700, 701, 702, 724, 725, 726, 718, 746, 747, 748, 749, 633, 634, 635, 636, 637, 638, 639, 640, 641, 642, 643, 644, 645, 646, 647, 648, 649, 650, 651, 652, 653, 654, 655, 656, 657, 658, 659, 660, 661, 662, 663, 664, 665, 666, 667, 668, 669, 670, 671, 672, 673, 674] = 415097532387420229106265142689634221509604224640400828835923792087558090787988237476340321126344176963958423738108960382397809243703535772739314159323815123700409981508252522572698261505099430459167060749953730755204819805422056379053506560 := by decide +kernel
set_option maxRecDepth 20000 in
theorem ggX6_kinds_X6_toldWrong : GoodIn wsX6_kinds wsX6_toldWrong := goodIn_m tw_wsX6_kinds tm_wsX6_kinds tw_wsX6_toldWrong tm_wsX6_toldWrong zgood (by decide +kernel)
set_option maxRecDepth 20000 in
theorem gX6_kinds_X6_toldWrong : GoodIn wsX6_kinds (wsV RX6 251 RX6 yX6_toldWrong wsX6_toldWrong) := goodIn_app (goodIn_m tw_wsX6_kinds tm_wsX6_kinds (iw := [789, 790, 791, 580]) rfl rfl zgood (by decide +kernel)) ggX6_kinds_X6_toldWrong
set_option maxRecDepth 20000 in
theorem ggX6_kinds_X6_isPebble : GoodIn wsX6_kinds wsX6_isPebble := goodIn_m tw_wsX6_kinds tm_wsX6_kinds tw_wsX6_isPebble tm_wsX6_isPebble zgood (by decide +kernel)
set_option maxRecDepth 20000 in
theorem gX6_kinds_X6_isPebble : GoodIn wsX6_kinds (wsV RX6 177 RX6 yX6_isPebble wsX6_isPebble) := goodIn_app (goodIn_m tw_wsX6_kinds tm_wsX6_kinds (iw := [704, 705, 706, 580]) rfl rfl zgood (by decide +kernel)) ggX6_kinds_X6_isPebble
set_option maxRecDepth 20000 in
theorem ggX6_kinds_X6_in : GoodIn wsX6_kinds wsX6_in := goodIn_m tw_wsX6_kinds tm_wsX6_kinds tw_wsX6_in tm_wsX6_in zgood (by decide +kernel)
set_option maxRecDepth 20000 in
theorem gX6_kinds_X6_in : GoodIn wsX6_kinds (va_wsS RX6 91 yX6_in wsX6_in) := goodIn_app (goodIn_m tw_wsX6_kinds tm_wsX6_kinds (iw := [592, 593, 580]) rfl rfl zgood (by decide +kernel)) ggX6_kinds_X6_in
set_option maxRecDepth 20000 in
theorem ggX6_kinds_X6_firstOther : GoodIn wsX6_kinds wsX6_firstOther := goodIn_m tw_wsX6_kinds tm_wsX6_kinds tw_wsX6_firstOther tm_wsX6_firstOther zgood (by decide +kernel)
set_option maxRecDepth 20000 in
theorem gX6_kinds_X6_firstOther : GoodIn wsX6_kinds (wsV RX6 254 RX6 yX6_firstOther wsX6_firstOther) := goodIn_app (goodIn_m tw_wsX6_kinds tm_wsX6_kinds (iw := [792, 793, 794, 580]) rfl rfl zgood (by decide +kernel)) ggX6_kinds_X6_firstOther
set_option maxRecDepth 20000 in
theorem tw_wsX6_soled : wsX6_soled = [796, 555, 789, 790, 791, 580, 783, 784, 785, 786, 782, 561, 562, 563, 592, 593, 594, 704, 705, 706, 675, 676, 732, 733, 679, 682, 683, 684, 677, 678, 792, 793, 794, 787, 742, 743, 744, 745, 569, 554, 734, 735, 736, 727, 728, 729, 730, 719, 720, 713, 714, 715, 716, 552, 553, 721, 722, 723, 717, 707, 708, 709, 696, 568, 697, 698, 699, 690, 558, 691, 557, 605, 567, 692, 693, 694, 700, 701, 702, 724, 725, 726, 718, 746, 747, 748, 749, 633, 634, 635, 636, 637, 638, 639, 640, 641, 642, 643, 644, 645, 646, 647, 648, 649, 650, 651, 652, 653, 654, 655, 656, 657, 658, 659, 660, 661, 662, 663, 664, 665, 666, 667, 668, 669, 670, 671, 672, 673, 674].map wTb.get := rfl
set_option maxRecDepth 20000 in
theorem tm_wsX6_soled : zmk [796, 555, 789, 790, 791, 580, 783, 784, 785, 786, 782, 561, 562, 563, 592, 593, 594, 704, 705, 706, 675, 676, 732, 733, 679, 682, 683, 684, 677, 678, 792, 793, 794, 787, 742, 743, 744, 745, 569, 554, 734, 735, 736, 727, 728, 729, 730, 719, 720, 713, 714, 715, 716, 552, 553, 721, 722, 723, 717, 707, 708, 709, 696, 568, 697, 698, 699, 690, 558, 691, 557, 605, 567, 692, 693, 694, 700, 701, 702, 724, 725, 726, 718, 746, 747, 748, 749, 633, 634, 635, 636, 637, 638, 639, 640, 641, 642, 643, 644, 645, 646, 647, 648, 649, 650, 651, 652, 653, 654, 655, 656, 657, 658, 659, 660, 661, 662, 663, 664, 665, 666, 667, 668, 669, 670, 671, 672, 673, 674] = 623472983414915675171260511149673527670377922212772958848306848705184254469789239711385077403580248549674983444153749146331834295394765931500669035959153562640883655868065477524669457939843618731947217504200187067132655681593195794402377728 := by decide +kernel
set_option maxRecDepth 20000 in
theorem ggX6_soled_X6_toldWrong : GoodIn wsX6_soled wsX6_toldWrong := goodIn_m tw_wsX6_soled tm_wsX6_soled tw_wsX6_toldWrong tm_wsX6_toldWrong zgood (by decide +kernel)
set_option maxRecDepth 20000 in
theorem gX6_soled_X6_toldWrong : GoodIn wsX6_soled (wsV RX6 251 RX6 yX6_toldWrong wsX6_toldWrong) := goodIn_app (goodIn_m tw_wsX6_soled tm_wsX6_soled (iw := [789, 790, 791, 580]) rfl rfl zgood (by decide +kernel)) ggX6_soled_X6_toldWrong
set_option maxRecDepth 20000 in
theorem ggX6_soled_X6_firstOther : GoodIn wsX6_soled wsX6_firstOther := goodIn_m tw_wsX6_soled tm_wsX6_soled tw_wsX6_firstOther tm_wsX6_firstOther zgood (by decide +kernel)
set_option maxRecDepth 20000 in
theorem gX6_soled_X6_firstOther : GoodIn wsX6_soled (wsV RX6 254 RX6 yX6_firstOther wsX6_firstOther) := goodIn_app (goodIn_m tw_wsX6_soled tm_wsX6_soled (iw := [792, 793, 794, 580]) rfl rfl zgood (by decide +kernel)) ggX6_soled_X6_firstOther
set_option maxRecDepth 20000 in
theorem tw_wsX6_sizes : wsX6_sizes = [797, 554, 789, 790, 791, 580, 783, 784, 785, 786, 782, 561, 562, 563, 592, 593, 594, 704, 705, 706, 675, 676, 732, 733, 679, 682, 683, 684, 677, 678, 792, 793, 794, 787, 742, 743, 744, 745, 569, 555, 734, 735, 736, 727, 728, 729, 730, 719, 720, 713, 714, 715, 716, 552, 553, 721, 722, 723, 717, 707, 708, 709, 696, 568, 697, 698, 699, 690, 558, 691, 557, 605, 567, 692, 693, 694, 700, 701, 702, 724, 725, 726, 718, 746, 747, 748, 749, 633, 634, 635, 636, 637, 638, 639, 640, 641, 642, 643, 644, 645, 646, 647, 648, 649, 650, 651, 652, 653, 654, 655, 656, 657, 658, 659, 660, 661, 662, 663, 664, 665, 666, 667, 668, 669, 670, 671, 672, 673, 674].map wTb.get := rfl
set_option maxRecDepth 20000 in
theorem tm_wsX6_sizes : zmk [797, 554, 789, 790, 791, 580, 783, 784, 785, 786, 782, 561, 562, 563, 592, 593, 594, 704, 705, 706, 675, 676, 732, 733, 679, 682, 683, 684, 677, 678, 792, 793, 794, 787, 742, 743, 744, 745, 569, 555, 734, 735, 736, 727, 728, 729, 730, 719, 720, 713, 714, 715, 716, 552, 553, 721, 722, 723, 717, 707, 708, 709, 696, 568, 697, 698, 699, 690, 558, 691, 557, 605, 567, 692, 693, 694, 700, 701, 702, 724, 725, 726, 718, 746, 747, 748, 749, 633, 634, 635, 636, 637, 638, 639, 640, 641, 642, 643, 644, 645, 646, 647, 648, 649, 650, 651, 652, 653, 654, 655, 656, 657, 658, 659, 660, 661, 662, 663, 664, 665, 666, 667, 668, 669, 670, 671, 672, 673, 674] = 1040223885469906567301251248069752139991925317357517218873072961940436581833391244181474589958052391721108102856243326674199884398777226249023378789229830440521831004587691387428611850809331995277507531012693099690988327433935474625100120064 := by decide +kernel
set_option maxRecDepth 20000 in
theorem ggX6_sizes_X6_toldWrong : GoodIn wsX6_sizes wsX6_toldWrong := goodIn_m tw_wsX6_sizes tm_wsX6_sizes tw_wsX6_toldWrong tm_wsX6_toldWrong zgood (by decide +kernel)
set_option maxRecDepth 20000 in
theorem gX6_sizes_X6_toldWrong : GoodIn wsX6_sizes (wsV RX6 251 RX6 yX6_toldWrong wsX6_toldWrong) := goodIn_app (goodIn_m tw_wsX6_sizes tm_wsX6_sizes (iw := [789, 790, 791, 580]) rfl rfl zgood (by decide +kernel)) ggX6_sizes_X6_toldWrong
set_option maxRecDepth 20000 in
theorem ggX6_sizes_X6_isPebble : GoodIn wsX6_sizes wsX6_isPebble := goodIn_m tw_wsX6_sizes tm_wsX6_sizes tw_wsX6_isPebble tm_wsX6_isPebble zgood (by decide +kernel)
set_option maxRecDepth 20000 in
theorem gX6_sizes_X6_isPebble : GoodIn wsX6_sizes (wsV RX6 177 RX6 yX6_isPebble wsX6_isPebble) := goodIn_app (goodIn_m tw_wsX6_sizes tm_wsX6_sizes (iw := [704, 705, 706, 580]) rfl rfl zgood (by decide +kernel)) ggX6_sizes_X6_isPebble
set_option maxRecDepth 20000 in
theorem ggX6_sizes_X6_in : GoodIn wsX6_sizes wsX6_in := goodIn_m tw_wsX6_sizes tm_wsX6_sizes tw_wsX6_in tm_wsX6_in zgood (by decide +kernel)
set_option maxRecDepth 20000 in
theorem gX6_sizes_X6_in : GoodIn wsX6_sizes (va_wsS RX6 91 yX6_in wsX6_in) := goodIn_app (goodIn_m tw_wsX6_sizes tm_wsX6_sizes (iw := [592, 593, 580]) rfl rfl zgood (by decide +kernel)) ggX6_sizes_X6_in
set_option maxRecDepth 20000 in
theorem ggX6_sizes_X6_firstOther : GoodIn wsX6_sizes wsX6_firstOther := goodIn_m tw_wsX6_sizes tm_wsX6_sizes tw_wsX6_firstOther tm_wsX6_firstOther zgood (by decide +kernel)
set_option maxRecDepth 20000 in
theorem gX6_sizes_X6_firstOther : GoodIn wsX6_sizes (wsV RX6 254 RX6 yX6_firstOther wsX6_firstOther) := goodIn_app (goodIn_m tw_wsX6_sizes tm_wsX6_sizes (iw := [792, 793, 794, 580]) rfl rfl zgood (by decide +kernel)) ggX6_sizes_X6_firstOther
set_option maxRecDepth 20000 in
theorem tw_wsX6_whose : wsX6_whose = [798, 678, 784, 785, 786, 580, 782, 561, 562, 563, 592, 593, 594, 704, 705, 706, 675, 676, 732, 733, 679, 792, 793, 794, 787, 742, 743, 744, 745, 569, 555, 554, 734, 735, 736, 727, 728, 729, 730, 719, 720, 713, 714, 715, 716, 552, 553, 721, 722, 723, 717, 707, 708, 709, 696, 568, 697, 698, 699, 690, 558, 691, 557, 605, 567, 692, 693, 694, 700, 701, 702, 724, 725, 726, 718, 746, 747, 748, 749, 633, 634, 635, 636, 637, 638, 639, 640, 641, 642, 643, 644, 645, 646, 647, 648, 649, 650, 651, 652, 653, 654, 655, 656, 657, 658, 659, 660, 661, 662, 663, 664, 665, 666, 667, 668, 669, 670, 671, 672, 673, 674].map wTb.get := rfl
set_option maxRecDepth 20000 in
theorem tm_wsX6_whose : zmk [798, 678, 784, 785, 786, 580, 782, 561, 562, 563, 592, 593, 594, 704, 705, 706, 675, 676, 732, 733, 679, 792, 793, 794, 787, 742, 743, 744, 745, 569, 555, 554, 734, 735, 736, 727, 728, 729, 730, 719, 720, 713, 714, 715, 716, 552, 553, 721, 722, 723, 717, 707, 708, 709, 696, 568, 697, 698, 699, 690, 558, 691, 557, 605, 567, 692, 693, 694, 700, 701, 702, 724, 725, 726, 718, 746, 747, 748, 749, 633, 634, 635, 636, 637, 638, 639, 640, 641, 642, 643, 644, 645, 646, 647, 648, 649, 650, 651, 652, 653, 654, 655, 656, 657, 658, 659, 660, 661, 662, 663, 664, 665, 666, 667, 668, 669, 670, 671, 672, 673, 674] = 1850883751710907527517486891724714485152115479902556473189855426768985727030005301794644621103105627896470561463967275672813787089370894139141712176164836616139696234973436364848544021013388875162020155533470325071011087885482216139568185344 := by decide +kernel
set_option maxRecDepth 20000 in
theorem ggX6_whose_X6_sheetWrong : GoodIn wsX6_whose wsX6_sheetWrong := goodIn_m tw_wsX6_whose tm_wsX6_whose tw_wsX6_sheetWrong tm_wsX6_sheetWrong zgood (by decide +kernel)
set_option maxRecDepth 20000 in
theorem gX6_whose_X6_sheetWrong : GoodIn wsX6_whose (wsV RX6 248 RX6 yX6_sheetWrong wsX6_sheetWrong) := goodIn_app (goodIn_m tw_wsX6_whose tm_wsX6_whose (iw := [784, 785, 786, 580]) rfl rfl zgood (by decide +kernel)) ggX6_whose_X6_sheetWrong
set_option maxRecDepth 20000 in
theorem ggX6_whose_X6_firstOther : GoodIn wsX6_whose wsX6_firstOther := goodIn_m tw_wsX6_whose tm_wsX6_whose tw_wsX6_firstOther tm_wsX6_firstOther zgood (by decide +kernel)
set_option maxRecDepth 20000 in
theorem gX6_whose_X6_firstOther : GoodIn wsX6_whose (wsV RX6 254 RX6 yX6_firstOther wsX6_firstOther) := goodIn_app (goodIn_m tw_wsX6_whose tm_wsX6_whose (iw := [792, 793, 794, 580]) rfl rfl zgood (by decide +kernel)) ggX6_whose_X6_firstOther
set_option maxRecDepth 20000 in
theorem tw_wsX6_laws : wsX6_laws = [799, 691, 582, 789, 790, 791, 580, 783, 784, 785, 786, 782, 561, 562, 563, 592, 593, 594, 704, 705, 706, 675, 676, 732, 733, 679, 682, 683, 684, 677, 678, 792, 793, 794, 787, 742, 743, 744, 745, 569, 555, 554, 734, 735, 736, 727, 728, 729, 730, 719, 720, 713, 714, 715, 716, 552, 553, 721, 722, 723, 717, 707, 708, 709, 696, 568, 697, 698, 699, 690, 558, 557, 605, 567, 692, 693, 694, 700, 701, 702, 724, 725, 726, 718, 746, 747, 748, 749, 633, 634, 635, 636, 637, 638, 639, 640, 641, 642, 643, 644, 645, 646, 647, 648, 649, 650, 651, 652, 653, 654, 655, 656, 657, 658, 659, 660, 661, 662, 663, 664, 665, 666, 667, 668, 669, 670, 671, 672, 673, 674].map wTb.get := rfl
set_option maxRecDepth 20000 in
theorem tm_wsX6_laws : zmk [799, 691, 582, 789, 790, 791, 580, 783, 784, 785, 786, 782, 561, 562, 563, 592, 593, 594, 704, 705, 706, 675, 676, 732, 733, 679, 682, 683, 684, 677, 678, 792, 793, 794, 787, 742, 743, 744, 745, 569, 555, 554, 734, 735, 736, 727, 728, 729, 730, 719, 720, 713, 714, 715, 716, 552, 553, 721, 722, 723, 717, 707, 708, 709, 696, 568, 697, 698, 699, 690, 558, 557, 605, 567, 692, 693, 694, 700, 701, 702, 724, 725, 726, 718, 746, 747, 748, 749, 633, 634, 635, 636, 637, 638, 639, 640, 641, 642, 643, 644, 645, 646, 647, 648, 649, 650, 651, 652, 653, 654, 655, 656, 657, 658, 659, 660, 661, 662, 663, 664, 665, 666, 667, 668, 669, 670, 671, 672, 673, 674] = 3540729297799851920081195669590223813921209688225982779021669641367779691709281961181883826630142670911955225671258349595908220609017410560977676807754141375727069976239697818117299125744749616746501489501573529360643520694651981026803318784 := by decide +kernel
set_option maxRecDepth 20000 in
theorem ggX6_laws_X6_toldWrong : GoodIn wsX6_laws wsX6_toldWrong := goodIn_m tw_wsX6_laws tm_wsX6_laws tw_wsX6_toldWrong tm_wsX6_toldWrong zgood (by decide +kernel)
set_option maxRecDepth 20000 in
theorem gX6_laws_X6_toldWrong : GoodIn wsX6_laws (wsV RX6 251 RX6 yX6_toldWrong wsX6_toldWrong) := goodIn_app (goodIn_m tw_wsX6_laws tm_wsX6_laws (iw := [789, 790, 791, 580]) rfl rfl zgood (by decide +kernel)) ggX6_laws_X6_toldWrong
set_option maxRecDepth 20000 in
theorem ggX6_laws_X6_firstOther : GoodIn wsX6_laws wsX6_firstOther := goodIn_m tw_wsX6_laws tm_wsX6_laws tw_wsX6_firstOther tm_wsX6_firstOther zgood (by decide +kernel)
set_option maxRecDepth 20000 in
theorem gX6_laws_X6_firstOther : GoodIn wsX6_laws (wsV RX6 254 RX6 yX6_firstOther wsX6_firstOther) := goodIn_app (goodIn_m tw_wsX6_laws tm_wsX6_laws (iw := [792, 793, 794, 580]) rfl rfl zgood (by decide +kernel)) ggX6_laws_X6_firstOther
set_option maxRecDepth 20000 in
theorem tw_wsX6_film : wsX6_film = [800, 563, 676, 561, 562, 592, 593, 580, 594, 682, 683, 684, 677, 678, 732, 733, 679, 742, 743, 744, 745, 569, 555, 554, 734, 735, 736, 727, 728, 729, 730, 719, 720, 713, 714, 715, 716, 552, 553, 721, 722, 723, 717, 707, 708, 709, 696, 568, 697, 698, 699, 690, 558, 691, 557, 605, 567, 692, 693, 694, 700, 701, 702, 724, 725, 726, 718, 746, 747, 748, 749, 633, 634, 635, 636, 637, 638, 639, 640, 641, 642, 643, 644, 645, 646, 647, 648, 649, 650, 651, 652, 653, 654, 655, 656, 657, 658, 659, 660, 661, 662, 663, 664, 665, 666, 667, 668, 669, 670, 671, 672, 673, 674].map wTb.get := rfl
set_option maxRecDepth 20000 in
theorem tm_wsX6_film : zmk [800, 563, 676, 561, 562, 592, 593, 580, 594, 682, 683, 684, 677, 678, 732, 733, 679, 742, 743, 744, 745, 569, 555, 554, 734, 735, 736, 727, 728, 729, 730, 719, 720, 713, 714, 715, 716, 552, 553, 721, 722, 723, 717, 707, 708, 709, 696, 568, 697, 698, 699, 690, 558, 691, 557, 605, 567, 692, 693, 694, 700, 701, 702, 724, 725, 726, 718, 746, 747, 748, 749, 633, 634, 635, 636, 637, 638, 639, 640, 641, 642, 643, 644, 645, 646, 647, 648, 649, 650, 651, 652, 653, 654, 655, 656, 657, 658, 659, 660, 661, 662, 663, 664, 665, 666, 667, 668, 669, 670, 671, 672, 673, 674] = 6668014432879860174043702453097711211923879426392327501565508512088268699203684299148842769810525180987618062534275580085389120861017897826542229711498254259616750971884322694412871225765657376609991044198354358060548565439304194714165575680 := by decide +kernel
set_option maxRecDepth 20000 in
theorem ggX6_film_X6_in : GoodIn wsX6_film wsX6_in := goodIn_m tw_wsX6_film tm_wsX6_film tw_wsX6_in tm_wsX6_in zgood (by decide +kernel)
set_option maxRecDepth 20000 in
theorem gX6_film_X6_in : GoodIn wsX6_film (va_wsS RX6 91 yX6_in wsX6_in) := goodIn_app (goodIn_m tw_wsX6_film tm_wsX6_film (iw := [592, 593, 580]) rfl rfl zgood (by decide +kernel)) ggX6_film_X6_in
set_option maxRecDepth 20000 in
theorem ggX6_film_X6_isJudge : GoodIn wsX6_film wsX6_isJudge := goodIn_m tw_wsX6_film tm_wsX6_film tw_wsX6_isJudge tm_wsX6_isJudge zgood (by decide +kernel)
set_option maxRecDepth 20000 in
theorem gX6_film_X6_isJudge : GoodIn wsX6_film (wsV RX6 104 RX6 yX6_isJudge wsX6_isJudge) := goodIn_app (goodIn_m tw_wsX6_film tm_wsX6_film (iw := [682, 683, 684, 580]) rfl rfl zgood (by decide +kernel)) ggX6_film_X6_isJudge
set_option maxRecDepth 20000 in
theorem ggX6_film_X6_isCase : GoodIn wsX6_film wsX6_isCase := goodIn_m tw_wsX6_film tm_wsX6_film tw_wsX6_isCase tm_wsX6_isCase zgood (by decide +kernel)
set_option maxRecDepth 20000 in
theorem gX6_film_X6_isCase : GoodIn wsX6_film (va_wsS RX6 196 yX6_isCase wsX6_isCase) := goodIn_app (goodIn_m tw_wsX6_film tm_wsX6_film (iw := [732, 733, 580]) rfl rfl zgood (by decide +kernel)) ggX6_film_X6_isCase
set_option maxRecDepth 20000 in
theorem ggX6_film_X6_keeps : GoodIn wsX6_film wsX6_keeps := goodIn_m tw_wsX6_film tm_wsX6_film tw_wsX6_keeps tm_wsX6_keeps zgood (by decide +kernel)
set_option maxRecDepth 20000 in
theorem gX6_film_X6_keeps : GoodIn wsX6_film (wsV RX6 202 RX6 yX6_keeps wsX6_keeps) := goodIn_app (goodIn_m tw_wsX6_film tm_wsX6_film (iw := [742, 743, 744, 580]) rfl rfl zgood (by decide +kernel)) ggX6_film_X6_keeps
set_option maxRecDepth 20000 in
theorem ggX6_film_X6_caseOf : GoodIn wsX6_film wsX6_caseOf := goodIn_m tw_wsX6_film tm_wsX6_film tw_wsX6_caseOf tm_wsX6_caseOf zgood (by decide +kernel)
set_option maxRecDepth 20000 in
theorem gX6_film_X6_caseOf : GoodIn wsX6_film (wsV RX6 199 RX6 yX6_caseOf wsX6_caseOf) := goodIn_app (goodIn_m tw_wsX6_film tm_wsX6_film (iw := [734, 735, 736, 580]) rfl rfl zgood (by decide +kernel)) ggX6_film_X6_caseOf
set_option maxRecDepth 20000 in
theorem ggX6_film_X6_asksOf : GoodIn wsX6_film wsX6_asksOf := goodIn_m tw_wsX6_film tm_wsX6_film tw_wsX6_asksOf tm_wsX6_asksOf zgood (by decide +kernel)
set_option maxRecDepth 20000 in
theorem gX6_film_X6_asksOf : GoodIn wsX6_film (wsV RX6 180 RX6 yX6_asksOf wsX6_asksOf) := goodIn_app (goodIn_m tw_wsX6_film tm_wsX6_film (iw := [707, 708, 709, 580]) rfl rfl zgood (by decide +kernel)) ggX6_film_X6_asksOf
set_option maxRecDepth 20000 in
theorem ggX6_film_X6_laysBack : GoodIn wsX6_film wsX6_laysBack := goodIn_m tw_wsX6_film tm_wsX6_film tw_wsX6_laysBack tm_wsX6_laysBack zgood (by decide +kernel)
set_option maxRecDepth 20000 in
theorem gX6_film_X6_laysBack : GoodIn wsX6_film (wsV RX6 218 RX6 yX6_laysBack wsX6_laysBack) := goodIn_app (goodIn_m tw_wsX6_film tm_wsX6_film (iw := [746, 747, 748, 580]) rfl rfl zgood (by decide +kernel)) ggX6_film_X6_laysBack
set_option maxRecDepth 20000 in
theorem tw_wsX6_areMiles : wsX6_areMiles = [801, 592, 593, 580, 594].map wTb.get := rfl
set_option maxRecDepth 20000 in
theorem tm_wsX6_areMiles : zmk [801, 592, 593, 580, 594] = 13336028865759708548159703581442515594289516644631816320792515736995348098648485024911484964884610659522998585651619854586657720934512897834138350096376342156539578946772553887498369007370662108297569126662987687748706354840808567696732979200 := by decide +kernel
set_option maxRecDepth 20000 in
theorem ggX6_areMiles_X6_in : GoodIn wsX6_areMiles wsX6_in := goodIn_m tw_wsX6_areMiles tm_wsX6_areMiles tw_wsX6_in tm_wsX6_in zgood (by decide +kernel)
set_option maxRecDepth 20000 in
theorem gX6_areMiles_X6_in : GoodIn wsX6_areMiles (va_wsS RX6 91 yX6_in wsX6_in) := goodIn_app (goodIn_m tw_wsX6_areMiles tm_wsX6_areMiles (iw := [592, 593, 580]) rfl rfl zgood (by decide +kernel)) ggX6_areMiles_X6_in
set_option maxRecDepth 20000 in
theorem tw_wsX6_caseBy : wsX6_caseBy = [802, 738, 803, 804, 554, 739, 741, 742, 743, 744, 580, 745, 569, 555, 728, 729, 730, 719, 720, 713, 714, 715, 716, 552, 553, 721, 722, 723, 717, 707, 708, 709, 696, 568, 697, 698, 699, 690, 558, 691, 557, 605, 567, 692, 693, 694, 700, 701, 702, 724, 725, 726, 718, 746, 747, 748, 749, 633, 634, 635, 636, 637, 638, 639, 640, 641, 642, 643, 644, 645, 646, 647, 648, 649, 650, 651, 652, 653, 654, 655, 656, 657, 658, 659, 660, 661, 662, 663, 664, 665, 666, 667, 668, 669, 670, 671, 672, 673, 674].map wTb.get := rfl
set_option maxRecDepth 20000 in
theorem tm_wsX6_caseBy : zmk [802, 738, 803, 804, 554, 739, 741, 742, 743, 744, 580, 745, 569, 555, 728, 729, 730, 719, 720, 713, 714, 715, 716, 552, 553, 721, 722, 723, 717, 707, 708, 709, 696, 568, 697, 698, 699, 690, 558, 691, 557, 605, 567, 692, 693, 694, 700, 701, 702, 724, 725, 726, 718, 746, 747, 748, 749, 633, 634, 635, 636, 637, 638, 639, 640, 641, 642, 643, 644, 645, 646, 647, 648, 649, 650, 651, 652, 653, 654, 655, 656, 657, 658, 659, 660, 661, 662, 663, 664, 665, 666, 667, 668, 669, 670, 671, 672, 673, 674] = 186704404120635925589403485952767037538868408596742641999943617844851503468166118036033176485094072002219828140306994620183786324278153568714422002284157872636240037559329930161113658884521887165353708924643949715817668345421664975773822353408 := by decide +kernel
set_option maxRecDepth 20000 in
theorem ggX6_caseBy_X6_keeps : GoodIn wsX6_caseBy wsX6_keeps := goodIn_m tw_wsX6_caseBy tm_wsX6_caseBy tw_wsX6_keeps tm_wsX6_keeps zgood (by decide +kernel)
set_option maxRecDepth 20000 in
theorem gX6_caseBy_X6_keeps : GoodIn wsX6_caseBy (wsV RX6 202 RX6 yX6_keeps wsX6_keeps) := goodIn_app (goodIn_m tw_wsX6_caseBy tm_wsX6_caseBy (iw := [742, 743, 744, 580]) rfl rfl zgood (by decide +kernel)) ggX6_caseBy_X6_keeps
set_option maxRecDepth 20000 in
theorem ggX6_caseBy_X6_mile : GoodIn wsX6_caseBy wsX6_mile := goodIn_m tw_wsX6_caseBy tm_wsX6_caseBy tw_wsX6_mile tm_wsX6_mile zgood (by decide +kernel)
set_option maxRecDepth 20000 in
theorem gX6_caseBy_X6_mile : GoodIn wsX6_caseBy (wsV RX6 193 RX6 yX6_mile wsX6_mile) := goodIn_app (goodIn_m tw_wsX6_caseBy tm_wsX6_caseBy (iw := [728, 729, 730, 580]) rfl rfl zgood (by decide +kernel)) ggX6_caseBy_X6_mile
set_option maxRecDepth 20000 in
theorem ggX6_caseBy_X6_asksOf : GoodIn wsX6_caseBy wsX6_asksOf := goodIn_m tw_wsX6_caseBy tm_wsX6_caseBy tw_wsX6_asksOf tm_wsX6_asksOf zgood (by decide +kernel)
set_option maxRecDepth 20000 in
theorem gX6_caseBy_X6_asksOf : GoodIn wsX6_caseBy (wsV RX6 180 RX6 yX6_asksOf wsX6_asksOf) := goodIn_app (goodIn_m tw_wsX6_caseBy tm_wsX6_caseBy (iw := [707, 708, 709, 580]) rfl rfl zgood (by decide +kernel)) ggX6_caseBy_X6_asksOf
set_option maxRecDepth 20000 in
theorem ggX6_caseBy_X6_laysBack : GoodIn wsX6_caseBy wsX6_laysBack := goodIn_m tw_wsX6_caseBy tm_wsX6_caseBy tw_wsX6_laysBack tm_wsX6_laysBack zgood (by decide +kernel)
set_option maxRecDepth 20000 in
theorem gX6_caseBy_X6_laysBack : GoodIn wsX6_caseBy (wsV RX6 218 RX6 yX6_laysBack wsX6_laysBack) := goodIn_app (goodIn_m tw_wsX6_caseBy tm_wsX6_caseBy (iw := [746, 747, 748, 580]) rfl rfl zgood (by decide +kernel)) ggX6_caseBy_X6_laysBack
set_option maxRecDepth 20000 in
theorem tw_wsX6_drawn : wsX6_drawn = [805, 720, 682, 683, 684, 580, 677, 678, 592, 593, 594, 704, 705, 706, 675, 676, 806, 807, 801, 808, 809, 810, 802, 738, 803, 804, 554, 739, 741, 742, 743, 744, 745, 569, 555, 728, 729, 730, 719, 713, 714, 715, 716, 552, 553, 721, 722, 723, 717, 707, 708, 709, 696, 568, 697, 698, 699, 690, 558, 691, 557, 605, 567, 692, 693, 694, 700, 701, 702, 724, 725, 726, 718, 746, 747, 748, 749, 754, 755, 756, 757, 740, 633, 634, 635, 636, 637, 638, 639, 640, 641, 642, 643, 644, 645, 646, 647, 648, 649, 650, 651, 652, 653, 654, 655, 656, 657, 658, 659, 660, 661, 662, 663, 664, 665, 666, 667, 668, 669, 670, 671, 672, 673, 674].map wTb.get := rfl
set_option maxRecDepth 20000 in
theorem tm_wsX6_drawn : zmk [805, 720, 682, 683, 684, 580, 677, 678, 592, 593, 594, 704, 705, 706, 675, 676, 806, 807, 801, 808, 809, 810, 802, 738, 803, 804, 554, 739, 741, 742, 743, 744, 745, 569, 555, 728, 729, 730, 719, 713, 714, 715, 716, 552, 553, 721, 722, 723, 717, 707, 708, 709, 696, 568, 697, 698, 699, 690, 558, 691, 557, 605, 567, 692, 693, 694, 700, 701, 702, 724, 725, 726, 718, 746, 747, 748, 749, 754, 755, 756, 757, 740, 633, 634, 635, 636, 637, 638, 639, 640, 641, 642, 643, 644, 645, 646, 647, 648, 649, 650, 651, 652, 653, 654, 655, 656, 657, 658, 659, 660, 661, 662, 663, 664, 665, 666, 667, 668, 669, 670, 671, 672, 673, 674] = 13642757529672183272061093148101666475810729737352910117056975911588098403063211460143692266409853335009897677659128308073230567066241460040226810140980592018768389745155305768804462651569881282634356430011272510919868551606846672825902425964544 := by decide +kernel
set_option maxRecDepth 20000 in
theorem ggX6_drawn_X6_isJudge : GoodIn wsX6_drawn wsX6_isJudge := goodIn_m tw_wsX6_drawn tm_wsX6_drawn tw_wsX6_isJudge tm_wsX6_isJudge zgood (by decide +kernel)
set_option maxRecDepth 20000 in
theorem gX6_drawn_X6_isJudge : GoodIn wsX6_drawn (wsV RX6 104 RX6 yX6_isJudge wsX6_isJudge) := goodIn_app (goodIn_m tw_wsX6_drawn tm_wsX6_drawn (iw := [682, 683, 684, 580]) rfl rfl zgood (by decide +kernel)) ggX6_drawn_X6_isJudge
set_option maxRecDepth 20000 in
theorem ggX6_drawn_X6_isPebble : GoodIn wsX6_drawn wsX6_isPebble := goodIn_m tw_wsX6_drawn tm_wsX6_drawn tw_wsX6_isPebble tm_wsX6_isPebble zgood (by decide +kernel)
set_option maxRecDepth 20000 in
theorem gX6_drawn_X6_isPebble : GoodIn wsX6_drawn (wsV RX6 177 RX6 yX6_isPebble wsX6_isPebble) := goodIn_app (goodIn_m tw_wsX6_drawn tm_wsX6_drawn (iw := [704, 705, 706, 580]) rfl rfl zgood (by decide +kernel)) ggX6_drawn_X6_isPebble
set_option maxRecDepth 20000 in
theorem ggX6_drawn_X6_in : GoodIn wsX6_drawn wsX6_in := goodIn_m tw_wsX6_drawn tm_wsX6_drawn tw_wsX6_in tm_wsX6_in zgood (by decide +kernel)
set_option maxRecDepth 20000 in
theorem gX6_drawn_X6_in : GoodIn wsX6_drawn (va_wsS RX6 91 yX6_in wsX6_in) := goodIn_app (goodIn_m tw_wsX6_drawn tm_wsX6_drawn (iw := [592, 593, 580]) rfl rfl zgood (by decide +kernel)) ggX6_drawn_X6_in
set_option maxRecDepth 20000 in
theorem ggX6_drawn_X6_areMiles : GoodIn wsX6_drawn wsX6_areMiles := goodIn_m tw_wsX6_drawn tm_wsX6_drawn tw_wsX6_areMiles tm_wsX6_areMiles zgood (by decide +kernel)
set_option maxRecDepth 20000 in
theorem gX6_drawn_X6_areMiles : GoodIn wsX6_drawn (va_wsS RX6 261 yX6_areMiles wsX6_areMiles) := goodIn_app (goodIn_m tw_wsX6_drawn tm_wsX6_drawn (iw := [806, 807, 580]) rfl rfl zgood (by decide +kernel)) ggX6_drawn_X6_areMiles
set_option maxRecDepth 20000 in
theorem ggX6_drawn_X6_caseBy : GoodIn wsX6_drawn wsX6_caseBy := goodIn_m tw_wsX6_drawn tm_wsX6_drawn tw_wsX6_caseBy tm_wsX6_caseBy zgood (by decide +kernel)
set_option maxRecDepth 20000 in
theorem gX6_drawn_X6_caseBy : GoodIn wsX6_drawn (wsV RX6 264 RX6 yX6_caseBy wsX6_caseBy) := goodIn_app (goodIn_m tw_wsX6_drawn tm_wsX6_drawn (iw := [808, 809, 810, 580]) rfl rfl zgood (by decide +kernel)) ggX6_drawn_X6_caseBy
set_option maxRecDepth 20000 in
theorem ggX6_drawn_X6_toldCase : GoodIn wsX6_drawn wsX6_toldCase := goodIn_m tw_wsX6_drawn tm_wsX6_drawn tw_wsX6_toldCase tm_wsX6_toldCase zgood (by decide +kernel)
set_option maxRecDepth 20000 in
theorem gX6_drawn_X6_toldCase : GoodIn wsX6_drawn (wsV RX6 225 RX6 yX6_toldCase wsX6_toldCase) := goodIn_app (goodIn_m tw_wsX6_drawn tm_wsX6_drawn (iw := [754, 755, 756, 580]) rfl rfl zgood (by decide +kernel)) ggX6_drawn_X6_toldCase
set_option maxRecDepth 20000 in
theorem tw_wsX6_odds : wsX6_odds = [811, 720, 812, 741, 592, 593, 580, 594, 682, 683, 684, 677, 678, 704, 705, 706, 675, 676, 806, 807, 801, 808, 809, 810, 802, 738, 803, 804, 554, 739, 742, 743, 744, 745, 569, 555, 728, 729, 730, 719, 713, 714, 715, 716, 552, 553, 721, 722, 723, 717, 707, 708, 709, 696, 568, 697, 698, 699, 690, 558, 691, 557, 605, 567, 692, 693, 694, 700, 701, 702, 724, 725, 726, 718, 746, 747, 748, 749, 813, 814, 815, 633, 634, 635, 636, 637, 638, 639, 640, 641, 642, 643, 644, 645, 646, 647, 648, 649, 650, 651, 652, 653, 654, 655, 656, 657, 658, 659, 660, 661, 662, 663, 664, 665, 666, 667, 668, 669, 670, 671, 672, 673, 674].map wTb.get := rfl
set_option maxRecDepth 20000 in
theorem tm_wsX6_odds : zmk [811, 720, 812, 741, 592, 593, 580, 594, 682, 683, 684, 677, 678, 704, 705, 706, 675, 676, 806, 807, 801, 808, 809, 810, 802, 738, 803, 804, 554, 739, 742, 743, 744, 745, 569, 555, 728, 729, 730, 719, 713, 714, 715, 716, 552, 553, 721, 722, 723, 717, 707, 708, 709, 696, 568, 697, 698, 699, 690, 558, 691, 557, 605, 567, 692, 693, 694, 700, 701, 702, 724, 725, 726, 718, 746, 747, 748, 749, 813, 814, 815, 633, 634, 635, 636, 637, 638, 639, 640, 641, 642, 643, 644, 645, 646, 647, 648, 649, 650, 651, 652, 653, 654, 655, 656, 657, 658, 659, 660, 661, 662, 663, 664, 665, 666, 667, 668, 669, 670, 671, 672, 673, 674] = 436768281382496214666693619631636989183158560468013607373373313894709091164485346316438865192835065119960657615368570916970777863891752206921709150756760584655860914899693152086557935729155936787347868681313262411941291857019110021264999882686464 := by decide +kernel
set_option maxRecDepth 20000 in
theorem ggX6_odds_X6_in : GoodIn wsX6_odds wsX6_in := goodIn_m tw_wsX6_odds tm_wsX6_odds tw_wsX6_in tm_wsX6_in zgood (by decide +kernel)
set_option maxRecDepth 20000 in
theorem gX6_odds_X6_in : GoodIn wsX6_odds (va_wsS RX6 91 yX6_in wsX6_in) := goodIn_app (goodIn_m tw_wsX6_odds tm_wsX6_odds (iw := [592, 593, 580]) rfl rfl zgood (by decide +kernel)) ggX6_odds_X6_in
set_option maxRecDepth 20000 in
theorem ggX6_odds_X6_isJudge : GoodIn wsX6_odds wsX6_isJudge := goodIn_m tw_wsX6_odds tm_wsX6_odds tw_wsX6_isJudge tm_wsX6_isJudge zgood (by decide +kernel)
set_option maxRecDepth 20000 in
theorem gX6_odds_X6_isJudge : GoodIn wsX6_odds (wsV RX6 104 RX6 yX6_isJudge wsX6_isJudge) := goodIn_app (goodIn_m tw_wsX6_odds tm_wsX6_odds (iw := [682, 683, 684, 580]) rfl rfl zgood (by decide +kernel)) ggX6_odds_X6_isJudge
set_option maxRecDepth 20000 in
theorem ggX6_odds_X6_isPebble : GoodIn wsX6_odds wsX6_isPebble := goodIn_m tw_wsX6_odds tm_wsX6_odds tw_wsX6_isPebble tm_wsX6_isPebble zgood (by decide +kernel)
set_option maxRecDepth 20000 in
theorem gX6_odds_X6_isPebble : GoodIn wsX6_odds (wsV RX6 177 RX6 yX6_isPebble wsX6_isPebble) := goodIn_app (goodIn_m tw_wsX6_odds tm_wsX6_odds (iw := [704, 705, 706, 580]) rfl rfl zgood (by decide +kernel)) ggX6_odds_X6_isPebble
set_option maxRecDepth 20000 in
theorem ggX6_odds_X6_areMiles : GoodIn wsX6_odds wsX6_areMiles := goodIn_m tw_wsX6_odds tm_wsX6_odds tw_wsX6_areMiles tm_wsX6_areMiles zgood (by decide +kernel)
set_option maxRecDepth 20000 in
theorem gX6_odds_X6_areMiles : GoodIn wsX6_odds (va_wsS RX6 261 yX6_areMiles wsX6_areMiles) := goodIn_app (goodIn_m tw_wsX6_odds tm_wsX6_odds (iw := [806, 807, 580]) rfl rfl zgood (by decide +kernel)) ggX6_odds_X6_areMiles
set_option maxRecDepth 20000 in
theorem ggX6_odds_X6_caseBy : GoodIn wsX6_odds wsX6_caseBy := goodIn_m tw_wsX6_odds tm_wsX6_odds tw_wsX6_caseBy tm_wsX6_caseBy zgood (by decide +kernel)
set_option maxRecDepth 20000 in
theorem gX6_odds_X6_caseBy : GoodIn wsX6_odds (wsV RX6 264 RX6 yX6_caseBy wsX6_caseBy) := goodIn_app (goodIn_m tw_wsX6_odds tm_wsX6_odds (iw := [808, 809, 810, 580]) rfl rfl zgood (by decide +kernel)) ggX6_odds_X6_caseBy
set_option maxRecDepth 20000 in
theorem tw_wsX6_lowest : wsX6_lowest = [815].map wTb.get := rfl
set_option maxRecDepth 20000 in
theorem tm_wsX6_lowest : zmk [815] = 218497496936607064853048583478354175496839440705647678599864575975883972208808167719614290358159090999064327310325620422930884252602183354953346451122776638950446123565515229051718149272758321962318725648740732173736042431692028683588857933856768 := by decide +kernel
set_option maxRecDepth 20000 in
theorem ggX6_odds_X6_lowest : GoodIn wsX6_odds wsX6_lowest := goodIn_m tw_wsX6_odds tm_wsX6_odds tw_wsX6_lowest tm_wsX6_lowest zgood (by decide +kernel)
set_option maxRecDepth 20000 in
theorem gX6_odds_X6_lowest : GoodIn wsX6_odds (va_wsS RX6 270 yX6_lowest wsX6_lowest) := goodIn_app (goodIn_m tw_wsX6_odds tm_wsX6_odds (iw := [813, 814, 580]) rfl rfl zgood (by decide +kernel)) ggX6_odds_X6_lowest
set_option maxRecDepth 20000 in
theorem tw_wsX6_sheet : wsX6_sheet = [816, 561, 562, 563, 592, 593, 580, 594, 633, 634, 635, 636, 637, 638, 639, 640, 641, 642, 643, 644, 645, 646, 647, 648, 649, 650, 651, 652, 653, 654, 655, 656, 657, 658, 659, 660, 661, 662, 663, 664, 665, 666, 667, 668, 669, 670, 671, 672, 673, 674].map wTb.get := rfl
set_option maxRecDepth 20000 in
theorem tm_wsX6_sheet : zmk [816, 561, 562, 563, 592, 593, 580, 594, 633, 634, 635, 636, 637, 638, 639, 640, 641, 642, 643, 644, 645, 646, 647, 648, 649, 650, 651, 652, 653, 654, 655, 656, 657, 658, 659, 660, 661, 662, 663, 664, 665, 666, 667, 668, 669, 670, 671, 672, 673, 674] = 436994993873214129706097166956708350993679038175561298199043066957920856398125375675941468839795117020758772788490323079841065968679349674431071093822942219706995870293983237525418643739721380794822108557101269461154481882460474097551347101466624 := by decide +kernel
set_option maxRecDepth 20000 in
theorem ggX6_sheet_X6_in : GoodIn wsX6_sheet wsX6_in := goodIn_m tw_wsX6_sheet tm_wsX6_sheet tw_wsX6_in tm_wsX6_in zgood (by decide +kernel)
set_option maxRecDepth 20000 in
theorem gX6_sheet_X6_in : GoodIn wsX6_sheet (va_wsS RX6 91 yX6_in wsX6_in) := goodIn_app (goodIn_m tw_wsX6_sheet tm_wsX6_sheet (iw := [592, 593, 580]) rfl rfl zgood (by decide +kernel)) ggX6_sheet_X6_in
set_option maxRecDepth 20000 in
theorem tw_wsX6_cell : wsX6_cell = [817, 561, 562, 563, 592, 593, 580, 594, 633, 634, 635, 636, 637, 638, 639, 640, 641, 642, 643, 644, 645, 646, 647, 648, 649, 650, 651, 652, 653, 654, 655, 656, 657, 658, 659, 660, 661, 662, 663, 664, 665, 666, 667, 668, 669, 670, 671, 672, 673, 674].map wTb.get := rfl
set_option maxRecDepth 20000 in
theorem tm_wsX6_cell : zmk [817, 561, 562, 563, 592, 593, 580, 594, 633, 634, 635, 636, 637, 638, 639, 640, 641, 642, 643, 644, 645, 646, 647, 648, 649, 650, 651, 652, 653, 654, 655, 656, 657, 658, 659, 660, 661, 662, 663, 664, 665, 666, 667, 668, 669, 670, 671, 672, 673, 674] = 873989987746428259412194333913416701987357919586856655398772218909688800815741711115170049556113299018887427409141563925702834473883716384337763996068495497607888117425013695628854942285238024719459559854582733808626566745844531464729062969180160 := by decide +kernel
set_option maxRecDepth 20000 in
theorem ggX6_cell_X6_in : GoodIn wsX6_cell wsX6_in := goodIn_m tw_wsX6_cell tm_wsX6_cell tw_wsX6_in tm_wsX6_in zgood (by decide +kernel)
set_option maxRecDepth 20000 in
theorem gX6_cell_X6_in : GoodIn wsX6_cell (va_wsS RX6 91 yX6_in wsX6_in) := goodIn_app (goodIn_m tw_wsX6_cell tm_wsX6_cell (iw := [592, 593, 580]) rfl rfl zgood (by decide +kernel)) ggX6_cell_X6_in
set_option maxRecDepth 20000 in
theorem tw_wsX6_copy : wsX6_copy = [818, 561, 562, 563, 592, 593, 580, 594, 633, 634, 635, 636, 637, 638, 639, 640, 641, 642, 643, 644, 645, 646, 647, 648, 649, 650, 651, 652, 653, 654, 655, 656, 657, 658, 659, 660, 661, 662, 663, 664, 665, 666, 667, 668, 669, 670, 671, 672, 673, 674].map wTb.get := rfl
set_option maxRecDepth 20000 in
theorem tm_wsX6_copy : zmk [818, 561, 562, 563, 592, 593, 580, 594, 633, 634, 635, 636, 637, 638, 639, 640, 641, 642, 643, 644, 645, 646, 647, 648, 649, 650, 651, 652, 653, 654, 655, 656, 657, 658, 659, 660, 661, 662, 663, 664, 665, 666, 667, 668, 669, 670, 671, 672, 673, 674] = 1747979975492856518824388667826833403974715682409447369798230522813224689650974381993627210988749663015144736650444045617426371484292449804151149800559602053409672611687074611835727539376271312568734462449545662503570736472612646199084494704607232 := by decide +kernel
set_option maxRecDepth 20000 in
theorem ggX6_copy_X6_in : GoodIn wsX6_copy wsX6_in := goodIn_m tw_wsX6_copy tm_wsX6_copy tw_wsX6_in tm_wsX6_in zgood (by decide +kernel)
set_option maxRecDepth 20000 in
theorem gX6_copy_X6_in : GoodIn wsX6_copy (va_wsS RX6 91 yX6_in wsX6_in) := goodIn_app (goodIn_m tw_wsX6_copy tm_wsX6_copy (iw := [592, 593, 580]) rfl rfl zgood (by decide +kernel)) ggX6_copy_X6_in
set_option maxRecDepth 20000 in
theorem tw_wsX6_pebblesBy : wsX6_pebblesBy = [819, 561, 562, 563, 592, 593, 580, 594, 820, 821, 822, 710, 676, 552, 553, 554, 633, 634, 635, 636, 637, 638, 639, 640, 641, 642, 643, 644, 645, 646, 647, 648, 649, 650, 651, 652, 653, 654, 655, 656, 657, 658, 659, 660, 661, 662, 663, 664, 665, 666, 667, 668, 669, 670, 671, 672, 673, 674].map wTb.get := rfl
set_option maxRecDepth 20000 in
theorem tm_wsX6_pebblesBy : zmk [819, 561, 562, 563, 592, 593, 580, 594, 820, 821, 822, 710, 676, 552, 553, 554, 633, 634, 635, 636, 637, 638, 639, 640, 641, 642, 643, 644, 645, 646, 647, 648, 649, 650, 651, 652, 653, 654, 655, 656, 657, 658, 659, 660, 661, 662, 663, 664, 665, 666, 667, 668, 669, 670, 671, 672, 673, 674] = 52439399264785695564731660034805007505620629425182712101810368183132485455347362176491293841834746386473397986199230758400705006422971771764240077288990153240062924783710173409856361722942240320162357918578660079876192120789617925314051516179415040 := by decide +kernel
set_option maxRecDepth 20000 in
theorem ggX6_pebblesBy_X6_in : GoodIn wsX6_pebblesBy wsX6_in := goodIn_m tw_wsX6_pebblesBy tm_wsX6_pebblesBy tw_wsX6_in tm_wsX6_in zgood (by decide +kernel)
set_option maxRecDepth 20000 in
theorem gX6_pebblesBy_X6_in : GoodIn wsX6_pebblesBy (va_wsS RX6 91 yX6_in wsX6_in) := goodIn_app (goodIn_m tw_wsX6_pebblesBy tm_wsX6_pebblesBy (iw := [592, 593, 580]) rfl rfl zgood (by decide +kernel)) ggX6_pebblesBy_X6_in
set_option maxRecDepth 20000 in
theorem ggX6_pebblesBy_X6_pebble : GoodIn wsX6_pebblesBy wsX6_pebble := goodIn_m tw_wsX6_pebblesBy tm_wsX6_pebblesBy tw_wsX6_pebble tm_wsX6_pebble zgood (by decide +kernel)
set_option maxRecDepth 20000 in
theorem gX6_pebblesBy_X6_pebble : GoodIn wsX6_pebblesBy (wsV RX6 277 RX6 yX6_pebble wsX6_pebble) := goodIn_app (goodIn_m tw_wsX6_pebblesBy tm_wsX6_pebblesBy (iw := [820, 821, 822, 580]) rfl rfl zgood (by decide +kernel)) ggX6_pebblesBy_X6_pebble
set_option maxRecDepth 20000 in
theorem tw_wsX6_taken : wsX6_taken = [823, 824, 825, 678, 826, 555, 827, 676, 552, 592, 593, 580, 594, 828, 829, 830, 633, 634, 635, 636, 637, 638, 639, 640, 641, 642, 643, 644, 645, 646, 647, 648, 649, 650, 651, 652, 653, 654, 655, 656, 657, 658, 659, 660, 661, 662, 663, 664, 665, 666, 667, 668, 669, 670, 671, 672, 673, 674].map wTb.get := rfl
set_option maxRecDepth 20000 in
theorem tm_wsX6_taken : zmk [823, 824, 825, 678, 826, 555, 827, 676, 552, 592, 593, 580, 594, 828, 829, 830, 633, 634, 635, 636, 637, 638, 639, 640, 641, 642, 643, 644, 645, 646, 647, 648, 649, 650, 651, 652, 653, 654, 655, 656, 657, 658, 659, 660, 661, 662, 663, 664, 665, 666, 667, 668, 669, 670, 671, 672, 673, 674] = 14263516600021709193607011529466960576433678690989087384350508413444023987151502318520976176903799426731612912535551212871859107729045269756374087110559216060681637690791641141272567099907025432472188199936389775706779782066364483356123527545626820608 := by decide +kernel
set_option maxRecDepth 20000 in
theorem ggX6_taken_X6_in : GoodIn wsX6_taken wsX6_in := goodIn_m tw_wsX6_taken tm_wsX6_taken tw_wsX6_in tm_wsX6_in zgood (by decide +kernel)
set_option maxRecDepth 20000 in
theorem gX6_taken_X6_in : GoodIn wsX6_taken (va_wsS RX6 91 yX6_in wsX6_in) := goodIn_app (goodIn_m tw_wsX6_taken tm_wsX6_taken (iw := [592, 593, 580]) rfl rfl zgood (by decide +kernel)) ggX6_taken_X6_in
set_option maxRecDepth 20000 in
theorem tw_wsX6_isUnder : wsX6_isUnder = [830].map wTb.get := rfl
set_option maxRecDepth 20000 in
theorem tm_wsX6_isUnder : zmk [830] = 7159725979618740301104695983418709622680434793042663132360362425577766001338226039836321066456157093857339877304749930018599215189268344175111256510391144905128218576994803025566700315369744694061260002057936311868982638401684395903839696776618573824 := by decide +kernel
set_option maxRecDepth 20000 in
theorem ggX6_taken_X6_isUnder : GoodIn wsX6_taken wsX6_isUnder := goodIn_m tw_wsX6_taken tm_wsX6_taken tw_wsX6_isUnder tm_wsX6_isUnder zgood (by decide +kernel)
set_option maxRecDepth 20000 in
theorem gX6_taken_X6_isUnder : GoodIn wsX6_taken (va_wsS RX6 288 yX6_isUnder wsX6_isUnder) := goodIn_app (goodIn_m tw_wsX6_taken tm_wsX6_taken (iw := [828, 829, 580]) rfl rfl zgood (by decide +kernel)) ggX6_taken_X6_isUnder
set_option maxRecDepth 20000 in
theorem tw_wsJ0_coder_7d493 : wsJ0_coder_7d493 = [137, 138, 139].map wTb.get := rfl
set_option maxRecDepth 20000 in
theorem tm_wsJ0_coder_7d493 : zmk [137, 138, 139] = 1219572003044643453052734593035457269858304 := by decide +kernel
set_option maxRecDepth 20000 in
theorem ggJ0_length_8abf5_J0_coder_7d493 : GoodIn wsJ0_length_8abf5 wsJ0_coder_7d493 := goodIn_m tw_wsJ0_length_8abf5 tm_wsJ0_length_8abf5 tw_wsJ0_coder_7d493 tm_wsJ0_coder_7d493 zgood (by decide +kernel)
set_option maxRecDepth 20000 in
theorem gJ0_length_8abf5_J0_coder_7d493 : GoodIn wsJ0_length_8abf5 (wsV RJ0 335 RJ0 yJ0_coder_7d493 wsJ0_coder_7d493) := goodIn_app (goodIn_m tw_wsJ0_length_8abf5 tm_wsJ0_length_8abf5 (iw := [134, 135, 136, 131]) rfl rfl zgood (by decide +kernel)) ggJ0_length_8abf5_J0_coder_7d493
set_option maxRecDepth 20000 in
theorem tw_wsJ0_isLatin1_aae02 : wsJ0_isLatin1_aae02 = [147, 138, 139].map wTb.get := rfl
set_option maxRecDepth 20000 in
theorem tm_wsJ0_isLatin1_aae02 : zmk [147, 138, 139] = 179451309019426108092045232975217283993436160 := by decide +kernel
set_option maxRecDepth 20000 in
theorem ggJ0_charAt_5068e_J0_isLatin1_aae02 : GoodIn wsJ0_charAt_5068e wsJ0_isLatin1_aae02 := goodIn_m tw_wsJ0_charAt_5068e tm_wsJ0_charAt_5068e tw_wsJ0_isLatin1_aae02 tm_wsJ0_isLatin1_aae02 zgood (by decide +kernel)
set_option maxRecDepth 20000 in
theorem gJ0_charAt_5068e_J0_isLatin1_aae02 : GoodIn wsJ0_charAt_5068e (wsV RJ0 492 RJ0 yJ0_isLatin1_aae02 wsJ0_isLatin1_aae02) := goodIn_app (goodIn_m tw_wsJ0_charAt_5068e tm_wsJ0_charAt_5068e (iw := [144, 145, 146, 131]) rfl rfl zgood (by decide +kernel)) ggJ0_charAt_5068e_J0_isLatin1_aae02
set_option maxRecDepth 20000 in
theorem tw_wsJ1_charAt_3b067 : wsJ1_charAt_3b067 = [151, 152, 153, 131, 154, 155, 156, 157, 158, 159].map wTb.get := rfl
set_option maxRecDepth 20000 in
theorem tm_wsJ1_charAt_3b067 : zmk [151, 152, 153, 131, 154, 155, 156, 157, 158, 159] = 1458647144667749933809075968484380888837312741376 := by decide +kernel
set_option maxRecDepth 20000 in
theorem ggJ0_charAt_5068e_J1_charAt_3b067 : GoodIn wsJ0_charAt_5068e wsJ1_charAt_3b067 := goodIn_m tw_wsJ0_charAt_5068e tm_wsJ0_charAt_5068e tw_wsJ1_charAt_3b067 tm_wsJ1_charAt_3b067 zgood (by decide +kernel)
set_option maxRecDepth 20000 in
theorem gJ0_charAt_5068e_J1_charAt_3b067 : GoodIn wsJ0_charAt_5068e (va_wsS RJ0 495 yJ1_charAt_3b067 wsJ1_charAt_3b067) := goodIn_app (goodIn_m tw_wsJ0_charAt_5068e tm_wsJ0_charAt_5068e (iw := [148, 149, 150]) rfl rfl zgood (by decide +kernel)) ggJ0_charAt_5068e_J1_charAt_3b067
set_option maxRecDepth 20000 in
theorem tw_wsJ2_charAt_3b067 : wsJ2_charAt_3b067 = [163, 164, 165, 162, 166, 167, 168, 169, 170, 153, 131, 154, 155, 156, 157, 158, 159, 171, 172, 173, 174, 175, 176].map wTb.get := rfl
set_option maxRecDepth 20000 in
theorem tm_wsJ2_charAt_3b067 : zmk [163, 164, 165, 162, 166, 167, 168, 169, 170, 153, 131, 154, 155, 156, 157, 158, 159, 171, 172, 173, 174, 175, 176] = 191557546685345295197295086380710450504181785559040000 := by decide +kernel
set_option maxRecDepth 20000 in
theorem ggJ0_charAt_5068e_J2_charAt_3b067 : GoodIn wsJ0_charAt_5068e wsJ2_charAt_3b067 := goodIn_m tw_wsJ0_charAt_5068e tm_wsJ0_charAt_5068e tw_wsJ2_charAt_3b067 tm_wsJ2_charAt_3b067 zgood (by decide +kernel)
set_option maxRecDepth 20000 in
theorem gJ0_charAt_5068e_J2_charAt_3b067 : GoodIn wsJ0_charAt_5068e (va_wsS RJ0 498 yJ2_charAt_3b067 wsJ2_charAt_3b067) := goodIn_app (goodIn_m tw_wsJ0_charAt_5068e tm_wsJ0_charAt_5068e (iw := [160, 161, 162]) rfl rfl zgood (by decide +kernel)) ggJ0_charAt_5068e_J2_charAt_3b067
set_option maxRecDepth 20000 in
theorem tw_wsJ0_indexOf_7cf53 : wsJ0_indexOf_7cf53 = [192, 133, 144, 145, 146, 131, 147, 138, 139, 193, 129, 130, 132, 134, 135, 136, 137, 194, 195, 150, 196, 197, 38, 35, 39, 198, 34, 36, 199, 200, 201, 202, 203, 204, 205, 206, 162, 207, 208, 209, 210, 211, 212, 213, 214, 215, 216, 167, 168, 169, 217, 218, 219, 155, 220, 221, 158, 222, 223, 224, 225, 171, 172, 173, 174, 175, 176, 226, 227, 228, 229, 230, 231, 232, 233, 234, 235, 236, 237, 238, 239, 240].map wTb.get := rfl
set_option maxRecDepth 20000 in
theorem tm_wsJ0_indexOf_7cf53 : zmk [192, 133, 144, 145, 146, 131, 147, 138, 139, 193, 129, 130, 132, 134, 135, 136, 137, 194, 195, 150, 196, 197, 38, 35, 39, 198, 34, 36, 199, 200, 201, 202, 203, 204, 205, 206, 162, 207, 208, 209, 210, 211, 212, 213, 214, 215, 216, 167, 168, 169, 217, 218, 219, 155, 220, 221, 158, 222, 223, 224, 225, 171, 172, 173, 174, 175, 176, 226, 227, 228, 229, 230, 231, 232, 233, 234, 235, 236, 237, 238, 239, 240] = 3533694129556762382254744166344140912620779429327752169570191759418327040 := by decide +kernel
set_option maxRecDepth 20000 in
theorem ggJ0_indexOf_0f7a4_J0_indexOf_7cf53 : GoodIn wsJ0_indexOf_0f7a4 wsJ0_indexOf_7cf53 := goodIn_m tw_wsJ0_indexOf_0f7a4 tm_wsJ0_indexOf_0f7a4 tw_wsJ0_indexOf_7cf53 tm_wsJ0_indexOf_7cf53 zgood (by decide +kernel)
set_option maxRecDepth 20000 in
theorem gJ0_indexOf_0f7a4_J0_indexOf_7cf53 : GoodIn wsJ0_indexOf_0f7a4 (wsV RJ0 633 RJ0 yJ0_indexOf_7cf53 wsJ0_indexOf_7cf53) := goodIn_app (goodIn_m tw_wsJ0_indexOf_0f7a4 tm_wsJ0_indexOf_0f7a4 (iw := [189, 190, 191, 131]) rfl rfl zgood (by decide +kernel)) ggJ0_indexOf_0f7a4_J0_indexOf_7cf53
set_option maxRecDepth 20000 in
theorem ggJ0_indexOf_7cf53_J0_isLatin1_aae02 : GoodIn wsJ0_indexOf_7cf53 wsJ0_isLatin1_aae02 := goodIn_m tw_wsJ0_indexOf_7cf53 tm_wsJ0_indexOf_7cf53 tw_wsJ0_isLatin1_aae02 tm_wsJ0_isLatin1_aae02 zgood (by decide +kernel)
set_option maxRecDepth 20000 in
theorem gJ0_indexOf_7cf53_J0_isLatin1_aae02 : GoodIn wsJ0_indexOf_7cf53 (wsV RJ0 492 RJ0 yJ0_isLatin1_aae02 wsJ0_isLatin1_aae02) := goodIn_app (goodIn_m tw_wsJ0_indexOf_7cf53 tm_wsJ0_indexOf_7cf53 (iw := [144, 145, 146, 131]) rfl rfl zgood (by decide +kernel)) ggJ0_indexOf_7cf53_J0_isLatin1_aae02
set_option maxRecDepth 20000 in
theorem ggJ0_indexOf_7cf53_J0_length_8abf5 : GoodIn wsJ0_indexOf_7cf53 wsJ0_length_8abf5 := goodIn_m tw_wsJ0_indexOf_7cf53 tm_wsJ0_indexOf_7cf53 tw_wsJ0_length_8abf5 tm_wsJ0_length_8abf5 zgood (by decide +kernel)
set_option maxRecDepth 20000 in
theorem gJ0_indexOf_7cf53_J0_length_8abf5 : GoodIn wsJ0_indexOf_7cf53 (wsV RJ0 505 RJ0 yJ0_length_8abf5 wsJ0_length_8abf5) := goodIn_app (goodIn_m tw_wsJ0_indexOf_7cf53 tm_wsJ0_indexOf_7cf53 (iw := [193, 129, 130, 131]) rfl rfl zgood (by decide +kernel)) ggJ0_indexOf_7cf53_J0_length_8abf5
set_option maxRecDepth 20000 in
theorem tw_wsJ1_indexOf_4cfef : wsJ1_indexOf_4cfef = [196, 197, 38, 35, 39, 198, 34, 36, 199, 200, 150, 201, 202, 203, 204].map wTb.get := rfl
set_option maxRecDepth 20000 in
theorem tm_wsJ1_indexOf_4cfef : zmk [196, 197, 38, 35, 39, 198, 34, 36, 199, 200, 150, 201, 202, 203, 204] = 51321583788521503352369107030105761676338827563434027452989440 := by decide +kernel
set_option maxRecDepth 20000 in
theorem ggJ0_indexOf_7cf53_J1_indexOf_4cfef : GoodIn wsJ0_indexOf_7cf53 wsJ1_indexOf_4cfef := goodIn_m tw_wsJ0_indexOf_7cf53 tm_wsJ0_indexOf_7cf53 tw_wsJ1_indexOf_4cfef tm_wsJ1_indexOf_4cfef zgood (by decide +kernel)
set_option maxRecDepth 20000 in
theorem gJ0_indexOf_7cf53_J1_indexOf_4cfef : GoodIn wsJ0_indexOf_7cf53 (va_wsS RJ0 637 yJ1_indexOf_4cfef wsJ1_indexOf_4cfef) := goodIn_app (goodIn_m tw_wsJ0_indexOf_7cf53 tm_wsJ0_indexOf_7cf53 (iw := [194, 195, 150]) rfl rfl zgood (by decide +kernel)) ggJ0_indexOf_7cf53_J1_indexOf_4cfef
set_option maxRecDepth 20000 in
theorem tw_wsJ2_indexOf_4cfef : wsJ2_indexOf_4cfef = [207, 208, 38, 35, 39, 209, 34, 36, 210, 211, 212, 162, 213, 214, 215, 216, 167, 168, 169, 217, 218, 131, 219, 155, 220, 221, 158, 222, 223, 224, 225, 171, 172, 173, 174, 175, 176, 226, 227, 228, 229, 230, 231, 232, 233, 234, 235, 236, 237, 238, 239, 240].map wTb.get := rfl
set_option maxRecDepth 20000 in
theorem tm_wsJ2_indexOf_4cfef : zmk [207, 208, 38, 35, 39, 209, 34, 36, 210, 211, 212, 162, 213, 214, 215, 216, 167, 168, 169, 217, 218, 131, 219, 155, 220, 221, 158, 222, 223, 224, 225, 171, 172, 173, 174, 175, 176, 226, 227, 228, 229, 230, 231, 232, 233, 234, 235, 236, 237, 238, 239, 240] = 3533694129351080589691328795992384336155375641128293196536251976649801728 := by decide +kernel
set_option maxRecDepth 20000 in
theorem ggJ0_indexOf_7cf53_J2_indexOf_4cfef : GoodIn wsJ0_indexOf_7cf53 wsJ2_indexOf_4cfef := goodIn_m tw_wsJ0_indexOf_7cf53 tm_wsJ0_indexOf_7cf53 tw_wsJ2_indexOf_4cfef tm_wsJ2_indexOf_4cfef zgood (by decide +kernel)
set_option maxRecDepth 20000 in
theorem gJ0_indexOf_7cf53_J2_indexOf_4cfef : GoodIn wsJ0_indexOf_7cf53 (va_wsS RJ0 640 yJ2_indexOf_4cfef wsJ2_indexOf_4cfef) := goodIn_app (goodIn_m tw_wsJ0_indexOf_7cf53 tm_wsJ0_indexOf_7cf53 (iw := [205, 206, 162]) rfl rfl zgood (by decide +kernel)) ggJ0_indexOf_7cf53_J2_indexOf_4cfef
set_option maxRecDepth 20000 in
theorem tw_wsJ0_checkIndex_df160 : wsJ0_checkIndex_df160 = [154, 155, 156, 157, 158, 159].map wTb.get := rfl
set_option maxRecDepth 20000 in
theorem tm_wsJ0_checkIndex_df160 : zmk [154, 155, 156, 157, 158, 159] = 1438665674247607560106752257205091097473808596992 := by decide +kernel
set_option maxRecDepth 20000 in
theorem tw_wsJ3_checkIndex_8e157 : wsJ3_checkIndex_8e157 = [159].map wTb.get := rfl
set_option maxRecDepth 20000 in
theorem tm_wsJ3_checkIndex_8e157 : zmk [159] = 730750818665451459101842416358141509827966271488 := by decide +kernel
set_option maxRecDepth 20000 in
theorem ggJ0_checkIndex_df160_J3_checkIndex_8e157 : GoodIn wsJ0_checkIndex_df160 wsJ3_checkIndex_8e157 := goodIn_m tw_wsJ0_checkIndex_df160 tm_wsJ0_checkIndex_df160 tw_wsJ3_checkIndex_8e157 tm_wsJ3_checkIndex_8e157 zgood (by decide +kernel)
set_option maxRecDepth 20000 in
theorem gJ0_checkIndex_df160_J3_checkIndex_8e157 : GoodIn wsJ0_checkIndex_df160 (va_wsS RJ0 1059 yJ3_checkIndex_8e157 wsJ3_checkIndex_8e157) := goodIn_app (goodIn_m tw_wsJ0_checkIndex_df160 tm_wsJ0_checkIndex_df160 (iw := [156, 157, 158]) rfl rfl zgood (by decide +kernel)) ggJ0_checkIndex_df160_J3_checkIndex_8e157
set_option maxRecDepth 20000 in
theorem tw_wsJ0_checkBoundsBeginEnd_23922 : wsJ0_checkBoundsBeginEnd_23922 = [219, 155, 220, 221, 158, 222].map wTb.get := rfl
set_option maxRecDepth 20000 in
theorem tm_wsJ0_checkBoundsBeginEnd_23922 : zmk [219, 155, 220, 221, 158, 222] = 12637475000226862404161210657539768324012197807267347949795548332032 := by decide +kernel
set_option maxRecDepth 20000 in
theorem tw_wsJ3_checkFromToIndex_8c36e : wsJ3_checkFromToIndex_8c36e = [222].map wTb.get := rfl
set_option maxRecDepth 20000 in
theorem tm_wsJ3_checkFromToIndex_8c36e : zmk [222] = 6739986666787659948666753771754907668409286105635143120275902562304 := by decide +kernel
set_option maxRecDepth 20000 in
theorem ggJ0_checkBoundsBeginEnd_23922_J3_checkFromToIndex_8c36e : GoodIn wsJ0_checkBoundsBeginEnd_23922 wsJ3_checkFromToIndex_8c36e := goodIn_m tw_wsJ0_checkBoundsBeginEnd_23922 tm_wsJ0_checkBoundsBeginEnd_23922 tw_wsJ3_checkFromToIndex_8c36e tm_wsJ3_checkFromToIndex_8c36e zgood (by decide +kernel)
set_option maxRecDepth 20000 in
theorem gJ0_checkBoundsBeginEnd_23922_J3_checkFromToIndex_8c36e : GoodIn wsJ0_checkBoundsBeginEnd_23922 (va_wsS RJ0 1062 yJ3_checkFromToIndex_8c36e wsJ3_checkFromToIndex_8c36e) := goodIn_app (goodIn_m tw_wsJ0_checkBoundsBeginEnd_23922 tm_wsJ0_checkBoundsBeginEnd_23922 (iw := [220, 221, 158]) rfl rfl zgood (by decide +kernel)) ggJ0_checkBoundsBeginEnd_23922_J3_checkFromToIndex_8c36e
set_option maxRecDepth 20000 in
theorem ggJ1_charAt_3b067_J0_checkIndex_df160 : GoodIn wsJ1_charAt_3b067 wsJ0_checkIndex_df160 := goodIn_m tw_wsJ1_charAt_3b067 tm_wsJ1_charAt_3b067 tw_wsJ0_checkIndex_df160 tm_wsJ0_checkIndex_df160 zgood (by decide +kernel)
set_option maxRecDepth 20000 in
theorem gJ1_charAt_3b067_J0_checkIndex_df160 : GoodIn wsJ1_charAt_3b067 (va_wsS RJ1 9 yJ0_checkIndex_df160 wsJ0_checkIndex_df160) := goodIn_app (goodIn_m tw_wsJ1_charAt_3b067 tm_wsJ1_charAt_3b067 (iw := [152, 153, 131]) rfl rfl zgood (by decide +kernel)) ggJ1_charAt_3b067_J0_checkIndex_df160
set_option maxRecDepth 20000 in
theorem tw_wsJ1_canEncode_9a6ad : wsJ1_canEncode_9a6ad = [201].map wTb.get := rfl
set_option maxRecDepth 20000 in
theorem tm_wsJ1_canEncode_9a6ad : zmk [201] = 3213876088517980551083924184682325205044405987565585670602752 := by decide +kernel
set_option maxRecDepth 20000 in
theorem ggJ1_indexOf_4cfef_J1_canEncode_9a6ad : GoodIn wsJ1_indexOf_4cfef wsJ1_canEncode_9a6ad := goodIn_m tw_wsJ1_indexOf_4cfef tm_wsJ1_indexOf_4cfef tw_wsJ1_canEncode_9a6ad tm_wsJ1_canEncode_9a6ad zgood (by decide +kernel)
set_option maxRecDepth 20000 in
theorem gJ1_indexOf_4cfef_J1_canEncode_9a6ad : GoodIn wsJ1_indexOf_4cfef (va_wsS RJ1 88 yJ1_canEncode_9a6ad wsJ1_canEncode_9a6ad) := goodIn_app (goodIn_m tw_wsJ1_indexOf_4cfef tm_wsJ1_indexOf_4cfef (iw := [199, 200, 150]) rfl rfl zgood (by decide +kernel)) ggJ1_indexOf_4cfef_J1_canEncode_9a6ad
set_option maxRecDepth 20000 in
theorem tw_wsJ1_indexOfChar_4cfef : wsJ1_indexOfChar_4cfef = [204].map wTb.get := rfl
set_option maxRecDepth 20000 in
theorem tm_wsJ1_indexOfChar_4cfef : zmk [204] = 25711008708143844408671393477458601640355247900524685364822016 := by decide +kernel
set_option maxRecDepth 20000 in
theorem ggJ1_indexOf_4cfef_J1_indexOfChar_4cfef : GoodIn wsJ1_indexOf_4cfef wsJ1_indexOfChar_4cfef := goodIn_m tw_wsJ1_indexOf_4cfef tm_wsJ1_indexOf_4cfef tw_wsJ1_indexOfChar_4cfef tm_wsJ1_indexOfChar_4cfef zgood (by decide +kernel)
set_option maxRecDepth 20000 in
theorem gJ1_indexOf_4cfef_J1_indexOfChar_4cfef : GoodIn wsJ1_indexOf_4cfef (va_wsS RJ1 95 yJ1_indexOfChar_4cfef wsJ1_indexOfChar_4cfef) := goodIn_app (goodIn_m tw_wsJ1_indexOf_4cfef tm_wsJ1_indexOf_4cfef (iw := [202, 203, 150]) rfl rfl zgood (by decide +kernel)) ggJ1_indexOf_4cfef_J1_indexOfChar_4cfef
set_option maxRecDepth 20000 in
theorem tw_wsJ2_getChar_3b067 : wsJ2_getChar_3b067 = [173, 174, 175, 176, 167, 168, 162, 169].map wTb.get := rfl
set_option maxRecDepth 20000 in
theorem tm_wsJ2_getChar_3b067 : zmk [173, 174, 175, 176, 167, 168, 162, 169] = 180904672668819163215252108593621512173011330169569280 := by decide +kernel
set_option maxRecDepth 20000 in
theorem tw_wsJ2_length_9d52b : wsJ2_length_9d52b = [169].map wTb.get := rfl
set_option maxRecDepth 20000 in
theorem tm_wsJ2_length_9d52b : zmk [169] = 748288838313422294120286634350736906063837462003712 := by decide +kernel
set_option maxRecDepth 20000 in
theorem ggJ2_getChar_3b067_J2_length_9d52b : GoodIn wsJ2_getChar_3b067 wsJ2_length_9d52b := goodIn_m tw_wsJ2_getChar_3b067 tm_wsJ2_getChar_3b067 tw_wsJ2_length_9d52b tm_wsJ2_length_9d52b zgood (by decide +kernel)
set_option maxRecDepth 20000 in
theorem gJ2_getChar_3b067_J2_length_9d52b : GoodIn wsJ2_getChar_3b067 (va_wsS RJ2 48 yJ2_length_9d52b wsJ2_length_9d52b) := goodIn_app (goodIn_m tw_wsJ2_getChar_3b067 tm_wsJ2_getChar_3b067 (iw := [167, 168, 162]) rfl rfl zgood (by decide +kernel)) ggJ2_getChar_3b067_J2_length_9d52b
set_option maxRecDepth 20000 in
theorem tw_wsJ2_indexOfChar_4cfef : wsJ2_indexOfChar_4cfef = [213, 214, 215, 162, 216, 167, 168, 169, 217, 218, 131, 219, 155, 220, 221, 158, 222, 223, 224, 225, 171, 172, 173, 174, 175, 176].map wTb.get := rfl
set_option maxRecDepth 20000 in
theorem tm_wsJ2_indexOfChar_4cfef : zmk [213, 214, 215, 162, 216, 167, 168, 169, 217, 218, 131, 219, 155, 220, 221, 158, 222, 223, 224, 225, 171, 172, 173, 174, 175, 176] = 107826622632144179414880596513070383967169215700500718521619742457856 := by decide +kernel
set_option maxRecDepth 20000 in
theorem ggJ2_indexOf_4cfef_J2_indexOfChar_4cfef : GoodIn wsJ2_indexOf_4cfef wsJ2_indexOfChar_4cfef := goodIn_m tw_wsJ2_indexOf_4cfef tm_wsJ2_indexOf_4cfef tw_wsJ2_indexOfChar_4cfef tm_wsJ2_indexOfChar_4cfef zgood (by decide +kernel)
set_option maxRecDepth 20000 in
theorem gJ2_indexOf_4cfef_J2_indexOfChar_4cfef : GoodIn wsJ2_indexOf_4cfef (va_wsS RJ2 228 yJ2_indexOfChar_4cfef wsJ2_indexOfChar_4cfef) := goodIn_app (goodIn_m tw_wsJ2_indexOf_4cfef tm_wsJ2_indexOf_4cfef (iw := [211, 212, 162]) rfl rfl zgood (by decide +kernel)) ggJ2_indexOf_4cfef_J2_indexOfChar_4cfef
set_option maxRecDepth 20000 in
theorem tw_wsJ2_indexOfSupplementary_4cfef : wsJ2_indexOfSupplementary_4cfef = [228, 229, 230, 231, 232, 233, 234, 235, 236, 237, 238, 239, 240, 214, 215, 162, 216, 167, 168, 169, 217, 218, 131, 219, 155, 220, 221, 158, 222, 171, 172, 173, 174, 175, 176].map wTb.get := rfl
set_option maxRecDepth 20000 in
theorem tm_wsJ2_indexOfSupplementary_4cfef : zmk [228, 229, 230, 231, 232, 233, 234, 235, 236, 237, 238, 239, 240, 214, 215, 162, 216, 167, 168, 169, 217, 218, 131, 219, 155, 220, 221, 158, 222, 171, 172, 173, 174, 175, 176] = 3533276224055354907300365538048399758781994998788811950729713595138965504 := by decide +kernel
set_option maxRecDepth 20000 in
theorem ggJ2_indexOf_4cfef_J2_indexOfSupplementary_4cfef : GoodIn wsJ2_indexOf_4cfef wsJ2_indexOfSupplementary_4cfef := goodIn_m tw_wsJ2_indexOf_4cfef tm_wsJ2_indexOf_4cfef tw_wsJ2_indexOfSupplementary_4cfef tm_wsJ2_indexOfSupplementary_4cfef zgood (by decide +kernel)
set_option maxRecDepth 20000 in
theorem gJ2_indexOf_4cfef_J2_indexOfSupplementary_4cfef : GoodIn wsJ2_indexOf_4cfef (va_wsS RJ2 232 yJ2_indexOfSupplementary_4cfef wsJ2_indexOfSupplementary_4cfef) := goodIn_app (goodIn_m tw_wsJ2_indexOf_4cfef tm_wsJ2_indexOf_4cfef (iw := [226, 227, 162]) rfl rfl zgood (by decide +kernel)) ggJ2_indexOf_4cfef_J2_indexOfSupplementary_4cfef
set_option maxRecDepth 20000 in
theorem tw_wsJ2_checkBoundsBeginEnd_d044e : wsJ2_checkBoundsBeginEnd_d044e = [216, 167, 168, 162, 169, 217, 218, 131, 219, 155, 220, 221, 158, 222].map wTb.get := rfl
set_option maxRecDepth 20000 in
theorem tm_wsJ2_checkBoundsBeginEnd_d044e : zmk [216, 167, 168, 162, 169, 217, 218, 131, 219, 155, 220, 221, 158, 222] = 13374661041906764026398110451860346668928320627432906278369159544832 := by decide +kernel
set_option maxRecDepth 20000 in
theorem ggJ2_indexOfChar_4cfef_J2_checkBoundsBeginEnd_d044e : GoodIn wsJ2_indexOfChar_4cfef wsJ2_checkBoundsBeginEnd_d044e := goodIn_m tw_wsJ2_indexOfChar_4cfef tm_wsJ2_indexOfChar_4cfef tw_wsJ2_checkBoundsBeginEnd_d044e tm_wsJ2_checkBoundsBeginEnd_d044e zgood (by decide +kernel)
set_option maxRecDepth 20000 in
theorem gJ2_indexOfChar_4cfef_J2_checkBoundsBeginEnd_d044e : GoodIn wsJ2_indexOfChar_4cfef (va_wsS RJ2 96 yJ2_checkBoundsBeginEnd_d044e wsJ2_checkBoundsBeginEnd_d044e) := goodIn_app (goodIn_m tw_wsJ2_indexOfChar_4cfef tm_wsJ2_indexOfChar_4cfef (iw := [214, 215, 162]) rfl rfl zgood (by decide +kernel)) ggJ2_indexOfChar_4cfef_J2_checkBoundsBeginEnd_d044e
set_option maxRecDepth 20000 in
theorem tw_wsJ2_indexOfCharUnsafe_4cfef : wsJ2_indexOfCharUnsafe_4cfef = [225, 171, 172, 162, 173, 174, 175, 176, 167, 168, 169].map wTb.get := rfl
set_option maxRecDepth 20000 in
theorem tm_wsJ2_indexOfCharUnsafe_4cfef : zmk [225, 171, 172, 162, 173, 174, 175, 176, 167, 168, 169] = 53919893334301469473472758754270006042822494675436190739586934112256 := by decide +kernel
set_option maxRecDepth 20000 in
theorem ggJ2_indexOfChar_4cfef_J2_indexOfCharUnsafe_4cfef : GoodIn wsJ2_indexOfChar_4cfef wsJ2_indexOfCharUnsafe_4cfef := goodIn_m tw_wsJ2_indexOfChar_4cfef tm_wsJ2_indexOfChar_4cfef tw_wsJ2_indexOfCharUnsafe_4cfef tm_wsJ2_indexOfCharUnsafe_4cfef zgood (by decide +kernel)
set_option maxRecDepth 20000 in
theorem gJ2_indexOfChar_4cfef_J2_indexOfCharUnsafe_4cfef : GoodIn wsJ2_indexOfChar_4cfef (va_wsS RJ2 244 yJ2_indexOfCharUnsafe_4cfef wsJ2_indexOfCharUnsafe_4cfef) := goodIn_app (goodIn_m tw_wsJ2_indexOfChar_4cfef tm_wsJ2_indexOfChar_4cfef (iw := [223, 224, 162]) rfl rfl zgood (by decide +kernel)) ggJ2_indexOfChar_4cfef_J2_indexOfCharUnsafe_4cfef
set_option maxRecDepth 20000 in
theorem ggJ2_indexOfCharUnsafe_4cfef_J2_getChar_3b067 : GoodIn wsJ2_indexOfCharUnsafe_4cfef wsJ2_getChar_3b067 := goodIn_m tw_wsJ2_indexOfCharUnsafe_4cfef tm_wsJ2_indexOfCharUnsafe_4cfef tw_wsJ2_getChar_3b067 tm_wsJ2_getChar_3b067 zgood (by decide +kernel)
set_option maxRecDepth 20000 in
theorem gJ2_indexOfCharUnsafe_4cfef_J2_getChar_3b067 : GoodIn wsJ2_indexOfCharUnsafe_4cfef (va_wsS RJ2 71 yJ2_getChar_3b067 wsJ2_getChar_3b067) := goodIn_app (goodIn_m tw_wsJ2_indexOfCharUnsafe_4cfef tm_wsJ2_indexOfCharUnsafe_4cfef (iw := [171, 172, 162]) rfl rfl zgood (by decide +kernel)) ggJ2_indexOfCharUnsafe_4cfef_J2_getChar_3b067
set_option maxRecDepth 20000 in
theorem tw_wsJ11_isValidCodePoint_9a6ad : wsJ11_isValidCodePoint_9a6ad = [232].map wTb.get := rfl
set_option maxRecDepth 20000 in
theorem tm_wsJ11_isValidCodePoint_9a6ad : zmk [232] = 6901746346790563787434755862277025452451108972170386555162524223799296 := by decide +kernel
set_option maxRecDepth 20000 in
theorem ggJ2_indexOfSupplementary_4cfef_J11_isValidCodePoint_9a6ad : GoodIn wsJ2_indexOfSupplementary_4cfef wsJ11_isValidCodePoint_9a6ad := goodIn_m tw_wsJ2_indexOfSupplementary_4cfef tm_wsJ2_indexOfSupplementary_4cfef tw_wsJ11_isValidCodePoint_9a6ad tm_wsJ11_isValidCodePoint_9a6ad zgood (by decide +kernel)
set_option maxRecDepth 20000 in
theorem gJ2_indexOfSupplementary_4cfef_J11_isValidCodePoint_9a6ad : GoodIn wsJ2_indexOfSupplementary_4cfef (va_wsS RJ2 164 yJ11_isValidCodePoint_9a6ad wsJ11_isValidCodePoint_9a6ad) := goodIn_app (goodIn_m tw_wsJ2_indexOfSupplementary_4cfef tm_wsJ2_indexOfSupplementary_4cfef (iw := [229, 230, 231]) rfl rfl zgood (by decide +kernel)) ggJ2_indexOfSupplementary_4cfef_J11_isValidCodePoint_9a6ad
set_option maxRecDepth 20000 in
theorem tw_wsJ11_highSurrogate_5068e : wsJ11_highSurrogate_5068e = [235, 236].map wTb.get := rfl
set_option maxRecDepth 20000 in
theorem tm_wsJ11_highSurrogate_5068e : zmk [235, 236] = 165641912322973530898434140694648610858826615332089277323900581371183104 := by decide +kernel
set_option maxRecDepth 20000 in
theorem ggJ2_indexOfSupplementary_4cfef_J11_highSurrogate_5068e : GoodIn wsJ2_indexOfSupplementary_4cfef wsJ11_highSurrogate_5068e := goodIn_m tw_wsJ2_indexOfSupplementary_4cfef tm_wsJ2_indexOfSupplementary_4cfef tw_wsJ11_highSurrogate_5068e tm_wsJ11_highSurrogate_5068e zgood (by decide +kernel)
set_option maxRecDepth 20000 in
theorem gJ2_indexOfSupplementary_4cfef_J11_highSurrogate_5068e : GoodIn wsJ2_indexOfSupplementary_4cfef (va_wsS RJ2 157 yJ11_highSurrogate_5068e wsJ11_highSurrogate_5068e) := goodIn_app (goodIn_m tw_wsJ2_indexOfSupplementary_4cfef tm_wsJ2_indexOfSupplementary_4cfef (iw := [233, 234, 231]) rfl rfl zgood (by decide +kernel)) ggJ2_indexOfSupplementary_4cfef_J11_highSurrogate_5068e
set_option maxRecDepth 20000 in
theorem tw_wsJ11_lowSurrogate_5068e : wsJ11_lowSurrogate_5068e = [239, 240].map wTb.get := rfl
set_option maxRecDepth 20000 in
theorem tm_wsJ11_lowSurrogate_5068e : zmk [239, 240] = 2650270597167576494374946251114377773741225845313428437182409301938929664 := by decide +kernel
set_option maxRecDepth 20000 in
theorem ggJ2_indexOfSupplementary_4cfef_J11_lowSurrogate_5068e : GoodIn wsJ2_indexOfSupplementary_4cfef wsJ11_lowSurrogate_5068e := goodIn_m tw_wsJ2_indexOfSupplementary_4cfef tm_wsJ2_indexOfSupplementary_4cfef tw_wsJ11_lowSurrogate_5068e tm_wsJ11_lowSurrogate_5068e zgood (by decide +kernel)
set_option maxRecDepth 20000 in
theorem gJ2_indexOfSupplementary_4cfef_J11_lowSurrogate_5068e : GoodIn wsJ2_indexOfSupplementary_4cfef (va_wsS RJ2 161 yJ11_lowSurrogate_5068e wsJ11_lowSurrogate_5068e) := goodIn_app (goodIn_m tw_wsJ2_indexOfSupplementary_4cfef tm_wsJ2_indexOfSupplementary_4cfef (iw := [237, 238, 231]) rfl rfl zgood (by decide +kernel)) ggJ2_indexOfSupplementary_4cfef_J11_lowSurrogate_5068e
set_option maxRecDepth 20000 in
theorem ggJ2_indexOfSupplementary_4cfef_J2_checkBoundsBeginEnd_d044e : GoodIn wsJ2_indexOfSupplementary_4cfef wsJ2_checkBoundsBeginEnd_d044e := goodIn_m tw_wsJ2_indexOfSupplementary_4cfef tm_wsJ2_indexOfSupplementary_4cfef tw_wsJ2_checkBoundsBeginEnd_d044e tm_wsJ2_checkBoundsBeginEnd_d044e zgood (by decide +kernel)
set_option maxRecDepth 20000 in
theorem gJ2_indexOfSupplementary_4cfef_J2_checkBoundsBeginEnd_d044e : GoodIn wsJ2_indexOfSupplementary_4cfef (va_wsS RJ2 96 yJ2_checkBoundsBeginEnd_d044e wsJ2_checkBoundsBeginEnd_d044e) := goodIn_app (goodIn_m tw_wsJ2_indexOfSupplementary_4cfef tm_wsJ2_indexOfSupplementary_4cfef (iw := [214, 215, 162]) rfl rfl zgood (by decide +kernel)) ggJ2_indexOfSupplementary_4cfef_J2_checkBoundsBeginEnd_d044e
set_option maxRecDepth 20000 in
theorem ggJ2_indexOfSupplementary_4cfef_J2_getChar_3b067 : GoodIn wsJ2_indexOfSupplementary_4cfef wsJ2_getChar_3b067 := goodIn_m tw_wsJ2_indexOfSupplementary_4cfef tm_wsJ2_indexOfSupplementary_4cfef tw_wsJ2_getChar_3b067 tm_wsJ2_getChar_3b067 zgood (by decide +kernel)
set_option maxRecDepth 20000 in
theorem gJ2_indexOfSupplementary_4cfef_J2_getChar_3b067 : GoodIn wsJ2_indexOfSupplementary_4cfef (va_wsS RJ2 71 yJ2_getChar_3b067 wsJ2_getChar_3b067) := goodIn_app (goodIn_m tw_wsJ2_indexOfSupplementary_4cfef tm_wsJ2_indexOfSupplementary_4cfef (iw := [171, 172, 162]) rfl rfl zgood (by decide +kernel)) ggJ2_indexOfSupplementary_4cfef_J2_getChar_3b067
set_option maxRecDepth 20000 in
theorem tw_wsJ2_checkIndex_2214a : wsJ2_checkIndex_2214a = [166, 167, 168, 162, 169, 170, 153, 131, 154, 155, 156, 157, 158, 159].map wTb.get := rfl
set_option maxRecDepth 20000 in
theorem tm_wsJ2_checkIndex_2214a : zmk [166, 167, 168, 162, 169, 170, 153, 131, 154, 155, 156, 157, 158, 159] = 2906915338672346515563448173692638326994012911697920 := by decide +kernel
set_option maxRecDepth 20000 in
theorem ggJ2_charAt_3b067_J2_checkIndex_2214a : GoodIn wsJ2_charAt_3b067 wsJ2_checkIndex_2214a := goodIn_m tw_wsJ2_charAt_3b067 tm_wsJ2_charAt_3b067 tw_wsJ2_checkIndex_2214a tm_wsJ2_checkIndex_2214a zgood (by decide +kernel)
set_option maxRecDepth 20000 in
theorem gJ2_charAt_3b067_J2_checkIndex_2214a : GoodIn wsJ2_charAt_3b067 (va_wsS RJ2 67 yJ2_checkIndex_2214a wsJ2_checkIndex_2214a) := goodIn_app (goodIn_m tw_wsJ2_charAt_3b067 tm_wsJ2_charAt_3b067 (iw := [164, 165, 162]) rfl rfl zgood (by decide +kernel)) ggJ2_charAt_3b067_J2_checkIndex_2214a
set_option maxRecDepth 20000 in
theorem ggJ2_charAt_3b067_J2_getChar_3b067 : GoodIn wsJ2_charAt_3b067 wsJ2_getChar_3b067 := goodIn_m tw_wsJ2_charAt_3b067 tm_wsJ2_charAt_3b067 tw_wsJ2_getChar_3b067 tm_wsJ2_getChar_3b067 zgood (by decide +kernel)
set_option maxRecDepth 20000 in
theorem gJ2_charAt_3b067_J2_getChar_3b067 : GoodIn wsJ2_charAt_3b067 (va_wsS RJ2 71 yJ2_getChar_3b067 wsJ2_getChar_3b067) := goodIn_app (goodIn_m tw_wsJ2_charAt_3b067 tm_wsJ2_charAt_3b067 (iw := [171, 172, 162]) rfl rfl zgood (by decide +kernel)) ggJ2_charAt_3b067_J2_getChar_3b067
set_option maxRecDepth 20000 in
theorem ggJ2_checkIndex_2214a_J2_length_9d52b : GoodIn wsJ2_checkIndex_2214a wsJ2_length_9d52b := goodIn_m tw_wsJ2_checkIndex_2214a tm_wsJ2_checkIndex_2214a tw_wsJ2_length_9d52b tm_wsJ2_length_9d52b zgood (by decide +kernel)
set_option maxRecDepth 20000 in
theorem gJ2_checkIndex_2214a_J2_length_9d52b : GoodIn wsJ2_checkIndex_2214a (va_wsS RJ2 48 yJ2_length_9d52b wsJ2_length_9d52b) := goodIn_app (goodIn_m tw_wsJ2_checkIndex_2214a tm_wsJ2_checkIndex_2214a (iw := [167, 168, 162]) rfl rfl zgood (by decide +kernel)) ggJ2_checkIndex_2214a_J2_length_9d52b
set_option maxRecDepth 20000 in
theorem ggJ2_checkIndex_2214a_J0_checkIndex_df160 : GoodIn wsJ2_checkIndex_2214a wsJ0_checkIndex_df160 := goodIn_m tw_wsJ2_checkIndex_2214a tm_wsJ2_checkIndex_2214a tw_wsJ0_checkIndex_df160 tm_wsJ0_checkIndex_df160 zgood (by decide +kernel)
set_option maxRecDepth 20000 in
theorem gJ2_checkIndex_2214a_J0_checkIndex_df160 : GoodIn wsJ2_checkIndex_2214a (va_wsS RJ2 414 yJ0_checkIndex_df160 wsJ0_checkIndex_df160) := goodIn_app (goodIn_m tw_wsJ2_checkIndex_2214a tm_wsJ2_checkIndex_2214a (iw := [170, 153, 131]) rfl rfl zgood (by decide +kernel)) ggJ2_checkIndex_2214a_J0_checkIndex_df160
set_option maxRecDepth 20000 in
theorem ggJ2_checkBoundsBeginEnd_d044e_J2_length_9d52b : GoodIn wsJ2_checkBoundsBeginEnd_d044e wsJ2_length_9d52b := goodIn_m tw_wsJ2_checkBoundsBeginEnd_d044e tm_wsJ2_checkBoundsBeginEnd_d044e tw_wsJ2_length_9d52b tm_wsJ2_length_9d52b zgood (by decide +kernel)
set_option maxRecDepth 20000 in
theorem gJ2_checkBoundsBeginEnd_d044e_J2_length_9d52b : GoodIn wsJ2_checkBoundsBeginEnd_d044e (va_wsS RJ2 48 yJ2_length_9d52b wsJ2_length_9d52b) := goodIn_app (goodIn_m tw_wsJ2_checkBoundsBeginEnd_d044e tm_wsJ2_checkBoundsBeginEnd_d044e (iw := [167, 168, 162]) rfl rfl zgood (by decide +kernel)) ggJ2_checkBoundsBeginEnd_d044e_J2_length_9d52b
set_option maxRecDepth 20000 in
theorem ggJ2_checkBoundsBeginEnd_d044e_J0_checkBoundsBeginEnd_23922 : GoodIn wsJ2_checkBoundsBeginEnd_d044e wsJ0_checkBoundsBeginEnd_23922 := goodIn_m tw_wsJ2_checkBoundsBeginEnd_d044e tm_wsJ2_checkBoundsBeginEnd_d044e tw_wsJ0_checkBoundsBeginEnd_23922 tm_wsJ0_checkBoundsBeginEnd_23922 zgood (by decide +kernel)
set_option maxRecDepth 20000 in
theorem gJ2_checkBoundsBeginEnd_d044e_J0_checkBoundsBeginEnd_23922 : GoodIn wsJ2_checkBoundsBeginEnd_d044e (va_wsS RJ2 241 yJ0_checkBoundsBeginEnd_23922 wsJ0_checkBoundsBeginEnd_23922) := goodIn_app (goodIn_m tw_wsJ2_checkBoundsBeginEnd_d044e tm_wsJ2_checkBoundsBeginEnd_d044e (iw := [217, 218, 131]) rfl rfl zgood (by decide +kernel)) ggJ2_checkBoundsBeginEnd_d044e_J0_checkBoundsBeginEnd_23922
