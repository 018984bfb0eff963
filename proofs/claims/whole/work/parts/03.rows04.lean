theorem dX10_words_118 : decode cX10_words 118 = .ok (.iconst 0, 1) := by decide +kernel
theorem dX10_words_119 : decode cX10_words 119 = .ok (.iload_n 2, 1) := by decide +kernel
theorem dX10_words_120 : decode cX10_words 120 = .ok (.invokestatic 98, 3) := by decide +kernel
theorem dX10_words_123 : decode cX10_words 123 = .ok (.ifCond .lt 24, 3) := by decide +kernel
theorem dX10_words_126 : decode cX10_words 126 = .ok (.iconst 1, 1) := by decide +kernel
theorem dX10_words_127 : decode cX10_words 127 = .ok (.iload_n 3, 1) := by decide +kernel
theorem dX10_words_128 : decode cX10_words 128 = .ok (.invokestatic 98, 3) := by decide +kernel
theorem dX10_words_131 : decode cX10_words 131 = .ok (.ifCond .lt 16, 3) := by decide +kernel
theorem dX10_words_134 : decode cX10_words 134 = .ok (.iconst 2, 1) := by decide +kernel
theorem dX10_words_135 : decode cX10_words 135 = .ok (.iload 4, 2) := by decide +kernel
theorem dX10_words_137 : decode cX10_words 137 = .ok (.invokestatic 98, 3) := by decide +kernel
theorem dX10_words_140 : decode cX10_words 140 = .ok (.ifCond .lt 7, 3) := by decide +kernel
theorem dX10_words_143 : decode cX10_words 143 = .ok (.iconst 1, 1) := by decide +kernel
theorem dX10_words_144 : decode cX10_words 144 = .ok (.goto 4, 3) := by decide +kernel
theorem dX10_words_147 : decode cX10_words 147 = .ok (.iconst 0, 1) := by decide +kernel
theorem dX10_words_148 : decode cX10_words 148 = .ok (.istore 5, 2) := by decide +kernel
theorem dX10_words_150 : decode cX10_words 150 = .ok (.aload_n 0, 1) := by decide +kernel
theorem dX10_words_151 : decode cX10_words 151 = .ok (.iload 5, 2) := by decide +kernel
theorem dX10_words_153 : decode cX10_words 153 = .ok (.ifCond .eq 7, 3) := by decide +kernel
theorem dX10_words_156 : decode cX10_words 156 = .ok (.iconst 3, 1) := by decide +kernel
theorem dX10_words_157 : decode cX10_words 157 = .ok (.goto 5, 3) := by decide +kernel
theorem dX10_words_160 : decode cX10_words 160 = .ok (.bipush 6, 2) := by decide +kernel
theorem dX10_words_162 : decode cX10_words 162 = .ok (.putfield 95, 3) := by decide +kernel
theorem dX10_words_165 : decode cX10_words 165 = .ok (.aload_n 0, 1) := by decide +kernel
theorem dX10_words_166 : decode cX10_words 166 = .ok (.iload 5, 2) := by decide +kernel
theorem dX10_words_168 : decode cX10_words 168 = .ok (.ifCond .eq 24, 3) := by decide +kernel
theorem dX10_words_171 : decode cX10_words 171 = .ok (.iconst 0, 1) := by decide +kernel
theorem dX10_words_172 : decode cX10_words 172 = .ok (.iload_n 2, 1) := by decide +kernel
theorem dX10_words_173 : decode cX10_words 173 = .ok (.invokestatic 98, 3) := by decide +kernel
theorem dX10_words_176 : decode cX10_words 176 = .ok (.iconst 1, 1) := by decide +kernel
theorem dX10_words_177 : decode cX10_words 177 = .ok (.iload_n 3, 1) := by decide +kernel
theorem dX10_words_178 : decode cX10_words 178 = .ok (.invokestatic 98, 3) := by decide +kernel
theorem dX10_words_181 : decode cX10_words 181 = .ok (.iand, 1) := by decide +kernel
theorem dX10_words_182 : decode cX10_words 182 = .ok (.iconst 2, 1) := by decide +kernel
theorem dX10_words_183 : decode cX10_words 183 = .ok (.iload 4, 2) := by decide +kernel
theorem dX10_words_185 : decode cX10_words 185 = .ok (.invokestatic 98, 3) := by decide +kernel
theorem dX10_words_188 : decode cX10_words 188 = .ok (.iand, 1) := by decide +kernel
theorem dX10_words_189 : decode cX10_words 189 = .ok (.goto 4, 3) := by decide +kernel
theorem dX10_words_192 : decode cX10_words 192 = .ok (.iconst 0, 1) := by decide +kernel
theorem dX10_words_193 : decode cX10_words 193 = .ok (.putfield 101, 3) := by decide +kernel
theorem dX10_words_196 : decode cX10_words 196 = .ok (.return_, 1) := by decide +kernel
set_option maxRecDepth 20000 in
theorem ggX10_advances_X10_byteAt : GoodIn wsX10_advances wsX10_byteAt := goodIn_r _ [9, 10, 11, 22, 23, 24, 25, 26, 27, 28, 29, 30, 31, 32, 33, 34, 35, 36, 37, 38, 39, 40, 41, 42, 43, 44, 45] (by decide +kernel) (by decide +kernel)
set_option maxRecDepth 20000 in
theorem gX10_advances_X10_byteAt : GoodIn wsX10_advances (wsV RX10 91 RX10 yX10_byteAt wsX10_byteAt) := goodIn_app (goodIn_of _ (by decide +kernel)) ggX10_advances_X10_byteAt
set_option maxRecDepth 20000 in
theorem ggX10_advances_X10_in : GoodIn wsX10_advances wsX10_in := goodIn_r _ [14] (by decide +kernel) (by decide +kernel)
set_option maxRecDepth 20000 in
theorem gX10_advances_X10_in : GoodIn wsX10_advances (va_wsS RX10 48 yX10_in wsX10_in) := goodIn_app (goodIn_of _ (by decide +kernel)) ggX10_advances_X10_in
set_option maxRecDepth 20000 in
theorem ggX10_advances_X10_words : GoodIn wsX10_advances wsX10_words := goodIn_r _ [18, 11, 2, 3, 4, 5, 6, 7, 8, 9, 10, 19, 20, 21, 22, 23, 24, 25, 26, 27, 28, 29, 30, 31, 32, 33, 34, 35, 36, 37, 38, 39, 40, 41, 42, 43, 44, 45] (by decide +kernel) (by decide +kernel)
set_option maxRecDepth 20000 in
theorem gX10_advances_X10_words : GoodIn wsX10_advances (wsV RX10 107 RX10 yX10_words wsX10_words) := goodIn_app (goodIn_of _ (by decide +kernel)) ggX10_advances_X10_words
theorem dX10_advances_0 : decode cX10_advances 0 = .ok (.aload_n 0, 1) := by decide +kernel
theorem dX10_advances_1 : decode cX10_advances 1 = .ok (.aload_n 0, 1) := by decide +kernel
theorem dX10_advances_2 : decode cX10_advances 2 = .ok (.getfield 104, 3) := by decide +kernel
theorem dX10_advances_5 : decode cX10_advances 5 = .ok (.invokevirtual 91, 3) := by decide +kernel
theorem dX10_advances_8 : decode cX10_advances 8 = .ok (.bipush 32, 2) := by decide +kernel
theorem dX10_advances_10 : decode cX10_advances 10 = .ok (.if_icmp .ne 16, 3) := by decide +kernel
theorem dX10_advances_13 : decode cX10_advances 13 = .ok (.aload_n 0, 1) := by decide +kernel
theorem dX10_advances_14 : decode cX10_advances 14 = .ok (.dup, 1) := by decide +kernel
theorem dX10_advances_15 : decode cX10_advances 15 = .ok (.getfield 104, 3) := by decide +kernel
theorem dX10_advances_18 : decode cX10_advances 18 = .ok (.iconst 1, 1) := by decide +kernel
theorem dX10_advances_19 : decode cX10_advances 19 = .ok (.iadd, 1) := by decide +kernel
theorem dX10_advances_20 : decode cX10_advances 20 = .ok (.putfield 104, 3) := by decide +kernel
theorem dX10_advances_23 : decode cX10_advances 23 = .ok (.goto (-23), 3) := by decide +kernel
theorem dX10_advances_26 : decode cX10_advances 26 = .ok (.aload_n 0, 1) := by decide +kernel
theorem dX10_advances_27 : decode cX10_advances 27 = .ok (.aload_n 0, 1) := by decide +kernel
theorem dX10_advances_28 : decode cX10_advances 28 = .ok (.getfield 104, 3) := by decide +kernel
theorem dX10_advances_31 : decode cX10_advances 31 = .ok (.putfield 88, 3) := by decide +kernel
theorem dX10_advances_34 : decode cX10_advances 34 = .ok (.aload_n 0, 1) := by decide +kernel
theorem dX10_advances_35 : decode cX10_advances 35 = .ok (.aload_n 0, 1) := by decide +kernel
theorem dX10_advances_36 : decode cX10_advances 36 = .ok (.getfield 104, 3) := by decide +kernel
theorem dX10_advances_39 : decode cX10_advances 39 = .ok (.invokevirtual 91, 3) := by decide +kernel
theorem dX10_advances_42 : decode cX10_advances 42 = .ok (.istore_n 1, 1) := by decide +kernel
theorem dX10_advances_43 : decode cX10_advances 43 = .ok (.iload_n 1, 1) := by decide +kernel
theorem dX10_advances_44 : decode cX10_advances 44 = .ok (.ifCond .ge 11, 3) := by decide +kernel
theorem dX10_advances_47 : decode cX10_advances 47 = .ok (.aload_n 0, 1) := by decide +kernel
theorem dX10_advances_48 : decode cX10_advances 48 = .ok (.iconst 0, 1) := by decide +kernel
theorem dX10_advances_49 : decode cX10_advances 49 = .ok (.putfield 95, 3) := by decide +kernel
theorem dX10_advances_52 : decode cX10_advances 52 = .ok (.goto 214, 3) := by decide +kernel
theorem dX10_advances_55 : decode cX10_advances 55 = .ok (.iload_n 1, 1) := by decide +kernel
theorem dX10_advances_56 : decode cX10_advances 56 = .ok (.bipush 97, 2) := by decide +kernel
theorem dX10_advances_58 : decode cX10_advances 58 = .ok (.bipush 122, 2) := by decide +kernel
theorem dX10_advances_60 : decode cX10_advances 60 = .ok (.invokestatic 48, 3) := by decide +kernel
theorem dX10_advances_63 : decode cX10_advances 63 = .ok (.ifCond .eq 50, 3) := by decide +kernel
theorem dX10_advances_66 : decode cX10_advances 66 = .ok (.aload_n 0, 1) := by decide +kernel
theorem dX10_advances_67 : decode cX10_advances 67 = .ok (.aload_n 0, 1) := by decide +kernel
theorem dX10_advances_68 : decode cX10_advances 68 = .ok (.getfield 104, 3) := by decide +kernel
theorem dX10_advances_71 : decode cX10_advances 71 = .ok (.invokevirtual 91, 3) := by decide +kernel
theorem dX10_advances_74 : decode cX10_advances 74 = .ok (.bipush 97, 2) := by decide +kernel
theorem dX10_advances_76 : decode cX10_advances 76 = .ok (.bipush 122, 2) := by decide +kernel
theorem dX10_advances_78 : decode cX10_advances 78 = .ok (.invokestatic 48, 3) := by decide +kernel
theorem dX10_advances_81 : decode cX10_advances 81 = .ok (.ifCond .eq 16, 3) := by decide +kernel
theorem dX10_advances_84 : decode cX10_advances 84 = .ok (.aload_n 0, 1) := by decide +kernel
theorem dX10_advances_85 : decode cX10_advances 85 = .ok (.dup, 1) := by decide +kernel
theorem dX10_advances_86 : decode cX10_advances 86 = .ok (.getfield 104, 3) := by decide +kernel
theorem dX10_advances_89 : decode cX10_advances 89 = .ok (.iconst 1, 1) := by decide +kernel
theorem dX10_advances_90 : decode cX10_advances 90 = .ok (.iadd, 1) := by decide +kernel
theorem dX10_advances_91 : decode cX10_advances 91 = .ok (.putfield 104, 3) := by decide +kernel
theorem dX10_advances_94 : decode cX10_advances 94 = .ok (.goto (-28), 3) := by decide +kernel
theorem dX10_advances_97 : decode cX10_advances 97 = .ok (.aload_n 0, 1) := by decide +kernel
theorem dX10_advances_98 : decode cX10_advances 98 = .ok (.aload_n 0, 1) := by decide +kernel
theorem dX10_advances_99 : decode cX10_advances 99 = .ok (.getfield 104, 3) := by decide +kernel
theorem dX10_advances_102 : decode cX10_advances 102 = .ok (.aload_n 0, 1) := by decide +kernel
theorem dX10_advances_103 : decode cX10_advances 103 = .ok (.getfield 88, 3) := by decide +kernel
theorem dX10_advances_106 : decode cX10_advances 106 = .ok (.isub, 1) := by decide +kernel
theorem dX10_advances_107 : decode cX10_advances 107 = .ok (.invokevirtual 107, 3) := by decide +kernel
theorem dX10_advances_110 : decode cX10_advances 110 = .ok (.goto 156, 3) := by decide +kernel
theorem dX10_advances_113 : decode cX10_advances 113 = .ok (.iload_n 1, 1) := by decide +kernel
theorem dX10_advances_114 : decode cX10_advances 114 = .ok (.bipush 48, 2) := by decide +kernel
theorem dX10_advances_116 : decode cX10_advances 116 = .ok (.bipush 57, 2) := by decide +kernel
theorem dX10_advances_118 : decode cX10_advances 118 = .ok (.invokestatic 48, 3) := by decide +kernel
theorem dX10_advances_121 : decode cX10_advances 121 = .ok (.ifCond .eq 119, 3) := by decide +kernel
theorem dX10_advances_124 : decode cX10_advances 124 = .ok (.aload_n 0, 1) := by decide +kernel
theorem dX10_advances_125 : decode cX10_advances 125 = .ok (.iconst 0, 1) := by decide +kernel
theorem dX10_advances_126 : decode cX10_advances 126 = .ok (.putfield 101, 3) := by decide +kernel
theorem dX10_advances_129 : decode cX10_advances 129 = .ok (.aload_n 0, 1) := by decide +kernel
theorem dX10_advances_130 : decode cX10_advances 130 = .ok (.aload_n 0, 1) := by decide +kernel
theorem dX10_advances_131 : decode cX10_advances 131 = .ok (.getfield 104, 3) := by decide +kernel
theorem dX10_advances_134 : decode cX10_advances 134 = .ok (.invokevirtual 91, 3) := by decide +kernel
theorem dX10_advances_137 : decode cX10_advances 137 = .ok (.bipush 48, 2) := by decide +kernel
theorem dX10_advances_139 : decode cX10_advances 139 = .ok (.bipush 57, 2) := by decide +kernel
theorem dX10_advances_141 : decode cX10_advances 141 = .ok (.invokestatic 48, 3) := by decide +kernel
theorem dX10_advances_144 : decode cX10_advances 144 = .ok (.ifCond .eq 55, 3) := by decide +kernel
theorem dX10_advances_147 : decode cX10_advances 147 = .ok (.aload_n 0, 1) := by decide +kernel
theorem dX10_advances_148 : decode cX10_advances 148 = .ok (.aload_n 0, 1) := by decide +kernel
theorem dX10_advances_149 : decode cX10_advances 149 = .ok (.getfield 101, 3) := by decide +kernel
theorem dX10_advances_152 : decode cX10_advances 152 = .ok (.bipush 99, 2) := by decide +kernel
theorem dX10_advances_154 : decode cX10_advances 154 = .ok (.if_icmp .le 10, 3) := by decide +kernel
theorem dX10_advances_157 : decode cX10_advances 157 = .ok (.aload_n 0, 1) := by decide +kernel
theorem dX10_advances_158 : decode cX10_advances 158 = .ok (.getfield 101, 3) := by decide +kernel
theorem dX10_advances_161 : decode cX10_advances 161 = .ok (.goto 22, 3) := by decide +kernel
theorem dX10_advances_164 : decode cX10_advances 164 = .ok (.bipush 10, 2) := by decide +kernel
theorem dX10_advances_166 : decode cX10_advances 166 = .ok (.aload_n 0, 1) := by decide +kernel
theorem dX10_advances_167 : decode cX10_advances 167 = .ok (.getfield 101, 3) := by decide +kernel
theorem dX10_advances_170 : decode cX10_advances 170 = .ok (.imul, 1) := by decide +kernel
theorem dX10_advances_171 : decode cX10_advances 171 = .ok (.aload_n 0, 1) := by decide +kernel
theorem dX10_advances_172 : decode cX10_advances 172 = .ok (.aload_n 0, 1) := by decide +kernel
theorem dX10_advances_173 : decode cX10_advances 173 = .ok (.getfield 104, 3) := by decide +kernel
theorem dX10_advances_176 : decode cX10_advances 176 = .ok (.invokevirtual 91, 3) := by decide +kernel
theorem dX10_advances_179 : decode cX10_advances 179 = .ok (.iadd, 1) := by decide +kernel
theorem dX10_advances_180 : decode cX10_advances 180 = .ok (.bipush 48, 2) := by decide +kernel
theorem dX10_advances_182 : decode cX10_advances 182 = .ok (.isub, 1) := by decide +kernel
theorem dX10_advances_183 : decode cX10_advances 183 = .ok (.putfield 101, 3) := by decide +kernel
theorem dX10_advances_186 : decode cX10_advances 186 = .ok (.aload_n 0, 1) := by decide +kernel
theorem dX10_advances_187 : decode cX10_advances 187 = .ok (.dup, 1) := by decide +kernel
theorem dX10_advances_188 : decode cX10_advances 188 = .ok (.getfield 104, 3) := by decide +kernel
theorem dX10_advances_191 : decode cX10_advances 191 = .ok (.iconst 1, 1) := by decide +kernel
theorem dX10_advances_192 : decode cX10_advances 192 = .ok (.iadd, 1) := by decide +kernel
theorem dX10_advances_193 : decode cX10_advances 193 = .ok (.putfield 104, 3) := by decide +kernel
theorem dX10_advances_196 : decode cX10_advances 196 = .ok (.goto (-67), 3) := by decide +kernel
theorem dX10_advances_199 : decode cX10_advances 199 = .ok (.aload_n 0, 1) := by decide +kernel
theorem dX10_advances_200 : decode cX10_advances 200 = .ok (.aload_n 0, 1) := by decide +kernel
theorem dX10_advances_201 : decode cX10_advances 201 = .ok (.getfield 101, 3) := by decide +kernel
theorem dX10_advances_204 : decode cX10_advances 204 = .ok (.bipush 99, 2) := by decide +kernel
theorem dX10_advances_206 : decode cX10_advances 206 = .ok (.if_icmp .gt 22, 3) := by decide +kernel
theorem dX10_advances_209 : decode cX10_advances 209 = .ok (.iload_n 1, 1) := by decide +kernel
theorem dX10_advances_210 : decode cX10_advances 210 = .ok (.bipush 48, 2) := by decide +kernel
theorem dX10_advances_212 : decode cX10_advances 212 = .ok (.if_icmp .ne 21, 3) := by decide +kernel
theorem dX10_advances_215 : decode cX10_advances 215 = .ok (.aload_n 0, 1) := by decide +kernel
theorem dX10_advances_216 : decode cX10_advances 216 = .ok (.getfield 104, 3) := by decide +kernel
theorem dX10_advances_219 : decode cX10_advances 219 = .ok (.aload_n 0, 1) := by decide +kernel
theorem dX10_advances_220 : decode cX10_advances 220 = .ok (.getfield 88, 3) := by decide +kernel
theorem dX10_advances_223 : decode cX10_advances 223 = .ok (.isub, 1) := by decide +kernel
theorem dX10_advances_224 : decode cX10_advances 224 = .ok (.iconst 1, 1) := by decide +kernel
theorem dX10_advances_225 : decode cX10_advances 225 = .ok (.if_icmp .le 8, 3) := by decide +kernel
theorem dX10_advances_228 : decode cX10_advances 228 = .ok (.bipush 6, 2) := by decide +kernel
theorem dX10_advances_230 : decode cX10_advances 230 = .ok (.goto 4, 3) := by decide +kernel
theorem dX10_advances_233 : decode cX10_advances 233 = .ok (.iconst 4, 1) := by decide +kernel
theorem dX10_advances_234 : decode cX10_advances 234 = .ok (.putfield 95, 3) := by decide +kernel
theorem dX10_advances_237 : decode cX10_advances 237 = .ok (.goto 29, 3) := by decide +kernel
theorem dX10_advances_240 : decode cX10_advances 240 = .ok (.aload_n 0, 1) := by decide +kernel
theorem dX10_advances_241 : decode cX10_advances 241 = .ok (.dup, 1) := by decide +kernel
theorem dX10_advances_242 : decode cX10_advances 242 = .ok (.getfield 104, 3) := by decide +kernel
theorem dX10_advances_245 : decode cX10_advances 245 = .ok (.iconst 1, 1) := by decide +kernel
theorem dX10_advances_246 : decode cX10_advances 246 = .ok (.iadd, 1) := by decide +kernel
theorem dX10_advances_247 : decode cX10_advances 247 = .ok (.putfield 104, 3) := by decide +kernel
theorem dX10_advances_250 : decode cX10_advances 250 = .ok (.aload_n 0, 1) := by decide +kernel
theorem dX10_advances_251 : decode cX10_advances 251 = .ok (.iload_n 1, 1) := by decide +kernel
theorem dX10_advances_252 : decode cX10_advances 252 = .ok (.bipush 59, 2) := by decide +kernel
theorem dX10_advances_254 : decode cX10_advances 254 = .ok (.if_icmp .ne 7, 3) := by decide +kernel
theorem dX10_advances_257 : decode cX10_advances 257 = .ok (.iconst 5, 1) := by decide +kernel
theorem dX10_advances_258 : decode cX10_advances 258 = .ok (.goto 5, 3) := by decide +kernel
theorem dX10_advances_261 : decode cX10_advances 261 = .ok (.bipush 6, 2) := by decide +kernel
theorem dX10_advances_263 : decode cX10_advances 263 = .ok (.putfield 95, 3) := by decide +kernel
theorem dX10_advances_266 : decode cX10_advances 266 = .ok (.return_, 1) := by decide +kernel
theorem dX10_isWell_0 : decode cX10_isWell 0 = .ok (.aload_n 0, 1) := by decide +kernel
theorem dX10_isWell_1 : decode cX10_isWell 1 = .ok (.getfield 111, 3) := by decide +kernel
theorem dX10_isWell_4 : decode cX10_isWell 4 = .ok (.ifCond .ge 7, 3) := by decide +kernel
theorem dX10_isWell_7 : decode cX10_isWell 7 = .ok (.iconst 1, 1) := by decide +kernel
theorem dX10_isWell_8 : decode cX10_isWell 8 = .ok (.goto 4, 3) := by decide +kernel
theorem dX10_isWell_11 : decode cX10_isWell 11 = .ok (.iconst 0, 1) := by decide +kernel
theorem dX10_isWell_12 : decode cX10_isWell 12 = .ok (.ireturn, 1) := by decide +kernel
set_option maxRecDepth 20000 in
theorem ggX10_wants_X10_isWell : GoodIn wsX10_wants wsX10_isWell := goodIn_r _ [7, 2, 8, 9, 10, 11, 12, 13, 14, 15, 16, 17, 18, 19, 20, 21, 22, 23, 24, 25, 26, 27, 28, 29, 30, 31] (by decide +kernel) (by decide +kernel)
set_option maxRecDepth 20000 in
theorem gX10_wants_X10_isWell : GoodIn wsX10_wants (wsV RX10 114 RX10 yX10_isWell wsX10_isWell) := goodIn_app (goodIn_of _ (by decide +kernel)) ggX10_wants_X10_isWell
theorem dX10_wants_0 : decode cX10_wants 0 = .ok (.aload_n 0, 1) := by decide +kernel
theorem dX10_wants_1 : decode cX10_wants 1 = .ok (.invokevirtual 114, 3) := by decide +kernel
theorem dX10_wants_4 : decode cX10_wants 4 = .ok (.ifCond .eq 15, 3) := by decide +kernel
theorem dX10_wants_7 : decode cX10_wants 7 = .ok (.iload_n 1, 1) := by decide +kernel
theorem dX10_wants_8 : decode cX10_wants 8 = .ok (.ifCond .ne 11, 3) := by decide +kernel
theorem dX10_wants_11 : decode cX10_wants 11 = .ok (.aload_n 0, 1) := by decide +kernel
theorem dX10_wants_12 : decode cX10_wants 12 = .ok (.aload_n 0, 1) := by decide +kernel
theorem dX10_wants_13 : decode cX10_wants 13 = .ok (.getfield 88, 3) := by decide +kernel
theorem dX10_wants_16 : decode cX10_wants 16 = .ok (.putfield 111, 3) := by decide +kernel
theorem dX10_wants_19 : decode cX10_wants 19 = .ok (.return_, 1) := by decide +kernel
set_option maxRecDepth 20000 in
theorem ggX10_habit_X10_advances : GoodIn wsX10_habit wsX10_advances := goodIn_r _ [13, 3, 14, 4, 6, 15, 16, 17, 12, 18, 8, 19, 20, 21, 22, 23, 24, 25, 26, 27, 28, 29, 38, 39, 40, 41, 42, 43, 44, 45, 46, 47, 48, 49, 50, 51, 52, 53, 54, 55, 56, 57, 58, 59, 60, 61] (by decide +kernel) (by decide +kernel)
set_option maxRecDepth 20000 in
theorem gX10_habit_X10_advances : GoodIn wsX10_habit (wsV RX10 118 RX10 yX10_advances wsX10_advances) := goodIn_app (goodIn_of _ (by decide +kernel)) ggX10_habit_X10_advances
set_option maxRecDepth 20000 in
theorem ggX10_habit_X10_isWell : GoodIn wsX10_habit wsX10_isWell := goodIn_r _ [33, 2, 38, 39, 40, 41, 42, 43, 44, 45, 46, 47, 48, 49, 50, 51, 52, 53, 54, 55, 56, 57, 58, 59, 60, 61] (by decide +kernel) (by decide +kernel)
set_option maxRecDepth 20000 in
theorem gX10_habit_X10_isWell : GoodIn wsX10_habit (wsV RX10 114 RX10 yX10_isWell wsX10_isWell) := goodIn_app (goodIn_of _ (by decide +kernel)) ggX10_habit_X10_isWell
set_option maxRecDepth 20000 in
theorem ggX10_habit_X10_wants : GoodIn wsX10_habit wsX10_wants := goodIn_r _ [37, 14, 2, 30, 31, 32, 12, 33, 38, 39, 40, 41, 42, 43, 44, 45, 46, 47, 48, 49, 50, 51, 52, 53, 54, 55, 56, 57, 58, 59, 60, 61] (by decide +kernel) (by decide +kernel)
set_option maxRecDepth 20000 in
theorem gX10_habit_X10_wants : GoodIn wsX10_habit (wsV RX10 121 RX10 yX10_wants wsX10_wants) := goodIn_app (goodIn_of _ (by decide +kernel)) ggX10_habit_X10_wants
set_option maxRecDepth 20000 in
theorem ggX10_habit_X10_in : GoodIn wsX10_habit wsX10_in := goodIn_r _ [22] (by decide +kernel) (by decide +kernel)
set_option maxRecDepth 20000 in
theorem gX10_habit_X10_in : GoodIn wsX10_habit (va_wsS RX10 48 yX10_in wsX10_in) := goodIn_app (goodIn_of _ (by decide +kernel)) ggX10_habit_X10_in
theorem dX10_habit_0 : decode cX10_habit 0 = .ok (.aload_n 0, 1) := by decide +kernel
theorem dX10_habit_1 : decode cX10_habit 1 = .ok (.iconst 0, 1) := by decide +kernel
theorem dX10_habit_2 : decode cX10_habit 2 = .ok (.putfield 45, 3) := by decide +kernel
theorem dX10_habit_5 : decode cX10_habit 5 = .ok (.aload_n 0, 1) := by decide +kernel
theorem dX10_habit_6 : decode cX10_habit 6 = .ok (.iconst (-1), 1) := by decide +kernel
theorem dX10_habit_7 : decode cX10_habit 7 = .ok (.putfield 111, 3) := by decide +kernel
theorem dX10_habit_10 : decode cX10_habit 10 = .ok (.aload_n 0, 1) := by decide +kernel
theorem dX10_habit_11 : decode cX10_habit 11 = .ok (.iconst 0, 1) := by decide +kernel
theorem dX10_habit_12 : decode cX10_habit 12 = .ok (.putfield 104, 3) := by decide +kernel
theorem dX10_habit_15 : decode cX10_habit 15 = .ok (.iconst 0, 1) := by decide +kernel
theorem dX10_habit_16 : decode cX10_habit 16 = .ok (.istore_n 1, 1) := by decide +kernel
theorem dX10_habit_17 : decode cX10_habit 17 = .ok (.aload_n 0, 1) := by decide +kernel
theorem dX10_habit_18 : decode cX10_habit 18 = .ok (.invokevirtual 118, 3) := by decide +kernel
theorem dX10_habit_21 : decode cX10_habit 21 = .ok (.aload_n 0, 1) := by decide +kernel
theorem dX10_habit_22 : decode cX10_habit 22 = .ok (.invokevirtual 114, 3) := by decide +kernel
theorem dX10_habit_25 : decode cX10_habit 25 = .ok (.ifCond .eq 219, 3) := by decide +kernel
theorem dX10_habit_28 : decode cX10_habit 28 = .ok (.aload_n 0, 1) := by decide +kernel
theorem dX10_habit_29 : decode cX10_habit 29 = .ok (.getfield 95, 3) := by decide +kernel
theorem dX10_habit_32 : decode cX10_habit 32 = .ok (.ifCond .eq 212, 3) := by decide +kernel
theorem dX10_habit_35 : decode cX10_habit 35 = .ok (.aload_n 0, 1) := by decide +kernel
theorem dX10_habit_36 : decode cX10_habit 36 = .ok (.getfield 95, 3) := by decide +kernel
theorem dX10_habit_39 : decode cX10_habit 39 = .ok (.iconst 2, 1) := by decide +kernel
theorem dX10_habit_40 : decode cX10_habit 40 = .ok (.if_icmp .ne 7, 3) := by decide +kernel
theorem dX10_habit_43 : decode cX10_habit 43 = .ok (.iconst 1, 1) := by decide +kernel
theorem dX10_habit_44 : decode cX10_habit 44 = .ok (.goto 4, 3) := by decide +kernel
theorem dX10_habit_47 : decode cX10_habit 47 = .ok (.iconst 0, 1) := by decide +kernel
theorem dX10_habit_48 : decode cX10_habit 48 = .ok (.istore_n 2, 1) := by decide +kernel
theorem dX10_habit_49 : decode cX10_habit 49 = .ok (.aload_n 0, 1) := by decide +kernel
theorem dX10_habit_50 : decode cX10_habit 50 = .ok (.iload_n 1, 1) := by decide +kernel
theorem dX10_habit_51 : decode cX10_habit 51 = .ok (.bipush 12, 2) := by decide +kernel
theorem dX10_habit_53 : decode cX10_habit 53 = .ok (.if_icmp .ge 19, 3) := by decide +kernel
theorem dX10_habit_56 : decode cX10_habit 56 = .ok (.iload_n 2, 1) := by decide +kernel
theorem dX10_habit_57 : decode cX10_habit 57 = .ok (.ifCond .ne 11, 3) := by decide +kernel
theorem dX10_habit_60 : decode cX10_habit 60 = .ok (.aload_n 0, 1) := by decide +kernel
theorem dX10_habit_61 : decode cX10_habit 61 = .ok (.getfield 95, 3) := by decide +kernel
theorem dX10_habit_64 : decode cX10_habit 64 = .ok (.iconst 1, 1) := by decide +kernel
theorem dX10_habit_65 : decode cX10_habit 65 = .ok (.if_icmp .ne 7, 3) := by decide +kernel
theorem dX10_habit_68 : decode cX10_habit 68 = .ok (.iconst 1, 1) := by decide +kernel
theorem dX10_habit_69 : decode cX10_habit 69 = .ok (.goto 4, 3) := by decide +kernel
theorem dX10_habit_72 : decode cX10_habit 72 = .ok (.iconst 0, 1) := by decide +kernel
theorem dX10_habit_73 : decode cX10_habit 73 = .ok (.invokevirtual 121, 3) := by decide +kernel
theorem dX10_habit_76 : decode cX10_habit 76 = .ok (.aload_n 0, 1) := by decide +kernel
theorem dX10_habit_77 : decode cX10_habit 77 = .ok (.invokevirtual 114, 3) := by decide +kernel
theorem dX10_habit_80 : decode cX10_habit 80 = .ok (.ifCond .eq 7, 3) := by decide +kernel
theorem dX10_habit_83 : decode cX10_habit 83 = .ok (.aload_n 0, 1) := by decide +kernel
theorem dX10_habit_84 : decode cX10_habit 84 = .ok (.invokevirtual 118, 3) := by decide +kernel
theorem dX10_habit_87 : decode cX10_habit 87 = .ok (.aload_n 0, 1) := by decide +kernel
theorem dX10_habit_88 : decode cX10_habit 88 = .ok (.aload_n 0, 1) := by decide +kernel
theorem dX10_habit_89 : decode cX10_habit 89 = .ok (.getfield 95, 3) := by decide +kernel
theorem dX10_habit_92 : decode cX10_habit 92 = .ok (.iconst 3, 1) := by decide +kernel
theorem dX10_habit_93 : decode cX10_habit 93 = .ok (.if_icmp .ne 7, 3) := by decide +kernel
theorem dX10_habit_96 : decode cX10_habit 96 = .ok (.iconst 1, 1) := by decide +kernel
theorem dX10_habit_97 : decode cX10_habit 97 = .ok (.goto 4, 3) := by decide +kernel
theorem dX10_habit_100 : decode cX10_habit 100 = .ok (.iconst 0, 1) := by decide +kernel
theorem dX10_habit_101 : decode cX10_habit 101 = .ok (.invokevirtual 121, 3) := by decide +kernel
theorem dX10_habit_104 : decode cX10_habit 104 = .ok (.aload_n 0, 1) := by decide +kernel
theorem dX10_habit_105 : decode cX10_habit 105 = .ok (.invokevirtual 114, 3) := by decide +kernel
theorem dX10_habit_108 : decode cX10_habit 108 = .ok (.ifCond .eq 35, 3) := by decide +kernel
theorem dX10_habit_111 : decode cX10_habit 111 = .ok (.aload_n 0, 1) := by decide +kernel
theorem dX10_habit_112 : decode cX10_habit 112 = .ok (.getfield 23, 3) := by decide +kernel
theorem dX10_habit_115 : decode cX10_habit 115 = .ok (.bipush 26, 2) := by decide +kernel
theorem dX10_habit_117 : decode cX10_habit 117 = .ok (.iconst 2, 1) := by decide +kernel
theorem dX10_habit_118 : decode cX10_habit 118 = .ok (.iload_n 1, 1) := by decide +kernel
theorem dX10_habit_119 : decode cX10_habit 119 = .ok (.imul, 1) := by decide +kernel
theorem dX10_habit_120 : decode cX10_habit 120 = .ok (.iadd, 1) := by decide +kernel
theorem dX10_habit_121 : decode cX10_habit 121 = .ok (.aload_n 0, 1) := by decide +kernel
theorem dX10_habit_122 : decode cX10_habit 122 = .ok (.getfield 101, 3) := by decide +kernel
theorem dX10_habit_125 : decode cX10_habit 125 = .ok (.iastore, 1) := by decide +kernel
theorem dX10_habit_126 : decode cX10_habit 126 = .ok (.aload_n 0, 1) := by decide +kernel
theorem dX10_habit_127 : decode cX10_habit 127 = .ok (.getfield 23, 3) := by decide +kernel
theorem dX10_habit_130 : decode cX10_habit 130 = .ok (.bipush 27, 2) := by decide +kernel
theorem dX10_habit_132 : decode cX10_habit 132 = .ok (.iconst 2, 1) := by decide +kernel
theorem dX10_habit_133 : decode cX10_habit 133 = .ok (.iload_n 1, 1) := by decide +kernel
theorem dX10_habit_134 : decode cX10_habit 134 = .ok (.imul, 1) := by decide +kernel
theorem dX10_habit_135 : decode cX10_habit 135 = .ok (.iadd, 1) := by decide +kernel
theorem dX10_habit_136 : decode cX10_habit 136 = .ok (.bipush (-9), 2) := by decide +kernel
theorem dX10_habit_138 : decode cX10_habit 138 = .ok (.iastore, 1) := by decide +kernel
theorem dX10_habit_139 : decode cX10_habit 139 = .ok (.aload_n 0, 1) := by decide +kernel
theorem dX10_habit_140 : decode cX10_habit 140 = .ok (.invokevirtual 118, 3) := by decide +kernel
theorem dX10_habit_143 : decode cX10_habit 143 = .ok (.aload_n 0, 1) := by decide +kernel
theorem dX10_habit_144 : decode cX10_habit 144 = .ok (.invokevirtual 114, 3) := by decide +kernel
theorem dX10_habit_147 : decode cX10_habit 147 = .ok (.ifCond .eq 63, 3) := by decide +kernel
theorem dX10_habit_150 : decode cX10_habit 150 = .ok (.iload_n 2, 1) := by decide +kernel
theorem dX10_habit_151 : decode cX10_habit 151 = .ok (.ifCond .ne 59, 3) := by decide +kernel
theorem dX10_habit_154 : decode cX10_habit 154 = .ok (.aload_n 0, 1) := by decide +kernel
theorem dX10_habit_155 : decode cX10_habit 155 = .ok (.aload_n 0, 1) := by decide +kernel
theorem dX10_habit_156 : decode cX10_habit 156 = .ok (.getfield 95, 3) := by decide +kernel
theorem dX10_habit_159 : decode cX10_habit 159 = .ok (.iconst 4, 1) := by decide +kernel
theorem dX10_habit_160 : decode cX10_habit 160 = .ok (.if_icmp .ne 20, 3) := by decide +kernel
theorem dX10_habit_163 : decode cX10_habit 163 = .ok (.aload_n 0, 1) := by decide +kernel
theorem dX10_habit_164 : decode cX10_habit 164 = .ok (.getfield 101, 3) := by decide +kernel
theorem dX10_habit_167 : decode cX10_habit 167 = .ok (.iconst 1, 1) := by decide +kernel
theorem dX10_habit_168 : decode cX10_habit 168 = .ok (.bipush 50, 2) := by decide +kernel
theorem dX10_habit_170 : decode cX10_habit 170 = .ok (.invokestatic 48, 3) := by decide +kernel
theorem dX10_habit_173 : decode cX10_habit 173 = .ok (.ifCond .eq 7, 3) := by decide +kernel
theorem dX10_habit_176 : decode cX10_habit 176 = .ok (.iconst 1, 1) := by decide +kernel
theorem dX10_habit_177 : decode cX10_habit 177 = .ok (.goto 4, 3) := by decide +kernel
theorem dX10_habit_180 : decode cX10_habit 180 = .ok (.iconst 0, 1) := by decide +kernel
theorem dX10_habit_181 : decode cX10_habit 181 = .ok (.invokevirtual 121, 3) := by decide +kernel
theorem dX10_habit_184 : decode cX10_habit 184 = .ok (.aload_n 0, 1) := by decide +kernel
theorem dX10_habit_185 : decode cX10_habit 185 = .ok (.invokevirtual 114, 3) := by decide +kernel
theorem dX10_habit_188 : decode cX10_habit 188 = .ok (.ifCond .eq 22, 3) := by decide +kernel
theorem dX10_habit_191 : decode cX10_habit 191 = .ok (.aload_n 0, 1) := by decide +kernel
theorem dX10_habit_192 : decode cX10_habit 192 = .ok (.getfield 23, 3) := by decide +kernel
theorem dX10_habit_195 : decode cX10_habit 195 = .ok (.bipush 27, 2) := by decide +kernel
theorem dX10_habit_197 : decode cX10_habit 197 = .ok (.iconst 2, 1) := by decide +kernel
theorem dX10_habit_198 : decode cX10_habit 198 = .ok (.iload_n 1, 1) := by decide +kernel
theorem dX10_habit_199 : decode cX10_habit 199 = .ok (.imul, 1) := by decide +kernel
theorem dX10_habit_200 : decode cX10_habit 200 = .ok (.iadd, 1) := by decide +kernel
theorem dX10_habit_201 : decode cX10_habit 201 = .ok (.aload_n 0, 1) := by decide +kernel
theorem dX10_habit_202 : decode cX10_habit 202 = .ok (.getfield 101, 3) := by decide +kernel
theorem dX10_habit_205 : decode cX10_habit 205 = .ok (.iastore, 1) := by decide +kernel
theorem dX10_habit_206 : decode cX10_habit 206 = .ok (.aload_n 0, 1) := by decide +kernel
theorem dX10_habit_207 : decode cX10_habit 207 = .ok (.invokevirtual 118, 3) := by decide +kernel
theorem dX10_habit_210 : decode cX10_habit 210 = .ok (.aload_n 0, 1) := by decide +kernel
theorem dX10_habit_211 : decode cX10_habit 211 = .ok (.aload_n 0, 1) := by decide +kernel
theorem dX10_habit_212 : decode cX10_habit 212 = .ok (.getfield 95, 3) := by decide +kernel
theorem dX10_habit_215 : decode cX10_habit 215 = .ok (.iconst 5, 1) := by decide +kernel
theorem dX10_habit_216 : decode cX10_habit 216 = .ok (.if_icmp .ne 7, 3) := by decide +kernel
theorem dX10_habit_219 : decode cX10_habit 219 = .ok (.iconst 1, 1) := by decide +kernel
theorem dX10_habit_220 : decode cX10_habit 220 = .ok (.goto 4, 3) := by decide +kernel
theorem dX10_habit_223 : decode cX10_habit 223 = .ok (.iconst 0, 1) := by decide +kernel
theorem dX10_habit_224 : decode cX10_habit 224 = .ok (.invokevirtual 121, 3) := by decide +kernel
theorem dX10_habit_227 : decode cX10_habit 227 = .ok (.aload_n 0, 1) := by decide +kernel
theorem dX10_habit_228 : decode cX10_habit 228 = .ok (.invokevirtual 114, 3) := by decide +kernel
theorem dX10_habit_231 : decode cX10_habit 231 = .ok (.ifCond .eq 10, 3) := by decide +kernel
theorem dX10_habit_234 : decode cX10_habit 234 = .ok (.aload_n 0, 1) := by decide +kernel
theorem dX10_habit_235 : decode cX10_habit 235 = .ok (.invokevirtual 118, 3) := by decide +kernel
theorem dX10_habit_238 : decode cX10_habit 238 = .ok (.iinc 1 1, 3) := by decide +kernel
theorem dX10_habit_241 : decode cX10_habit 241 = .ok (.goto (-220), 3) := by decide +kernel
theorem dX10_habit_244 : decode cX10_habit 244 = .ok (.aload_n 0, 1) := by decide +kernel
theorem dX10_habit_245 : decode cX10_habit 245 = .ok (.invokevirtual 114, 3) := by decide +kernel
theorem dX10_habit_248 : decode cX10_habit 248 = .ok (.ifCond .ne 11, 3) := by decide +kernel
theorem dX10_habit_251 : decode cX10_habit 251 = .ok (.bipush (-10), 2) := by decide +kernel
theorem dX10_habit_253 : decode cX10_habit 253 = .ok (.aload_n 0, 1) := by decide +kernel
theorem dX10_habit_254 : decode cX10_habit 254 = .ok (.getfield 111, 3) := by decide +kernel
theorem dX10_habit_257 : decode cX10_habit 257 = .ok (.isub, 1) := by decide +kernel
theorem dX10_habit_258 : decode cX10_habit 258 = .ok (.ireturn, 1) := by decide +kernel
theorem dX10_habit_259 : decode cX10_habit 259 = .ok (.iconst 0, 1) := by decide +kernel
theorem dX10_habit_260 : decode cX10_habit 260 = .ok (.istore_n 2, 1) := by decide +kernel
theorem dX10_habit_261 : decode cX10_habit 261 = .ok (.iload_n 2, 1) := by decide +kernel
theorem dX10_habit_262 : decode cX10_habit 262 = .ok (.bipush 24, 2) := by decide +kernel
theorem dX10_habit_264 : decode cX10_habit 264 = .ok (.if_icmp .ge 35, 3) := by decide +kernel
theorem dX10_habit_267 : decode cX10_habit 267 = .ok (.aload_n 0, 1) := by decide +kernel
theorem dX10_habit_268 : decode cX10_habit 268 = .ok (.getfield 23, 3) := by decide +kernel
theorem dX10_habit_271 : decode cX10_habit 271 = .ok (.iload_n 2, 1) := by decide +kernel
theorem dX10_habit_272 : decode cX10_habit 272 = .ok (.iload_n 2, 1) := by decide +kernel
theorem dX10_habit_273 : decode cX10_habit 273 = .ok (.iconst 2, 1) := by decide +kernel
theorem dX10_habit_274 : decode cX10_habit 274 = .ok (.iload_n 1, 1) := by decide +kernel
theorem dX10_habit_275 : decode cX10_habit 275 = .ok (.imul, 1) := by decide +kernel
theorem dX10_habit_276 : decode cX10_habit 276 = .ok (.if_icmp .ge 15, 3) := by decide +kernel
theorem dX10_habit_279 : decode cX10_habit 279 = .ok (.aload_n 0, 1) := by decide +kernel
theorem dX10_habit_280 : decode cX10_habit 280 = .ok (.getfield 23, 3) := by decide +kernel
theorem dX10_habit_283 : decode cX10_habit 283 = .ok (.bipush 26, 2) := by decide +kernel
theorem dX10_habit_285 : decode cX10_habit 285 = .ok (.iload_n 2, 1) := by decide +kernel
theorem dX10_habit_286 : decode cX10_habit 286 = .ok (.iadd, 1) := by decide +kernel
theorem dX10_habit_287 : decode cX10_habit 287 = .ok (.iaload, 1) := by decide +kernel
theorem dX10_habit_288 : decode cX10_habit 288 = .ok (.goto 4, 3) := by decide +kernel
theorem dX10_habit_291 : decode cX10_habit 291 = .ok (.iconst 0, 1) := by decide +kernel
theorem dX10_habit_292 : decode cX10_habit 292 = .ok (.iastore, 1) := by decide +kernel
theorem dX10_habit_293 : decode cX10_habit 293 = .ok (.iinc 2 1, 3) := by decide +kernel
theorem dX10_habit_296 : decode cX10_habit 296 = .ok (.goto (-35), 3) := by decide +kernel
theorem dX10_habit_299 : decode cX10_habit 299 = .ok (.aload_n 0, 1) := by decide +kernel
theorem dX10_habit_300 : decode cX10_habit 300 = .ok (.iload_n 1, 1) := by decide +kernel
theorem dX10_habit_301 : decode cX10_habit 301 = .ok (.putfield 125, 3) := by decide +kernel
theorem dX10_habit_304 : decode cX10_habit 304 = .ok (.aload_n 0, 1) := by decide +kernel
theorem dX10_habit_305 : decode cX10_habit 305 = .ok (.iconst 0, 1) := by decide +kernel
theorem dX10_habit_306 : decode cX10_habit 306 = .ok (.putfield 83, 3) := by decide +kernel
theorem dX10_habit_309 : decode cX10_habit 309 = .ok (.iload_n 1, 1) := by decide +kernel
theorem dX10_habit_310 : decode cX10_habit 310 = .ok (.ireturn, 1) := by decide +kernel
theorem dX10_finding_0 : decode cX10_finding 0 = .ok (.iload_n 2, 1) := by decide +kernel
theorem dX10_finding_1 : decode cX10_finding 1 = .ok (.istore 4, 2) := by decide +kernel
theorem dX10_finding_3 : decode cX10_finding 3 = .ok (.iload_n 3, 1) := by decide +kernel
theorem dX10_finding_4 : decode cX10_finding 4 = .ok (.istore 5, 2) := by decide +kernel
theorem dX10_finding_6 : decode cX10_finding 6 = .ok (.iconst 0, 1) := by decide +kernel
theorem dX10_finding_7 : decode cX10_finding 7 = .ok (.istore 6, 2) := by decide +kernel
theorem dX10_finding_9 : decode cX10_finding 9 = .ok (.iload 6, 2) := by decide +kernel
theorem dX10_finding_11 : decode cX10_finding 11 = .ok (.bipush 8, 2) := by decide +kernel
theorem dX10_finding_13 : decode cX10_finding 13 = .ok (.if_icmp .ge 17, 3) := by decide +kernel
theorem dX10_finding_16 : decode cX10_finding 16 = .ok (.aload_n 0, 1) := by decide +kernel
theorem dX10_finding_17 : decode cX10_finding 17 = .ok (.getfield 26, 3) := by decide +kernel
theorem dX10_finding_20 : decode cX10_finding 20 = .ok (.iload 6, 2) := by decide +kernel
theorem dX10_finding_22 : decode cX10_finding 22 = .ok (.iconst 0, 1) := by decide +kernel
theorem dX10_finding_23 : decode cX10_finding 23 = .ok (.iastore, 1) := by decide +kernel
theorem dX10_finding_24 : decode cX10_finding 24 = .ok (.iinc 6 1, 3) := by decide +kernel
theorem dX10_finding_27 : decode cX10_finding 27 = .ok (.goto (-18), 3) := by decide +kernel
theorem dX10_finding_30 : decode cX10_finding 30 = .ok (.iconst 0, 1) := by decide +kernel
theorem dX10_finding_31 : decode cX10_finding 31 = .ok (.istore 6, 2) := by decide +kernel
theorem dX10_finding_33 : decode cX10_finding 33 = .ok (.iload 6, 2) := by decide +kernel
theorem dX10_finding_35 : decode cX10_finding 35 = .ok (.aload_n 0, 1) := by decide +kernel
theorem dX10_finding_36 : decode cX10_finding 36 = .ok (.getfield 125, 3) := by decide +kernel
theorem dX10_finding_39 : decode cX10_finding 39 = .ok (.if_icmp .gt 252, 3) := by decide +kernel
theorem dX10_finding_42 : decode cX10_finding 42 = .ok (.iload 6, 2) := by decide +kernel
theorem dX10_finding_44 : decode cX10_finding 44 = .ok (.aload_n 0, 1) := by decide +kernel
theorem dX10_finding_45 : decode cX10_finding 45 = .ok (.getfield 125, 3) := by decide +kernel
theorem dX10_finding_48 : decode cX10_finding 48 = .ok (.if_icmp .ge 15, 3) := by decide +kernel
theorem dX10_finding_51 : decode cX10_finding 51 = .ok (.aload_n 0, 1) := by decide +kernel
theorem dX10_finding_52 : decode cX10_finding 52 = .ok (.getfield 23, 3) := by decide +kernel
theorem dX10_finding_55 : decode cX10_finding 55 = .ok (.iconst 2, 1) := by decide +kernel
theorem dX10_finding_56 : decode cX10_finding 56 = .ok (.iload 6, 2) := by decide +kernel
theorem dX10_finding_58 : decode cX10_finding 58 = .ok (.imul, 1) := by decide +kernel
theorem dX10_finding_59 : decode cX10_finding 59 = .ok (.iaload, 1) := by decide +kernel
theorem dX10_finding_60 : decode cX10_finding 60 = .ok (.goto 6, 3) := by decide +kernel
theorem dX10_finding_63 : decode cX10_finding 63 = .ok (.sipush 255, 3) := by decide +kernel
theorem dX10_finding_66 : decode cX10_finding 66 = .ok (.istore 7, 2) := by decide +kernel
theorem dX10_finding_68 : decode cX10_finding 68 = .ok (.iload 6, 2) := by decide +kernel
theorem dX10_finding_70 : decode cX10_finding 70 = .ok (.aload_n 0, 1) := by decide +kernel
theorem dX10_finding_71 : decode cX10_finding 71 = .ok (.getfield 125, 3) := by decide +kernel
theorem dX10_finding_74 : decode cX10_finding 74 = .ok (.if_icmp .ge 33, 3) := by decide +kernel
theorem dX10_finding_77 : decode cX10_finding 77 = .ok (.aload_n 0, 1) := by decide +kernel
theorem dX10_finding_78 : decode cX10_finding 78 = .ok (.getfield 23, 3) := by decide +kernel
theorem dX10_finding_81 : decode cX10_finding 81 = .ok (.iconst 2, 1) := by decide +kernel
theorem dX10_finding_82 : decode cX10_finding 82 = .ok (.iload 6, 2) := by decide +kernel
theorem dX10_finding_84 : decode cX10_finding 84 = .ok (.imul, 1) := by decide +kernel
theorem dX10_finding_85 : decode cX10_finding 85 = .ok (.iconst 1, 1) := by decide +kernel
theorem dX10_finding_86 : decode cX10_finding 86 = .ok (.iadd, 1) := by decide +kernel
theorem dX10_finding_87 : decode cX10_finding 87 = .ok (.iaload, 1) := by decide +kernel
theorem dX10_finding_88 : decode cX10_finding 88 = .ok (.bipush (-9), 2) := by decide +kernel
theorem dX10_finding_90 : decode cX10_finding 90 = .ok (.if_icmp .eq 17, 3) := by decide +kernel
theorem dX10_finding_93 : decode cX10_finding 93 = .ok (.aload_n 0, 1) := by decide +kernel
theorem dX10_finding_94 : decode cX10_finding 94 = .ok (.getfield 23, 3) := by decide +kernel
theorem dX10_finding_97 : decode cX10_finding 97 = .ok (.iconst 2, 1) := by decide +kernel
theorem dX10_finding_98 : decode cX10_finding 98 = .ok (.iload 6, 2) := by decide +kernel
theorem dX10_finding_100 : decode cX10_finding 100 = .ok (.imul, 1) := by decide +kernel
theorem dX10_finding_101 : decode cX10_finding 101 = .ok (.iconst 1, 1) := by decide +kernel
theorem dX10_finding_102 : decode cX10_finding 102 = .ok (.iadd, 1) := by decide +kernel
theorem dX10_finding_103 : decode cX10_finding 103 = .ok (.iaload, 1) := by decide +kernel
theorem dX10_finding_104 : decode cX10_finding 104 = .ok (.goto 6, 3) := by decide +kernel
theorem dX10_finding_107 : decode cX10_finding 107 = .ok (.sipush 1000, 3) := by decide +kernel
theorem dX10_finding_110 : decode cX10_finding 110 = .ok (.istore 8, 2) := by decide +kernel
theorem dX10_finding_112 : decode cX10_finding 112 = .ok (.iconst 0, 1) := by decide +kernel
theorem dX10_finding_113 : decode cX10_finding 113 = .ok (.istore 9, 2) := by decide +kernel
theorem dX10_finding_115 : decode cX10_finding 115 = .ok (.iload 9, 2) := by decide +kernel
theorem dX10_finding_117 : decode cX10_finding 117 = .ok (.bipush 8, 2) := by decide +kernel
theorem dX10_finding_119 : decode cX10_finding 119 = .ok (.if_icmp .ge 166, 3) := by decide +kernel
theorem dX10_finding_122 : decode cX10_finding 122 = .ok (.sipush 204, 3) := by decide +kernel
theorem dX10_finding_125 : decode cX10_finding 125 = .ok (.iload 9, 2) := by decide +kernel
theorem dX10_finding_127 : decode cX10_finding 127 = .ok (.ishr, 1) := by decide +kernel
theorem dX10_finding_128 : decode cX10_finding 128 = .ok (.iconst 1, 1) := by decide +kernel
theorem dX10_finding_129 : decode cX10_finding 129 = .ok (.iand, 1) := by decide +kernel
theorem dX10_finding_130 : decode cX10_finding 130 = .ok (.iconst 1, 1) := by decide +kernel
theorem dX10_finding_131 : decode cX10_finding 131 = .ok (.if_icmp .ne 7, 3) := by decide +kernel
theorem dX10_finding_134 : decode cX10_finding 134 = .ok (.iconst 1, 1) := by decide +kernel
theorem dX10_finding_135 : decode cX10_finding 135 = .ok (.goto 4, 3) := by decide +kernel
theorem dX10_finding_138 : decode cX10_finding 138 = .ok (.iconst 0, 1) := by decide +kernel
theorem dX10_finding_139 : decode cX10_finding 139 = .ok (.istore 10, 2) := by decide +kernel
theorem dX10_finding_141 : decode cX10_finding 141 = .ok (.iload 10, 2) := by decide +kernel
theorem dX10_finding_143 : decode cX10_finding 143 = .ok (.ifCond .eq 8, 3) := by decide +kernel
theorem dX10_finding_146 : decode cX10_finding 146 = .ok (.iload 5, 2) := by decide +kernel
theorem dX10_finding_148 : decode cX10_finding 148 = .ok (.goto 5, 3) := by decide +kernel
theorem dX10_finding_151 : decode cX10_finding 151 = .ok (.iload 4, 2) := by decide +kernel
theorem dX10_finding_153 : decode cX10_finding 153 = .ok (.istore 11, 2) := by decide +kernel
theorem dX10_finding_155 : decode cX10_finding 155 = .ok (.aload_n 0, 1) := by decide +kernel
theorem dX10_finding_156 : decode cX10_finding 156 = .ok (.getfield 13, 3) := by decide +kernel
theorem dX10_finding_159 : decode cX10_finding 159 = .ok (.bipush 8, 2) := by decide +kernel
theorem dX10_finding_161 : decode cX10_finding 161 = .ok (.iload_n 1, 1) := by decide +kernel
theorem dX10_finding_162 : decode cX10_finding 162 = .ok (.imul, 1) := by decide +kernel
theorem dX10_finding_163 : decode cX10_finding 163 = .ok (.iload 9, 2) := by decide +kernel
theorem dX10_finding_165 : decode cX10_finding 165 = .ok (.iadd, 1) := by decide +kernel
theorem dX10_finding_166 : decode cX10_finding 166 = .ok (.iaload, 1) := by decide +kernel
theorem dX10_finding_167 : decode cX10_finding 167 = .ok (.aload_n 0, 1) := by decide +kernel
theorem dX10_finding_168 : decode cX10_finding 168 = .ok (.getfield 26, 3) := by decide +kernel
theorem dX10_finding_171 : decode cX10_finding 171 = .ok (.iload 9, 2) := by decide +kernel
theorem dX10_finding_173 : decode cX10_finding 173 = .ok (.iaload, 1) := by decide +kernel
theorem dX10_finding_174 : decode cX10_finding 174 = .ok (.isub, 1) := by decide +kernel
theorem dX10_finding_175 : decode cX10_finding 175 = .ok (.istore 12, 2) := by decide +kernel
theorem dX10_finding_177 : decode cX10_finding 177 = .ok (.iload 12, 2) := by decide +kernel
theorem dX10_finding_179 : decode cX10_finding 179 = .ok (.iload 11, 2) := by decide +kernel
theorem dX10_finding_181 : decode cX10_finding 181 = .ok (.if_icmp .ge 8, 3) := by decide +kernel
theorem dX10_finding_184 : decode cX10_finding 184 = .ok (.iload 12, 2) := by decide +kernel
theorem dX10_finding_186 : decode cX10_finding 186 = .ok (.goto 5, 3) := by decide +kernel
theorem dX10_finding_189 : decode cX10_finding 189 = .ok (.iload 11, 2) := by decide +kernel
theorem dX10_finding_191 : decode cX10_finding 191 = .ok (.istore 13, 2) := by decide +kernel
theorem dX10_finding_193 : decode cX10_finding 193 = .ok (.iload 13, 2) := by decide +kernel
theorem dX10_finding_195 : decode cX10_finding 195 = .ok (.iload 8, 2) := by decide +kernel
theorem dX10_finding_197 : decode cX10_finding 197 = .ok (.if_icmp .ge 8, 3) := by decide +kernel
theorem dX10_finding_200 : decode cX10_finding 200 = .ok (.iload 13, 2) := by decide +kernel
theorem dX10_finding_202 : decode cX10_finding 202 = .ok (.goto 5, 3) := by decide +kernel
theorem dX10_finding_205 : decode cX10_finding 205 = .ok (.iload 8, 2) := by decide +kernel
theorem dX10_finding_207 : decode cX10_finding 207 = .ok (.istore 13, 2) := by decide +kernel
theorem dX10_finding_209 : decode cX10_finding 209 = .ok (.iload 7, 2) := by decide +kernel
theorem dX10_finding_211 : decode cX10_finding 211 = .ok (.iload 9, 2) := by decide +kernel
theorem dX10_finding_213 : decode cX10_finding 213 = .ok (.ishr, 1) := by decide +kernel
theorem dX10_finding_214 : decode cX10_finding 214 = .ok (.iconst 1, 1) := by decide +kernel
theorem dX10_finding_215 : decode cX10_finding 215 = .ok (.iand, 1) := by decide +kernel
theorem dX10_finding_216 : decode cX10_finding 216 = .ok (.iconst 1, 1) := by decide +kernel
theorem dX10_finding_217 : decode cX10_finding 217 = .ok (.if_icmp .ne 8, 3) := by decide +kernel
theorem dX10_finding_220 : decode cX10_finding 220 = .ok (.iload 13, 2) := by decide +kernel
theorem dX10_finding_222 : decode cX10_finding 222 = .ok (.goto 4, 3) := by decide +kernel
theorem dX10_finding_225 : decode cX10_finding 225 = .ok (.iconst 0, 1) := by decide +kernel
theorem dX10_finding_226 : decode cX10_finding 226 = .ok (.istore 13, 2) := by decide +kernel
theorem dX10_finding_228 : decode cX10_finding 228 = .ok (.aload_n 0, 1) := by decide +kernel
theorem dX10_finding_229 : decode cX10_finding 229 = .ok (.getfield 26, 3) := by decide +kernel
theorem dX10_finding_232 : decode cX10_finding 232 = .ok (.iload 9, 2) := by decide +kernel
theorem dX10_finding_234 : decode cX10_finding 234 = .ok (.dup2, 1) := by decide +kernel
theorem dX10_finding_235 : decode cX10_finding 235 = .ok (.iaload, 1) := by decide +kernel
theorem dX10_finding_236 : decode cX10_finding 236 = .ok (.iload 13, 2) := by decide +kernel
theorem dX10_finding_238 : decode cX10_finding 238 = .ok (.iadd, 1) := by decide +kernel
theorem dX10_finding_239 : decode cX10_finding 239 = .ok (.iastore, 1) := by decide +kernel
theorem dX10_finding_240 : decode cX10_finding 240 = .ok (.iload 8, 2) := by decide +kernel
theorem dX10_finding_242 : decode cX10_finding 242 = .ok (.iload 13, 2) := by decide +kernel
theorem dX10_finding_244 : decode cX10_finding 244 = .ok (.isub, 1) := by decide +kernel
theorem dX10_finding_245 : decode cX10_finding 245 = .ok (.istore 8, 2) := by decide +kernel
theorem dX10_finding_247 : decode cX10_finding 247 = .ok (.iload 5, 2) := by decide +kernel
theorem dX10_finding_249 : decode cX10_finding 249 = .ok (.iload 10, 2) := by decide +kernel
theorem dX10_finding_251 : decode cX10_finding 251 = .ok (.ifCond .eq 8, 3) := by decide +kernel
theorem dX10_finding_254 : decode cX10_finding 254 = .ok (.iload 13, 2) := by decide +kernel
theorem dX10_finding_256 : decode cX10_finding 256 = .ok (.goto 4, 3) := by decide +kernel
theorem dX10_finding_259 : decode cX10_finding 259 = .ok (.iconst 0, 1) := by decide +kernel
theorem dX10_finding_260 : decode cX10_finding 260 = .ok (.isub, 1) := by decide +kernel
theorem dX10_finding_261 : decode cX10_finding 261 = .ok (.istore 5, 2) := by decide +kernel
theorem dX10_finding_263 : decode cX10_finding 263 = .ok (.iload 4, 2) := by decide +kernel
theorem dX10_finding_265 : decode cX10_finding 265 = .ok (.iload 10, 2) := by decide +kernel
theorem dX10_finding_267 : decode cX10_finding 267 = .ok (.ifCond .eq 7, 3) := by decide +kernel
theorem dX10_finding_270 : decode cX10_finding 270 = .ok (.iconst 0, 1) := by decide +kernel
theorem dX10_finding_271 : decode cX10_finding 271 = .ok (.goto 5, 3) := by decide +kernel
theorem dX10_finding_274 : decode cX10_finding 274 = .ok (.iload 13, 2) := by decide +kernel
theorem dX10_finding_276 : decode cX10_finding 276 = .ok (.isub, 1) := by decide +kernel
theorem dX10_finding_277 : decode cX10_finding 277 = .ok (.istore 4, 2) := by decide +kernel
theorem dX10_finding_279 : decode cX10_finding 279 = .ok (.iinc 9 1, 3) := by decide +kernel
theorem dX10_finding_282 : decode cX10_finding 282 = .ok (.goto (-167), 3) := by decide +kernel
theorem dX10_finding_285 : decode cX10_finding 285 = .ok (.iinc 6 1, 3) := by decide +kernel
theorem dX10_finding_288 : decode cX10_finding 288 = .ok (.goto (-255), 3) := by decide +kernel
theorem dX10_finding_291 : decode cX10_finding 291 = .ok (.return_, 1) := by decide +kernel
theorem dX10_gotOf_0 : decode cX10_gotOf 0 = .ok (.iconst 0, 1) := by decide +kernel
theorem dX10_gotOf_1 : decode cX10_gotOf 1 = .ok (.istore_n 2, 1) := by decide +kernel
theorem dX10_gotOf_2 : decode cX10_gotOf 2 = .ok (.iconst 0, 1) := by decide +kernel
theorem dX10_gotOf_3 : decode cX10_gotOf 3 = .ok (.istore_n 3, 1) := by decide +kernel
theorem dX10_gotOf_4 : decode cX10_gotOf 4 = .ok (.iload_n 3, 1) := by decide +kernel
theorem dX10_gotOf_5 : decode cX10_gotOf 5 = .ok (.bipush 8, 2) := by decide +kernel
theorem dX10_gotOf_7 : decode cX10_gotOf 7 = .ok (.if_icmp .ge 31, 3) := by decide +kernel
theorem dX10_gotOf_10 : decode cX10_gotOf 10 = .ok (.iload_n 2, 1) := by decide +kernel
theorem dX10_gotOf_11 : decode cX10_gotOf 11 = .ok (.iload_n 1, 1) := by decide +kernel
theorem dX10_gotOf_12 : decode cX10_gotOf 12 = .ok (.iload_n 3, 1) := by decide +kernel
theorem dX10_gotOf_13 : decode cX10_gotOf 13 = .ok (.ishr, 1) := by decide +kernel
theorem dX10_gotOf_14 : decode cX10_gotOf 14 = .ok (.iconst 1, 1) := by decide +kernel
theorem dX10_gotOf_15 : decode cX10_gotOf 15 = .ok (.iand, 1) := by decide +kernel
theorem dX10_gotOf_16 : decode cX10_gotOf 16 = .ok (.iconst 1, 1) := by decide +kernel
theorem dX10_gotOf_17 : decode cX10_gotOf 17 = .ok (.if_icmp .ne 12, 3) := by decide +kernel
theorem dX10_gotOf_20 : decode cX10_gotOf 20 = .ok (.aload_n 0, 1) := by decide +kernel
theorem dX10_gotOf_21 : decode cX10_gotOf 21 = .ok (.getfield 26, 3) := by decide +kernel
theorem dX10_gotOf_24 : decode cX10_gotOf 24 = .ok (.iload_n 3, 1) := by decide +kernel
theorem dX10_gotOf_25 : decode cX10_gotOf 25 = .ok (.iaload, 1) := by decide +kernel
theorem dX10_gotOf_26 : decode cX10_gotOf 26 = .ok (.goto 4, 3) := by decide +kernel
theorem dX10_gotOf_29 : decode cX10_gotOf 29 = .ok (.iconst 0, 1) := by decide +kernel
theorem dX10_gotOf_30 : decode cX10_gotOf 30 = .ok (.iadd, 1) := by decide +kernel
theorem dX10_gotOf_31 : decode cX10_gotOf 31 = .ok (.istore_n 2, 1) := by decide +kernel
theorem dX10_gotOf_32 : decode cX10_gotOf 32 = .ok (.iinc 3 1, 3) := by decide +kernel
theorem dX10_gotOf_35 : decode cX10_gotOf 35 = .ok (.goto (-31), 3) := by decide +kernel
theorem dX10_gotOf_38 : decode cX10_gotOf 38 = .ok (.iload_n 2, 1) := by decide +kernel
theorem dX10_gotOf_39 : decode cX10_gotOf 39 = .ok (.ireturn, 1) := by decide +kernel
set_option maxRecDepth 20000 in
theorem ggX10_isAsked_X10_isLand : GoodIn wsX10_isAsked wsX10_isLand := goodIn_r _ [4, 5, 6, 3, 7] (by decide +kernel) (by decide +kernel)
set_option maxRecDepth 20000 in
theorem gX10_isAsked_X10_isLand : GoodIn wsX10_isAsked (va_wsS RX10 63 yX10_isLand wsX10_isLand) := goodIn_app (goodIn_of _ (by decide +kernel)) ggX10_isAsked_X10_isLand
set_option maxRecDepth 20000 in
theorem ggX10_isAsked_X10_in : GoodIn wsX10_isAsked wsX10_in := goodIn_r _ [7] (by decide +kernel) (by decide +kernel)
set_option maxRecDepth 20000 in
theorem gX10_isAsked_X10_in : GoodIn wsX10_isAsked (va_wsS RX10 48 yX10_in wsX10_in) := goodIn_app (goodIn_of _ (by decide +kernel)) ggX10_isAsked_X10_in
theorem dX10_isAsked_0 : decode cX10_isAsked 0 = .ok (.iload_n 0, 1) := by decide +kernel
theorem dX10_isAsked_1 : decode cX10_isAsked 1 = .ok (.invokestatic 63, 3) := by decide +kernel
theorem dX10_isAsked_4 : decode cX10_isAsked 4 = .ok (.ifCond .eq 27, 3) := by decide +kernel
theorem dX10_isAsked_7 : decode cX10_isAsked 7 = .ok (.iload_n 1, 1) := by decide +kernel
theorem dX10_isAsked_8 : decode cX10_isAsked 8 = .ok (.iconst 0, 1) := by decide +kernel
theorem dX10_isAsked_9 : decode cX10_isAsked 9 = .ok (.bipush 50, 2) := by decide +kernel
theorem dX10_isAsked_11 : decode cX10_isAsked 11 = .ok (.invokestatic 48, 3) := by decide +kernel
theorem dX10_isAsked_14 : decode cX10_isAsked 14 = .ok (.ifCond .eq 17, 3) := by decide +kernel
theorem dX10_isAsked_17 : decode cX10_isAsked 17 = .ok (.iload_n 2, 1) := by decide +kernel
theorem dX10_isAsked_18 : decode cX10_isAsked 18 = .ok (.iconst 0, 1) := by decide +kernel
theorem dX10_isAsked_19 : decode cX10_isAsked 19 = .ok (.bipush 50, 2) := by decide +kernel
theorem dX10_isAsked_21 : decode cX10_isAsked 21 = .ok (.invokestatic 48, 3) := by decide +kernel
theorem dX10_isAsked_24 : decode cX10_isAsked 24 = .ok (.ifCond .eq 7, 3) := by decide +kernel
theorem dX10_isAsked_27 : decode cX10_isAsked 27 = .ok (.iconst 1, 1) := by decide +kernel
theorem dX10_isAsked_28 : decode cX10_isAsked 28 = .ok (.goto 4, 3) := by decide +kernel
theorem dX10_isAsked_31 : decode cX10_isAsked 31 = .ok (.iconst 0, 1) := by decide +kernel
theorem dX10_isAsked_32 : decode cX10_isAsked 32 = .ok (.ireturn, 1) := by decide +kernel
set_option maxRecDepth 20000 in
theorem ggX10_found_X10_isAsked : GoodIn wsX10_found wsX10_isAsked := goodIn_r _ [6, 7, 8, 5, 9, 10, 11, 12] (by decide +kernel) (by decide +kernel)
set_option maxRecDepth 20000 in
theorem gX10_found_X10_isAsked : GoodIn wsX10_found (va_wsS RX10 128 yX10_isAsked wsX10_isAsked) := goodIn_app (goodIn_of _ (by decide +kernel)) ggX10_found_X10_isAsked
set_option maxRecDepth 20000 in
theorem ggX10_found_X10_in : GoodIn wsX10_found wsX10_in := goodIn_r _ [12] (by decide +kernel) (by decide +kernel)
set_option maxRecDepth 20000 in
theorem gX10_found_X10_in : GoodIn wsX10_found (va_wsS RX10 48 yX10_in wsX10_in) := goodIn_app (goodIn_of _ (by decide +kernel)) ggX10_found_X10_in
set_option maxRecDepth 20000 in
theorem ggX10_found_X10_finding : GoodIn wsX10_found wsX10_finding := goodIn_r _ [16, 2, 17, 18, 19, 24, 25, 26, 27, 28, 29, 30, 31, 32, 33, 34, 35, 36, 37, 38, 39, 40, 41, 42, 43, 44, 45, 46, 47] (by decide +kernel) (by decide +kernel)
set_option maxRecDepth 20000 in
theorem gX10_found_X10_finding : GoodIn wsX10_found (wsV RX10 131 RX10 yX10_finding wsX10_finding) := goodIn_app (goodIn_of _ (by decide +kernel)) ggX10_found_X10_finding
set_option maxRecDepth 20000 in
theorem ggX10_found_X10_gotOf : GoodIn wsX10_found wsX10_gotOf := goodIn_r _ [23, 2, 24, 25, 26, 27, 28, 29, 30, 31, 32, 33, 34, 35, 36, 37, 38, 39, 40, 41, 42, 43, 44, 45, 46, 47] (by decide +kernel) (by decide +kernel)
set_option maxRecDepth 20000 in
theorem gX10_found_X10_gotOf : GoodIn wsX10_found (wsV RX10 135 RX10 yX10_gotOf wsX10_gotOf) := goodIn_app (goodIn_of _ (by decide +kernel)) ggX10_found_X10_gotOf
theorem dX10_found_0 : decode cX10_found 0 = .ok (.aload_n 0, 1) := by decide +kernel
theorem dX10_found_1 : decode cX10_found 1 = .ok (.iconst 0, 1) := by decide +kernel
theorem dX10_found_2 : decode cX10_found 2 = .ok (.putfield 45, 3) := by decide +kernel
theorem dX10_found_5 : decode cX10_found 5 = .ok (.iload_n 1, 1) := by decide +kernel
theorem dX10_found_6 : decode cX10_found 6 = .ok (.iload_n 2, 1) := by decide +kernel
theorem dX10_found_7 : decode cX10_found 7 = .ok (.iload_n 3, 1) := by decide +kernel
theorem dX10_found_8 : decode cX10_found 8 = .ok (.invokestatic 128, 3) := by decide +kernel
theorem dX10_found_11 : decode cX10_found 11 = .ok (.ifCond .eq 14, 3) := by decide +kernel
theorem dX10_found_14 : decode cX10_found 14 = .ok (.iload 4, 2) := by decide +kernel
theorem dX10_found_16 : decode cX10_found 16 = .ok (.iconst 0, 1) := by decide +kernel
theorem dX10_found_17 : decode cX10_found 17 = .ok (.bipush 8, 2) := by decide +kernel
theorem dX10_found_19 : decode cX10_found 19 = .ok (.invokestatic 48, 3) := by decide +kernel
theorem dX10_found_22 : decode cX10_found 22 = .ok (.ifCond .ne 5, 3) := by decide +kernel
theorem dX10_found_25 : decode cX10_found 25 = .ok (.iconst (-1), 1) := by decide +kernel
theorem dX10_found_26 : decode cX10_found 26 = .ok (.ireturn, 1) := by decide +kernel
theorem dX10_found_27 : decode cX10_found 27 = .ok (.aload_n 0, 1) := by decide +kernel
theorem dX10_found_28 : decode cX10_found 28 = .ok (.iload_n 1, 1) := by decide +kernel
theorem dX10_found_29 : decode cX10_found 29 = .ok (.iload_n 2, 1) := by decide +kernel
theorem dX10_found_30 : decode cX10_found 30 = .ok (.iload_n 3, 1) := by decide +kernel
theorem dX10_found_31 : decode cX10_found 31 = .ok (.invokevirtual 131, 3) := by decide +kernel
theorem dX10_found_34 : decode cX10_found 34 = .ok (.iload 4, 2) := by decide +kernel
theorem dX10_found_36 : decode cX10_found 36 = .ok (.bipush 8, 2) := by decide +kernel
theorem dX10_found_38 : decode cX10_found 38 = .ok (.if_icmp .ne 13, 3) := by decide +kernel
theorem dX10_found_41 : decode cX10_found 41 = .ok (.aload_n 0, 1) := by decide +kernel
theorem dX10_found_42 : decode cX10_found 42 = .ok (.sipush 255, 3) := by decide +kernel
theorem dX10_found_45 : decode cX10_found 45 = .ok (.invokevirtual 135, 3) := by decide +kernel
theorem dX10_found_48 : decode cX10_found 48 = .ok (.goto 10, 3) := by decide +kernel
theorem dX10_found_51 : decode cX10_found 51 = .ok (.aload_n 0, 1) := by decide +kernel
theorem dX10_found_52 : decode cX10_found 52 = .ok (.getfield 26, 3) := by decide +kernel
theorem dX10_found_55 : decode cX10_found 55 = .ok (.iload 4, 2) := by decide +kernel
theorem dX10_found_57 : decode cX10_found 57 = .ok (.iaload, 1) := by decide +kernel
theorem dX10_found_58 : decode cX10_found 58 = .ok (.ireturn, 1) := by decide +kernel
set_option maxRecDepth 20000 in
theorem ggX10_weighs_X10_persons : GoodIn wsX10_weighs wsX10_persons := goodIn_r _ [7, 8, 14, 15, 16, 17, 18, 19, 20, 21, 22, 23, 24, 25, 26, 27, 28, 29, 30, 31, 32, 33, 34, 35, 36, 37] (by decide +kernel) (by decide +kernel)
set_option maxRecDepth 20000 in
theorem gX10_weighs_X10_persons : GoodIn wsX10_weighs (wsV RX10 67 RX10 yX10_persons wsX10_persons) := goodIn_app (goodIn_of _ (by decide +kernel)) ggX10_weighs_X10_persons
set_option maxRecDepth 20000 in
theorem ggX10_weighs_X10_gotOf : GoodIn wsX10_weighs wsX10_gotOf := goodIn_r _ [12, 13, 14, 15, 16, 17, 18, 19, 20, 21, 22, 23, 24, 25, 26, 27, 28, 29, 30, 31, 32, 33, 34, 35, 36, 37] (by decide +kernel) (by decide +kernel)
set_option maxRecDepth 20000 in
theorem gX10_weighs_X10_gotOf : GoodIn wsX10_weighs (wsV RX10 135 RX10 yX10_gotOf wsX10_gotOf) := goodIn_app (goodIn_of _ (by decide +kernel)) ggX10_weighs_X10_gotOf
theorem dX10_weighs_0 : decode cX10_weighs 0 = .ok (.aload_n 0, 1) := by decide +kernel
theorem dX10_weighs_1 : decode cX10_weighs 1 = .ok (.iload_n 1, 1) := by decide +kernel
theorem dX10_weighs_2 : decode cX10_weighs 2 = .ok (.sipush 255, 3) := by decide +kernel
theorem dX10_weighs_5 : decode cX10_weighs 5 = .ok (.invokevirtual 67, 3) := by decide +kernel
theorem dX10_weighs_8 : decode cX10_weighs 8 = .ok (.istore_n 2, 1) := by decide +kernel
theorem dX10_weighs_9 : decode cX10_weighs 9 = .ok (.aload_n 0, 1) := by decide +kernel
theorem dX10_weighs_10 : decode cX10_weighs 10 = .ok (.iload_n 1, 1) := by decide +kernel
theorem dX10_weighs_11 : decode cX10_weighs 11 = .ok (.sipush 204, 3) := by decide +kernel
theorem dX10_weighs_14 : decode cX10_weighs 14 = .ok (.invokevirtual 67, 3) := by decide +kernel
theorem dX10_weighs_17 : decode cX10_weighs 17 = .ok (.istore_n 3, 1) := by decide +kernel
theorem dX10_weighs_18 : decode cX10_weighs 18 = .ok (.iload_n 2, 1) := by decide +kernel
theorem dX10_weighs_19 : decode cX10_weighs 19 = .ok (.iload_n 3, 1) := by decide +kernel
theorem dX10_weighs_20 : decode cX10_weighs 20 = .ok (.isub, 1) := by decide +kernel
theorem dX10_weighs_21 : decode cX10_weighs 21 = .ok (.istore 4, 2) := by decide +kernel
theorem dX10_weighs_23 : decode cX10_weighs 23 = .ok (.aload_n 0, 1) := by decide +kernel
theorem dX10_weighs_24 : decode cX10_weighs 24 = .ok (.sipush 204, 3) := by decide +kernel
theorem dX10_weighs_27 : decode cX10_weighs 27 = .ok (.invokevirtual 135, 3) := by decide +kernel
theorem dX10_weighs_30 : decode cX10_weighs 30 = .ok (.istore 5, 2) := by decide +kernel
theorem dX10_weighs_32 : decode cX10_weighs 32 = .ok (.aload_n 0, 1) := by decide +kernel
theorem dX10_weighs_33 : decode cX10_weighs 33 = .ok (.bipush 51, 2) := by decide +kernel
theorem dX10_weighs_35 : decode cX10_weighs 35 = .ok (.invokevirtual 135, 3) := by decide +kernel
theorem dX10_weighs_38 : decode cX10_weighs 38 = .ok (.istore 6, 2) := by decide +kernel
theorem dX10_weighs_40 : decode cX10_weighs 40 = .ok (.iload_n 2, 1) := by decide +kernel
theorem dX10_weighs_41 : decode cX10_weighs 41 = .ok (.ifCond .eq 22, 3) := by decide +kernel
theorem dX10_weighs_44 : decode cX10_weighs 44 = .ok (.iload_n 3, 1) := by decide +kernel
theorem dX10_weighs_45 : decode cX10_weighs 45 = .ok (.ifCond .le 8, 3) := by decide +kernel
theorem dX10_weighs_48 : decode cX10_weighs 48 = .ok (.iload 5, 2) := by decide +kernel
theorem dX10_weighs_50 : decode cX10_weighs 50 = .ok (.ifCond .eq 13, 3) := by decide +kernel
theorem dX10_weighs_53 : decode cX10_weighs 53 = .ok (.iload 4, 2) := by decide +kernel
theorem dX10_weighs_55 : decode cX10_weighs 55 = .ok (.ifCond .le 10, 3) := by decide +kernel
theorem dX10_weighs_58 : decode cX10_weighs 58 = .ok (.iload 6, 2) := by decide +kernel
theorem dX10_weighs_60 : decode cX10_weighs 60 = .ok (.ifCond .ne 5, 3) := by decide +kernel
theorem dX10_weighs_63 : decode cX10_weighs 63 = .ok (.iconst 0, 1) := by decide +kernel
theorem dX10_weighs_64 : decode cX10_weighs 64 = .ok (.ireturn, 1) := by decide +kernel
theorem dX10_weighs_65 : decode cX10_weighs 65 = .ok (.iload_n 3, 1) := by decide +kernel
theorem dX10_weighs_66 : decode cX10_weighs 66 = .ok (.ifCond .le 9, 3) := by decide +kernel
theorem dX10_weighs_69 : decode cX10_weighs 69 = .ok (.iload 5, 2) := by decide +kernel
theorem dX10_weighs_71 : decode cX10_weighs 71 = .ok (.i2l, 1) := by decide +kernel
theorem dX10_weighs_72 : decode cX10_weighs 72 = .ok (.goto 4, 3) := by decide +kernel
theorem dX10_weighs_75 : decode cX10_weighs 75 = .ok (.lconst 1, 1) := by decide +kernel
theorem dX10_weighs_76 : decode cX10_weighs 76 = .ok (.lstore 7, 2) := by decide +kernel
theorem dX10_weighs_78 : decode cX10_weighs 78 = .ok (.iload 4, 2) := by decide +kernel
theorem dX10_weighs_80 : decode cX10_weighs 80 = .ok (.ifCond .le 9, 3) := by decide +kernel
theorem dX10_weighs_83 : decode cX10_weighs 83 = .ok (.iload 6, 2) := by decide +kernel
theorem dX10_weighs_85 : decode cX10_weighs 85 = .ok (.i2l, 1) := by decide +kernel
theorem dX10_weighs_86 : decode cX10_weighs 86 = .ok (.goto 4, 3) := by decide +kernel
theorem dX10_weighs_89 : decode cX10_weighs 89 = .ok (.lconst 1, 1) := by decide +kernel
theorem dX10_weighs_90 : decode cX10_weighs 90 = .ok (.lstore 9, 2) := by decide +kernel
theorem dX10_weighs_92 : decode cX10_weighs 92 = .ok (.aload_n 0, 1) := by decide +kernel
theorem dX10_weighs_93 : decode cX10_weighs 93 = .ok (.lload 7, 2) := by decide +kernel
theorem dX10_weighs_95 : decode cX10_weighs 95 = .ok (.iload 4, 2) := by decide +kernel
theorem dX10_weighs_97 : decode cX10_weighs 97 = .ok (.i2l, 1) := by decide +kernel
theorem dX10_weighs_98 : decode cX10_weighs 98 = .ok (.lmul, 1) := by decide +kernel
theorem dX10_weighs_99 : decode cX10_weighs 99 = .ok (.aload_n 0, 1) := by decide +kernel
theorem dX10_weighs_100 : decode cX10_weighs 100 = .ok (.bipush 34, 2) := by decide +kernel
theorem dX10_weighs_102 : decode cX10_weighs 102 = .ok (.invokevirtual 135, 3) := by decide +kernel
theorem dX10_weighs_105 : decode cX10_weighs 105 = .ok (.i2l, 1) := by decide +kernel
theorem dX10_weighs_106 : decode cX10_weighs 106 = .ok (.lmul, 1) := by decide +kernel
theorem dX10_weighs_107 : decode cX10_weighs 107 = .ok (.lload 9, 2) := by decide +kernel
theorem dX10_weighs_109 : decode cX10_weighs 109 = .ok (.iload_n 3, 1) := by decide +kernel
theorem dX10_weighs_110 : decode cX10_weighs 110 = .ok (.i2l, 1) := by decide +kernel
theorem dX10_weighs_111 : decode cX10_weighs 111 = .ok (.lmul, 1) := by decide +kernel
theorem dX10_weighs_112 : decode cX10_weighs 112 = .ok (.aload_n 0, 1) := by decide +kernel
theorem dX10_weighs_113 : decode cX10_weighs 113 = .ok (.sipush 136, 3) := by decide +kernel
theorem dX10_weighs_116 : decode cX10_weighs 116 = .ok (.invokevirtual 135, 3) := by decide +kernel
theorem dX10_weighs_119 : decode cX10_weighs 119 = .ok (.i2l, 1) := by decide +kernel
theorem dX10_weighs_120 : decode cX10_weighs 120 = .ok (.lmul, 1) := by decide +kernel
theorem dX10_weighs_121 : decode cX10_weighs 121 = .ok (.ladd, 1) := by decide +kernel
theorem dX10_weighs_122 : decode cX10_weighs 122 = .ok (.putfield 52, 3) := by decide +kernel
theorem dX10_weighs_125 : decode cX10_weighs 125 = .ok (.aload_n 0, 1) := by decide +kernel
theorem dX10_weighs_126 : decode cX10_weighs 126 = .ok (.lload 7, 2) := by decide +kernel
theorem dX10_weighs_128 : decode cX10_weighs 128 = .ok (.lload 9, 2) := by decide +kernel
theorem dX10_weighs_130 : decode cX10_weighs 130 = .ok (.lmul, 1) := by decide +kernel
theorem dX10_weighs_131 : decode cX10_weighs 131 = .ok (.iload_n 2, 1) := by decide +kernel
theorem dX10_weighs_132 : decode cX10_weighs 132 = .ok (.i2l, 1) := by decide +kernel
theorem dX10_weighs_133 : decode cX10_weighs 133 = .ok (.lmul, 1) := by decide +kernel
theorem dX10_weighs_134 : decode cX10_weighs 134 = .ok (.putfield 56, 3) := by decide +kernel
theorem dX10_weighs_137 : decode cX10_weighs 137 = .ok (.iconst 1, 1) := by decide +kernel
theorem dX10_weighs_138 : decode cX10_weighs 138 = .ok (.ireturn, 1) := by decide +kernel
set_option maxRecDepth 20000 in
theorem ggX10_weighed_X10_isAsked : GoodIn wsX10_weighed wsX10_isAsked := goodIn_r _ [6, 7, 8, 5, 9, 10, 11, 12] (by decide +kernel) (by decide +kernel)
set_option maxRecDepth 20000 in
theorem gX10_weighed_X10_isAsked : GoodIn wsX10_weighed (va_wsS RX10 128 yX10_isAsked wsX10_isAsked) := goodIn_app (goodIn_of _ (by decide +kernel)) ggX10_weighed_X10_isAsked
set_option maxRecDepth 20000 in
theorem ggX10_weighed_X10_in : GoodIn wsX10_weighed wsX10_in := goodIn_r _ [12] (by decide +kernel) (by decide +kernel)
set_option maxRecDepth 20000 in
theorem gX10_weighed_X10_in : GoodIn wsX10_weighed (va_wsS RX10 48 yX10_in wsX10_in) := goodIn_app (goodIn_of _ (by decide +kernel)) ggX10_weighed_X10_in
set_option maxRecDepth 20000 in
theorem ggX10_weighed_X10_finding : GoodIn wsX10_weighed wsX10_finding := goodIn_r _ [16, 17, 18, 19, 20, 42, 43, 44, 45, 46, 47, 48, 49, 50, 51, 52, 53, 54, 55, 56, 57, 58, 59, 60, 61, 62, 63, 64, 65] (by decide +kernel) (by decide +kernel)
set_option maxRecDepth 20000 in
theorem gX10_weighed_X10_finding : GoodIn wsX10_weighed (wsV RX10 131 RX10 yX10_finding wsX10_finding) := goodIn_app (goodIn_of _ (by decide +kernel)) ggX10_weighed_X10_finding
set_option maxRecDepth 20000 in
theorem ggX10_weighed_X10_weighs : GoodIn wsX10_weighed wsX10_weighs := goodIn_r _ [24, 25, 26, 27, 28, 29, 5, 30, 20, 31, 32, 33, 34, 17, 42, 43, 44, 45, 46, 47, 48, 49, 50, 51, 52, 53, 54, 55, 56, 57, 58, 59, 60, 61, 62, 63, 64, 65] (by decide +kernel) (by decide +kernel)
set_option maxRecDepth 20000 in
theorem gX10_weighed_X10_weighs : GoodIn wsX10_weighed (wsV RX10 138 RX10 yX10_weighs wsX10_weighs) := goodIn_app (goodIn_of _ (by decide +kernel)) ggX10_weighed_X10_weighs
set_option maxRecDepth 20000 in
theorem ggX10_weighed_X10_told : GoodIn wsX10_weighed wsX10_told := goodIn_r _ [38, 25, 26, 39, 40, 5, 41, 42, 43, 44, 45, 46, 47, 48, 49, 50, 51, 52, 53, 54, 55, 56, 57, 58, 59, 60, 61, 62, 63, 64, 65] (by decide +kernel) (by decide +kernel)
set_option maxRecDepth 20000 in
theorem gX10_weighed_X10_told : GoodIn wsX10_weighed (wsV RX10 79 RX10 yX10_told wsX10_told) := goodIn_app (goodIn_of _ (by decide +kernel)) ggX10_weighed_X10_told
theorem dX10_weighed_0 : decode cX10_weighed 0 = .ok (.aload_n 0, 1) := by decide +kernel
theorem dX10_weighed_1 : decode cX10_weighed 1 = .ok (.iconst 0, 1) := by decide +kernel
theorem dX10_weighed_2 : decode cX10_weighed 2 = .ok (.putfield 45, 3) := by decide +kernel
theorem dX10_weighed_5 : decode cX10_weighed 5 = .ok (.iload_n 1, 1) := by decide +kernel
theorem dX10_weighed_6 : decode cX10_weighed 6 = .ok (.iload_n 2, 1) := by decide +kernel
theorem dX10_weighed_7 : decode cX10_weighed 7 = .ok (.iload_n 3, 1) := by decide +kernel
theorem dX10_weighed_8 : decode cX10_weighed 8 = .ok (.invokestatic 128, 3) := by decide +kernel
theorem dX10_weighed_11 : decode cX10_weighed 11 = .ok (.ifCond .eq 13, 3) := by decide +kernel
theorem dX10_weighed_14 : decode cX10_weighed 14 = .ok (.iload 4, 2) := by decide +kernel
theorem dX10_weighed_16 : decode cX10_weighed 16 = .ok (.iconst 0, 1) := by decide +kernel
theorem dX10_weighed_17 : decode cX10_weighed 17 = .ok (.iconst 1, 1) := by decide +kernel
theorem dX10_weighed_18 : decode cX10_weighed 18 = .ok (.invokestatic 48, 3) := by decide +kernel
theorem dX10_weighed_21 : decode cX10_weighed 21 = .ok (.ifCond .ne 7, 3) := by decide +kernel
theorem dX10_weighed_24 : decode cX10_weighed 24 = .ok (.ldc2_w 74, 3) := by decide +kernel
theorem dX10_weighed_27 : decode cX10_weighed 27 = .ok (.lreturn, 1) := by decide +kernel
theorem dX10_weighed_28 : decode cX10_weighed 28 = .ok (.aload_n 0, 1) := by decide +kernel
theorem dX10_weighed_29 : decode cX10_weighed 29 = .ok (.iload_n 1, 1) := by decide +kernel
theorem dX10_weighed_30 : decode cX10_weighed 30 = .ok (.iload_n 2, 1) := by decide +kernel
theorem dX10_weighed_31 : decode cX10_weighed 31 = .ok (.iload_n 3, 1) := by decide +kernel
theorem dX10_weighed_32 : decode cX10_weighed 32 = .ok (.invokevirtual 131, 3) := by decide +kernel
theorem dX10_weighed_35 : decode cX10_weighed 35 = .ok (.aload_n 0, 1) := by decide +kernel
theorem dX10_weighed_36 : decode cX10_weighed 36 = .ok (.iload_n 1, 1) := by decide +kernel
theorem dX10_weighed_37 : decode cX10_weighed 37 = .ok (.invokevirtual 138, 3) := by decide +kernel
theorem dX10_weighed_40 : decode cX10_weighed 40 = .ok (.ifCond .eq 21, 3) := by decide +kernel
theorem dX10_weighed_43 : decode cX10_weighed 43 = .ok (.aload_n 0, 1) := by decide +kernel
theorem dX10_weighed_44 : decode cX10_weighed 44 = .ok (.iload 4, 2) := by decide +kernel
theorem dX10_weighed_46 : decode cX10_weighed 46 = .ok (.iconst 1, 1) := by decide +kernel
theorem dX10_weighed_47 : decode cX10_weighed 47 = .ok (.if_icmp .ne 7, 3) := by decide +kernel
theorem dX10_weighed_50 : decode cX10_weighed 50 = .ok (.iconst 1, 1) := by decide +kernel
theorem dX10_weighed_51 : decode cX10_weighed 51 = .ok (.goto 4, 3) := by decide +kernel
theorem dX10_weighed_54 : decode cX10_weighed 54 = .ok (.iconst 0, 1) := by decide +kernel
theorem dX10_weighed_55 : decode cX10_weighed 55 = .ok (.invokevirtual 79, 3) := by decide +kernel
theorem dX10_weighed_58 : decode cX10_weighed 58 = .ok (.goto 6, 3) := by decide +kernel
theorem dX10_weighed_61 : decode cX10_weighed 61 = .ok (.ldc2_w 74, 3) := by decide +kernel
theorem dX10_weighed_64 : decode cX10_weighed 64 = .ok (.lreturn, 1) := by decide +kernel
theorem dX10_apart_0 : decode cX10_apart 0 = .ok (.lload_n 0, 1) := by decide +kernel
theorem dX10_apart_1 : decode cX10_apart 1 = .ok (.lload_n 2, 1) := by decide +kernel
theorem dX10_apart_2 : decode cX10_apart 2 = .ok (.lcmp, 1) := by decide +kernel
theorem dX10_apart_3 : decode cX10_apart 3 = .ok (.ifCond .ge 9, 3) := by decide +kernel
theorem dX10_apart_6 : decode cX10_apart 6 = .ok (.lload_n 2, 1) := by decide +kernel
theorem dX10_apart_7 : decode cX10_apart 7 = .ok (.lload_n 0, 1) := by decide +kernel
theorem dX10_apart_8 : decode cX10_apart 8 = .ok (.lsub, 1) := by decide +kernel
theorem dX10_apart_9 : decode cX10_apart 9 = .ok (.goto 6, 3) := by decide +kernel
theorem dX10_apart_12 : decode cX10_apart 12 = .ok (.lload_n 0, 1) := by decide +kernel
theorem dX10_apart_13 : decode cX10_apart 13 = .ok (.lload_n 2, 1) := by decide +kernel
theorem dX10_apart_14 : decode cX10_apart 14 = .ok (.lsub, 1) := by decide +kernel
theorem dX10_apart_15 : decode cX10_apart 15 = .ok (.lreturn, 1) := by decide +kernel
set_option maxRecDepth 20000 in
theorem ggX10_mends_X10_isAsked : GoodIn wsX10_mends wsX10_isAsked := goodIn_r _ [7, 8, 9, 6, 10, 11, 12, 13] (by decide +kernel) (by decide +kernel)
set_option maxRecDepth 20000 in
theorem gX10_mends_X10_isAsked : GoodIn wsX10_mends (va_wsS RX10 128 yX10_isAsked wsX10_isAsked) := goodIn_app (goodIn_of _ (by decide +kernel)) ggX10_mends_X10_isAsked
set_option maxRecDepth 20000 in
theorem ggX10_mends_X10_finding : GoodIn wsX10_mends wsX10_finding := goodIn_r _ [17, 18, 19, 20, 21, 37, 38, 39, 40, 41, 42, 43, 44, 45, 46, 47, 48, 49, 50, 51, 52, 53, 54, 55, 56, 57, 58, 59, 60] (by decide +kernel) (by decide +kernel)
set_option maxRecDepth 20000 in
theorem gX10_mends_X10_finding : GoodIn wsX10_mends (wsV RX10 131 RX10 yX10_finding wsX10_finding) := goodIn_app (goodIn_of _ (by decide +kernel)) ggX10_mends_X10_finding
set_option maxRecDepth 20000 in
theorem ggX10_mends_X10_gotOf : GoodIn wsX10_mends wsX10_gotOf := goodIn_r _ [25, 18, 37, 38, 39, 40, 41, 42, 43, 44, 45, 46, 47, 48, 49, 50, 51, 52, 53, 54, 55, 56, 57, 58, 59, 60] (by decide +kernel) (by decide +kernel)
set_option maxRecDepth 20000 in
theorem gX10_mends_X10_gotOf : GoodIn wsX10_mends (wsV RX10 135 RX10 yX10_gotOf wsX10_gotOf) := goodIn_app (goodIn_of _ (by decide +kernel)) ggX10_mends_X10_gotOf
set_option maxRecDepth 20000 in
theorem ggX10_mends_X10_weighs : GoodIn wsX10_mends wsX10_weighs := goodIn_r _ [29, 2, 3, 30, 31, 32, 6, 33, 21, 22, 23, 24, 25, 18, 37, 38, 39, 40, 41, 42, 43, 44, 45, 46, 47, 48, 49, 50, 51, 52, 53, 54, 55, 56, 57, 58, 59, 60] (by decide +kernel) (by decide +kernel)
set_option maxRecDepth 20000 in
theorem gX10_mends_X10_weighs : GoodIn wsX10_mends (wsV RX10 138 RX10 yX10_weighs wsX10_weighs) := goodIn_app (goodIn_of _ (by decide +kernel)) ggX10_mends_X10_weighs
set_option maxRecDepth 20000 in
theorem ggX10_mends_X10_persons : GoodIn wsX10_mends wsX10_persons := goodIn_r _ [33, 21, 37, 38, 39, 40, 41, 42, 43, 44, 45, 46, 47, 48, 49, 50, 51, 52, 53, 54, 55, 56, 57, 58, 59, 60] (by decide +kernel) (by decide +kernel)
set_option maxRecDepth 20000 in
theorem gX10_mends_X10_persons : GoodIn wsX10_mends (wsV RX10 67 RX10 yX10_persons wsX10_persons) := goodIn_app (goodIn_of _ (by decide +kernel)) ggX10_mends_X10_persons
set_option maxRecDepth 20000 in
theorem ggX10_mends_X10_apart : GoodIn wsX10_mends wsX10_apart := goodIn_r _ [36] (by decide +kernel) (by decide +kernel)
set_option maxRecDepth 20000 in
theorem gX10_mends_X10_apart : GoodIn wsX10_mends (va_wsS RX10 141 yX10_apart wsX10_apart) := goodIn_app (goodIn_of _ (by decide +kernel)) ggX10_mends_X10_apart
theorem dX10_mends_0 : decode cX10_mends 0 = .ok (.aload_n 0, 1) := by decide +kernel
theorem dX10_mends_1 : decode cX10_mends 1 = .ok (.iconst 0, 1) := by decide +kernel
theorem dX10_mends_2 : decode cX10_mends 2 = .ok (.putfield 45, 3) := by decide +kernel
theorem dX10_mends_5 : decode cX10_mends 5 = .ok (.iload_n 1, 1) := by decide +kernel
theorem dX10_mends_6 : decode cX10_mends 6 = .ok (.iload_n 2, 1) := by decide +kernel
theorem dX10_mends_7 : decode cX10_mends 7 = .ok (.iload_n 3, 1) := by decide +kernel
theorem dX10_mends_8 : decode cX10_mends 8 = .ok (.invokestatic 128, 3) := by decide +kernel
theorem dX10_mends_11 : decode cX10_mends 11 = .ok (.ifCond .ne 6, 3) := by decide +kernel
theorem dX10_mends_14 : decode cX10_mends 14 = .ok (.bipush (-9), 2) := by decide +kernel
theorem dX10_mends_16 : decode cX10_mends 16 = .ok (.ireturn, 1) := by decide +kernel
theorem dX10_mends_17 : decode cX10_mends 17 = .ok (.aload_n 0, 1) := by decide +kernel
theorem dX10_mends_18 : decode cX10_mends 18 = .ok (.iload_n 1, 1) := by decide +kernel
theorem dX10_mends_19 : decode cX10_mends 19 = .ok (.iload_n 2, 1) := by decide +kernel
theorem dX10_mends_20 : decode cX10_mends 20 = .ok (.iload_n 3, 1) := by decide +kernel
theorem dX10_mends_21 : decode cX10_mends 21 = .ok (.invokevirtual 131, 3) := by decide +kernel
theorem dX10_mends_24 : decode cX10_mends 24 = .ok (.aload_n 0, 1) := by decide +kernel
theorem dX10_mends_25 : decode cX10_mends 25 = .ok (.sipush 255, 3) := by decide +kernel
theorem dX10_mends_28 : decode cX10_mends 28 = .ok (.invokevirtual 135, 3) := by decide +kernel
theorem dX10_mends_31 : decode cX10_mends 31 = .ok (.i2l, 1) := by decide +kernel
theorem dX10_mends_32 : decode cX10_mends 32 = .ok (.lstore 4, 2) := by decide +kernel
theorem dX10_mends_34 : decode cX10_mends 34 = .ok (.lload 4, 2) := by decide +kernel
theorem dX10_mends_36 : decode cX10_mends 36 = .ok (.lconst 0, 1) := by decide +kernel
theorem dX10_mends_37 : decode cX10_mends 37 = .ok (.lcmp, 1) := by decide +kernel
theorem dX10_mends_38 : decode cX10_mends 38 = .ok (.ifCond .eq 11, 3) := by decide +kernel
theorem dX10_mends_41 : decode cX10_mends 41 = .ok (.aload_n 0, 1) := by decide +kernel
theorem dX10_mends_42 : decode cX10_mends 42 = .ok (.iload_n 1, 1) := by decide +kernel
theorem dX10_mends_43 : decode cX10_mends 43 = .ok (.invokevirtual 138, 3) := by decide +kernel
theorem dX10_mends_46 : decode cX10_mends 46 = .ok (.ifCond .ne 6, 3) := by decide +kernel
theorem dX10_mends_49 : decode cX10_mends 49 = .ok (.bipush (-9), 2) := by decide +kernel
theorem dX10_mends_51 : decode cX10_mends 51 = .ok (.ireturn, 1) := by decide +kernel
theorem dX10_mends_52 : decode cX10_mends 52 = .ok (.aload_n 0, 1) := by decide +kernel
theorem dX10_mends_53 : decode cX10_mends 53 = .ok (.iload_n 1, 1) := by decide +kernel
theorem dX10_mends_54 : decode cX10_mends 54 = .ok (.sipush 255, 3) := by decide +kernel
theorem dX10_mends_57 : decode cX10_mends 57 = .ok (.invokevirtual 67, 3) := by decide +kernel
theorem dX10_mends_60 : decode cX10_mends 60 = .ok (.i2l, 1) := by decide +kernel
theorem dX10_mends_61 : decode cX10_mends 61 = .ok (.lstore 6, 2) := by decide +kernel
theorem dX10_mends_63 : decode cX10_mends 63 = .ok (.aload_n 0, 1) := by decide +kernel
theorem dX10_mends_64 : decode cX10_mends 64 = .ok (.iload_n 1, 1) := by decide +kernel
theorem dX10_mends_65 : decode cX10_mends 65 = .ok (.sipush 170, 3) := by decide +kernel
theorem dX10_mends_68 : decode cX10_mends 68 = .ok (.invokevirtual 67, 3) := by decide +kernel
theorem dX10_mends_71 : decode cX10_mends 71 = .ok (.i2l, 1) := by decide +kernel
theorem dX10_mends_72 : decode cX10_mends 72 = .ok (.lstore 8, 2) := by decide +kernel
theorem dX10_mends_74 : decode cX10_mends 74 = .ok (.aload_n 0, 1) := by decide +kernel
theorem dX10_mends_75 : decode cX10_mends 75 = .ok (.getfield 52, 3) := by decide +kernel
theorem dX10_mends_78 : decode cX10_mends 78 = .ok (.lload 6, 2) := by decide +kernel
theorem dX10_mends_80 : decode cX10_mends 80 = .ok (.lmul, 1) := by decide +kernel
theorem dX10_mends_81 : decode cX10_mends 81 = .ok (.lload 8, 2) := by decide +kernel
theorem dX10_mends_83 : decode cX10_mends 83 = .ok (.aload_n 0, 1) := by decide +kernel
theorem dX10_mends_84 : decode cX10_mends 84 = .ok (.getfield 56, 3) := by decide +kernel
theorem dX10_mends_87 : decode cX10_mends 87 = .ok (.lmul, 1) := by decide +kernel
theorem dX10_mends_88 : decode cX10_mends 88 = .ok (.invokestatic 141, 3) := by decide +kernel
theorem dX10_mends_91 : decode cX10_mends 91 = .ok (.lload 4, 2) := by decide +kernel
theorem dX10_mends_93 : decode cX10_mends 93 = .ok (.lmul, 1) := by decide +kernel
theorem dX10_mends_94 : decode cX10_mends 94 = .ok (.lstore 10, 2) := by decide +kernel
theorem dX10_mends_96 : decode cX10_mends 96 = .ok (.aload_n 0, 1) := by decide +kernel
theorem dX10_mends_97 : decode cX10_mends 97 = .ok (.sipush 170, 3) := by decide +kernel
theorem dX10_mends_100 : decode cX10_mends 100 = .ok (.invokevirtual 135, 3) := by decide +kernel
theorem dX10_mends_103 : decode cX10_mends 103 = .ok (.i2l, 1) := by decide +kernel
theorem dX10_mends_104 : decode cX10_mends 104 = .ok (.lload 6, 2) := by decide +kernel
theorem dX10_mends_106 : decode cX10_mends 106 = .ok (.lmul, 1) := by decide +kernel
theorem dX10_mends_107 : decode cX10_mends 107 = .ok (.lload 8, 2) := by decide +kernel
theorem dX10_mends_109 : decode cX10_mends 109 = .ok (.lload 4, 2) := by decide +kernel
theorem dX10_mends_111 : decode cX10_mends 111 = .ok (.lmul, 1) := by decide +kernel
theorem dX10_mends_112 : decode cX10_mends 112 = .ok (.invokestatic 141, 3) := by decide +kernel
theorem dX10_mends_115 : decode cX10_mends 115 = .ok (.aload_n 0, 1) := by decide +kernel
theorem dX10_mends_116 : decode cX10_mends 116 = .ok (.getfield 56, 3) := by decide +kernel
theorem dX10_mends_119 : decode cX10_mends 119 = .ok (.lmul, 1) := by decide +kernel
theorem dX10_mends_120 : decode cX10_mends 120 = .ok (.lstore 12, 2) := by decide +kernel
theorem dX10_mends_122 : decode cX10_mends 122 = .ok (.lload 10, 2) := by decide +kernel
theorem dX10_mends_124 : decode cX10_mends 124 = .ok (.lload 12, 2) := by decide +kernel
theorem dX10_mends_126 : decode cX10_mends 126 = .ok (.lcmp, 1) := by decide +kernel
theorem dX10_mends_127 : decode cX10_mends 127 = .ok (.ifCond .ge 7, 3) := by decide +kernel
theorem dX10_mends_130 : decode cX10_mends 130 = .ok (.iconst 1, 1) := by decide +kernel
theorem dX10_mends_131 : decode cX10_mends 131 = .ok (.goto 16, 3) := by decide +kernel
theorem dX10_mends_134 : decode cX10_mends 134 = .ok (.lload 10, 2) := by decide +kernel
theorem dX10_mends_136 : decode cX10_mends 136 = .ok (.lload 12, 2) := by decide +kernel
theorem dX10_mends_138 : decode cX10_mends 138 = .ok (.lcmp, 1) := by decide +kernel
theorem dX10_mends_139 : decode cX10_mends 139 = .ok (.ifCond .le 7, 3) := by decide +kernel
theorem dX10_mends_142 : decode cX10_mends 142 = .ok (.iconst (-1), 1) := by decide +kernel
theorem dX10_mends_143 : decode cX10_mends 143 = .ok (.goto 4, 3) := by decide +kernel
theorem dX10_mends_146 : decode cX10_mends 146 = .ok (.iconst 0, 1) := by decide +kernel
theorem dX10_mends_147 : decode cX10_mends 147 = .ok (.ireturn, 1) := by decide +kernel
theorem dX10_choose_0 : decode cX10_choose 0 = .ok (.iload_n 2, 1) := by decide +kernel
theorem dX10_choose_1 : decode cX10_choose 1 = .ok (.ifCond .lt 8, 3) := by decide +kernel
theorem dX10_choose_4 : decode cX10_choose 4 = .ok (.iload_n 2, 1) := by decide +kernel
theorem dX10_choose_5 : decode cX10_choose 5 = .ok (.iload_n 1, 1) := by decide +kernel
theorem dX10_choose_6 : decode cX10_choose 6 = .ok (.if_icmp .le 7, 3) := by decide +kernel
theorem dX10_choose_9 : decode cX10_choose 9 = .ok (.lconst 0, 1) := by decide +kernel
theorem dX10_choose_10 : decode cX10_choose 10 = .ok (.goto 14, 3) := by decide +kernel
theorem dX10_choose_13 : decode cX10_choose 13 = .ok (.aload_n 0, 1) := by decide +kernel
theorem dX10_choose_14 : decode cX10_choose 14 = .ok (.getfield 7, 3) := by decide +kernel
theorem dX10_choose_17 : decode cX10_choose 17 = .ok (.bipush 51, 2) := by decide +kernel
theorem dX10_choose_19 : decode cX10_choose 19 = .ok (.iload_n 1, 1) := by decide +kernel
theorem dX10_choose_20 : decode cX10_choose 20 = .ok (.imul, 1) := by decide +kernel
theorem dX10_choose_21 : decode cX10_choose 21 = .ok (.iload_n 2, 1) := by decide +kernel
theorem dX10_choose_22 : decode cX10_choose 22 = .ok (.iadd, 1) := by decide +kernel
theorem dX10_choose_23 : decode cX10_choose 23 = .ok (.laload, 1) := by decide +kernel
theorem dX10_choose_24 : decode cX10_choose 24 = .ok (.lreturn, 1) := by decide +kernel
set_option maxRecDepth 20000 in
theorem ggX10_waysOf_X10_choose : GoodIn wsX10_waysOf wsX10_choose := goodIn_r _ [5, 6, 7, 8, 9, 10, 11, 12, 13, 14, 15, 16, 17, 18, 19, 20, 21, 22, 23, 24, 25, 26, 27, 28, 29, 30] (by decide +kernel) (by decide +kernel)
set_option maxRecDepth 20000 in
theorem gX10_waysOf_X10_choose : GoodIn wsX10_waysOf (wsV RX10 144 RX10 yX10_choose wsX10_choose) := goodIn_app (goodIn_of _ (by decide +kernel)) ggX10_waysOf_X10_choose
theorem dX10_waysOf_0 : decode cX10_waysOf 0 = .ok (.lconst 0, 1) := by decide +kernel
theorem dX10_waysOf_1 : decode cX10_waysOf 1 = .ok (.lstore 5, 2) := by decide +kernel
theorem dX10_waysOf_3 : decode cX10_waysOf 3 = .ok (.iconst 0, 1) := by decide +kernel
theorem dX10_waysOf_4 : decode cX10_waysOf 4 = .ok (.istore 7, 2) := by decide +kernel
theorem dX10_waysOf_6 : decode cX10_waysOf 6 = .ok (.iload 7, 2) := by decide +kernel
theorem dX10_waysOf_8 : decode cX10_waysOf 8 = .ok (.iload_n 3, 1) := by decide +kernel
theorem dX10_waysOf_9 : decode cX10_waysOf 9 = .ok (.if_icmp .gt 76, 3) := by decide +kernel
theorem dX10_waysOf_12 : decode cX10_waysOf 12 = .ok (.iload 7, 2) := by decide +kernel
theorem dX10_waysOf_14 : decode cX10_waysOf 14 = .ok (.iload_n 1, 1) := by decide +kernel
theorem dX10_waysOf_15 : decode cX10_waysOf 15 = .ok (.imul, 1) := by decide +kernel
theorem dX10_waysOf_16 : decode cX10_waysOf 16 = .ok (.iload_n 2, 1) := by decide +kernel
theorem dX10_waysOf_17 : decode cX10_waysOf 17 = .ok (.iload_n 3, 1) := by decide +kernel
theorem dX10_waysOf_18 : decode cX10_waysOf 18 = .ok (.imul, 1) := by decide +kernel
theorem dX10_waysOf_19 : decode cX10_waysOf 19 = .ok (.isub, 1) := by decide +kernel
theorem dX10_waysOf_20 : decode cX10_waysOf 20 = .ok (.istore 8, 2) := by decide +kernel
theorem dX10_waysOf_22 : decode cX10_waysOf 22 = .ok (.iload 8, 2) := by decide +kernel
theorem dX10_waysOf_24 : decode cX10_waysOf 24 = .ok (.ifCond .ge 9, 3) := by decide +kernel
theorem dX10_waysOf_27 : decode cX10_waysOf 27 = .ok (.iload 8, 2) := by decide +kernel
theorem dX10_waysOf_29 : decode cX10_waysOf 29 = .ok (.ineg, 1) := by decide +kernel
theorem dX10_waysOf_30 : decode cX10_waysOf 30 = .ok (.goto 5, 3) := by decide +kernel
theorem dX10_waysOf_33 : decode cX10_waysOf 33 = .ok (.iload 8, 2) := by decide +kernel
theorem dX10_waysOf_35 : decode cX10_waysOf 35 = .ok (.istore 8, 2) := by decide +kernel
theorem dX10_waysOf_37 : decode cX10_waysOf 37 = .ok (.lload 5, 2) := by decide +kernel
theorem dX10_waysOf_39 : decode cX10_waysOf 39 = .ok (.bipush 100, 2) := by decide +kernel
theorem dX10_waysOf_41 : decode cX10_waysOf 41 = .ok (.iload 8, 2) := by decide +kernel
theorem dX10_waysOf_43 : decode cX10_waysOf 43 = .ok (.imul, 1) := by decide +kernel
theorem dX10_waysOf_44 : decode cX10_waysOf 44 = .ok (.iload 4, 2) := by decide +kernel
theorem dX10_waysOf_46 : decode cX10_waysOf 46 = .ok (.iload_n 1, 1) := by decide +kernel
theorem dX10_waysOf_47 : decode cX10_waysOf 47 = .ok (.imul, 1) := by decide +kernel
theorem dX10_waysOf_48 : decode cX10_waysOf 48 = .ok (.iload_n 3, 1) := by decide +kernel
theorem dX10_waysOf_49 : decode cX10_waysOf 49 = .ok (.imul, 1) := by decide +kernel
theorem dX10_waysOf_50 : decode cX10_waysOf 50 = .ok (.if_icmp .gt 25, 3) := by decide +kernel
theorem dX10_waysOf_53 : decode cX10_waysOf 53 = .ok (.aload_n 0, 1) := by decide +kernel
theorem dX10_waysOf_54 : decode cX10_waysOf 54 = .ok (.iload_n 2, 1) := by decide +kernel
theorem dX10_waysOf_55 : decode cX10_waysOf 55 = .ok (.iload 7, 2) := by decide +kernel
theorem dX10_waysOf_57 : decode cX10_waysOf 57 = .ok (.invokevirtual 144, 3) := by decide +kernel
theorem dX10_waysOf_60 : decode cX10_waysOf 60 = .ok (.aload_n 0, 1) := by decide +kernel
theorem dX10_waysOf_61 : decode cX10_waysOf 61 = .ok (.iload_n 1, 1) := by decide +kernel
theorem dX10_waysOf_62 : decode cX10_waysOf 62 = .ok (.iload_n 2, 1) := by decide +kernel
theorem dX10_waysOf_63 : decode cX10_waysOf 63 = .ok (.isub, 1) := by decide +kernel
theorem dX10_waysOf_64 : decode cX10_waysOf 64 = .ok (.iload_n 3, 1) := by decide +kernel
theorem dX10_waysOf_65 : decode cX10_waysOf 65 = .ok (.iload 7, 2) := by decide +kernel
theorem dX10_waysOf_67 : decode cX10_waysOf 67 = .ok (.isub, 1) := by decide +kernel
theorem dX10_waysOf_68 : decode cX10_waysOf 68 = .ok (.invokevirtual 144, 3) := by decide +kernel
theorem dX10_waysOf_71 : decode cX10_waysOf 71 = .ok (.lmul, 1) := by decide +kernel
theorem dX10_waysOf_72 : decode cX10_waysOf 72 = .ok (.goto 4, 3) := by decide +kernel
theorem dX10_waysOf_75 : decode cX10_waysOf 75 = .ok (.lconst 0, 1) := by decide +kernel
theorem dX10_waysOf_76 : decode cX10_waysOf 76 = .ok (.ladd, 1) := by decide +kernel
theorem dX10_waysOf_77 : decode cX10_waysOf 77 = .ok (.lstore 5, 2) := by decide +kernel
theorem dX10_waysOf_79 : decode cX10_waysOf 79 = .ok (.iinc 7 1, 3) := by decide +kernel
theorem dX10_waysOf_82 : decode cX10_waysOf 82 = .ok (.goto (-76), 3) := by decide +kernel
theorem dX10_waysOf_85 : decode cX10_waysOf 85 = .ok (.lload 5, 2) := by decide +kernel
theorem dX10_waysOf_87 : decode cX10_waysOf 87 = .ok (.lreturn, 1) := by decide +kernel
set_option maxRecDepth 20000 in
theorem ggX10_ways_X10_in : GoodIn wsX10_ways wsX10_in := goodIn_r _ [6] (by decide +kernel) (by decide +kernel)
set_option maxRecDepth 20000 in
theorem gX10_ways_X10_in : GoodIn wsX10_ways (va_wsS RX10 48 yX10_in wsX10_in) := goodIn_app (goodIn_of _ (by decide +kernel)) ggX10_ways_X10_in
set_option maxRecDepth 20000 in
theorem ggX10_ways_X10_waysOf : GoodIn wsX10_ways wsX10_waysOf := goodIn_r _ [10, 11, 12, 13, 5, 14, 15, 16, 17, 18, 19, 20, 21, 22, 23, 24, 25, 26, 27, 28, 29, 30, 31, 32, 33, 34, 35, 36, 37, 38, 39] (by decide +kernel) (by decide +kernel)
set_option maxRecDepth 20000 in
theorem gX10_ways_X10_waysOf : GoodIn wsX10_ways (wsV RX10 148 RX10 yX10_waysOf wsX10_waysOf) := goodIn_app (goodIn_of _ (by decide +kernel)) ggX10_ways_X10_waysOf
set_option maxRecDepth 20000 in
theorem ggX10_ways_X10_choose : GoodIn wsX10_ways wsX10_choose := goodIn_r _ [14, 15, 16, 17, 18, 19, 20, 21, 22, 23, 24, 25, 26, 27, 28, 29, 30, 31, 32, 33, 34, 35, 36, 37, 38, 39] (by decide +kernel) (by decide +kernel)
set_option maxRecDepth 20000 in
theorem gX10_ways_X10_choose : GoodIn wsX10_ways (wsV RX10 144 RX10 yX10_choose wsX10_choose) := goodIn_app (goodIn_of _ (by decide +kernel)) ggX10_ways_X10_choose
theorem dX10_ways_0 : decode cX10_ways 0 = .ok (.aload_n 0, 1) := by decide +kernel
theorem dX10_ways_1 : decode cX10_ways 1 = .ok (.iconst 0, 1) := by decide +kernel
theorem dX10_ways_2 : decode cX10_ways 2 = .ok (.putfield 45, 3) := by decide +kernel
theorem dX10_ways_5 : decode cX10_ways 5 = .ok (.iload_n 1, 1) := by decide +kernel
theorem dX10_ways_6 : decode cX10_ways 6 = .ok (.iconst 1, 1) := by decide +kernel
theorem dX10_ways_7 : decode cX10_ways 7 = .ok (.bipush 50, 2) := by decide +kernel
theorem dX10_ways_9 : decode cX10_ways 9 = .ok (.invokestatic 48, 3) := by decide +kernel
theorem dX10_ways_12 : decode cX10_ways 12 = .ok (.ifCond .eq 42, 3) := by decide +kernel
theorem dX10_ways_15 : decode cX10_ways 15 = .ok (.iload_n 2, 1) := by decide +kernel
theorem dX10_ways_16 : decode cX10_ways 16 = .ok (.iconst 0, 1) := by decide +kernel
theorem dX10_ways_17 : decode cX10_ways 17 = .ok (.iload_n 1, 1) := by decide +kernel
theorem dX10_ways_18 : decode cX10_ways 18 = .ok (.invokestatic 48, 3) := by decide +kernel
theorem dX10_ways_21 : decode cX10_ways 21 = .ok (.ifCond .eq 33, 3) := by decide +kernel
theorem dX10_ways_24 : decode cX10_ways 24 = .ok (.iload_n 3, 1) := by decide +kernel
theorem dX10_ways_25 : decode cX10_ways 25 = .ok (.iconst 1, 1) := by decide +kernel
theorem dX10_ways_26 : decode cX10_ways 26 = .ok (.iload_n 1, 1) := by decide +kernel
theorem dX10_ways_27 : decode cX10_ways 27 = .ok (.invokestatic 48, 3) := by decide +kernel
theorem dX10_ways_30 : decode cX10_ways 30 = .ok (.ifCond .eq 24, 3) := by decide +kernel
theorem dX10_ways_33 : decode cX10_ways 33 = .ok (.iload 4, 2) := by decide +kernel
theorem dX10_ways_35 : decode cX10_ways 35 = .ok (.iconst 0, 1) := by decide +kernel
theorem dX10_ways_36 : decode cX10_ways 36 = .ok (.bipush 100, 2) := by decide +kernel
theorem dX10_ways_38 : decode cX10_ways 38 = .ok (.invokestatic 48, 3) := by decide +kernel
theorem dX10_ways_41 : decode cX10_ways 41 = .ok (.ifCond .eq 13, 3) := by decide +kernel
theorem dX10_ways_44 : decode cX10_ways 44 = .ok (.iload 5, 2) := by decide +kernel
theorem dX10_ways_46 : decode cX10_ways 46 = .ok (.iconst 0, 1) := by decide +kernel
theorem dX10_ways_47 : decode cX10_ways 47 = .ok (.iconst 1, 1) := by decide +kernel
theorem dX10_ways_48 : decode cX10_ways 48 = .ok (.invokestatic 48, 3) := by decide +kernel
theorem dX10_ways_51 : decode cX10_ways 51 = .ok (.ifCond .ne 7, 3) := by decide +kernel
theorem dX10_ways_54 : decode cX10_ways 54 = .ok (.ldc2_w 74, 3) := by decide +kernel
theorem dX10_ways_57 : decode cX10_ways 57 = .ok (.lreturn, 1) := by decide +kernel
theorem dX10_ways_58 : decode cX10_ways 58 = .ok (.iload 5, 2) := by decide +kernel
theorem dX10_ways_60 : decode cX10_ways 60 = .ok (.ifCond .ne 15, 3) := by decide +kernel
theorem dX10_ways_63 : decode cX10_ways 63 = .ok (.aload_n 0, 1) := by decide +kernel
theorem dX10_ways_64 : decode cX10_ways 64 = .ok (.iload_n 1, 1) := by decide +kernel
theorem dX10_ways_65 : decode cX10_ways 65 = .ok (.iload_n 2, 1) := by decide +kernel
theorem dX10_ways_66 : decode cX10_ways 66 = .ok (.iload_n 3, 1) := by decide +kernel
theorem dX10_ways_67 : decode cX10_ways 67 = .ok (.iload 4, 2) := by decide +kernel
theorem dX10_ways_69 : decode cX10_ways 69 = .ok (.invokevirtual 148, 3) := by decide +kernel
theorem dX10_ways_72 : decode cX10_ways 72 = .ok (.goto 9, 3) := by decide +kernel
theorem dX10_ways_75 : decode cX10_ways 75 = .ok (.aload_n 0, 1) := by decide +kernel
theorem dX10_ways_76 : decode cX10_ways 76 = .ok (.iload_n 1, 1) := by decide +kernel
theorem dX10_ways_77 : decode cX10_ways 77 = .ok (.iload_n 3, 1) := by decide +kernel
theorem dX10_ways_78 : decode cX10_ways 78 = .ok (.invokevirtual 144, 3) := by decide +kernel
theorem dX10_ways_81 : decode cX10_ways 81 = .ok (.lreturn, 1) := by decide +kernel
set_option maxRecDepth 20000 in
theorem ggX10_isSure_X10_waysOf : GoodIn wsX10_isSure wsX10_waysOf := goodIn_r _ [6, 7, 8, 9, 5, 10, 11, 12, 13, 14, 15, 16, 17, 18, 19, 20, 21, 22, 23, 24, 25, 26, 27, 28, 29, 30, 31, 32, 33, 34, 35] (by decide +kernel) (by decide +kernel)
set_option maxRecDepth 20000 in
theorem gX10_isSure_X10_waysOf : GoodIn wsX10_isSure (wsV RX10 148 RX10 yX10_waysOf wsX10_waysOf) := goodIn_app (goodIn_of _ (by decide +kernel)) ggX10_isSure_X10_waysOf
set_option maxRecDepth 20000 in
theorem ggX10_isSure_X10_choose : GoodIn wsX10_isSure wsX10_choose := goodIn_r _ [10, 11, 12, 13, 14, 15, 16, 17, 18, 19, 20, 21, 22, 23, 24, 25, 26, 27, 28, 29, 30, 31, 32, 33, 34, 35] (by decide +kernel) (by decide +kernel)
set_option maxRecDepth 20000 in
theorem gX10_isSure_X10_choose : GoodIn wsX10_isSure (wsV RX10 144 RX10 yX10_choose wsX10_choose) := goodIn_app (goodIn_of _ (by decide +kernel)) ggX10_isSure_X10_choose
theorem dX10_isSure_0 : decode cX10_isSure 0 = .ok (.ldc2_w 152, 3) := by decide +kernel
theorem dX10_isSure_3 : decode cX10_isSure 3 = .ok (.aload_n 0, 1) := by decide +kernel
theorem dX10_isSure_4 : decode cX10_isSure 4 = .ok (.iload_n 1, 1) := by decide +kernel
theorem dX10_isSure_5 : decode cX10_isSure 5 = .ok (.iload_n 2, 1) := by decide +kernel
theorem dX10_isSure_6 : decode cX10_isSure 6 = .ok (.iload_n 3, 1) := by decide +kernel
theorem dX10_isSure_7 : decode cX10_isSure 7 = .ok (.iload 4, 2) := by decide +kernel
theorem dX10_isSure_9 : decode cX10_isSure 9 = .ok (.invokevirtual 148, 3) := by decide +kernel
theorem dX10_isSure_12 : decode cX10_isSure 12 = .ok (.lmul, 1) := by decide +kernel
theorem dX10_isSure_13 : decode cX10_isSure 13 = .ok (.iload 5, 2) := by decide +kernel
theorem dX10_isSure_15 : decode cX10_isSure 15 = .ok (.i2l, 1) := by decide +kernel
theorem dX10_isSure_16 : decode cX10_isSure 16 = .ok (.aload_n 0, 1) := by decide +kernel
theorem dX10_isSure_17 : decode cX10_isSure 17 = .ok (.iload_n 1, 1) := by decide +kernel
theorem dX10_isSure_18 : decode cX10_isSure 18 = .ok (.iload_n 3, 1) := by decide +kernel
theorem dX10_isSure_19 : decode cX10_isSure 19 = .ok (.invokevirtual 144, 3) := by decide +kernel
theorem dX10_isSure_22 : decode cX10_isSure 22 = .ok (.lmul, 1) := by decide +kernel
theorem dX10_isSure_23 : decode cX10_isSure 23 = .ok (.lcmp, 1) := by decide +kernel
theorem dX10_isSure_24 : decode cX10_isSure 24 = .ok (.ifCond .lt 7, 3) := by decide +kernel
theorem dX10_isSure_27 : decode cX10_isSure 27 = .ok (.iconst 1, 1) := by decide +kernel
theorem dX10_isSure_28 : decode cX10_isSure 28 = .ok (.goto 4, 3) := by decide +kernel
theorem dX10_isSure_31 : decode cX10_isSure 31 = .ok (.iconst 0, 1) := by decide +kernel
theorem dX10_isSure_32 : decode cX10_isSure 32 = .ok (.ireturn, 1) := by decide +kernel
set_option maxRecDepth 20000 in
theorem ggX10_few_X10_in : GoodIn wsX10_few wsX10_in := goodIn_r _ [5] (by decide +kernel) (by decide +kernel)
set_option maxRecDepth 20000 in
theorem gX10_few_X10_in : GoodIn wsX10_few (va_wsS RX10 48 yX10_in wsX10_in) := goodIn_app (goodIn_of _ (by decide +kernel)) ggX10_few_X10_in
set_option maxRecDepth 20000 in
theorem ggX10_few_X10_isSure : GoodIn wsX10_few wsX10_isSure := goodIn_r _ [9, 10, 11, 12, 13, 4, 14, 15, 16, 17, 18, 19, 20, 21, 22, 23, 24, 25, 26, 27, 28, 29, 30, 31, 32, 33, 34, 35, 36, 37, 38, 39, 40, 41, 42, 43] (by decide +kernel) (by decide +kernel)
set_option maxRecDepth 20000 in
theorem gX10_few_X10_isSure : GoodIn wsX10_few (wsV RX10 154 RX10 yX10_isSure wsX10_isSure) := goodIn_app (goodIn_of _ (by decide +kernel)) ggX10_few_X10_isSure
theorem dX10_few_0 : decode cX10_few 0 = .ok (.aload_n 0, 1) := by decide +kernel
theorem dX10_few_1 : decode cX10_few 1 = .ok (.iconst 0, 1) := by decide +kernel
theorem dX10_few_2 : decode cX10_few 2 = .ok (.putfield 45, 3) := by decide +kernel
theorem dX10_few_5 : decode cX10_few 5 = .ok (.iload_n 1, 1) := by decide +kernel
theorem dX10_few_6 : decode cX10_few 6 = .ok (.iconst 1, 1) := by decide +kernel
theorem dX10_few_7 : decode cX10_few 7 = .ok (.bipush 50, 2) := by decide +kernel
theorem dX10_few_9 : decode cX10_few 9 = .ok (.invokestatic 48, 3) := by decide +kernel
theorem dX10_few_12 : decode cX10_few 12 = .ok (.ifCond .eq 33, 3) := by decide +kernel
theorem dX10_few_15 : decode cX10_few 15 = .ok (.iload_n 2, 1) := by decide +kernel
theorem dX10_few_16 : decode cX10_few 16 = .ok (.iconst 0, 1) := by decide +kernel
theorem dX10_few_17 : decode cX10_few 17 = .ok (.iload_n 1, 1) := by decide +kernel
theorem dX10_few_18 : decode cX10_few 18 = .ok (.invokestatic 48, 3) := by decide +kernel
theorem dX10_few_21 : decode cX10_few 21 = .ok (.ifCond .eq 24, 3) := by decide +kernel
theorem dX10_few_24 : decode cX10_few 24 = .ok (.iload_n 3, 1) := by decide +kernel
theorem dX10_few_25 : decode cX10_few 25 = .ok (.iconst 0, 1) := by decide +kernel
theorem dX10_few_26 : decode cX10_few 26 = .ok (.bipush 100, 2) := by decide +kernel
theorem dX10_few_28 : decode cX10_few 28 = .ok (.invokestatic 48, 3) := by decide +kernel
theorem dX10_few_31 : decode cX10_few 31 = .ok (.ifCond .eq 14, 3) := by decide +kernel
theorem dX10_few_34 : decode cX10_few 34 = .ok (.iload 4, 2) := by decide +kernel
theorem dX10_few_36 : decode cX10_few 36 = .ok (.iconst 1, 1) := by decide +kernel
theorem dX10_few_37 : decode cX10_few 37 = .ok (.bipush 100, 2) := by decide +kernel
theorem dX10_few_39 : decode cX10_few 39 = .ok (.invokestatic 48, 3) := by decide +kernel
theorem dX10_few_42 : decode cX10_few 42 = .ok (.ifCond .ne 5, 3) := by decide +kernel
theorem dX10_few_45 : decode cX10_few 45 = .ok (.iconst (-1), 1) := by decide +kernel
theorem dX10_few_46 : decode cX10_few 46 = .ok (.ireturn, 1) := by decide +kernel
theorem dX10_few_47 : decode cX10_few 47 = .ok (.iconst 1, 1) := by decide +kernel
theorem dX10_few_48 : decode cX10_few 48 = .ok (.istore 5, 2) := by decide +kernel
theorem dX10_few_50 : decode cX10_few 50 = .ok (.iload 5, 2) := by decide +kernel
theorem dX10_few_52 : decode cX10_few 52 = .ok (.iload_n 1, 1) := by decide +kernel
theorem dX10_few_53 : decode cX10_few 53 = .ok (.if_icmp .gt 26, 3) := by decide +kernel
theorem dX10_few_56 : decode cX10_few 56 = .ok (.aload_n 0, 1) := by decide +kernel
theorem dX10_few_57 : decode cX10_few 57 = .ok (.iload_n 1, 1) := by decide +kernel
theorem dX10_few_58 : decode cX10_few 58 = .ok (.iload_n 2, 1) := by decide +kernel
theorem dX10_few_59 : decode cX10_few 59 = .ok (.iload 5, 2) := by decide +kernel
theorem dX10_few_61 : decode cX10_few 61 = .ok (.iload_n 3, 1) := by decide +kernel
theorem dX10_few_62 : decode cX10_few 62 = .ok (.iload 4, 2) := by decide +kernel
theorem dX10_few_64 : decode cX10_few 64 = .ok (.invokevirtual 154, 3) := by decide +kernel
theorem dX10_few_67 : decode cX10_few 67 = .ok (.ifCond .eq 6, 3) := by decide +kernel
theorem dX10_few_70 : decode cX10_few 70 = .ok (.iload 5, 2) := by decide +kernel
theorem dX10_few_72 : decode cX10_few 72 = .ok (.ireturn, 1) := by decide +kernel
theorem dX10_few_73 : decode cX10_few 73 = .ok (.iinc 5 1, 3) := by decide +kernel
theorem dX10_few_76 : decode cX10_few 76 = .ok (.goto (-26), 3) := by decide +kernel
theorem dX10_few_79 : decode cX10_few 79 = .ok (.bipush (-9), 2) := by decide +kernel
theorem dX10_few_81 : decode cX10_few 81 = .ok (.ireturn, 1) := by decide +kernel
set_option maxRecDepth 20000 in
theorem ggX10_may_X10_in : GoodIn wsX10_may wsX10_in := goodIn_r _ [6] (by decide +kernel) (by decide +kernel)
set_option maxRecDepth 20000 in
theorem gX10_may_X10_in : GoodIn wsX10_may (va_wsS RX10 48 yX10_in wsX10_in) := goodIn_app (goodIn_of _ (by decide +kernel)) ggX10_may_X10_in
set_option maxRecDepth 20000 in
theorem ggX10_may_X10_choose : GoodIn wsX10_may wsX10_choose := goodIn_r _ [10, 11, 12, 13, 14, 15, 16, 17, 18, 19, 20, 21, 22, 23, 24, 25, 26, 27, 28, 29, 30, 31, 32, 33, 34, 35] (by decide +kernel) (by decide +kernel)
set_option maxRecDepth 20000 in
theorem gX10_may_X10_choose : GoodIn wsX10_may (wsV RX10 144 RX10 yX10_choose wsX10_choose) := goodIn_app (goodIn_of _ (by decide +kernel)) ggX10_may_X10_choose
theorem dX10_may_0 : decode cX10_may 0 = .ok (.aload_n 0, 1) := by decide +kernel
theorem dX10_may_1 : decode cX10_may 1 = .ok (.iconst 0, 1) := by decide +kernel
theorem dX10_may_2 : decode cX10_may 2 = .ok (.putfield 45, 3) := by decide +kernel
theorem dX10_may_5 : decode cX10_may 5 = .ok (.iload_n 1, 1) := by decide +kernel
theorem dX10_may_6 : decode cX10_may 6 = .ok (.iconst 1, 1) := by decide +kernel
theorem dX10_may_7 : decode cX10_may 7 = .ok (.bipush 50, 2) := by decide +kernel
theorem dX10_may_9 : decode cX10_may 9 = .ok (.invokestatic 48, 3) := by decide +kernel
theorem dX10_may_12 : decode cX10_may 12 = .ok (.ifCond .eq 31, 3) := by decide +kernel
theorem dX10_may_15 : decode cX10_may 15 = .ok (.iload_n 2, 1) := by decide +kernel
theorem dX10_may_16 : decode cX10_may 16 = .ok (.iconst 1, 1) := by decide +kernel
theorem dX10_may_17 : decode cX10_may 17 = .ok (.iload_n 1, 1) := by decide +kernel
theorem dX10_may_18 : decode cX10_may 18 = .ok (.invokestatic 48, 3) := by decide +kernel
theorem dX10_may_21 : decode cX10_may 21 = .ok (.ifCond .eq 22, 3) := by decide +kernel
theorem dX10_may_24 : decode cX10_may 24 = .ok (.iload_n 3, 1) := by decide +kernel
theorem dX10_may_25 : decode cX10_may 25 = .ok (.iconst 0, 1) := by decide +kernel
theorem dX10_may_26 : decode cX10_may 26 = .ok (.iload_n 2, 1) := by decide +kernel
theorem dX10_may_27 : decode cX10_may 27 = .ok (.invokestatic 48, 3) := by decide +kernel
theorem dX10_may_30 : decode cX10_may 30 = .ok (.ifCond .eq 13, 3) := by decide +kernel
theorem dX10_may_33 : decode cX10_may 33 = .ok (.iload 4, 2) := by decide +kernel
theorem dX10_may_35 : decode cX10_may 35 = .ok (.iconst 0, 1) := by decide +kernel
theorem dX10_may_36 : decode cX10_may 36 = .ok (.iconst 2, 1) := by decide +kernel
theorem dX10_may_37 : decode cX10_may 37 = .ok (.invokestatic 48, 3) := by decide +kernel
theorem dX10_may_40 : decode cX10_may 40 = .ok (.ifCond .ne 5, 3) := by decide +kernel
theorem dX10_may_43 : decode cX10_may 43 = .ok (.iconst (-1), 1) := by decide +kernel
theorem dX10_may_44 : decode cX10_may 44 = .ok (.ireturn, 1) := by decide +kernel
theorem dX10_may_45 : decode cX10_may 45 = .ok (.lconst 0, 1) := by decide +kernel
theorem dX10_may_46 : decode cX10_may 46 = .ok (.lstore 5, 2) := by decide +kernel
theorem dX10_may_48 : decode cX10_may 48 = .ok (.iconst 0, 1) := by decide +kernel
theorem dX10_may_49 : decode cX10_may 49 = .ok (.istore 7, 2) := by decide +kernel
theorem dX10_may_51 : decode cX10_may 51 = .ok (.iconst 0, 1) := by decide +kernel
theorem dX10_may_52 : decode cX10_may 52 = .ok (.istore 8, 2) := by decide +kernel
theorem dX10_may_54 : decode cX10_may 54 = .ok (.iload 8, 2) := by decide +kernel
theorem dX10_may_56 : decode cX10_may 56 = .ok (.iload_n 1, 1) := by decide +kernel
theorem dX10_may_57 : decode cX10_may 57 = .ok (.if_icmp .gt 64, 3) := by decide +kernel
theorem dX10_may_60 : decode cX10_may 60 = .ok (.aload_n 0, 1) := by decide +kernel
theorem dX10_may_61 : decode cX10_may 61 = .ok (.iload 8, 2) := by decide +kernel
theorem dX10_may_63 : decode cX10_may 63 = .ok (.iload_n 3, 1) := by decide +kernel
theorem dX10_may_64 : decode cX10_may 64 = .ok (.invokevirtual 144, 3) := by decide +kernel
theorem dX10_may_67 : decode cX10_may 67 = .ok (.aload_n 0, 1) := by decide +kernel
theorem dX10_may_68 : decode cX10_may 68 = .ok (.iload_n 1, 1) := by decide +kernel
theorem dX10_may_69 : decode cX10_may 69 = .ok (.iload 8, 2) := by decide +kernel
theorem dX10_may_71 : decode cX10_may 71 = .ok (.isub, 1) := by decide +kernel
theorem dX10_may_72 : decode cX10_may 72 = .ok (.iload_n 2, 1) := by decide +kernel
theorem dX10_may_73 : decode cX10_may 73 = .ok (.iload_n 3, 1) := by decide +kernel
theorem dX10_may_74 : decode cX10_may 74 = .ok (.isub, 1) := by decide +kernel
theorem dX10_may_75 : decode cX10_may 75 = .ok (.invokevirtual 144, 3) := by decide +kernel
theorem dX10_may_78 : decode cX10_may 78 = .ok (.lmul, 1) := by decide +kernel
theorem dX10_may_79 : decode cX10_may 79 = .ok (.lstore 9, 2) := by decide +kernel
theorem dX10_may_81 : decode cX10_may 81 = .ok (.lload 9, 2) := by decide +kernel
theorem dX10_may_83 : decode cX10_may 83 = .ok (.lload 5, 2) := by decide +kernel
theorem dX10_may_85 : decode cX10_may 85 = .ok (.lcmp, 1) := by decide +kernel
theorem dX10_may_86 : decode cX10_may 86 = .ok (.ifCond .le 8, 3) := by decide +kernel
theorem dX10_may_89 : decode cX10_may 89 = .ok (.iload 8, 2) := by decide +kernel
theorem dX10_may_91 : decode cX10_may 91 = .ok (.goto 5, 3) := by decide +kernel
theorem dX10_may_94 : decode cX10_may 94 = .ok (.iload 7, 2) := by decide +kernel
theorem dX10_may_96 : decode cX10_may 96 = .ok (.istore 7, 2) := by decide +kernel
theorem dX10_may_98 : decode cX10_may 98 = .ok (.lload 9, 2) := by decide +kernel
theorem dX10_may_100 : decode cX10_may 100 = .ok (.lload 5, 2) := by decide +kernel
theorem dX10_may_102 : decode cX10_may 102 = .ok (.lcmp, 1) := by decide +kernel
theorem dX10_may_103 : decode cX10_may 103 = .ok (.ifCond .le 8, 3) := by decide +kernel
theorem dX10_may_106 : decode cX10_may 106 = .ok (.lload 9, 2) := by decide +kernel
theorem dX10_may_108 : decode cX10_may 108 = .ok (.goto 5, 3) := by decide +kernel
theorem dX10_may_111 : decode cX10_may 111 = .ok (.lload 5, 2) := by decide +kernel
theorem dX10_may_113 : decode cX10_may 113 = .ok (.lstore 5, 2) := by decide +kernel
theorem dX10_may_115 : decode cX10_may 115 = .ok (.iinc 8 1, 3) := by decide +kernel
theorem dX10_may_118 : decode cX10_may 118 = .ok (.goto (-64), 3) := by decide +kernel
theorem dX10_may_121 : decode cX10_may 121 = .ok (.bipush (-9), 2) := by decide +kernel
theorem dX10_may_123 : decode cX10_may 123 = .ok (.istore 8, 2) := by decide +kernel
theorem dX10_may_125 : decode cX10_may 125 = .ok (.bipush (-9), 2) := by decide +kernel
theorem dX10_may_127 : decode cX10_may 127 = .ok (.istore 9, 2) := by decide +kernel
theorem dX10_may_129 : decode cX10_may 129 = .ok (.iconst 0, 1) := by decide +kernel
theorem dX10_may_130 : decode cX10_may 130 = .ok (.istore 10, 2) := by decide +kernel
theorem dX10_may_132 : decode cX10_may 132 = .ok (.iload 10, 2) := by decide +kernel
theorem dX10_may_134 : decode cX10_may 134 = .ok (.iload_n 1, 1) := by decide +kernel
theorem dX10_may_135 : decode cX10_may 135 = .ok (.if_icmp .gt 80, 3) := by decide +kernel
theorem dX10_may_138 : decode cX10_may 138 = .ok (.ldc2_w 158, 3) := by decide +kernel
theorem dX10_may_141 : decode cX10_may 141 = .ok (.aload_n 0, 1) := by decide +kernel
theorem dX10_may_142 : decode cX10_may 142 = .ok (.iload 10, 2) := by decide +kernel
theorem dX10_may_144 : decode cX10_may 144 = .ok (.iload_n 3, 1) := by decide +kernel
theorem dX10_may_145 : decode cX10_may 145 = .ok (.invokevirtual 144, 3) := by decide +kernel
theorem dX10_may_148 : decode cX10_may 148 = .ok (.lmul, 1) := by decide +kernel
theorem dX10_may_149 : decode cX10_may 149 = .ok (.aload_n 0, 1) := by decide +kernel
theorem dX10_may_150 : decode cX10_may 150 = .ok (.iload_n 1, 1) := by decide +kernel
theorem dX10_may_151 : decode cX10_may 151 = .ok (.iload 10, 2) := by decide +kernel
theorem dX10_may_153 : decode cX10_may 153 = .ok (.isub, 1) := by decide +kernel
theorem dX10_may_154 : decode cX10_may 154 = .ok (.iload_n 2, 1) := by decide +kernel
theorem dX10_may_155 : decode cX10_may 155 = .ok (.iload_n 3, 1) := by decide +kernel
theorem dX10_may_156 : decode cX10_may 156 = .ok (.isub, 1) := by decide +kernel
theorem dX10_may_157 : decode cX10_may 157 = .ok (.invokevirtual 144, 3) := by decide +kernel
theorem dX10_may_160 : decode cX10_may 160 = .ok (.lmul, 1) := by decide +kernel
theorem dX10_may_161 : decode cX10_may 161 = .ok (.lload 5, 2) := by decide +kernel
theorem dX10_may_163 : decode cX10_may 163 = .ok (.lcmp, 1) := by decide +kernel
theorem dX10_may_164 : decode cX10_may 164 = .ok (.ifCond .lt 7, 3) := by decide +kernel
theorem dX10_may_167 : decode cX10_may 167 = .ok (.iconst 1, 1) := by decide +kernel
theorem dX10_may_168 : decode cX10_may 168 = .ok (.goto 4, 3) := by decide +kernel
theorem dX10_may_171 : decode cX10_may 171 = .ok (.iconst 0, 1) := by decide +kernel
theorem dX10_may_172 : decode cX10_may 172 = .ok (.istore 11, 2) := by decide +kernel
theorem dX10_may_174 : decode cX10_may 174 = .ok (.iload 11, 2) := by decide +kernel
theorem dX10_may_176 : decode cX10_may 176 = .ok (.ifCond .eq 15, 3) := by decide +kernel
theorem dX10_may_179 : decode cX10_may 179 = .ok (.iload 8, 2) := by decide +kernel
theorem dX10_may_181 : decode cX10_may 181 = .ok (.bipush (-9), 2) := by decide +kernel
theorem dX10_may_183 : decode cX10_may 183 = .ok (.if_icmp .ne 8, 3) := by decide +kernel
theorem dX10_may_186 : decode cX10_may 186 = .ok (.iload 10, 2) := by decide +kernel
theorem dX10_may_188 : decode cX10_may 188 = .ok (.goto 5, 3) := by decide +kernel
theorem dX10_may_191 : decode cX10_may 191 = .ok (.iload 8, 2) := by decide +kernel
theorem dX10_may_193 : decode cX10_may 193 = .ok (.istore 8, 2) := by decide +kernel
theorem dX10_may_195 : decode cX10_may 195 = .ok (.iload 11, 2) := by decide +kernel
theorem dX10_may_197 : decode cX10_may 197 = .ok (.ifCond .eq 8, 3) := by decide +kernel
theorem dX10_may_200 : decode cX10_may 200 = .ok (.iload 10, 2) := by decide +kernel
theorem dX10_may_202 : decode cX10_may 202 = .ok (.goto 5, 3) := by decide +kernel
theorem dX10_may_205 : decode cX10_may 205 = .ok (.iload 9, 2) := by decide +kernel
theorem dX10_may_207 : decode cX10_may 207 = .ok (.istore 9, 2) := by decide +kernel
theorem dX10_may_209 : decode cX10_may 209 = .ok (.iinc 10 1, 3) := by decide +kernel
theorem dX10_may_212 : decode cX10_may 212 = .ok (.goto (-80), 3) := by decide +kernel
theorem dX10_may_215 : decode cX10_may 215 = .ok (.iload 4, 2) := by decide +kernel
theorem dX10_may_217 : decode cX10_may 217 = .ok (.ifCond .ne 8, 3) := by decide +kernel
theorem dX10_may_220 : decode cX10_may 220 = .ok (.iload 7, 2) := by decide +kernel
theorem dX10_may_222 : decode cX10_may 222 = .ok (.goto 16, 3) := by decide +kernel
theorem dX10_may_225 : decode cX10_may 225 = .ok (.iload 4, 2) := by decide +kernel
theorem dX10_may_227 : decode cX10_may 227 = .ok (.iconst 1, 1) := by decide +kernel
theorem dX10_may_228 : decode cX10_may 228 = .ok (.if_icmp .ne 8, 3) := by decide +kernel
theorem dX10_may_231 : decode cX10_may 231 = .ok (.iload 8, 2) := by decide +kernel
theorem dX10_may_233 : decode cX10_may 233 = .ok (.goto 5, 3) := by decide +kernel
theorem dX10_may_236 : decode cX10_may 236 = .ok (.iload 9, 2) := by decide +kernel
theorem dX10_may_238 : decode cX10_may 238 = .ok (.ireturn, 1) := by decide +kernel
set_option maxRecDepth 20000 in
theorem ggX10_shadow_X10_isLand : GoodIn wsX10_shadow wsX10_isLand := goodIn_r _ [6, 7, 8, 5, 9] (by decide +kernel) (by decide +kernel)
set_option maxRecDepth 20000 in
theorem gX10_shadow_X10_isLand : GoodIn wsX10_shadow (va_wsS RX10 63 yX10_isLand wsX10_isLand) := goodIn_app (goodIn_of _ (by decide +kernel)) ggX10_shadow_X10_isLand
set_option maxRecDepth 20000 in
theorem ggX10_shadow_X10_in : GoodIn wsX10_shadow wsX10_in := goodIn_r _ [9] (by decide +kernel) (by decide +kernel)
set_option maxRecDepth 20000 in
theorem gX10_shadow_X10_in : GoodIn wsX10_shadow (va_wsS RX10 48 yX10_in wsX10_in) := goodIn_app (goodIn_of _ (by decide +kernel)) ggX10_shadow_X10_in
set_option maxRecDepth 20000 in
theorem ggX10_shadow_X10_back : GoodIn wsX10_shadow wsX10_back := goodIn_r _ [13, 14, 15, 25, 26, 27, 28, 29, 30, 31, 32, 33, 34, 35, 36, 37, 38, 39, 40, 41, 42, 43, 44, 45, 46, 47, 48] (by decide +kernel) (by decide +kernel)
set_option maxRecDepth 20000 in
theorem gX10_shadow_X10_back : GoodIn wsX10_shadow (wsV RX10 71 RX10 yX10_back wsX10_back) := goodIn_app (goodIn_of _ (by decide +kernel)) ggX10_shadow_X10_back
set_option maxRecDepth 20000 in
theorem ggX10_shadow_X10_waysOf : GoodIn wsX10_shadow wsX10_waysOf := goodIn_r _ [19, 20, 21, 22, 5, 23, 24, 25, 26, 27, 28, 29, 30, 31, 32, 33, 34, 35, 36, 37, 38, 39, 40, 41, 42, 43, 44, 45, 46, 47, 48] (by decide +kernel) (by decide +kernel)
set_option maxRecDepth 20000 in
theorem gX10_shadow_X10_waysOf : GoodIn wsX10_shadow (wsV RX10 148 RX10 yX10_waysOf wsX10_waysOf) := goodIn_app (goodIn_of _ (by decide +kernel)) ggX10_shadow_X10_waysOf
set_option maxRecDepth 20000 in
theorem ggX10_shadow_X10_choose : GoodIn wsX10_shadow wsX10_choose := goodIn_r _ [23, 24, 25, 26, 27, 28, 29, 30, 31, 32, 33, 34, 35, 36, 37, 38, 39, 40, 41, 42, 43, 44, 45, 46, 47, 48] (by decide +kernel) (by decide +kernel)
set_option maxRecDepth 20000 in
theorem gX10_shadow_X10_choose : GoodIn wsX10_shadow (wsV RX10 144 RX10 yX10_choose wsX10_choose) := goodIn_app (goodIn_of _ (by decide +kernel)) ggX10_shadow_X10_choose
theorem dX10_shadow_0 : decode cX10_shadow 0 = .ok (.aload_n 0, 1) := by decide +kernel
theorem dX10_shadow_1 : decode cX10_shadow 1 = .ok (.iconst 0, 1) := by decide +kernel
theorem dX10_shadow_2 : decode cX10_shadow 2 = .ok (.putfield 45, 3) := by decide +kernel
theorem dX10_shadow_5 : decode cX10_shadow 5 = .ok (.iload_n 1, 1) := by decide +kernel
theorem dX10_shadow_6 : decode cX10_shadow 6 = .ok (.invokestatic 63, 3) := by decide +kernel
theorem dX10_shadow_9 : decode cX10_shadow 9 = .ok (.ifCond .eq 23, 3) := by decide +kernel
theorem dX10_shadow_12 : decode cX10_shadow 12 = .ok (.iload_n 3, 1) := by decide +kernel
theorem dX10_shadow_13 : decode cX10_shadow 13 = .ok (.iconst 0, 1) := by decide +kernel
theorem dX10_shadow_14 : decode cX10_shadow 14 = .ok (.bipush 100, 2) := by decide +kernel
theorem dX10_shadow_16 : decode cX10_shadow 16 = .ok (.invokestatic 48, 3) := by decide +kernel
theorem dX10_shadow_19 : decode cX10_shadow 19 = .ok (.ifCond .eq 13, 3) := by decide +kernel
theorem dX10_shadow_22 : decode cX10_shadow 22 = .ok (.iload 4, 2) := by decide +kernel
theorem dX10_shadow_24 : decode cX10_shadow 24 = .ok (.iconst 0, 1) := by decide +kernel
theorem dX10_shadow_25 : decode cX10_shadow 25 = .ok (.iconst 1, 1) := by decide +kernel
theorem dX10_shadow_26 : decode cX10_shadow 26 = .ok (.invokestatic 48, 3) := by decide +kernel
theorem dX10_shadow_29 : decode cX10_shadow 29 = .ok (.ifCond .ne 7, 3) := by decide +kernel
theorem dX10_shadow_32 : decode cX10_shadow 32 = .ok (.ldc2_w 74, 3) := by decide +kernel
theorem dX10_shadow_35 : decode cX10_shadow 35 = .ok (.lreturn, 1) := by decide +kernel
theorem dX10_shadow_36 : decode cX10_shadow 36 = .ok (.aload_n 0, 1) := by decide +kernel
theorem dX10_shadow_37 : decode cX10_shadow 37 = .ok (.iload_n 1, 1) := by decide +kernel
theorem dX10_shadow_38 : decode cX10_shadow 38 = .ok (.sipush 255, 3) := by decide +kernel
theorem dX10_shadow_41 : decode cX10_shadow 41 = .ok (.invokevirtual 71, 3) := by decide +kernel
theorem dX10_shadow_44 : decode cX10_shadow 44 = .ok (.istore 5, 2) := by decide +kernel
theorem dX10_shadow_46 : decode cX10_shadow 46 = .ok (.iload_n 2, 1) := by decide +kernel
theorem dX10_shadow_47 : decode cX10_shadow 47 = .ok (.iconst 1, 1) := by decide +kernel
theorem dX10_shadow_48 : decode cX10_shadow 48 = .ok (.iload 5, 2) := by decide +kernel
theorem dX10_shadow_50 : decode cX10_shadow 50 = .ok (.invokestatic 48, 3) := by decide +kernel
theorem dX10_shadow_53 : decode cX10_shadow 53 = .ok (.ifCond .ne 7, 3) := by decide +kernel
theorem dX10_shadow_56 : decode cX10_shadow 56 = .ok (.ldc2_w 74, 3) := by decide +kernel
theorem dX10_shadow_59 : decode cX10_shadow 59 = .ok (.lreturn, 1) := by decide +kernel
theorem dX10_shadow_60 : decode cX10_shadow 60 = .ok (.iload 4, 2) := by decide +kernel
theorem dX10_shadow_62 : decode cX10_shadow 62 = .ok (.ifCond .ne 22, 3) := by decide +kernel
theorem dX10_shadow_65 : decode cX10_shadow 65 = .ok (.aload_n 0, 1) := by decide +kernel
theorem dX10_shadow_66 : decode cX10_shadow 66 = .ok (.iload 5, 2) := by decide +kernel
theorem dX10_shadow_68 : decode cX10_shadow 68 = .ok (.aload_n 0, 1) := by decide +kernel
theorem dX10_shadow_69 : decode cX10_shadow 69 = .ok (.iload_n 1, 1) := by decide +kernel
theorem dX10_shadow_70 : decode cX10_shadow 70 = .ok (.sipush 170, 3) := by decide +kernel
theorem dX10_shadow_73 : decode cX10_shadow 73 = .ok (.invokevirtual 71, 3) := by decide +kernel
theorem dX10_shadow_76 : decode cX10_shadow 76 = .ok (.iload_n 2, 1) := by decide +kernel
theorem dX10_shadow_77 : decode cX10_shadow 77 = .ok (.iload_n 3, 1) := by decide +kernel
theorem dX10_shadow_78 : decode cX10_shadow 78 = .ok (.invokevirtual 148, 3) := by decide +kernel
theorem dX10_shadow_81 : decode cX10_shadow 81 = .ok (.goto 10, 3) := by decide +kernel
theorem dX10_shadow_84 : decode cX10_shadow 84 = .ok (.aload_n 0, 1) := by decide +kernel
theorem dX10_shadow_85 : decode cX10_shadow 85 = .ok (.iload 5, 2) := by decide +kernel
theorem dX10_shadow_87 : decode cX10_shadow 87 = .ok (.iload_n 2, 1) := by decide +kernel
theorem dX10_shadow_88 : decode cX10_shadow 88 = .ok (.invokevirtual 144, 3) := by decide +kernel
theorem dX10_shadow_91 : decode cX10_shadow 91 = .ok (.lreturn, 1) := by decide +kernel
set_option maxRecDepth 20000 in
theorem ggX10_week_X10_in : GoodIn wsX10_week wsX10_in := goodIn_r _ [7] (by decide +kernel) (by decide +kernel)
set_option maxRecDepth 20000 in
theorem gX10_week_X10_in : GoodIn wsX10_week (va_wsS RX10 48 yX10_in wsX10_in) := goodIn_app (goodIn_of _ (by decide +kernel)) ggX10_week_X10_in
theorem dX10_week_0 : decode cX10_week 0 = .ok (.aload_n 0, 1) := by decide +kernel
theorem dX10_week_1 : decode cX10_week 1 = .ok (.iconst 0, 1) := by decide +kernel
theorem dX10_week_2 : decode cX10_week 2 = .ok (.putfield 45, 3) := by decide +kernel
theorem dX10_week_5 : decode cX10_week 5 = .ok (.iload_n 1, 1) := by decide +kernel
theorem dX10_week_6 : decode cX10_week 6 = .ok (.iconst 0, 1) := by decide +kernel
theorem dX10_week_7 : decode cX10_week 7 = .ok (.sipush 1000, 3) := by decide +kernel
theorem dX10_week_10 : decode cX10_week 10 = .ok (.invokestatic 48, 3) := by decide +kernel
theorem dX10_week_13 : decode cX10_week 13 = .ok (.ifCond .ne 5, 3) := by decide +kernel
theorem dX10_week_16 : decode cX10_week 16 = .ok (.iconst (-1), 1) := by decide +kernel
theorem dX10_week_17 : decode cX10_week 17 = .ok (.ireturn, 1) := by decide +kernel
theorem dX10_week_18 : decode cX10_week 18 = .ok (.aload_n 0, 1) := by decide +kernel
theorem dX10_week_19 : decode cX10_week 19 = .ok (.getfield 160, 3) := by decide +kernel
theorem dX10_week_22 : decode cX10_week 22 = .ok (.bipush 60, 2) := by decide +kernel
theorem dX10_week_24 : decode cX10_week 24 = .ok (.if_icmp .ne 6, 3) := by decide +kernel
theorem dX10_week_27 : decode cX10_week 27 = .ok (.bipush (-3), 2) := by decide +kernel
theorem dX10_week_29 : decode cX10_week 29 = .ok (.ireturn, 1) := by decide +kernel
theorem dX10_week_30 : decode cX10_week 30 = .ok (.aload_n 0, 1) := by decide +kernel
theorem dX10_week_31 : decode cX10_week 31 = .ok (.getfield 29, 3) := by decide +kernel
theorem dX10_week_34 : decode cX10_week 34 = .ok (.aload_n 0, 1) := by decide +kernel
theorem dX10_week_35 : decode cX10_week 35 = .ok (.getfield 160, 3) := by decide +kernel
theorem dX10_week_38 : decode cX10_week 38 = .ok (.iload_n 1, 1) := by decide +kernel
theorem dX10_week_39 : decode cX10_week 39 = .ok (.iastore, 1) := by decide +kernel
theorem dX10_week_40 : decode cX10_week 40 = .ok (.aload_n 0, 1) := by decide +kernel
theorem dX10_week_41 : decode cX10_week 41 = .ok (.dup, 1) := by decide +kernel
theorem dX10_week_42 : decode cX10_week 42 = .ok (.getfield 160, 3) := by decide +kernel
theorem dX10_week_45 : decode cX10_week 45 = .ok (.iconst 1, 1) := by decide +kernel
theorem dX10_week_46 : decode cX10_week 46 = .ok (.iadd, 1) := by decide +kernel
theorem dX10_week_47 : decode cX10_week 47 = .ok (.putfield 160, 3) := by decide +kernel
theorem dX10_week_50 : decode cX10_week 50 = .ok (.aload_n 0, 1) := by decide +kernel
theorem dX10_week_51 : decode cX10_week 51 = .ok (.getfield 160, 3) := by decide +kernel
theorem dX10_week_54 : decode cX10_week 54 = .ok (.ireturn, 1) := by decide +kernel
theorem dX10_moves_0 : decode cX10_moves 0 = .ok (.iload_n 1, 1) := by decide +kernel
theorem dX10_moves_1 : decode cX10_moves 1 = .ok (.aload_n 0, 1) := by decide +kernel
theorem dX10_moves_2 : decode cX10_moves 2 = .ok (.getfield 160, 3) := by decide +kernel
theorem dX10_moves_5 : decode cX10_moves 5 = .ok (.if_icmp .ge 7, 3) := by decide +kernel
theorem dX10_moves_8 : decode cX10_moves 8 = .ok (.iconst 0, 1) := by decide +kernel
theorem dX10_moves_9 : decode cX10_moves 9 = .ok (.goto 5, 3) := by decide +kernel
theorem dX10_moves_12 : decode cX10_moves 12 = .ok (.bipush (-9), 2) := by decide +kernel
theorem dX10_moves_14 : decode cX10_moves 14 = .ok (.istore_n 3, 1) := by decide +kernel
theorem dX10_moves_15 : decode cX10_moves 15 = .ok (.iload_n 1, 1) := by decide +kernel
theorem dX10_moves_16 : decode cX10_moves 16 = .ok (.istore 4, 2) := by decide +kernel
theorem dX10_moves_18 : decode cX10_moves 18 = .ok (.iload 4, 2) := by decide +kernel
theorem dX10_moves_20 : decode cX10_moves 20 = .ok (.aload_n 0, 1) := by decide +kernel
theorem dX10_moves_21 : decode cX10_moves 21 = .ok (.getfield 160, 3) := by decide +kernel
theorem dX10_moves_24 : decode cX10_moves 24 = .ok (.if_icmp .ge 43, 3) := by decide +kernel
theorem dX10_moves_27 : decode cX10_moves 27 = .ok (.iload_n 2, 1) := by decide +kernel
theorem dX10_moves_28 : decode cX10_moves 28 = .ok (.aload_n 0, 1) := by decide +kernel
theorem dX10_moves_29 : decode cX10_moves 29 = .ok (.getfield 29, 3) := by decide +kernel
theorem dX10_moves_32 : decode cX10_moves 32 = .ok (.iload 4, 2) := by decide +kernel
theorem dX10_moves_34 : decode cX10_moves 34 = .ok (.iaload, 1) := by decide +kernel
theorem dX10_moves_35 : decode cX10_moves 35 = .ok (.aload_n 0, 1) := by decide +kernel
theorem dX10_moves_36 : decode cX10_moves 36 = .ok (.getfield 29, 3) := by decide +kernel
theorem dX10_moves_39 : decode cX10_moves 39 = .ok (.iload 4, 2) := by decide +kernel
theorem dX10_moves_41 : decode cX10_moves 41 = .ok (.iload_n 1, 1) := by decide +kernel
theorem dX10_moves_42 : decode cX10_moves 42 = .ok (.isub, 1) := by decide +kernel
theorem dX10_moves_43 : decode cX10_moves 43 = .ok (.iaload, 1) := by decide +kernel
theorem dX10_moves_44 : decode cX10_moves 44 = .ok (.isub, 1) := by decide +kernel
theorem dX10_moves_45 : decode cX10_moves 45 = .ok (.imul, 1) := by decide +kernel
theorem dX10_moves_46 : decode cX10_moves 46 = .ok (.istore 5, 2) := by decide +kernel
theorem dX10_moves_48 : decode cX10_moves 48 = .ok (.iload 5, 2) := by decide +kernel
theorem dX10_moves_50 : decode cX10_moves 50 = .ok (.iload_n 3, 1) := by decide +kernel
theorem dX10_moves_51 : decode cX10_moves 51 = .ok (.if_icmp .le 8, 3) := by decide +kernel
theorem dX10_moves_54 : decode cX10_moves 54 = .ok (.iload 5, 2) := by decide +kernel
theorem dX10_moves_56 : decode cX10_moves 56 = .ok (.goto 4, 3) := by decide +kernel
theorem dX10_moves_59 : decode cX10_moves 59 = .ok (.iload_n 3, 1) := by decide +kernel
theorem dX10_moves_60 : decode cX10_moves 60 = .ok (.istore_n 3, 1) := by decide +kernel
theorem dX10_moves_61 : decode cX10_moves 61 = .ok (.iinc 4 1, 3) := by decide +kernel
theorem dX10_moves_64 : decode cX10_moves 64 = .ok (.goto (-46), 3) := by decide +kernel
theorem dX10_moves_67 : decode cX10_moves 67 = .ok (.iload_n 3, 1) := by decide +kernel
theorem dX10_moves_68 : decode cX10_moves 68 = .ok (.ireturn, 1) := by decide +kernel
set_option maxRecDepth 20000 in
theorem ggX10_turn_X10_in : GoodIn wsX10_turn wsX10_in := goodIn_r _ [5] (by decide +kernel) (by decide +kernel)
set_option maxRecDepth 20000 in
theorem gX10_turn_X10_in : GoodIn wsX10_turn (va_wsS RX10 48 yX10_in wsX10_in) := goodIn_app (goodIn_of _ (by decide +kernel)) ggX10_turn_X10_in
set_option maxRecDepth 20000 in
theorem ggX10_turn_X10_moves : GoodIn wsX10_turn wsX10_moves := goodIn_r _ [9, 10, 11, 12, 13, 14, 15, 16, 17, 18, 19, 20, 21, 22, 23, 24, 25, 26, 27, 28, 29, 30, 31, 32, 33, 34, 35] (by decide +kernel) (by decide +kernel)
set_option maxRecDepth 20000 in
theorem gX10_turn_X10_moves : GoodIn wsX10_turn (wsV RX10 163 RX10 yX10_moves wsX10_moves) := goodIn_app (goodIn_of _ (by decide +kernel)) ggX10_turn_X10_moves
