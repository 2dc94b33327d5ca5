theorem dX10_reads_111 : decode cX10_reads 111 = .ok (.iconst 1, 1) := by decide +kernel
theorem dX10_reads_112 : decode cX10_reads 112 = .ok (.if_icmp .ne 49, 3) := by decide +kernel
theorem dX10_reads_115 : decode cX10_reads 115 = .ok (.aload_n 0, 1) := by decide +kernel
theorem dX10_reads_116 : decode cX10_reads 116 = .ok (.bipush 97, 2) := by decide +kernel
theorem dX10_reads_118 : decode cX10_reads 118 = .ok (.bipush 122, 2) := by decide +kernel
theorem dX10_reads_120 : decode cX10_reads 120 = .ok (.invokevirtual 121, 3) := by decide +kernel
theorem dX10_reads_123 : decode cX10_reads 123 = .ok (.ifCond .eq 38, 3) := by decide +kernel
theorem dX10_reads_126 : decode cX10_reads 126 = .ok (.aload_n 0, 1) := by decide +kernel
theorem dX10_reads_127 : decode cX10_reads 127 = .ok (.aload_n 0, 1) := by decide +kernel
theorem dX10_reads_128 : decode cX10_reads 128 = .ok (.getfield 127, 3) := by decide +kernel
theorem dX10_reads_131 : decode cX10_reads 131 = .ok (.bipush 8, 2) := by decide +kernel
theorem dX10_reads_133 : decode cX10_reads 133 = .ok (.lshl, 1) := by decide +kernel
theorem dX10_reads_134 : decode cX10_reads 134 = .ok (.aload_n 0, 1) := by decide +kernel
theorem dX10_reads_135 : decode cX10_reads 135 = .ok (.getfield 19, 3) := by decide +kernel
theorem dX10_reads_138 : decode cX10_reads 138 = .ok (.aload_n 0, 1) := by decide +kernel
theorem dX10_reads_139 : decode cX10_reads 139 = .ok (.getfield 118, 3) := by decide +kernel
theorem dX10_reads_142 : decode cX10_reads 142 = .ok (.iaload, 1) := by decide +kernel
theorem dX10_reads_143 : decode cX10_reads 143 = .ok (.i2l, 1) := by decide +kernel
theorem dX10_reads_144 : decode cX10_reads 144 = .ok (.lor, 1) := by decide +kernel
theorem dX10_reads_145 : decode cX10_reads 145 = .ok (.putfield 127, 3) := by decide +kernel
theorem dX10_reads_148 : decode cX10_reads 148 = .ok (.aload_n 0, 1) := by decide +kernel
theorem dX10_reads_149 : decode cX10_reads 149 = .ok (.dup, 1) := by decide +kernel
theorem dX10_reads_150 : decode cX10_reads 150 = .ok (.getfield 118, 3) := by decide +kernel
theorem dX10_reads_153 : decode cX10_reads 153 = .ok (.iconst 1, 1) := by decide +kernel
theorem dX10_reads_154 : decode cX10_reads 154 = .ok (.iadd, 1) := by decide +kernel
theorem dX10_reads_155 : decode cX10_reads 155 = .ok (.putfield 118, 3) := by decide +kernel
theorem dX10_reads_158 : decode cX10_reads 158 = .ok (.goto (-51), 3) := by decide +kernel
theorem dX10_reads_161 : decode cX10_reads 161 = .ok (.aload_n 0, 1) := by decide +kernel
theorem dX10_reads_162 : decode cX10_reads 162 = .ok (.getfield 134, 3) := by decide +kernel
theorem dX10_reads_165 : decode cX10_reads 165 = .ok (.iconst 2, 1) := by decide +kernel
theorem dX10_reads_166 : decode cX10_reads 166 = .ok (.if_icmp .ne 54, 3) := by decide +kernel
theorem dX10_reads_169 : decode cX10_reads 169 = .ok (.aload_n 0, 1) := by decide +kernel
theorem dX10_reads_170 : decode cX10_reads 170 = .ok (.bipush 48, 2) := by decide +kernel
theorem dX10_reads_172 : decode cX10_reads 172 = .ok (.bipush 57, 2) := by decide +kernel
theorem dX10_reads_174 : decode cX10_reads 174 = .ok (.invokevirtual 121, 3) := by decide +kernel
theorem dX10_reads_177 : decode cX10_reads 177 = .ok (.ifCond .eq 43, 3) := by decide +kernel
theorem dX10_reads_180 : decode cX10_reads 180 = .ok (.aload_n 0, 1) := by decide +kernel
theorem dX10_reads_181 : decode cX10_reads 181 = .ok (.bipush 10, 2) := by decide +kernel
theorem dX10_reads_183 : decode cX10_reads 183 = .ok (.aload_n 0, 1) := by decide +kernel
theorem dX10_reads_184 : decode cX10_reads 184 = .ok (.getfield 131, 3) := by decide +kernel
theorem dX10_reads_187 : decode cX10_reads 187 = .ok (.imul, 1) := by decide +kernel
theorem dX10_reads_188 : decode cX10_reads 188 = .ok (.aload_n 0, 1) := by decide +kernel
theorem dX10_reads_189 : decode cX10_reads 189 = .ok (.getfield 19, 3) := by decide +kernel
theorem dX10_reads_192 : decode cX10_reads 192 = .ok (.aload_n 0, 1) := by decide +kernel
theorem dX10_reads_193 : decode cX10_reads 193 = .ok (.getfield 118, 3) := by decide +kernel
theorem dX10_reads_196 : decode cX10_reads 196 = .ok (.iaload, 1) := by decide +kernel
theorem dX10_reads_197 : decode cX10_reads 197 = .ok (.iadd, 1) := by decide +kernel
theorem dX10_reads_198 : decode cX10_reads 198 = .ok (.bipush 48, 2) := by decide +kernel
theorem dX10_reads_200 : decode cX10_reads 200 = .ok (.isub, 1) := by decide +kernel
theorem dX10_reads_201 : decode cX10_reads 201 = .ok (.ldc 137, 2) := by decide +kernel
theorem dX10_reads_203 : decode cX10_reads 203 = .ok (.irem, 1) := by decide +kernel
theorem dX10_reads_204 : decode cX10_reads 204 = .ok (.putfield 131, 3) := by decide +kernel
theorem dX10_reads_207 : decode cX10_reads 207 = .ok (.aload_n 0, 1) := by decide +kernel
theorem dX10_reads_208 : decode cX10_reads 208 = .ok (.dup, 1) := by decide +kernel
theorem dX10_reads_209 : decode cX10_reads 209 = .ok (.getfield 118, 3) := by decide +kernel
theorem dX10_reads_212 : decode cX10_reads 212 = .ok (.iconst 1, 1) := by decide +kernel
theorem dX10_reads_213 : decode cX10_reads 213 = .ok (.iadd, 1) := by decide +kernel
theorem dX10_reads_214 : decode cX10_reads 214 = .ok (.putfield 118, 3) := by decide +kernel
theorem dX10_reads_217 : decode cX10_reads 217 = .ok (.goto (-56), 3) := by decide +kernel
theorem dX10_reads_220 : decode cX10_reads 220 = .ok (.aload_n 0, 1) := by decide +kernel
theorem dX10_reads_221 : decode cX10_reads 221 = .ok (.dup, 1) := by decide +kernel
theorem dX10_reads_222 : decode cX10_reads 222 = .ok (.getfield 118, 3) := by decide +kernel
theorem dX10_reads_225 : decode cX10_reads 225 = .ok (.aload_n 0, 1) := by decide +kernel
theorem dX10_reads_226 : decode cX10_reads 226 = .ok (.getfield 134, 3) := by decide +kernel
theorem dX10_reads_229 : decode cX10_reads 229 = .ok (.iconst 2, 1) := by decide +kernel
theorem dX10_reads_230 : decode cX10_reads 230 = .ok (.if_icmp .le 7, 3) := by decide +kernel
theorem dX10_reads_233 : decode cX10_reads 233 = .ok (.iconst 1, 1) := by decide +kernel
theorem dX10_reads_234 : decode cX10_reads 234 = .ok (.goto 4, 3) := by decide +kernel
theorem dX10_reads_237 : decode cX10_reads 237 = .ok (.iconst 0, 1) := by decide +kernel
theorem dX10_reads_238 : decode cX10_reads 238 = .ok (.iadd, 1) := by decide +kernel
theorem dX10_reads_239 : decode cX10_reads 239 = .ok (.putfield 118, 3) := by decide +kernel
theorem dX10_reads_242 : decode cX10_reads 242 = .ok (.aload_n 0, 1) := by decide +kernel
theorem dX10_reads_243 : decode cX10_reads 243 = .ok (.aload_n 0, 1) := by decide +kernel
theorem dX10_reads_244 : decode cX10_reads 244 = .ok (.getfield 118, 3) := by decide +kernel
theorem dX10_reads_247 : decode cX10_reads 247 = .ok (.aload_n 0, 1) := by decide +kernel
theorem dX10_reads_248 : decode cX10_reads 248 = .ok (.getfield 124, 3) := by decide +kernel
theorem dX10_reads_251 : decode cX10_reads 251 = .ok (.isub, 1) := by decide +kernel
theorem dX10_reads_252 : decode cX10_reads 252 = .ok (.putfield 138, 3) := by decide +kernel
theorem dX10_reads_255 : decode cX10_reads 255 = .ok (.return_, 1) := by decide +kernel
set_option maxRecDepth 20000 in
theorem ggX10_isDigit_X10_in : GoodIn wsX10_isDigit wsX10_in := goodIn_r _ [7] (by decide +kernel) (by decide +kernel)
set_option maxRecDepth 20000 in
theorem gX10_isDigit_X10_in : GoodIn wsX10_isDigit (va_wsS RX10 51 yX10_in wsX10_in) := goodIn_app (goodIn_of _ (by decide +kernel)) ggX10_isDigit_X10_in
theorem dX10_isDigit_0 : decode cX10_isDigit 0 = .ok (.aload_n 0, 1) := by decide +kernel
theorem dX10_isDigit_1 : decode cX10_isDigit 1 = .ok (.getfield 134, 3) := by decide +kernel
theorem dX10_isDigit_4 : decode cX10_isDigit 4 = .ok (.iconst 2, 1) := by decide +kernel
theorem dX10_isDigit_5 : decode cX10_isDigit 5 = .ok (.if_icmp .ne 27, 3) := by decide +kernel
theorem dX10_isDigit_8 : decode cX10_isDigit 8 = .ok (.aload_n 0, 1) := by decide +kernel
theorem dX10_isDigit_9 : decode cX10_isDigit 9 = .ok (.getfield 138, 3) := by decide +kernel
theorem dX10_isDigit_12 : decode cX10_isDigit 12 = .ok (.iconst 1, 1) := by decide +kernel
theorem dX10_isDigit_13 : decode cX10_isDigit 13 = .ok (.if_icmp .ne 19, 3) := by decide +kernel
theorem dX10_isDigit_16 : decode cX10_isDigit 16 = .ok (.aload_n 0, 1) := by decide +kernel
theorem dX10_isDigit_17 : decode cX10_isDigit 17 = .ok (.getfield 131, 3) := by decide +kernel
theorem dX10_isDigit_20 : decode cX10_isDigit 20 = .ok (.iload_n 1, 1) := by decide +kernel
theorem dX10_isDigit_21 : decode cX10_isDigit 21 = .ok (.iload_n 2, 1) := by decide +kernel
theorem dX10_isDigit_22 : decode cX10_isDigit 22 = .ok (.invokestatic 51, 3) := by decide +kernel
theorem dX10_isDigit_25 : decode cX10_isDigit 25 = .ok (.ifCond .eq 7, 3) := by decide +kernel
theorem dX10_isDigit_28 : decode cX10_isDigit 28 = .ok (.iconst 1, 1) := by decide +kernel
theorem dX10_isDigit_29 : decode cX10_isDigit 29 = .ok (.goto 4, 3) := by decide +kernel
theorem dX10_isDigit_32 : decode cX10_isDigit 32 = .ok (.iconst 0, 1) := by decide +kernel
theorem dX10_isDigit_33 : decode cX10_isDigit 33 = .ok (.ireturn, 1) := by decide +kernel
set_option maxRecDepth 20000 in
theorem ggX10_isEdge_X10_isPair : GoodIn wsX10_isEdge wsX10_isPair := goodIn_r _ [8, 9, 10, 11, 7, 12, 13, 14, 15, 16, 17, 18, 19, 20, 21, 22, 23, 24, 25, 26, 27, 28, 29, 30, 31, 32, 33, 34, 35] (by decide +kernel) (by decide +kernel)
set_option maxRecDepth 20000 in
theorem gX10_isEdge_X10_isPair : GoodIn wsX10_isEdge (wsV RX10 72 RX10 yX10_isPair wsX10_isPair) := goodIn_app (goodIn_of _ (by decide +kernel)) ggX10_isEdge_X10_isPair
theorem dX10_isEdge_0 : decode cX10_isEdge 0 = .ok (.aload_n 0, 1) := by decide +kernel
theorem dX10_isEdge_1 : decode cX10_isEdge 1 = .ok (.getfield 134, 3) := by decide +kernel
theorem dX10_isEdge_4 : decode cX10_isEdge 4 = .ok (.iconst 2, 1) := by decide +kernel
theorem dX10_isEdge_5 : decode cX10_isEdge 5 = .ok (.if_icmp .ne 36, 3) := by decide +kernel
theorem dX10_isEdge_8 : decode cX10_isEdge 8 = .ok (.aload_n 0, 1) := by decide +kernel
theorem dX10_isEdge_9 : decode cX10_isEdge 9 = .ok (.getfield 138, 3) := by decide +kernel
theorem dX10_isEdge_12 : decode cX10_isEdge 12 = .ok (.iconst 2, 1) := by decide +kernel
theorem dX10_isEdge_13 : decode cX10_isEdge 13 = .ok (.if_icmp .ne 28, 3) := by decide +kernel
theorem dX10_isEdge_16 : decode cX10_isEdge 16 = .ok (.aload_n 0, 1) := by decide +kernel
theorem dX10_isEdge_17 : decode cX10_isEdge 17 = .ok (.aload_n 0, 1) := by decide +kernel
theorem dX10_isEdge_18 : decode cX10_isEdge 18 = .ok (.getfield 131, 3) := by decide +kernel
theorem dX10_isEdge_21 : decode cX10_isEdge 21 = .ok (.bipush 10, 2) := by decide +kernel
theorem dX10_isEdge_23 : decode cX10_isEdge 23 = .ok (.idiv, 1) := by decide +kernel
theorem dX10_isEdge_24 : decode cX10_isEdge 24 = .ok (.aload_n 0, 1) := by decide +kernel
theorem dX10_isEdge_25 : decode cX10_isEdge 25 = .ok (.getfield 131, 3) := by decide +kernel
theorem dX10_isEdge_28 : decode cX10_isEdge 28 = .ok (.bipush 10, 2) := by decide +kernel
theorem dX10_isEdge_30 : decode cX10_isEdge 30 = .ok (.irem, 1) := by decide +kernel
theorem dX10_isEdge_31 : decode cX10_isEdge 31 = .ok (.invokevirtual 72, 3) := by decide +kernel
theorem dX10_isEdge_34 : decode cX10_isEdge 34 = .ok (.ifCond .eq 7, 3) := by decide +kernel
theorem dX10_isEdge_37 : decode cX10_isEdge 37 = .ok (.iconst 1, 1) := by decide +kernel
theorem dX10_isEdge_38 : decode cX10_isEdge 38 = .ok (.goto 4, 3) := by decide +kernel
theorem dX10_isEdge_41 : decode cX10_isEdge 41 = .ok (.iconst 0, 1) := by decide +kernel
theorem dX10_isEdge_42 : decode cX10_isEdge 42 = .ok (.ireturn, 1) := by decide +kernel
theorem dX10_isWord_0 : decode cX10_isWord 0 = .ok (.aload_n 0, 1) := by decide +kernel
theorem dX10_isWord_1 : decode cX10_isWord 1 = .ok (.getfield 134, 3) := by decide +kernel
theorem dX10_isWord_4 : decode cX10_isWord 4 = .ok (.iconst 1, 1) := by decide +kernel
theorem dX10_isWord_5 : decode cX10_isWord 5 = .ok (.if_icmp .ne 24, 3) := by decide +kernel
theorem dX10_isWord_8 : decode cX10_isWord 8 = .ok (.aload_n 0, 1) := by decide +kernel
theorem dX10_isWord_9 : decode cX10_isWord 9 = .ok (.getfield 138, 3) := by decide +kernel
theorem dX10_isWord_12 : decode cX10_isWord 12 = .ok (.iload_n 1, 1) := by decide +kernel
theorem dX10_isWord_13 : decode cX10_isWord 13 = .ok (.if_icmp .ne 16, 3) := by decide +kernel
theorem dX10_isWord_16 : decode cX10_isWord 16 = .ok (.aload_n 0, 1) := by decide +kernel
theorem dX10_isWord_17 : decode cX10_isWord 17 = .ok (.getfield 127, 3) := by decide +kernel
theorem dX10_isWord_20 : decode cX10_isWord 20 = .ok (.lload_n 2, 1) := by decide +kernel
theorem dX10_isWord_21 : decode cX10_isWord 21 = .ok (.lcmp, 1) := by decide +kernel
theorem dX10_isWord_22 : decode cX10_isWord 22 = .ok (.ifCond .ne 7, 3) := by decide +kernel
theorem dX10_isWord_25 : decode cX10_isWord 25 = .ok (.iconst 1, 1) := by decide +kernel
theorem dX10_isWord_26 : decode cX10_isWord 26 = .ok (.goto 4, 3) := by decide +kernel
theorem dX10_isWord_29 : decode cX10_isWord 29 = .ok (.iconst 0, 1) := by decide +kernel
theorem dX10_isWord_30 : decode cX10_isWord 30 = .ok (.ireturn, 1) := by decide +kernel
set_option maxRecDepth 20000 in
theorem ggX10_roundOf_X10_all : GoodIn wsX10_roundOf wsX10_all := goodIn_r _ [10, 5, 29, 30, 31, 32, 33, 34, 35, 36, 37, 38, 39, 40, 41, 42, 43, 44, 45, 46, 47] (by decide +kernel) (by decide +kernel)
set_option maxRecDepth 20000 in
theorem gX10_roundOf_X10_all : GoodIn wsX10_roundOf (wsV RX10 87 RX10 yX10_all wsX10_all) := goodIn_app (goodIn_of _ (by decide +kernel)) ggX10_roundOf_X10_all
set_option maxRecDepth 20000 in
theorem ggX10_roundOf_X10_pathOf : GoodIn wsX10_roundOf wsX10_pathOf := goodIn_r _ [14, 5, 15, 16, 9, 17, 29, 30, 31, 32, 33, 34, 35, 36, 37, 38, 39, 40, 41, 42, 43, 44, 45, 46, 47] (by decide +kernel) (by decide +kernel)
set_option maxRecDepth 20000 in
theorem gX10_roundOf_X10_pathOf : GoodIn wsX10_roundOf (wsV RX10 97 RX10 yX10_pathOf wsX10_pathOf) := goodIn_app (goodIn_of _ (by decide +kernel)) ggX10_roundOf_X10_pathOf
set_option maxRecDepth 20000 in
theorem ggX10_roundOf_X10_isWord : GoodIn wsX10_roundOf wsX10_isWord := goodIn_r _ [21, 22, 23, 24, 29, 30, 31, 32, 33, 34, 35, 36, 37, 38, 39, 40, 41, 42, 43, 44, 45, 46, 47] (by decide +kernel) (by decide +kernel)
set_option maxRecDepth 20000 in
theorem gX10_roundOf_X10_isWord : GoodIn wsX10_roundOf (wsV RX10 143 RX10 yX10_isWord wsX10_isWord) := goodIn_app (goodIn_of _ (by decide +kernel)) ggX10_roundOf_X10_isWord
set_option maxRecDepth 20000 in
theorem ggX10_roundOf_X10_clique : GoodIn wsX10_roundOf wsX10_clique := goodIn_r _ [28, 5, 15, 16, 9, 17, 29, 30, 31, 32, 33, 34, 35, 36, 37, 38, 39, 40, 41, 42, 43, 44, 45, 46, 47] (by decide +kernel) (by decide +kernel)
set_option maxRecDepth 20000 in
theorem gX10_roundOf_X10_clique : GoodIn wsX10_roundOf (wsV RX10 103 RX10 yX10_clique wsX10_clique) := goodIn_app (goodIn_of _ (by decide +kernel)) ggX10_roundOf_X10_clique
set_option maxRecDepth 20000 in
theorem ggX10_roundOf_X10_pair : GoodIn wsX10_roundOf wsX10_pair := goodIn_r _ [17] (by decide +kernel) (by decide +kernel)
set_option maxRecDepth 20000 in
theorem gX10_roundOf_X10_pair : GoodIn wsX10_roundOf (va_wsS RX10 76 yX10_pair wsX10_pair) := goodIn_app (goodIn_of _ (by decide +kernel)) ggX10_roundOf_X10_pair
theorem dX10_roundOf_0 : decode cX10_roundOf 0 = .ok (.aload_n 0, 1) := by decide +kernel
theorem dX10_roundOf_1 : decode cX10_roundOf 1 = .ok (.aload_n 0, 1) := by decide +kernel
theorem dX10_roundOf_2 : decode cX10_roundOf 2 = .ok (.invokevirtual 87, 3) := by decide +kernel
theorem dX10_roundOf_5 : decode cX10_roundOf 5 = .ok (.invokevirtual 97, 3) := by decide +kernel
theorem dX10_roundOf_8 : decode cX10_roundOf 8 = .ok (.istore_n 1, 1) := by decide +kernel
theorem dX10_roundOf_9 : decode cX10_roundOf 9 = .ok (.aload_n 0, 1) := by decide +kernel
theorem dX10_roundOf_10 : decode cX10_roundOf 10 = .ok (.iconst 4, 1) := by decide +kernel
theorem dX10_roundOf_11 : decode cX10_roundOf 11 = .ok (.ldc2_w 141, 3) := by decide +kernel
theorem dX10_roundOf_14 : decode cX10_roundOf 14 = .ok (.invokevirtual 143, 3) := by decide +kernel
theorem dX10_roundOf_17 : decode cX10_roundOf 17 = .ok (.ifCond .eq 5, 3) := by decide +kernel
theorem dX10_roundOf_20 : decode cX10_roundOf 20 = .ok (.iconst 0, 1) := by decide +kernel
theorem dX10_roundOf_21 : decode cX10_roundOf 21 = .ok (.ireturn, 1) := by decide +kernel
theorem dX10_roundOf_22 : decode cX10_roundOf 22 = .ok (.aload_n 0, 1) := by decide +kernel
theorem dX10_roundOf_23 : decode cX10_roundOf 23 = .ok (.iconst 4, 1) := by decide +kernel
theorem dX10_roundOf_24 : decode cX10_roundOf 24 = .ok (.ldc2_w 147, 3) := by decide +kernel
theorem dX10_roundOf_27 : decode cX10_roundOf 27 = .ok (.invokevirtual 143, 3) := by decide +kernel
theorem dX10_roundOf_30 : decode cX10_roundOf 30 = .ok (.ifCond .eq 12, 3) := by decide +kernel
theorem dX10_roundOf_33 : decode cX10_roundOf 33 = .ok (.aload_n 0, 1) := by decide +kernel
theorem dX10_roundOf_34 : decode cX10_roundOf 34 = .ok (.aload_n 0, 1) := by decide +kernel
theorem dX10_roundOf_35 : decode cX10_roundOf 35 = .ok (.invokevirtual 87, 3) := by decide +kernel
theorem dX10_roundOf_38 : decode cX10_roundOf 38 = .ok (.invokevirtual 103, 3) := by decide +kernel
theorem dX10_roundOf_41 : decode cX10_roundOf 41 = .ok (.ireturn, 1) := by decide +kernel
theorem dX10_roundOf_42 : decode cX10_roundOf 42 = .ok (.aload_n 0, 1) := by decide +kernel
theorem dX10_roundOf_43 : decode cX10_roundOf 43 = .ok (.iconst 4, 1) := by decide +kernel
theorem dX10_roundOf_44 : decode cX10_roundOf 44 = .ok (.ldc2_w 149, 3) := by decide +kernel
theorem dX10_roundOf_47 : decode cX10_roundOf 47 = .ok (.invokevirtual 143, 3) := by decide +kernel
theorem dX10_roundOf_50 : decode cX10_roundOf 50 = .ok (.ifCond .eq 5, 3) := by decide +kernel
theorem dX10_roundOf_53 : decode cX10_roundOf 53 = .ok (.iload_n 1, 1) := by decide +kernel
theorem dX10_roundOf_54 : decode cX10_roundOf 54 = .ok (.ireturn, 1) := by decide +kernel
theorem dX10_roundOf_55 : decode cX10_roundOf 55 = .ok (.aload_n 0, 1) := by decide +kernel
theorem dX10_roundOf_56 : decode cX10_roundOf 56 = .ok (.iconst 4, 1) := by decide +kernel
theorem dX10_roundOf_57 : decode cX10_roundOf 57 = .ok (.ldc2_w 151, 3) := by decide +kernel
theorem dX10_roundOf_60 : decode cX10_roundOf 60 = .ok (.invokevirtual 143, 3) := by decide +kernel
theorem dX10_roundOf_63 : decode cX10_roundOf 63 = .ok (.ifCond .eq 32, 3) := by decide +kernel
theorem dX10_roundOf_66 : decode cX10_roundOf 66 = .ok (.iload_n 1, 1) := by decide +kernel
theorem dX10_roundOf_67 : decode cX10_roundOf 67 = .ok (.aload_n 0, 1) := by decide +kernel
theorem dX10_roundOf_68 : decode cX10_roundOf 68 = .ok (.getfield 7, 3) := by decide +kernel
theorem dX10_roundOf_71 : decode cX10_roundOf 71 = .ok (.iconst 0, 1) := by decide +kernel
theorem dX10_roundOf_72 : decode cX10_roundOf 72 = .ok (.iaload, 1) := by decide +kernel
theorem dX10_roundOf_73 : decode cX10_roundOf 73 = .ok (.iconst 2, 1) := by decide +kernel
theorem dX10_roundOf_74 : decode cX10_roundOf 74 = .ok (.if_icmp .le 18, 3) := by decide +kernel
theorem dX10_roundOf_77 : decode cX10_roundOf 77 = .ok (.iconst 0, 1) := by decide +kernel
theorem dX10_roundOf_78 : decode cX10_roundOf 78 = .ok (.aload_n 0, 1) := by decide +kernel
theorem dX10_roundOf_79 : decode cX10_roundOf 79 = .ok (.getfield 7, 3) := by decide +kernel
theorem dX10_roundOf_82 : decode cX10_roundOf 82 = .ok (.iconst 0, 1) := by decide +kernel
theorem dX10_roundOf_83 : decode cX10_roundOf 83 = .ok (.iaload, 1) := by decide +kernel
theorem dX10_roundOf_84 : decode cX10_roundOf 84 = .ok (.iconst 1, 1) := by decide +kernel
theorem dX10_roundOf_85 : decode cX10_roundOf 85 = .ok (.isub, 1) := by decide +kernel
theorem dX10_roundOf_86 : decode cX10_roundOf 86 = .ok (.invokestatic 76, 3) := by decide +kernel
theorem dX10_roundOf_89 : decode cX10_roundOf 89 = .ok (.goto 4, 3) := by decide +kernel
theorem dX10_roundOf_92 : decode cX10_roundOf 92 = .ok (.iconst 0, 1) := by decide +kernel
theorem dX10_roundOf_93 : decode cX10_roundOf 93 = .ok (.ior, 1) := by decide +kernel
theorem dX10_roundOf_94 : decode cX10_roundOf 94 = .ok (.ireturn, 1) := by decide +kernel
theorem dX10_roundOf_95 : decode cX10_roundOf 95 = .ok (.bipush (-9), 2) := by decide +kernel
theorem dX10_roundOf_97 : decode cX10_roundOf 97 = .ok (.ireturn, 1) := by decide +kernel
set_option maxRecDepth 20000 in
theorem ggX10_isItem_X10_isWord : GoodIn wsX10_isItem wsX10_isWord := goodIn_r _ [11, 3, 12, 13, 89, 90, 91, 92, 93, 94, 95, 96, 97, 98, 99, 100, 101, 102, 103, 104, 105, 106, 107] (by decide +kernel) (by decide +kernel)
set_option maxRecDepth 20000 in
theorem gX10_isItem_X10_isWord : GoodIn wsX10_isItem (wsV RX10 143 RX10 yX10_isWord wsX10_isWord) := goodIn_app (goodIn_of _ (by decide +kernel)) ggX10_isItem_X10_isWord
set_option maxRecDepth 20000 in
theorem ggX10_isItem_X10_reads : GoodIn wsX10_isItem wsX10_reads := goodIn_r _ [17, 18, 19, 13, 2, 20, 3, 21, 22, 12, 23, 24, 25, 10, 26, 27, 28, 29, 89, 90, 91, 92, 93, 94, 95, 96, 97, 98, 99, 100, 101, 102, 103, 104, 105, 106, 107] (by decide +kernel) (by decide +kernel)
set_option maxRecDepth 20000 in
theorem gX10_isItem_X10_reads : GoodIn wsX10_isItem (wsV RX10 155 RX10 yX10_reads wsX10_reads) := goodIn_app (goodIn_of _ (by decide +kernel)) ggX10_isItem_X10_reads
set_option maxRecDepth 20000 in
theorem ggX10_isItem_X10_isDigit : GoodIn wsX10_isItem wsX10_isDigit := goodIn_r _ [33, 3, 12, 2, 27, 28, 10, 29, 89, 90, 91, 92, 93, 94, 95, 96, 97, 98, 99, 100, 101, 102, 103, 104, 105, 106, 107] (by decide +kernel) (by decide +kernel)
set_option maxRecDepth 20000 in
theorem gX10_isItem_X10_isDigit : GoodIn wsX10_isItem (wsV RX10 158 RX10 yX10_isDigit wsX10_isDigit) := goodIn_app (goodIn_of _ (by decide +kernel)) ggX10_isItem_X10_isDigit
set_option maxRecDepth 20000 in
theorem ggX10_isItem_X10_begins : GoodIn wsX10_isItem wsX10_begins := goodIn_r _ [37, 5, 89, 90, 91, 92, 93, 94, 95, 96, 97, 98, 99, 100, 101, 102, 103, 104, 105, 106, 107] (by decide +kernel) (by decide +kernel)
set_option maxRecDepth 20000 in
theorem gX10_isItem_X10_begins : GoodIn wsX10_isItem (wsV RX10 43 RX10 yX10_begins wsX10_begins) := goodIn_app (goodIn_of _ (by decide +kernel)) ggX10_isItem_X10_begins
set_option maxRecDepth 20000 in
theorem ggX10_isItem_X10_isRepeat : GoodIn wsX10_isItem wsX10_isRepeat := goodIn_r _ [41, 5, 2, 3, 14, 15, 16, 10, 17, 18, 19, 13, 20, 21, 22, 12, 23, 24, 25, 26, 27, 28, 29, 30, 31, 32, 33, 42, 43, 44, 45, 89, 90, 91, 92, 93, 94, 95, 96, 97, 98, 99, 100, 101, 102, 103, 104, 105, 106, 107] (by decide +kernel) (by decide +kernel)
set_option maxRecDepth 20000 in
theorem gX10_isItem_X10_isRepeat : GoodIn wsX10_isItem (wsV RX10 163 RX10 yX10_isRepeat wsX10_isRepeat) := goodIn_app (goodIn_of _ (by decide +kernel)) ggX10_isItem_X10_isRepeat
set_option maxRecDepth 20000 in
theorem ggX10_isItem_X10_star : GoodIn wsX10_isItem wsX10_star := goodIn_r _ [49, 5, 50, 51, 10, 52, 89, 90, 91, 92, 93, 94, 95, 96, 97, 98, 99, 100, 101, 102, 103, 104, 105, 106, 107] (by decide +kernel) (by decide +kernel)
set_option maxRecDepth 20000 in
theorem gX10_isItem_X10_star : GoodIn wsX10_isItem (wsV RX10 100 RX10 yX10_star wsX10_star) := goodIn_app (goodIn_of _ (by decide +kernel)) ggX10_isItem_X10_star
set_option maxRecDepth 20000 in
theorem ggX10_isItem_X10_adds : GoodIn wsX10_isItem wsX10_adds := goodIn_r _ [45, 5, 89, 90, 91, 92, 93, 94, 95, 96, 97, 98, 99, 100, 101, 102, 103, 104, 105, 106, 107] (by decide +kernel) (by decide +kernel)
set_option maxRecDepth 20000 in
theorem gX10_isItem_X10_adds : GoodIn wsX10_isItem (wsV RX10 66 RX10 yX10_adds wsX10_adds) := goodIn_app (goodIn_of _ (by decide +kernel)) ggX10_isItem_X10_adds
set_option maxRecDepth 20000 in
theorem ggX10_isItem_X10_roundOf : GoodIn wsX10_isItem wsX10_roundOf := goodIn_r _ [56, 57, 58, 59, 60, 5, 61, 62, 63, 10, 64, 65, 66, 67, 68, 50, 51, 52, 7, 8, 9, 11, 3, 12, 13, 69, 70, 71, 72, 89, 90, 91, 92, 93, 94, 95, 96, 97, 98, 99, 100, 101, 102, 103, 104, 105, 106, 107] (by decide +kernel) (by decide +kernel)
set_option maxRecDepth 20000 in
theorem gX10_isItem_X10_roundOf : GoodIn wsX10_isItem (wsV RX10 169 RX10 yX10_roundOf wsX10_roundOf) := goodIn_app (goodIn_of _ (by decide +kernel)) ggX10_isItem_X10_roundOf
set_option maxRecDepth 20000 in
theorem ggX10_isItem_X10_isEdge : GoodIn wsX10_isItem wsX10_isEdge := goodIn_r _ [76, 3, 12, 2, 77, 78, 79, 10, 80, 81, 82, 83, 84, 5, 27, 28, 29, 89, 90, 91, 92, 93, 94, 95, 96, 97, 98, 99, 100, 101, 102, 103, 104, 105, 106, 107] (by decide +kernel) (by decide +kernel)
set_option maxRecDepth 20000 in
theorem gX10_isItem_X10_isEdge : GoodIn wsX10_isItem (wsV RX10 172 RX10 yX10_isEdge wsX10_isEdge) := goodIn_app (goodIn_of _ (by decide +kernel)) ggX10_isItem_X10_isEdge
set_option maxRecDepth 20000 in
theorem ggX10_isItem_X10_areEdges : GoodIn wsX10_isItem wsX10_areEdges := goodIn_r _ [88, 2, 3, 73, 74, 75, 10, 76, 12, 77, 78, 79, 80, 81, 82, 83, 84, 5, 27, 28, 29, 50, 51, 52, 14, 15, 16, 17, 18, 19, 13, 20, 21, 22, 23, 24, 25, 26, 42, 43, 44, 45, 89, 90, 91, 92, 93, 94, 95, 96, 97, 98, 99, 100, 101, 102, 103, 104, 105, 106, 107] (by decide +kernel) (by decide +kernel)
set_option maxRecDepth 20000 in
theorem gX10_isItem_X10_areEdges : GoodIn wsX10_isItem (wsV RX10 175 RX10 yX10_areEdges wsX10_areEdges) := goodIn_app (goodIn_of _ (by decide +kernel)) ggX10_isItem_X10_areEdges
theorem dX10_isItem_0 : decode cX10_isItem 0 = .ok (.iload_n 1, 1) := by decide +kernel
theorem dX10_isItem_1 : decode cX10_isItem 1 = .ok (.ifCond .eq 56, 3) := by decide +kernel
theorem dX10_isItem_4 : decode cX10_isItem 4 = .ok (.aload_n 0, 1) := by decide +kernel
theorem dX10_isItem_5 : decode cX10_isItem 5 = .ok (.iconst 5, 1) := by decide +kernel
theorem dX10_isItem_6 : decode cX10_isItem 6 = .ok (.ldc2_w 153, 3) := by decide +kernel
theorem dX10_isItem_9 : decode cX10_isItem 9 = .ok (.invokevirtual 143, 3) := by decide +kernel
theorem dX10_isItem_12 : decode cX10_isItem 12 = .ok (.ifCond .eq 45, 3) := by decide +kernel
theorem dX10_isItem_15 : decode cX10_isItem 15 = .ok (.aload_n 0, 1) := by decide +kernel
theorem dX10_isItem_16 : decode cX10_isItem 16 = .ok (.invokevirtual 155, 3) := by decide +kernel
theorem dX10_isItem_19 : decode cX10_isItem 19 = .ok (.aload_n 0, 1) := by decide +kernel
theorem dX10_isItem_20 : decode cX10_isItem 20 = .ok (.iconst 2, 1) := by decide +kernel
theorem dX10_isItem_21 : decode cX10_isItem 21 = .ok (.bipush 8, 2) := by decide +kernel
theorem dX10_isItem_23 : decode cX10_isItem 23 = .ok (.invokevirtual 158, 3) := by decide +kernel
theorem dX10_isItem_26 : decode cX10_isItem 26 = .ok (.ifCond .ne 5, 3) := by decide +kernel
theorem dX10_isItem_29 : decode cX10_isItem 29 = .ok (.iconst 0, 1) := by decide +kernel
theorem dX10_isItem_30 : decode cX10_isItem 30 = .ok (.ireturn, 1) := by decide +kernel
theorem dX10_isItem_31 : decode cX10_isItem 31 = .ok (.aload_n 0, 1) := by decide +kernel
theorem dX10_isItem_32 : decode cX10_isItem 32 = .ok (.aload_n 0, 1) := by decide +kernel
theorem dX10_isItem_33 : decode cX10_isItem 33 = .ok (.getfield 131, 3) := by decide +kernel
theorem dX10_isItem_36 : decode cX10_isItem 36 = .ok (.invokevirtual 43, 3) := by decide +kernel
theorem dX10_isItem_39 : decode cX10_isItem 39 = .ok (.aload_n 0, 1) := by decide +kernel
theorem dX10_isItem_40 : decode cX10_isItem 40 = .ok (.invokevirtual 155, 3) := by decide +kernel
theorem dX10_isItem_43 : decode cX10_isItem 43 = .ok (.aload_n 0, 1) := by decide +kernel
theorem dX10_isItem_44 : decode cX10_isItem 44 = .ok (.getfield 134, 3) := by decide +kernel
theorem dX10_isItem_47 : decode cX10_isItem 47 = .ok (.iconst 3, 1) := by decide +kernel
theorem dX10_isItem_48 : decode cX10_isItem 48 = .ok (.if_icmp .ne 7, 3) := by decide +kernel
theorem dX10_isItem_51 : decode cX10_isItem 51 = .ok (.iconst 1, 1) := by decide +kernel
theorem dX10_isItem_52 : decode cX10_isItem 52 = .ok (.goto 4, 3) := by decide +kernel
theorem dX10_isItem_55 : decode cX10_isItem 55 = .ok (.iconst 0, 1) := by decide +kernel
theorem dX10_isItem_56 : decode cX10_isItem 56 = .ok (.ireturn, 1) := by decide +kernel
theorem dX10_isItem_57 : decode cX10_isItem 57 = .ok (.aload_n 0, 1) := by decide +kernel
theorem dX10_isItem_58 : decode cX10_isItem 58 = .ok (.bipush 6, 2) := by decide +kernel
theorem dX10_isItem_60 : decode cX10_isItem 60 = .ok (.ldc2_w 161, 3) := by decide +kernel
theorem dX10_isItem_63 : decode cX10_isItem 63 = .ok (.invokevirtual 143, 3) := by decide +kernel
theorem dX10_isItem_66 : decode cX10_isItem 66 = .ok (.ifCond .eq 25, 3) := by decide +kernel
theorem dX10_isItem_69 : decode cX10_isItem 69 = .ok (.aload_n 0, 1) := by decide +kernel
theorem dX10_isItem_70 : decode cX10_isItem 70 = .ok (.getfield 7, 3) := by decide +kernel
theorem dX10_isItem_73 : decode cX10_isItem 73 = .ok (.iconst 1, 1) := by decide +kernel
theorem dX10_isItem_74 : decode cX10_isItem 74 = .ok (.iaload, 1) := by decide +kernel
theorem dX10_isItem_75 : decode cX10_isItem 75 = .ok (.ifCond .le 14, 3) := by decide +kernel
theorem dX10_isItem_78 : decode cX10_isItem 78 = .ok (.aload_n 0, 1) := by decide +kernel
theorem dX10_isItem_79 : decode cX10_isItem 79 = .ok (.invokevirtual 163, 3) := by decide +kernel
theorem dX10_isItem_82 : decode cX10_isItem 82 = .ok (.ifCond .eq 7, 3) := by decide +kernel
theorem dX10_isItem_85 : decode cX10_isItem 85 = .ok (.iconst 1, 1) := by decide +kernel
theorem dX10_isItem_86 : decode cX10_isItem 86 = .ok (.goto 4, 3) := by decide +kernel
theorem dX10_isItem_89 : decode cX10_isItem 89 = .ok (.iconst 0, 1) := by decide +kernel
theorem dX10_isItem_90 : decode cX10_isItem 90 = .ok (.ireturn, 1) := by decide +kernel
theorem dX10_isItem_91 : decode cX10_isItem 91 = .ok (.aload_n 0, 1) := by decide +kernel
theorem dX10_isItem_92 : decode cX10_isItem 92 = .ok (.getfield 7, 3) := by decide +kernel
theorem dX10_isItem_95 : decode cX10_isItem 95 = .ok (.iconst 1, 1) := by decide +kernel
theorem dX10_isItem_96 : decode cX10_isItem 96 = .ok (.iaload, 1) := by decide +kernel
theorem dX10_isItem_97 : decode cX10_isItem 97 = .ok (.bipush 16, 2) := by decide +kernel
theorem dX10_isItem_99 : decode cX10_isItem 99 = .ok (.if_icmp .ne 5, 3) := by decide +kernel
theorem dX10_isItem_102 : decode cX10_isItem 102 = .ok (.iconst 0, 1) := by decide +kernel
theorem dX10_isItem_103 : decode cX10_isItem 103 = .ok (.ireturn, 1) := by decide +kernel
theorem dX10_isItem_104 : decode cX10_isItem 104 = .ok (.aload_n 0, 1) := by decide +kernel
theorem dX10_isItem_105 : decode cX10_isItem 105 = .ok (.iconst 4, 1) := by decide +kernel
theorem dX10_isItem_106 : decode cX10_isItem 106 = .ok (.ldc2_w 167, 3) := by decide +kernel
theorem dX10_isItem_109 : decode cX10_isItem 109 = .ok (.invokevirtual 143, 3) := by decide +kernel
theorem dX10_isItem_112 : decode cX10_isItem 112 = .ok (.ifCond .eq 55, 3) := by decide +kernel
theorem dX10_isItem_115 : decode cX10_isItem 115 = .ok (.aload_n 0, 1) := by decide +kernel
theorem dX10_isItem_116 : decode cX10_isItem 116 = .ok (.invokevirtual 155, 3) := by decide +kernel
theorem dX10_isItem_119 : decode cX10_isItem 119 = .ok (.aload_n 0, 1) := by decide +kernel
theorem dX10_isItem_120 : decode cX10_isItem 120 = .ok (.iconst 0, 1) := by decide +kernel
theorem dX10_isItem_121 : decode cX10_isItem 121 = .ok (.aload_n 0, 1) := by decide +kernel
theorem dX10_isItem_122 : decode cX10_isItem 122 = .ok (.getfield 7, 3) := by decide +kernel
theorem dX10_isItem_125 : decode cX10_isItem 125 = .ok (.iconst 0, 1) := by decide +kernel
theorem dX10_isItem_126 : decode cX10_isItem 126 = .ok (.iaload, 1) := by decide +kernel
theorem dX10_isItem_127 : decode cX10_isItem 127 = .ok (.iconst 1, 1) := by decide +kernel
theorem dX10_isItem_128 : decode cX10_isItem 128 = .ok (.isub, 1) := by decide +kernel
theorem dX10_isItem_129 : decode cX10_isItem 129 = .ok (.invokevirtual 158, 3) := by decide +kernel
theorem dX10_isItem_132 : decode cX10_isItem 132 = .ok (.ifCond .ne 5, 3) := by decide +kernel
theorem dX10_isItem_135 : decode cX10_isItem 135 = .ok (.iconst 0, 1) := by decide +kernel
theorem dX10_isItem_136 : decode cX10_isItem 136 = .ok (.ireturn, 1) := by decide +kernel
theorem dX10_isItem_137 : decode cX10_isItem 137 = .ok (.aload_n 0, 1) := by decide +kernel
theorem dX10_isItem_138 : decode cX10_isItem 138 = .ok (.aload_n 0, 1) := by decide +kernel
theorem dX10_isItem_139 : decode cX10_isItem 139 = .ok (.aload_n 0, 1) := by decide +kernel
theorem dX10_isItem_140 : decode cX10_isItem 140 = .ok (.getfield 131, 3) := by decide +kernel
theorem dX10_isItem_143 : decode cX10_isItem 143 = .ok (.invokevirtual 100, 3) := by decide +kernel
theorem dX10_isItem_146 : decode cX10_isItem 146 = .ok (.invokevirtual 66, 3) := by decide +kernel
theorem dX10_isItem_149 : decode cX10_isItem 149 = .ok (.aload_n 0, 1) := by decide +kernel
theorem dX10_isItem_150 : decode cX10_isItem 150 = .ok (.invokevirtual 155, 3) := by decide +kernel
theorem dX10_isItem_153 : decode cX10_isItem 153 = .ok (.aload_n 0, 1) := by decide +kernel
theorem dX10_isItem_154 : decode cX10_isItem 154 = .ok (.getfield 134, 3) := by decide +kernel
theorem dX10_isItem_157 : decode cX10_isItem 157 = .ok (.iconst 3, 1) := by decide +kernel
theorem dX10_isItem_158 : decode cX10_isItem 158 = .ok (.if_icmp .ne 7, 3) := by decide +kernel
theorem dX10_isItem_161 : decode cX10_isItem 161 = .ok (.iconst 1, 1) := by decide +kernel
theorem dX10_isItem_162 : decode cX10_isItem 162 = .ok (.goto 4, 3) := by decide +kernel
theorem dX10_isItem_165 : decode cX10_isItem 165 = .ok (.iconst 0, 1) := by decide +kernel
theorem dX10_isItem_166 : decode cX10_isItem 166 = .ok (.ireturn, 1) := by decide +kernel
theorem dX10_isItem_167 : decode cX10_isItem 167 = .ok (.aload_n 0, 1) := by decide +kernel
theorem dX10_isItem_168 : decode cX10_isItem 168 = .ok (.invokevirtual 169, 3) := by decide +kernel
theorem dX10_isItem_171 : decode cX10_isItem 171 = .ok (.istore_n 2, 1) := by decide +kernel
theorem dX10_isItem_172 : decode cX10_isItem 172 = .ok (.iload_n 2, 1) := by decide +kernel
theorem dX10_isItem_173 : decode cX10_isItem 173 = .ok (.bipush (-9), 2) := by decide +kernel
theorem dX10_isItem_175 : decode cX10_isItem 175 = .ok (.if_icmp .eq 26, 3) := by decide +kernel
theorem dX10_isItem_178 : decode cX10_isItem 178 = .ok (.aload_n 0, 1) := by decide +kernel
theorem dX10_isItem_179 : decode cX10_isItem 179 = .ok (.iload_n 2, 1) := by decide +kernel
theorem dX10_isItem_180 : decode cX10_isItem 180 = .ok (.invokevirtual 66, 3) := by decide +kernel
theorem dX10_isItem_183 : decode cX10_isItem 183 = .ok (.aload_n 0, 1) := by decide +kernel
theorem dX10_isItem_184 : decode cX10_isItem 184 = .ok (.invokevirtual 155, 3) := by decide +kernel
theorem dX10_isItem_187 : decode cX10_isItem 187 = .ok (.aload_n 0, 1) := by decide +kernel
theorem dX10_isItem_188 : decode cX10_isItem 188 = .ok (.getfield 134, 3) := by decide +kernel
theorem dX10_isItem_191 : decode cX10_isItem 191 = .ok (.iconst 3, 1) := by decide +kernel
theorem dX10_isItem_192 : decode cX10_isItem 192 = .ok (.if_icmp .ne 7, 3) := by decide +kernel
theorem dX10_isItem_195 : decode cX10_isItem 195 = .ok (.iconst 1, 1) := by decide +kernel
theorem dX10_isItem_196 : decode cX10_isItem 196 = .ok (.goto 4, 3) := by decide +kernel
theorem dX10_isItem_199 : decode cX10_isItem 199 = .ok (.iconst 0, 1) := by decide +kernel
theorem dX10_isItem_200 : decode cX10_isItem 200 = .ok (.ireturn, 1) := by decide +kernel
theorem dX10_isItem_201 : decode cX10_isItem 201 = .ok (.aload_n 0, 1) := by decide +kernel
theorem dX10_isItem_202 : decode cX10_isItem 202 = .ok (.invokevirtual 172, 3) := by decide +kernel
theorem dX10_isItem_205 : decode cX10_isItem 205 = .ok (.ifCond .eq 14, 3) := by decide +kernel
theorem dX10_isItem_208 : decode cX10_isItem 208 = .ok (.aload_n 0, 1) := by decide +kernel
theorem dX10_isItem_209 : decode cX10_isItem 209 = .ok (.invokevirtual 175, 3) := by decide +kernel
theorem dX10_isItem_212 : decode cX10_isItem 212 = .ok (.ifCond .eq 7, 3) := by decide +kernel
theorem dX10_isItem_215 : decode cX10_isItem 215 = .ok (.iconst 1, 1) := by decide +kernel
theorem dX10_isItem_216 : decode cX10_isItem 216 = .ok (.goto 4, 3) := by decide +kernel
theorem dX10_isItem_219 : decode cX10_isItem 219 = .ok (.iconst 0, 1) := by decide +kernel
theorem dX10_isItem_220 : decode cX10_isItem 220 = .ok (.ireturn, 1) := by decide +kernel
set_option maxRecDepth 20000 in
theorem ggX10_isRepeat_X10_reads : GoodIn wsX10_isRepeat wsX10_reads := goodIn_r _ [8, 9, 10, 11, 2, 12, 3, 13, 14, 15, 16, 17, 18, 7, 19, 20, 21, 22, 31, 32, 33, 34, 35, 36, 37, 38, 39, 40, 41, 42, 43, 44, 45, 46, 47, 48, 49] (by decide +kernel) (by decide +kernel)
set_option maxRecDepth 20000 in
theorem gX10_isRepeat_X10_reads : GoodIn wsX10_isRepeat (wsV RX10 155 RX10 yX10_reads wsX10_reads) := goodIn_app (goodIn_of _ (by decide +kernel)) ggX10_isRepeat_X10_reads
set_option maxRecDepth 20000 in
theorem ggX10_isRepeat_X10_isDigit : GoodIn wsX10_isRepeat wsX10_isDigit := goodIn_r _ [26, 3, 15, 2, 20, 21, 7, 22, 31, 32, 33, 34, 35, 36, 37, 38, 39, 40, 41, 42, 43, 44, 45, 46, 47, 48, 49] (by decide +kernel) (by decide +kernel)
set_option maxRecDepth 20000 in
theorem gX10_isRepeat_X10_isDigit : GoodIn wsX10_isRepeat (wsV RX10 158 RX10 yX10_isDigit wsX10_isDigit) := goodIn_app (goodIn_of _ (by decide +kernel)) ggX10_isRepeat_X10_isDigit
set_option maxRecDepth 20000 in
theorem ggX10_isRepeat_X10_adds : GoodIn wsX10_isRepeat wsX10_adds := goodIn_r _ [30, 1, 31, 32, 33, 34, 35, 36, 37, 38, 39, 40, 41, 42, 43, 44, 45, 46, 47, 48, 49] (by decide +kernel) (by decide +kernel)
set_option maxRecDepth 20000 in
theorem gX10_isRepeat_X10_adds : GoodIn wsX10_isRepeat (wsV RX10 66 RX10 yX10_adds wsX10_adds) := goodIn_app (goodIn_of _ (by decide +kernel)) ggX10_isRepeat_X10_adds
theorem dX10_isRepeat_0 : decode cX10_isRepeat 0 = .ok (.aload_n 0, 1) := by decide +kernel
theorem dX10_isRepeat_1 : decode cX10_isRepeat 1 = .ok (.invokevirtual 155, 3) := by decide +kernel
theorem dX10_isRepeat_4 : decode cX10_isRepeat 4 = .ok (.aload_n 0, 1) := by decide +kernel
theorem dX10_isRepeat_5 : decode cX10_isRepeat 5 = .ok (.iconst 1, 1) := by decide +kernel
theorem dX10_isRepeat_6 : decode cX10_isRepeat 6 = .ok (.bipush 9, 2) := by decide +kernel
theorem dX10_isRepeat_8 : decode cX10_isRepeat 8 = .ok (.invokevirtual 158, 3) := by decide +kernel
theorem dX10_isRepeat_11 : decode cX10_isRepeat 11 = .ok (.ifCond .eq 19, 3) := by decide +kernel
theorem dX10_isRepeat_14 : decode cX10_isRepeat 14 = .ok (.aload_n 0, 1) := by decide +kernel
theorem dX10_isRepeat_15 : decode cX10_isRepeat 15 = .ok (.getfield 7, 3) := by decide +kernel
theorem dX10_isRepeat_18 : decode cX10_isRepeat 18 = .ok (.iconst 1, 1) := by decide +kernel
theorem dX10_isRepeat_19 : decode cX10_isRepeat 19 = .ok (.iaload, 1) := by decide +kernel
theorem dX10_isRepeat_20 : decode cX10_isRepeat 20 = .ok (.aload_n 0, 1) := by decide +kernel
theorem dX10_isRepeat_21 : decode cX10_isRepeat 21 = .ok (.getfield 131, 3) := by decide +kernel
theorem dX10_isRepeat_24 : decode cX10_isRepeat 24 = .ok (.iadd, 1) := by decide +kernel
theorem dX10_isRepeat_25 : decode cX10_isRepeat 25 = .ok (.bipush 16, 2) := by decide +kernel
theorem dX10_isRepeat_27 : decode cX10_isRepeat 27 = .ok (.if_icmp .le 5, 3) := by decide +kernel
theorem dX10_isRepeat_30 : decode cX10_isRepeat 30 = .ok (.iconst 0, 1) := by decide +kernel
theorem dX10_isRepeat_31 : decode cX10_isRepeat 31 = .ok (.ireturn, 1) := by decide +kernel
theorem dX10_isRepeat_32 : decode cX10_isRepeat 32 = .ok (.aload_n 0, 1) := by decide +kernel
theorem dX10_isRepeat_33 : decode cX10_isRepeat 33 = .ok (.getfield 131, 3) := by decide +kernel
theorem dX10_isRepeat_36 : decode cX10_isRepeat 36 = .ok (.istore_n 1, 1) := by decide +kernel
theorem dX10_isRepeat_37 : decode cX10_isRepeat 37 = .ok (.iconst 0, 1) := by decide +kernel
theorem dX10_isRepeat_38 : decode cX10_isRepeat 38 = .ok (.istore_n 2, 1) := by decide +kernel
theorem dX10_isRepeat_39 : decode cX10_isRepeat 39 = .ok (.iload_n 2, 1) := by decide +kernel
theorem dX10_isRepeat_40 : decode cX10_isRepeat 40 = .ok (.iload_n 1, 1) := by decide +kernel
theorem dX10_isRepeat_41 : decode cX10_isRepeat 41 = .ok (.if_icmp .ge 28, 3) := by decide +kernel
theorem dX10_isRepeat_44 : decode cX10_isRepeat 44 = .ok (.aload_n 0, 1) := by decide +kernel
theorem dX10_isRepeat_45 : decode cX10_isRepeat 45 = .ok (.aload_n 0, 1) := by decide +kernel
theorem dX10_isRepeat_46 : decode cX10_isRepeat 46 = .ok (.getfield 7, 3) := by decide +kernel
theorem dX10_isRepeat_49 : decode cX10_isRepeat 49 = .ok (.iconst 2, 1) := by decide +kernel
theorem dX10_isRepeat_50 : decode cX10_isRepeat 50 = .ok (.aload_n 0, 1) := by decide +kernel
theorem dX10_isRepeat_51 : decode cX10_isRepeat 51 = .ok (.getfield 7, 3) := by decide +kernel
theorem dX10_isRepeat_54 : decode cX10_isRepeat 54 = .ok (.iconst 1, 1) := by decide +kernel
theorem dX10_isRepeat_55 : decode cX10_isRepeat 55 = .ok (.iaload, 1) := by decide +kernel
theorem dX10_isRepeat_56 : decode cX10_isRepeat 56 = .ok (.iadd, 1) := by decide +kernel
theorem dX10_isRepeat_57 : decode cX10_isRepeat 57 = .ok (.iconst 1, 1) := by decide +kernel
theorem dX10_isRepeat_58 : decode cX10_isRepeat 58 = .ok (.isub, 1) := by decide +kernel
theorem dX10_isRepeat_59 : decode cX10_isRepeat 59 = .ok (.iaload, 1) := by decide +kernel
theorem dX10_isRepeat_60 : decode cX10_isRepeat 60 = .ok (.invokevirtual 66, 3) := by decide +kernel
theorem dX10_isRepeat_63 : decode cX10_isRepeat 63 = .ok (.iinc 2 1, 3) := by decide +kernel
theorem dX10_isRepeat_66 : decode cX10_isRepeat 66 = .ok (.goto (-27), 3) := by decide +kernel
theorem dX10_isRepeat_69 : decode cX10_isRepeat 69 = .ok (.aload_n 0, 1) := by decide +kernel
theorem dX10_isRepeat_70 : decode cX10_isRepeat 70 = .ok (.invokevirtual 155, 3) := by decide +kernel
theorem dX10_isRepeat_73 : decode cX10_isRepeat 73 = .ok (.aload_n 0, 1) := by decide +kernel
theorem dX10_isRepeat_74 : decode cX10_isRepeat 74 = .ok (.getfield 134, 3) := by decide +kernel
theorem dX10_isRepeat_77 : decode cX10_isRepeat 77 = .ok (.iconst 3, 1) := by decide +kernel
theorem dX10_isRepeat_78 : decode cX10_isRepeat 78 = .ok (.if_icmp .ne 7, 3) := by decide +kernel
theorem dX10_isRepeat_81 : decode cX10_isRepeat 81 = .ok (.iconst 1, 1) := by decide +kernel
theorem dX10_isRepeat_82 : decode cX10_isRepeat 82 = .ok (.goto 4, 3) := by decide +kernel
theorem dX10_isRepeat_85 : decode cX10_isRepeat 85 = .ok (.iconst 0, 1) := by decide +kernel
theorem dX10_isRepeat_86 : decode cX10_isRepeat 86 = .ok (.ireturn, 1) := by decide +kernel
set_option maxRecDepth 20000 in
theorem ggX10_areEdges_X10_isEdge : GoodIn wsX10_areEdges wsX10_isEdge := goodIn_r _ [7, 2, 8, 1, 9, 10, 11, 6, 12, 13, 14, 15, 16, 17, 18, 19, 20, 42, 43, 44, 45, 46, 47, 48, 49, 50, 51, 52, 53, 54, 55, 56, 57, 58, 59, 60] (by decide +kernel) (by decide +kernel)
set_option maxRecDepth 20000 in
theorem gX10_areEdges_X10_isEdge : GoodIn wsX10_areEdges (wsV RX10 172 RX10 yX10_isEdge wsX10_isEdge) := goodIn_app (goodIn_of _ (by decide +kernel)) ggX10_areEdges_X10_isEdge
set_option maxRecDepth 20000 in
theorem ggX10_areEdges_X10_pair : GoodIn wsX10_areEdges wsX10_pair := goodIn_r _ [23] (by decide +kernel) (by decide +kernel)
set_option maxRecDepth 20000 in
theorem gX10_areEdges_X10_pair : GoodIn wsX10_areEdges (va_wsS RX10 76 yX10_pair wsX10_pair) := goodIn_app (goodIn_of _ (by decide +kernel)) ggX10_areEdges_X10_pair
set_option maxRecDepth 20000 in
theorem ggX10_areEdges_X10_reads : GoodIn wsX10_areEdges wsX10_reads := goodIn_r _ [27, 28, 29, 30, 1, 31, 2, 32, 33, 8, 34, 35, 36, 6, 37, 18, 19, 20, 42, 43, 44, 45, 46, 47, 48, 49, 50, 51, 52, 53, 54, 55, 56, 57, 58, 59, 60] (by decide +kernel) (by decide +kernel)
set_option maxRecDepth 20000 in
theorem gX10_areEdges_X10_reads : GoodIn wsX10_areEdges (wsV RX10 155 RX10 yX10_reads wsX10_reads) := goodIn_app (goodIn_of _ (by decide +kernel)) ggX10_areEdges_X10_reads
set_option maxRecDepth 20000 in
theorem ggX10_areEdges_X10_adds : GoodIn wsX10_areEdges wsX10_adds := goodIn_r _ [41, 17, 42, 43, 44, 45, 46, 47, 48, 49, 50, 51, 52, 53, 54, 55, 56, 57, 58, 59, 60] (by decide +kernel) (by decide +kernel)
set_option maxRecDepth 20000 in
theorem gX10_areEdges_X10_adds : GoodIn wsX10_areEdges (wsV RX10 66 RX10 yX10_adds wsX10_adds) := goodIn_app (goodIn_of _ (by decide +kernel)) ggX10_areEdges_X10_adds
theorem dX10_areEdges_0 : decode cX10_areEdges 0 = .ok (.iconst 0, 1) := by decide +kernel
theorem dX10_areEdges_1 : decode cX10_areEdges 1 = .ok (.istore_n 1, 1) := by decide +kernel
theorem dX10_areEdges_2 : decode cX10_areEdges 2 = .ok (.aload_n 0, 1) := by decide +kernel
theorem dX10_areEdges_3 : decode cX10_areEdges 3 = .ok (.invokevirtual 172, 3) := by decide +kernel
theorem dX10_areEdges_6 : decode cX10_areEdges 6 = .ok (.ifCond .eq 30, 3) := by decide +kernel
theorem dX10_areEdges_9 : decode cX10_areEdges 9 = .ok (.iload_n 1, 1) := by decide +kernel
theorem dX10_areEdges_10 : decode cX10_areEdges 10 = .ok (.aload_n 0, 1) := by decide +kernel
theorem dX10_areEdges_11 : decode cX10_areEdges 11 = .ok (.getfield 131, 3) := by decide +kernel
theorem dX10_areEdges_14 : decode cX10_areEdges 14 = .ok (.bipush 10, 2) := by decide +kernel
theorem dX10_areEdges_16 : decode cX10_areEdges 16 = .ok (.idiv, 1) := by decide +kernel
theorem dX10_areEdges_17 : decode cX10_areEdges 17 = .ok (.aload_n 0, 1) := by decide +kernel
theorem dX10_areEdges_18 : decode cX10_areEdges 18 = .ok (.getfield 131, 3) := by decide +kernel
theorem dX10_areEdges_21 : decode cX10_areEdges 21 = .ok (.bipush 10, 2) := by decide +kernel
theorem dX10_areEdges_23 : decode cX10_areEdges 23 = .ok (.irem, 1) := by decide +kernel
theorem dX10_areEdges_24 : decode cX10_areEdges 24 = .ok (.invokestatic 76, 3) := by decide +kernel
theorem dX10_areEdges_27 : decode cX10_areEdges 27 = .ok (.ior, 1) := by decide +kernel
theorem dX10_areEdges_28 : decode cX10_areEdges 28 = .ok (.istore_n 1, 1) := by decide +kernel
theorem dX10_areEdges_29 : decode cX10_areEdges 29 = .ok (.aload_n 0, 1) := by decide +kernel
theorem dX10_areEdges_30 : decode cX10_areEdges 30 = .ok (.invokevirtual 155, 3) := by decide +kernel
theorem dX10_areEdges_33 : decode cX10_areEdges 33 = .ok (.goto (-31), 3) := by decide +kernel
theorem dX10_areEdges_36 : decode cX10_areEdges 36 = .ok (.aload_n 0, 1) := by decide +kernel
theorem dX10_areEdges_37 : decode cX10_areEdges 37 = .ok (.iload_n 1, 1) := by decide +kernel
theorem dX10_areEdges_38 : decode cX10_areEdges 38 = .ok (.invokevirtual 66, 3) := by decide +kernel
theorem dX10_areEdges_41 : decode cX10_areEdges 41 = .ok (.aload_n 0, 1) := by decide +kernel
theorem dX10_areEdges_42 : decode cX10_areEdges 42 = .ok (.getfield 134, 3) := by decide +kernel
theorem dX10_areEdges_45 : decode cX10_areEdges 45 = .ok (.iconst 3, 1) := by decide +kernel
theorem dX10_areEdges_46 : decode cX10_areEdges 46 = .ok (.if_icmp .ne 7, 3) := by decide +kernel
theorem dX10_areEdges_49 : decode cX10_areEdges 49 = .ok (.iconst 1, 1) := by decide +kernel
theorem dX10_areEdges_50 : decode cX10_areEdges 50 = .ok (.goto 4, 3) := by decide +kernel
theorem dX10_areEdges_53 : decode cX10_areEdges 53 = .ok (.iconst 0, 1) := by decide +kernel
theorem dX10_areEdges_54 : decode cX10_areEdges 54 = .ok (.ireturn, 1) := by decide +kernel
set_option maxRecDepth 20000 in
theorem ggX10_load_X10_hold : GoodIn wsX10_load wsX10_hold := goodIn_r _ [10, 11, 5, 108, 109, 110, 111, 112, 113, 114, 115, 116, 117, 118, 119, 120, 121, 122, 123, 124, 125, 126] (by decide +kernel) (by decide +kernel)
set_option maxRecDepth 20000 in
theorem gX10_load_X10_hold : GoodIn wsX10_load (wsV RX10 59 RX10 yX10_hold wsX10_hold) := goodIn_app (goodIn_of _ (by decide +kernel)) ggX10_load_X10_hold
set_option maxRecDepth 20000 in
theorem ggX10_load_X10_begins : GoodIn wsX10_load wsX10_begins := goodIn_r _ [15, 5, 108, 109, 110, 111, 112, 113, 114, 115, 116, 117, 118, 119, 120, 121, 122, 123, 124, 125, 126] (by decide +kernel) (by decide +kernel)
set_option maxRecDepth 20000 in
theorem gX10_load_X10_begins : GoodIn wsX10_load (wsV RX10 43 RX10 yX10_begins wsX10_begins) := goodIn_app (goodIn_of _ (by decide +kernel)) ggX10_load_X10_begins
set_option maxRecDepth 20000 in
theorem ggX10_load_X10_reads : GoodIn wsX10_load wsX10_reads := goodIn_r _ [19, 1, 3, 20, 21, 4, 2, 22, 23, 24, 25, 26, 27, 9, 28, 29, 30, 31, 108, 109, 110, 111, 112, 113, 114, 115, 116, 117, 118, 119, 120, 121, 122, 123, 124, 125, 126] (by decide +kernel) (by decide +kernel)
set_option maxRecDepth 20000 in
theorem gX10_load_X10_reads : GoodIn wsX10_load (wsV RX10 155 RX10 yX10_reads wsX10_reads) := goodIn_app (goodIn_of _ (by decide +kernel)) ggX10_load_X10_reads
set_option maxRecDepth 20000 in
theorem ggX10_load_X10_isItem : GoodIn wsX10_load wsX10_isItem := goodIn_r _ [35, 36, 21, 2, 37, 5, 38, 39, 40, 41, 9, 42, 24, 20, 16, 17, 18, 19, 1, 3, 4, 22, 23, 25, 26, 27, 28, 29, 30, 31, 43, 44, 45, 46, 12, 13, 14, 15, 47, 48, 49, 50, 51, 52, 53, 54, 55, 56, 57, 58, 59, 60, 61, 62, 63, 64, 65, 66, 67, 68, 69, 70, 71, 72, 73, 74, 75, 76, 77, 78, 79, 80, 81, 82, 83, 84, 85, 86, 87, 88, 89, 90, 91, 92, 93, 94, 95, 96, 97, 108, 109, 110, 111, 112, 113, 114, 115, 116, 117, 118, 119, 120, 121, 122, 123, 124, 125, 126] (by decide +kernel) (by decide +kernel)
set_option maxRecDepth 20000 in
theorem gX10_load_X10_isItem : GoodIn wsX10_load (wsV RX10 178 RX10 yX10_isItem wsX10_isItem) := goodIn_app (goodIn_of _ (by decide +kernel)) ggX10_load_X10_isItem
set_option maxRecDepth 20000 in
theorem ggX10_load_X10_restore : GoodIn wsX10_load wsX10_restore := goodIn_r _ [101, 5, 11, 108, 109, 110, 111, 112, 113, 114, 115, 116, 117, 118, 119, 120, 121, 122, 123, 124, 125, 126] (by decide +kernel) (by decide +kernel)
set_option maxRecDepth 20000 in
theorem gX10_load_X10_restore : GoodIn wsX10_load (wsV RX10 182 RX10 yX10_restore wsX10_restore) := goodIn_app (goodIn_of _ (by decide +kernel)) ggX10_load_X10_restore
set_option maxRecDepth 20000 in
theorem ggX10_load_X10_ends : GoodIn wsX10_load wsX10_ends := goodIn_r _ [105, 106, 107, 11, 108, 109, 110, 111, 112, 113, 114, 115, 116, 117, 118, 119, 120, 121, 122, 123, 124, 125, 126] (by decide +kernel) (by decide +kernel)
set_option maxRecDepth 20000 in
theorem gX10_load_X10_ends : GoodIn wsX10_load (wsV RX10 62 RX10 yX10_ends wsX10_ends) := goodIn_app (goodIn_of _ (by decide +kernel)) ggX10_load_X10_ends
theorem dX10_load_0 : decode cX10_load 0 = .ok (.aload_n 0, 1) := by decide +kernel
theorem dX10_load_1 : decode cX10_load 1 = .ok (.invokevirtual 59, 3) := by decide +kernel
theorem dX10_load_4 : decode cX10_load 4 = .ok (.aload_n 0, 1) := by decide +kernel
theorem dX10_load_5 : decode cX10_load 5 = .ok (.iconst 4, 1) := by decide +kernel
theorem dX10_load_6 : decode cX10_load 6 = .ok (.invokevirtual 43, 3) := by decide +kernel
theorem dX10_load_9 : decode cX10_load 9 = .ok (.aload_n 0, 1) := by decide +kernel
theorem dX10_load_10 : decode cX10_load 10 = .ok (.iconst 0, 1) := by decide +kernel
theorem dX10_load_11 : decode cX10_load 11 = .ok (.putfield 118, 3) := by decide +kernel
theorem dX10_load_14 : decode cX10_load 14 = .ok (.aload_n 0, 1) := by decide +kernel
theorem dX10_load_15 : decode cX10_load 15 = .ok (.invokevirtual 155, 3) := by decide +kernel
theorem dX10_load_18 : decode cX10_load 18 = .ok (.iconst 1, 1) := by decide +kernel
theorem dX10_load_19 : decode cX10_load 19 = .ok (.istore_n 1, 1) := by decide +kernel
theorem dX10_load_20 : decode cX10_load 20 = .ok (.aload_n 0, 1) := by decide +kernel
theorem dX10_load_21 : decode cX10_load 21 = .ok (.getfield 134, 3) := by decide +kernel
theorem dX10_load_24 : decode cX10_load 24 = .ok (.ifCond .eq 32, 3) := by decide +kernel
theorem dX10_load_27 : decode cX10_load 27 = .ok (.aload_n 0, 1) := by decide +kernel
theorem dX10_load_28 : decode cX10_load 28 = .ok (.iload_n 1, 1) := by decide +kernel
theorem dX10_load_29 : decode cX10_load 29 = .ok (.invokevirtual 178, 3) := by decide +kernel
theorem dX10_load_32 : decode cX10_load 32 = .ok (.ifCond .ne 15, 3) := by decide +kernel
theorem dX10_load_35 : decode cX10_load 35 = .ok (.aload_n 0, 1) := by decide +kernel
theorem dX10_load_36 : decode cX10_load 36 = .ok (.invokevirtual 182, 3) := by decide +kernel
theorem dX10_load_39 : decode cX10_load 39 = .ok (.bipush (-10), 2) := by decide +kernel
theorem dX10_load_41 : decode cX10_load 41 = .ok (.aload_n 0, 1) := by decide +kernel
theorem dX10_load_42 : decode cX10_load 42 = .ok (.getfield 124, 3) := by decide +kernel
theorem dX10_load_45 : decode cX10_load 45 = .ok (.isub, 1) := by decide +kernel
theorem dX10_load_46 : decode cX10_load 46 = .ok (.ireturn, 1) := by decide +kernel
theorem dX10_load_47 : decode cX10_load 47 = .ok (.iconst 0, 1) := by decide +kernel
theorem dX10_load_48 : decode cX10_load 48 = .ok (.istore_n 1, 1) := by decide +kernel
theorem dX10_load_49 : decode cX10_load 49 = .ok (.aload_n 0, 1) := by decide +kernel
theorem dX10_load_50 : decode cX10_load 50 = .ok (.invokevirtual 155, 3) := by decide +kernel
theorem dX10_load_53 : decode cX10_load 53 = .ok (.goto (-33), 3) := by decide +kernel
theorem dX10_load_56 : decode cX10_load 56 = .ok (.aload_n 0, 1) := by decide +kernel
theorem dX10_load_57 : decode cX10_load 57 = .ok (.iconst 0, 1) := by decide +kernel
theorem dX10_load_58 : decode cX10_load 58 = .ok (.putfield 115, 3) := by decide +kernel
theorem dX10_load_61 : decode cX10_load 61 = .ok (.aload_n 0, 1) := by decide +kernel
theorem dX10_load_62 : decode cX10_load 62 = .ok (.aload_n 0, 1) := by decide +kernel
theorem dX10_load_63 : decode cX10_load 63 = .ok (.getfield 7, 3) := by decide +kernel
theorem dX10_load_66 : decode cX10_load 66 = .ok (.iconst 1, 1) := by decide +kernel
theorem dX10_load_67 : decode cX10_load 67 = .ok (.iaload, 1) := by decide +kernel
theorem dX10_load_68 : decode cX10_load 68 = .ok (.invokevirtual 62, 3) := by decide +kernel
theorem dX10_load_71 : decode cX10_load 71 = .ok (.ireturn, 1) := by decide +kernel
set_option maxRecDepth 20000 in
theorem ggX10_around_X10_pair : GoodIn wsX10_around wsX10_pair := goodIn_r _ [5] (by decide +kernel) (by decide +kernel)
set_option maxRecDepth 20000 in
theorem gX10_around_X10_pair : GoodIn wsX10_around (va_wsS RX10 76 yX10_pair wsX10_pair) := goodIn_app (goodIn_of _ (by decide +kernel)) ggX10_around_X10_pair
theorem dX10_around_0 : decode cX10_around 0 = .ok (.iload_n 2, 1) := by decide +kernel
theorem dX10_around_1 : decode cX10_around 1 = .ok (.istore_n 3, 1) := by decide +kernel
theorem dX10_around_2 : decode cX10_around 2 = .ok (.iconst 0, 1) := by decide +kernel
theorem dX10_around_3 : decode cX10_around 3 = .ok (.istore 4, 2) := by decide +kernel
theorem dX10_around_5 : decode cX10_around 5 = .ok (.iload 4, 2) := by decide +kernel
theorem dX10_around_7 : decode cX10_around 7 = .ok (.aload_n 0, 1) := by decide +kernel
theorem dX10_around_8 : decode cX10_around 8 = .ok (.getfield 7, 3) := by decide +kernel
theorem dX10_around_11 : decode cX10_around 11 = .ok (.iconst 0, 1) := by decide +kernel
theorem dX10_around_12 : decode cX10_around 12 = .ok (.iaload, 1) := by decide +kernel
theorem dX10_around_13 : decode cX10_around 13 = .ok (.if_icmp .ge 59, 3) := by decide +kernel
theorem dX10_around_16 : decode cX10_around 16 = .ok (.iconst 0, 1) := by decide +kernel
theorem dX10_around_17 : decode cX10_around 17 = .ok (.istore 5, 2) := by decide +kernel
theorem dX10_around_19 : decode cX10_around 19 = .ok (.iload 5, 2) := by decide +kernel
theorem dX10_around_21 : decode cX10_around 21 = .ok (.iload 4, 2) := by decide +kernel
theorem dX10_around_23 : decode cX10_around 23 = .ok (.if_icmp .ge 43, 3) := by decide +kernel
theorem dX10_around_26 : decode cX10_around 26 = .ok (.iload_n 1, 1) := by decide +kernel
theorem dX10_around_27 : decode cX10_around 27 = .ok (.iload 5, 2) := by decide +kernel
theorem dX10_around_29 : decode cX10_around 29 = .ok (.iload 4, 2) := by decide +kernel
theorem dX10_around_31 : decode cX10_around 31 = .ok (.invokestatic 76, 3) := by decide +kernel
theorem dX10_around_34 : decode cX10_around 34 = .ok (.iand, 1) := by decide +kernel
theorem dX10_around_35 : decode cX10_around 35 = .ok (.ifCond .eq 25, 3) := by decide +kernel
theorem dX10_around_38 : decode cX10_around 38 = .ok (.iload_n 3, 1) := by decide +kernel
theorem dX10_around_39 : decode cX10_around 39 = .ok (.iload_n 2, 1) := by decide +kernel
theorem dX10_around_40 : decode cX10_around 40 = .ok (.iload 5, 2) := by decide +kernel
theorem dX10_around_42 : decode cX10_around 42 = .ok (.ishr, 1) := by decide +kernel
theorem dX10_around_43 : decode cX10_around 43 = .ok (.iconst 1, 1) := by decide +kernel
theorem dX10_around_44 : decode cX10_around 44 = .ok (.iand, 1) := by decide +kernel
theorem dX10_around_45 : decode cX10_around 45 = .ok (.iload 4, 2) := by decide +kernel
theorem dX10_around_47 : decode cX10_around 47 = .ok (.ishl, 1) := by decide +kernel
theorem dX10_around_48 : decode cX10_around 48 = .ok (.iload_n 2, 1) := by decide +kernel
theorem dX10_around_49 : decode cX10_around 49 = .ok (.iload 4, 2) := by decide +kernel
theorem dX10_around_51 : decode cX10_around 51 = .ok (.ishr, 1) := by decide +kernel
theorem dX10_around_52 : decode cX10_around 52 = .ok (.iconst 1, 1) := by decide +kernel
theorem dX10_around_53 : decode cX10_around 53 = .ok (.iand, 1) := by decide +kernel
theorem dX10_around_54 : decode cX10_around 54 = .ok (.iload 5, 2) := by decide +kernel
theorem dX10_around_56 : decode cX10_around 56 = .ok (.ishl, 1) := by decide +kernel
theorem dX10_around_57 : decode cX10_around 57 = .ok (.ior, 1) := by decide +kernel
theorem dX10_around_58 : decode cX10_around 58 = .ok (.ior, 1) := by decide +kernel
theorem dX10_around_59 : decode cX10_around 59 = .ok (.istore_n 3, 1) := by decide +kernel
theorem dX10_around_60 : decode cX10_around 60 = .ok (.iinc 5 1, 3) := by decide +kernel
theorem dX10_around_63 : decode cX10_around 63 = .ok (.goto (-44), 3) := by decide +kernel
theorem dX10_around_66 : decode cX10_around 66 = .ok (.iinc 4 1, 3) := by decide +kernel
theorem dX10_around_69 : decode cX10_around 69 = .ok (.goto (-64), 3) := by decide +kernel
theorem dX10_around_72 : decode cX10_around 72 = .ok (.iload_n 3, 1) := by decide +kernel
theorem dX10_around_73 : decode cX10_around 73 = .ok (.ireturn, 1) := by decide +kernel
set_option maxRecDepth 20000 in
theorem ggX10_componentOf_X10_around : GoodIn wsX10_componentOf wsX10_around := goodIn_r _ [6, 1, 7, 8, 5, 9, 10, 11, 12, 13, 14, 15, 16, 17, 18, 19, 20, 21, 22, 23, 24, 25, 26, 27, 28] (by decide +kernel) (by decide +kernel)
set_option maxRecDepth 20000 in
theorem gX10_componentOf_X10_around : GoodIn wsX10_componentOf (wsV RX10 185 RX10 yX10_around wsX10_around) := goodIn_app (goodIn_of _ (by decide +kernel)) ggX10_componentOf_X10_around
theorem dX10_componentOf_0 : decode cX10_componentOf 0 = .ok (.iconst 1, 1) := by decide +kernel
theorem dX10_componentOf_1 : decode cX10_componentOf 1 = .ok (.iload_n 2, 1) := by decide +kernel
theorem dX10_componentOf_2 : decode cX10_componentOf 2 = .ok (.ishl, 1) := by decide +kernel
theorem dX10_componentOf_3 : decode cX10_componentOf 3 = .ok (.istore_n 3, 1) := by decide +kernel
theorem dX10_componentOf_4 : decode cX10_componentOf 4 = .ok (.iconst 0, 1) := by decide +kernel
theorem dX10_componentOf_5 : decode cX10_componentOf 5 = .ok (.istore 4, 2) := by decide +kernel
theorem dX10_componentOf_7 : decode cX10_componentOf 7 = .ok (.iload 4, 2) := by decide +kernel
theorem dX10_componentOf_9 : decode cX10_componentOf 9 = .ok (.aload_n 0, 1) := by decide +kernel
theorem dX10_componentOf_10 : decode cX10_componentOf 10 = .ok (.getfield 7, 3) := by decide +kernel
theorem dX10_componentOf_13 : decode cX10_componentOf 13 = .ok (.iconst 0, 1) := by decide +kernel
theorem dX10_componentOf_14 : decode cX10_componentOf 14 = .ok (.iaload, 1) := by decide +kernel
theorem dX10_componentOf_15 : decode cX10_componentOf 15 = .ok (.if_icmp .ge 16, 3) := by decide +kernel
theorem dX10_componentOf_18 : decode cX10_componentOf 18 = .ok (.aload_n 0, 1) := by decide +kernel
theorem dX10_componentOf_19 : decode cX10_componentOf 19 = .ok (.iload_n 1, 1) := by decide +kernel
theorem dX10_componentOf_20 : decode cX10_componentOf 20 = .ok (.iload_n 3, 1) := by decide +kernel
theorem dX10_componentOf_21 : decode cX10_componentOf 21 = .ok (.invokevirtual 185, 3) := by decide +kernel
theorem dX10_componentOf_24 : decode cX10_componentOf 24 = .ok (.istore_n 3, 1) := by decide +kernel
theorem dX10_componentOf_25 : decode cX10_componentOf 25 = .ok (.iinc 4 1, 3) := by decide +kernel
theorem dX10_componentOf_28 : decode cX10_componentOf 28 = .ok (.goto (-21), 3) := by decide +kernel
theorem dX10_componentOf_31 : decode cX10_componentOf 31 = .ok (.iload_n 3, 1) := by decide +kernel
theorem dX10_componentOf_32 : decode cX10_componentOf 32 = .ok (.ireturn, 1) := by decide +kernel
set_option maxRecDepth 20000 in
theorem ggX10_isConnected_X10_componentOf : GoodIn wsX10_isConnected wsX10_componentOf := goodIn_r _ [5, 6, 7, 8, 9, 4, 10, 11, 12, 13, 18, 19, 20, 21, 22, 23, 24, 25, 26, 27, 28, 29, 30, 31, 32, 33, 34, 35, 36] (by decide +kernel) (by decide +kernel)
set_option maxRecDepth 20000 in
theorem gX10_isConnected_X10_componentOf : GoodIn wsX10_isConnected (wsV RX10 188 RX10 yX10_componentOf wsX10_componentOf) := goodIn_app (goodIn_of _ (by decide +kernel)) ggX10_isConnected_X10_componentOf
set_option maxRecDepth 20000 in
theorem ggX10_isConnected_X10_all : GoodIn wsX10_isConnected wsX10_all := goodIn_r _ [17, 6, 18, 19, 20, 21, 22, 23, 24, 25, 26, 27, 28, 29, 30, 31, 32, 33, 34, 35, 36] (by decide +kernel) (by decide +kernel)
set_option maxRecDepth 20000 in
theorem gX10_isConnected_X10_all : GoodIn wsX10_isConnected (wsV RX10 87 RX10 yX10_all wsX10_all) := goodIn_app (goodIn_of _ (by decide +kernel)) ggX10_isConnected_X10_all
theorem dX10_isConnected_0 : decode cX10_isConnected 0 = .ok (.aload_n 0, 1) := by decide +kernel
theorem dX10_isConnected_1 : decode cX10_isConnected 1 = .ok (.iload_n 1, 1) := by decide +kernel
theorem dX10_isConnected_2 : decode cX10_isConnected 2 = .ok (.iconst 0, 1) := by decide +kernel
theorem dX10_isConnected_3 : decode cX10_isConnected 3 = .ok (.invokevirtual 188, 3) := by decide +kernel
theorem dX10_isConnected_6 : decode cX10_isConnected 6 = .ok (.aload_n 0, 1) := by decide +kernel
theorem dX10_isConnected_7 : decode cX10_isConnected 7 = .ok (.invokevirtual 87, 3) := by decide +kernel
theorem dX10_isConnected_10 : decode cX10_isConnected 10 = .ok (.if_icmp .ne 7, 3) := by decide +kernel
theorem dX10_isConnected_13 : decode cX10_isConnected 13 = .ok (.iconst 1, 1) := by decide +kernel
theorem dX10_isConnected_14 : decode cX10_isConnected 14 = .ok (.goto 4, 3) := by decide +kernel
theorem dX10_isConnected_17 : decode cX10_isConnected 17 = .ok (.iconst 0, 1) := by decide +kernel
theorem dX10_isConnected_18 : decode cX10_isConnected 18 = .ok (.ireturn, 1) := by decide +kernel
set_option maxRecDepth 20000 in
theorem ggX10_components_X10_componentOf : GoodIn wsX10_components wsX10_componentOf := goodIn_r _ [6, 1, 7, 8, 9, 5, 10, 11, 12, 13, 17, 18, 19, 20, 21, 22, 23, 24, 25, 26, 27, 28, 29, 30, 31, 32, 33, 34, 35] (by decide +kernel) (by decide +kernel)
set_option maxRecDepth 20000 in
theorem gX10_components_X10_componentOf : GoodIn wsX10_components (wsV RX10 188 RX10 yX10_componentOf wsX10_componentOf) := goodIn_app (goodIn_of _ (by decide +kernel)) ggX10_components_X10_componentOf
set_option maxRecDepth 20000 in
theorem ggX10_components_X10_lowest : GoodIn wsX10_components wsX10_lowest := goodIn_r _ [16] (by decide +kernel) (by decide +kernel)
set_option maxRecDepth 20000 in
theorem gX10_components_X10_lowest : GoodIn wsX10_components (va_wsS RX10 94 yX10_lowest wsX10_lowest) := goodIn_app (goodIn_of _ (by decide +kernel)) ggX10_components_X10_lowest
theorem dX10_components_0 : decode cX10_components 0 = .ok (.iconst 0, 1) := by decide +kernel
theorem dX10_components_1 : decode cX10_components 1 = .ok (.istore_n 2, 1) := by decide +kernel
theorem dX10_components_2 : decode cX10_components 2 = .ok (.iconst 0, 1) := by decide +kernel
theorem dX10_components_3 : decode cX10_components 3 = .ok (.istore_n 3, 1) := by decide +kernel
theorem dX10_components_4 : decode cX10_components 4 = .ok (.iload_n 3, 1) := by decide +kernel
theorem dX10_components_5 : decode cX10_components 5 = .ok (.aload_n 0, 1) := by decide +kernel
theorem dX10_components_6 : decode cX10_components 6 = .ok (.getfield 7, 3) := by decide +kernel
theorem dX10_components_9 : decode cX10_components 9 = .ok (.iconst 0, 1) := by decide +kernel
theorem dX10_components_10 : decode cX10_components 10 = .ok (.iaload, 1) := by decide +kernel
theorem dX10_components_11 : decode cX10_components 11 = .ok (.if_icmp .ge 30, 3) := by decide +kernel
theorem dX10_components_14 : decode cX10_components 14 = .ok (.iload_n 2, 1) := by decide +kernel
theorem dX10_components_15 : decode cX10_components 15 = .ok (.aload_n 0, 1) := by decide +kernel
theorem dX10_components_16 : decode cX10_components 16 = .ok (.iload_n 1, 1) := by decide +kernel
theorem dX10_components_17 : decode cX10_components 17 = .ok (.iload_n 3, 1) := by decide +kernel
theorem dX10_components_18 : decode cX10_components 18 = .ok (.invokevirtual 188, 3) := by decide +kernel
theorem dX10_components_21 : decode cX10_components 21 = .ok (.invokestatic 94, 3) := by decide +kernel
theorem dX10_components_24 : decode cX10_components 24 = .ok (.iload_n 3, 1) := by decide +kernel
theorem dX10_components_25 : decode cX10_components 25 = .ok (.if_icmp .ne 7, 3) := by decide +kernel
theorem dX10_components_28 : decode cX10_components 28 = .ok (.iconst 1, 1) := by decide +kernel
theorem dX10_components_29 : decode cX10_components 29 = .ok (.goto 4, 3) := by decide +kernel
theorem dX10_components_32 : decode cX10_components 32 = .ok (.iconst 0, 1) := by decide +kernel
theorem dX10_components_33 : decode cX10_components 33 = .ok (.iadd, 1) := by decide +kernel
theorem dX10_components_34 : decode cX10_components 34 = .ok (.istore_n 2, 1) := by decide +kernel
theorem dX10_components_35 : decode cX10_components 35 = .ok (.iinc 3 1, 3) := by decide +kernel
theorem dX10_components_38 : decode cX10_components 38 = .ok (.goto (-34), 3) := by decide +kernel
theorem dX10_components_41 : decode cX10_components 41 = .ok (.iload_n 2, 1) := by decide +kernel
theorem dX10_components_42 : decode cX10_components 42 = .ok (.ireturn, 1) := by decide +kernel
set_option maxRecDepth 20000 in
theorem ggX10_degree_X10_around : GoodIn wsX10_degree wsX10_around := goodIn_r _ [6, 1, 7, 8, 5, 9, 13, 14, 15, 16, 17, 18, 19, 20, 21, 22, 23, 24, 25, 26, 27, 28, 29, 30, 31] (by decide +kernel) (by decide +kernel)
set_option maxRecDepth 20000 in
theorem gX10_degree_X10_around : GoodIn wsX10_degree (wsV RX10 185 RX10 yX10_around wsX10_around) := goodIn_app (goodIn_of _ (by decide +kernel)) ggX10_degree_X10_around
set_option maxRecDepth 20000 in
theorem ggX10_degree_X10_size : GoodIn wsX10_degree wsX10_size := goodIn_r _ [12] (by decide +kernel) (by decide +kernel)
set_option maxRecDepth 20000 in
theorem gX10_degree_X10_size : GoodIn wsX10_degree (va_wsS RX10 80 yX10_size wsX10_size) := goodIn_app (goodIn_of _ (by decide +kernel)) ggX10_degree_X10_size
theorem dX10_degree_0 : decode cX10_degree 0 = .ok (.iconst 0, 1) := by decide +kernel
theorem dX10_degree_1 : decode cX10_degree 1 = .ok (.istore_n 2, 1) := by decide +kernel
theorem dX10_degree_2 : decode cX10_degree 2 = .ok (.iconst 0, 1) := by decide +kernel
theorem dX10_degree_3 : decode cX10_degree 3 = .ok (.istore_n 3, 1) := by decide +kernel
theorem dX10_degree_4 : decode cX10_degree 4 = .ok (.iload_n 3, 1) := by decide +kernel
theorem dX10_degree_5 : decode cX10_degree 5 = .ok (.aload_n 0, 1) := by decide +kernel
theorem dX10_degree_6 : decode cX10_degree 6 = .ok (.getfield 7, 3) := by decide +kernel
theorem dX10_degree_9 : decode cX10_degree 9 = .ok (.iconst 0, 1) := by decide +kernel
theorem dX10_degree_10 : decode cX10_degree 10 = .ok (.iaload, 1) := by decide +kernel
theorem dX10_degree_11 : decode cX10_degree 11 = .ok (.if_icmp .ge 37, 3) := by decide +kernel
theorem dX10_degree_14 : decode cX10_degree 14 = .ok (.aload_n 0, 1) := by decide +kernel
theorem dX10_degree_15 : decode cX10_degree 15 = .ok (.iload_n 1, 1) := by decide +kernel
theorem dX10_degree_16 : decode cX10_degree 16 = .ok (.iconst 1, 1) := by decide +kernel
theorem dX10_degree_17 : decode cX10_degree 17 = .ok (.iload_n 3, 1) := by decide +kernel
theorem dX10_degree_18 : decode cX10_degree 18 = .ok (.ishl, 1) := by decide +kernel
theorem dX10_degree_19 : decode cX10_degree 19 = .ok (.invokevirtual 185, 3) := by decide +kernel
theorem dX10_degree_22 : decode cX10_degree 22 = .ok (.invokestatic 80, 3) := by decide +kernel
theorem dX10_degree_25 : decode cX10_degree 25 = .ok (.iconst 1, 1) := by decide +kernel
theorem dX10_degree_26 : decode cX10_degree 26 = .ok (.isub, 1) := by decide +kernel
theorem dX10_degree_27 : decode cX10_degree 27 = .ok (.istore 4, 2) := by decide +kernel
theorem dX10_degree_29 : decode cX10_degree 29 = .ok (.iload 4, 2) := by decide +kernel
theorem dX10_degree_31 : decode cX10_degree 31 = .ok (.iload_n 2, 1) := by decide +kernel
theorem dX10_degree_32 : decode cX10_degree 32 = .ok (.if_icmp .le 8, 3) := by decide +kernel
theorem dX10_degree_35 : decode cX10_degree 35 = .ok (.iload 4, 2) := by decide +kernel
theorem dX10_degree_37 : decode cX10_degree 37 = .ok (.goto 4, 3) := by decide +kernel
theorem dX10_degree_40 : decode cX10_degree 40 = .ok (.iload_n 2, 1) := by decide +kernel
theorem dX10_degree_41 : decode cX10_degree 41 = .ok (.istore_n 2, 1) := by decide +kernel
theorem dX10_degree_42 : decode cX10_degree 42 = .ok (.iinc 3 1, 3) := by decide +kernel
theorem dX10_degree_45 : decode cX10_degree 45 = .ok (.goto (-41), 3) := by decide +kernel
theorem dX10_degree_48 : decode cX10_degree 48 = .ok (.iload_n 2, 1) := by decide +kernel
theorem dX10_degree_49 : decode cX10_degree 49 = .ok (.ireturn, 1) := by decide +kernel
set_option maxRecDepth 20000 in
theorem ggX10_round_X10_isRound : GoodIn wsX10_round wsX10_isRound := goodIn_r _ [6, 1, 7, 8, 5, 9, 43, 44, 45, 46, 47, 48, 49, 50, 51, 52, 53, 54, 55, 56, 57, 58, 59, 60, 61] (by decide +kernel) (by decide +kernel)
set_option maxRecDepth 20000 in
theorem gX10_round_X10_isRound : GoodIn wsX10_round (wsV RX10 69 RX10 yX10_isRound wsX10_isRound) := goodIn_app (goodIn_of _ (by decide +kernel)) ggX10_round_X10_isRound
set_option maxRecDepth 20000 in
theorem ggX10_round_X10_size : GoodIn wsX10_round wsX10_size := goodIn_r _ [12] (by decide +kernel) (by decide +kernel)
set_option maxRecDepth 20000 in
theorem gX10_round_X10_size : GoodIn wsX10_round (va_wsS RX10 80 yX10_size wsX10_size) := goodIn_app (goodIn_of _ (by decide +kernel)) ggX10_round_X10_size
set_option maxRecDepth 20000 in
theorem ggX10_round_X10_isConnected : GoodIn wsX10_round wsX10_isConnected := goodIn_r _ [16, 17, 18, 19, 5, 20, 1, 21, 22, 23, 24, 25, 26, 27, 28, 29, 30, 31, 43, 44, 45, 46, 47, 48, 49, 50, 51, 52, 53, 54, 55, 56, 57, 58, 59, 60, 61] (by decide +kernel) (by decide +kernel)
set_option maxRecDepth 20000 in
theorem gX10_round_X10_isConnected : GoodIn wsX10_round (wsV RX10 109 RX10 yX10_isConnected wsX10_isConnected) := goodIn_app (goodIn_of _ (by decide +kernel)) ggX10_round_X10_isConnected
set_option maxRecDepth 20000 in
theorem ggX10_round_X10_components : GoodIn wsX10_round wsX10_components := goodIn_r _ [35, 1, 17, 18, 19, 5, 20, 21, 22, 23, 24, 25, 26, 27, 36, 37, 38, 43, 44, 45, 46, 47, 48, 49, 50, 51, 52, 53, 54, 55, 56, 57, 58, 59, 60, 61] (by decide +kernel) (by decide +kernel)
set_option maxRecDepth 20000 in
theorem gX10_round_X10_components : GoodIn wsX10_round (wsV RX10 191 RX10 yX10_components wsX10_components) := goodIn_app (goodIn_of _ (by decide +kernel)) ggX10_round_X10_components
set_option maxRecDepth 20000 in
theorem ggX10_round_X10_degree : GoodIn wsX10_round wsX10_degree := goodIn_r _ [42, 1, 21, 22, 23, 5, 24, 25, 26, 27, 10, 11, 12, 43, 44, 45, 46, 47, 48, 49, 50, 51, 52, 53, 54, 55, 56, 57, 58, 59, 60, 61] (by decide +kernel) (by decide +kernel)
set_option maxRecDepth 20000 in
theorem gX10_round_X10_degree : GoodIn wsX10_round (wsV RX10 194 RX10 yX10_degree wsX10_degree) := goodIn_app (goodIn_of _ (by decide +kernel)) ggX10_round_X10_degree
theorem dX10_round_0 : decode cX10_round 0 = .ok (.aload_n 0, 1) := by decide +kernel
theorem dX10_round_1 : decode cX10_round 1 = .ok (.iload_n 1, 1) := by decide +kernel
theorem dX10_round_2 : decode cX10_round 2 = .ok (.invokevirtual 69, 3) := by decide +kernel
theorem dX10_round_5 : decode cX10_round 5 = .ok (.ifCond .ne 5, 3) := by decide +kernel
theorem dX10_round_8 : decode cX10_round 8 = .ok (.iconst (-1), 1) := by decide +kernel
theorem dX10_round_9 : decode cX10_round 9 = .ok (.ireturn, 1) := by decide +kernel
theorem dX10_round_10 : decode cX10_round 10 = .ok (.aload_n 0, 1) := by decide +kernel
theorem dX10_round_11 : decode cX10_round 11 = .ok (.getfield 7, 3) := by decide +kernel
theorem dX10_round_14 : decode cX10_round 14 = .ok (.iconst 2, 1) := by decide +kernel
theorem dX10_round_15 : decode cX10_round 15 = .ok (.iload_n 1, 1) := by decide +kernel
theorem dX10_round_16 : decode cX10_round 16 = .ok (.iadd, 1) := by decide +kernel
theorem dX10_round_17 : decode cX10_round 17 = .ok (.iaload, 1) := by decide +kernel
theorem dX10_round_18 : decode cX10_round 18 = .ok (.istore_n 3, 1) := by decide +kernel
theorem dX10_round_19 : decode cX10_round 19 = .ok (.iload_n 2, 1) := by decide +kernel
theorem dX10_round_20 : decode cX10_round 20 = .ok (.tableswitch 63 0 3 #[32, 37, 51, 57], 32) := by decide +kernel
theorem dX10_round_52 : decode cX10_round 52 = .ok (.iload_n 3, 1) := by decide +kernel
theorem dX10_round_53 : decode cX10_round 53 = .ok (.invokestatic 80, 3) := by decide +kernel
theorem dX10_round_56 : decode cX10_round 56 = .ok (.ireturn, 1) := by decide +kernel
theorem dX10_round_57 : decode cX10_round 57 = .ok (.aload_n 0, 1) := by decide +kernel
theorem dX10_round_58 : decode cX10_round 58 = .ok (.iload_n 3, 1) := by decide +kernel
theorem dX10_round_59 : decode cX10_round 59 = .ok (.invokevirtual 109, 3) := by decide +kernel
theorem dX10_round_62 : decode cX10_round 62 = .ok (.ifCond .eq 7, 3) := by decide +kernel
theorem dX10_round_65 : decode cX10_round 65 = .ok (.iconst 1, 1) := by decide +kernel
theorem dX10_round_66 : decode cX10_round 66 = .ok (.goto 4, 3) := by decide +kernel
theorem dX10_round_69 : decode cX10_round 69 = .ok (.iconst 0, 1) := by decide +kernel
theorem dX10_round_70 : decode cX10_round 70 = .ok (.ireturn, 1) := by decide +kernel
theorem dX10_round_71 : decode cX10_round 71 = .ok (.aload_n 0, 1) := by decide +kernel
theorem dX10_round_72 : decode cX10_round 72 = .ok (.iload_n 3, 1) := by decide +kernel
theorem dX10_round_73 : decode cX10_round 73 = .ok (.invokevirtual 191, 3) := by decide +kernel
theorem dX10_round_76 : decode cX10_round 76 = .ok (.ireturn, 1) := by decide +kernel
theorem dX10_round_77 : decode cX10_round 77 = .ok (.aload_n 0, 1) := by decide +kernel
theorem dX10_round_78 : decode cX10_round 78 = .ok (.iload_n 3, 1) := by decide +kernel
theorem dX10_round_79 : decode cX10_round 79 = .ok (.invokevirtual 194, 3) := by decide +kernel
theorem dX10_round_82 : decode cX10_round 82 = .ok (.ireturn, 1) := by decide +kernel
theorem dX10_round_83 : decode cX10_round 83 = .ok (.iconst (-1), 1) := by decide +kernel
theorem dX10_round_84 : decode cX10_round 84 = .ok (.ireturn, 1) := by decide +kernel
theorem dX10_stay_0 : decode cX10_stay 0 = .ok (.ldc 197, 2) := by decide +kernel
theorem dX10_stay_2 : decode cX10_stay 2 = .ok (.istore_n 3, 1) := by decide +kernel
theorem dX10_stay_3 : decode cX10_stay 3 = .ok (.iconst 0, 1) := by decide +kernel
theorem dX10_stay_4 : decode cX10_stay 4 = .ok (.istore 4, 2) := by decide +kernel
theorem dX10_stay_6 : decode cX10_stay 6 = .ok (.iload 4, 2) := by decide +kernel
theorem dX10_stay_8 : decode cX10_stay 8 = .ok (.iload_n 2, 1) := by decide +kernel
theorem dX10_stay_9 : decode cX10_stay 9 = .ok (.if_icmp .ge 23, 3) := by decide +kernel
theorem dX10_stay_12 : decode cX10_stay 12 = .ok (.iload_n 3, 1) := by decide +kernel
theorem dX10_stay_13 : decode cX10_stay 13 = .ok (.aload_n 0, 1) := by decide +kernel
theorem dX10_stay_14 : decode cX10_stay 14 = .ok (.getfield 7, 3) := by decide +kernel
theorem dX10_stay_17 : decode cX10_stay 17 = .ok (.iconst 2, 1) := by decide +kernel
theorem dX10_stay_18 : decode cX10_stay 18 = .ok (.iload_n 1, 1) := by decide +kernel
theorem dX10_stay_19 : decode cX10_stay 19 = .ok (.iadd, 1) := by decide +kernel
theorem dX10_stay_20 : decode cX10_stay 20 = .ok (.iload 4, 2) := by decide +kernel
theorem dX10_stay_22 : decode cX10_stay 22 = .ok (.iadd, 1) := by decide +kernel
theorem dX10_stay_23 : decode cX10_stay 23 = .ok (.iaload, 1) := by decide +kernel
theorem dX10_stay_24 : decode cX10_stay 24 = .ok (.iand, 1) := by decide +kernel
theorem dX10_stay_25 : decode cX10_stay 25 = .ok (.istore_n 3, 1) := by decide +kernel
theorem dX10_stay_26 : decode cX10_stay 26 = .ok (.iinc 4 1, 3) := by decide +kernel
theorem dX10_stay_29 : decode cX10_stay 29 = .ok (.goto (-23), 3) := by decide +kernel
theorem dX10_stay_32 : decode cX10_stay 32 = .ok (.iload_n 3, 1) := by decide +kernel
theorem dX10_stay_33 : decode cX10_stay 33 = .ok (.ireturn, 1) := by decide +kernel
set_option maxRecDepth 20000 in
theorem ggX10_staying_X10_isRound : GoodIn wsX10_staying wsX10_isRound := goodIn_r _ [6, 1, 7, 8, 5, 9, 18, 19, 20, 21, 22, 23, 24, 25, 26, 27, 28, 29, 30, 31, 32, 33, 34, 35, 36] (by decide +kernel) (by decide +kernel)
set_option maxRecDepth 20000 in
theorem gX10_staying_X10_isRound : GoodIn wsX10_staying (wsV RX10 69 RX10 yX10_isRound wsX10_isRound) := goodIn_app (goodIn_of _ (by decide +kernel)) ggX10_staying_X10_isRound
set_option maxRecDepth 20000 in
theorem ggX10_staying_X10_stay : GoodIn wsX10_staying wsX10_stay := goodIn_r _ [13, 14, 1, 18, 19, 20, 21, 22, 23, 24, 25, 26, 27, 28, 29, 30, 31, 32, 33, 34, 35, 36] (by decide +kernel) (by decide +kernel)
set_option maxRecDepth 20000 in
theorem gX10_staying_X10_stay : GoodIn wsX10_staying (wsV RX10 198 RX10 yX10_stay wsX10_stay) := goodIn_app (goodIn_of _ (by decide +kernel)) ggX10_staying_X10_stay
set_option maxRecDepth 20000 in
theorem ggX10_staying_X10_size : GoodIn wsX10_staying wsX10_size := goodIn_r _ [17] (by decide +kernel) (by decide +kernel)
set_option maxRecDepth 20000 in
theorem gX10_staying_X10_size : GoodIn wsX10_staying (va_wsS RX10 80 yX10_size wsX10_size) := goodIn_app (goodIn_of _ (by decide +kernel)) ggX10_staying_X10_size
theorem dX10_staying_0 : decode cX10_staying 0 = .ok (.aload_n 0, 1) := by decide +kernel
theorem dX10_staying_1 : decode cX10_staying 1 = .ok (.iload_n 1, 1) := by decide +kernel
theorem dX10_staying_2 : decode cX10_staying 2 = .ok (.invokevirtual 69, 3) := by decide +kernel
theorem dX10_staying_5 : decode cX10_staying 5 = .ok (.ifCond .eq 20, 3) := by decide +kernel
theorem dX10_staying_8 : decode cX10_staying 8 = .ok (.iload_n 2, 1) := by decide +kernel
theorem dX10_staying_9 : decode cX10_staying 9 = .ok (.iconst 1, 1) := by decide +kernel
theorem dX10_staying_10 : decode cX10_staying 10 = .ok (.if_icmp .lt 15, 3) := by decide +kernel
theorem dX10_staying_13 : decode cX10_staying 13 = .ok (.iload_n 2, 1) := by decide +kernel
theorem dX10_staying_14 : decode cX10_staying 14 = .ok (.aload_n 0, 1) := by decide +kernel
theorem dX10_staying_15 : decode cX10_staying 15 = .ok (.getfield 7, 3) := by decide +kernel
theorem dX10_staying_18 : decode cX10_staying 18 = .ok (.iconst 1, 1) := by decide +kernel
theorem dX10_staying_19 : decode cX10_staying 19 = .ok (.iaload, 1) := by decide +kernel
theorem dX10_staying_20 : decode cX10_staying 20 = .ok (.iload_n 1, 1) := by decide +kernel
theorem dX10_staying_21 : decode cX10_staying 21 = .ok (.isub, 1) := by decide +kernel
theorem dX10_staying_22 : decode cX10_staying 22 = .ok (.if_icmp .le 5, 3) := by decide +kernel
theorem dX10_staying_25 : decode cX10_staying 25 = .ok (.iconst (-1), 1) := by decide +kernel
theorem dX10_staying_26 : decode cX10_staying 26 = .ok (.ireturn, 1) := by decide +kernel
theorem dX10_staying_27 : decode cX10_staying 27 = .ok (.aload_n 0, 1) := by decide +kernel
theorem dX10_staying_28 : decode cX10_staying 28 = .ok (.iload_n 1, 1) := by decide +kernel
theorem dX10_staying_29 : decode cX10_staying 29 = .ok (.iload_n 2, 1) := by decide +kernel
theorem dX10_staying_30 : decode cX10_staying 30 = .ok (.invokevirtual 198, 3) := by decide +kernel
theorem dX10_staying_33 : decode cX10_staying 33 = .ok (.invokestatic 80, 3) := by decide +kernel
theorem dX10_staying_36 : decode cX10_staying 36 = .ok (.ireturn, 1) := by decide +kernel
set_option maxRecDepth 20000 in
theorem ggX10_areStable_X10_stay : GoodIn wsX10_areStable wsX10_stay := goodIn_r _ [6, 7, 1, 27, 28, 29, 30, 31, 32, 33, 34, 35, 36, 37, 38, 39, 40, 41, 42, 43, 44, 45] (by decide +kernel) (by decide +kernel)
set_option maxRecDepth 20000 in
theorem gX10_areStable_X10_stay : GoodIn wsX10_areStable (wsV RX10 198 RX10 yX10_stay wsX10_stay) := goodIn_app (goodIn_of _ (by decide +kernel)) ggX10_areStable_X10_stay
set_option maxRecDepth 20000 in
theorem ggX10_areStable_X10_isConnected : GoodIn wsX10_areStable wsX10_isConnected := goodIn_r _ [11, 12, 13, 14, 5, 15, 1, 16, 17, 18, 19, 20, 21, 22, 23, 24, 25, 26, 27, 28, 29, 30, 31, 32, 33, 34, 35, 36, 37, 38, 39, 40, 41, 42, 43, 44, 45] (by decide +kernel) (by decide +kernel)
set_option maxRecDepth 20000 in
theorem gX10_areStable_X10_isConnected : GoodIn wsX10_areStable (wsV RX10 109 RX10 yX10_isConnected wsX10_isConnected) := goodIn_app (goodIn_of _ (by decide +kernel)) ggX10_areStable_X10_isConnected
theorem dX10_areStable_0 : decode cX10_areStable 0 = .ok (.iconst 1, 1) := by decide +kernel
theorem dX10_areStable_1 : decode cX10_areStable 1 = .ok (.istore_n 2, 1) := by decide +kernel
theorem dX10_areStable_2 : decode cX10_areStable 2 = .ok (.iconst 0, 1) := by decide +kernel
theorem dX10_areStable_3 : decode cX10_areStable 3 = .ok (.istore_n 3, 1) := by decide +kernel
theorem dX10_areStable_4 : decode cX10_areStable 4 = .ok (.iload_n 3, 1) := by decide +kernel
theorem dX10_areStable_5 : decode cX10_areStable 5 = .ok (.iload_n 1, 1) := by decide +kernel
theorem dX10_areStable_6 : decode cX10_areStable 6 = .ok (.iadd, 1) := by decide +kernel
theorem dX10_areStable_7 : decode cX10_areStable 7 = .ok (.aload_n 0, 1) := by decide +kernel
theorem dX10_areStable_8 : decode cX10_areStable 8 = .ok (.getfield 7, 3) := by decide +kernel
theorem dX10_areStable_11 : decode cX10_areStable 11 = .ok (.iconst 1, 1) := by decide +kernel
theorem dX10_areStable_12 : decode cX10_areStable 12 = .ok (.iaload, 1) := by decide +kernel
theorem dX10_areStable_13 : decode cX10_areStable 13 = .ok (.if_icmp .gt 32, 3) := by decide +kernel
theorem dX10_areStable_16 : decode cX10_areStable 16 = .ok (.iload_n 2, 1) := by decide +kernel
theorem dX10_areStable_17 : decode cX10_areStable 17 = .ok (.ifCond .eq 20, 3) := by decide +kernel
theorem dX10_areStable_20 : decode cX10_areStable 20 = .ok (.aload_n 0, 1) := by decide +kernel
theorem dX10_areStable_21 : decode cX10_areStable 21 = .ok (.aload_n 0, 1) := by decide +kernel
theorem dX10_areStable_22 : decode cX10_areStable 22 = .ok (.iload_n 3, 1) := by decide +kernel
theorem dX10_areStable_23 : decode cX10_areStable 23 = .ok (.iload_n 1, 1) := by decide +kernel
theorem dX10_areStable_24 : decode cX10_areStable 24 = .ok (.invokevirtual 198, 3) := by decide +kernel
theorem dX10_areStable_27 : decode cX10_areStable 27 = .ok (.invokevirtual 109, 3) := by decide +kernel
theorem dX10_areStable_30 : decode cX10_areStable 30 = .ok (.ifCond .eq 7, 3) := by decide +kernel
theorem dX10_areStable_33 : decode cX10_areStable 33 = .ok (.iconst 1, 1) := by decide +kernel
theorem dX10_areStable_34 : decode cX10_areStable 34 = .ok (.goto 4, 3) := by decide +kernel
theorem dX10_areStable_37 : decode cX10_areStable 37 = .ok (.iconst 0, 1) := by decide +kernel
theorem dX10_areStable_38 : decode cX10_areStable 38 = .ok (.istore_n 2, 1) := by decide +kernel
theorem dX10_areStable_39 : decode cX10_areStable 39 = .ok (.iinc 3 1, 3) := by decide +kernel
theorem dX10_areStable_42 : decode cX10_areStable 42 = .ok (.goto (-38), 3) := by decide +kernel
theorem dX10_areStable_45 : decode cX10_areStable 45 = .ok (.iload_n 2, 1) := by decide +kernel
theorem dX10_areStable_46 : decode cX10_areStable 46 = .ok (.ireturn, 1) := by decide +kernel
set_option maxRecDepth 20000 in
theorem ggX10_isStable_X10_in : GoodIn wsX10_isStable wsX10_in := goodIn_r _ [5] (by decide +kernel) (by decide +kernel)
set_option maxRecDepth 20000 in
theorem gX10_isStable_X10_in : GoodIn wsX10_isStable (va_wsS RX10 51 yX10_in wsX10_in) := goodIn_app (goodIn_of _ (by decide +kernel)) ggX10_isStable_X10_in
set_option maxRecDepth 20000 in
theorem ggX10_isStable_X10_areStable : GoodIn wsX10_isStable wsX10_areStable := goodIn_r _ [9, 1, 10, 11, 12, 4, 13, 14, 15, 16, 17, 18, 19, 20, 21, 22, 23, 24, 25, 26, 27, 28, 29, 30, 31, 32, 33, 34, 35, 36, 37, 38, 39, 40, 41, 42, 43, 44, 45, 46, 47, 48, 49, 50, 51, 52] (by decide +kernel) (by decide +kernel)
set_option maxRecDepth 20000 in
theorem gX10_isStable_X10_areStable : GoodIn wsX10_isStable (wsV RX10 201 RX10 yX10_areStable wsX10_areStable) := goodIn_app (goodIn_of _ (by decide +kernel)) ggX10_isStable_X10_areStable
theorem dX10_isStable_0 : decode cX10_isStable 0 = .ok (.iload_n 1, 1) := by decide +kernel
theorem dX10_isStable_1 : decode cX10_isStable 1 = .ok (.iconst 1, 1) := by decide +kernel
theorem dX10_isStable_2 : decode cX10_isStable 2 = .ok (.aload_n 0, 1) := by decide +kernel
theorem dX10_isStable_3 : decode cX10_isStable 3 = .ok (.getfield 7, 3) := by decide +kernel
theorem dX10_isStable_6 : decode cX10_isStable 6 = .ok (.iconst 1, 1) := by decide +kernel
theorem dX10_isStable_7 : decode cX10_isStable 7 = .ok (.iaload, 1) := by decide +kernel
theorem dX10_isStable_8 : decode cX10_isStable 8 = .ok (.invokestatic 51, 3) := by decide +kernel
theorem dX10_isStable_11 : decode cX10_isStable 11 = .ok (.ifCond .ne 5, 3) := by decide +kernel
theorem dX10_isStable_14 : decode cX10_isStable 14 = .ok (.iconst (-1), 1) := by decide +kernel
theorem dX10_isStable_15 : decode cX10_isStable 15 = .ok (.ireturn, 1) := by decide +kernel
theorem dX10_isStable_16 : decode cX10_isStable 16 = .ok (.aload_n 0, 1) := by decide +kernel
theorem dX10_isStable_17 : decode cX10_isStable 17 = .ok (.iload_n 1, 1) := by decide +kernel
theorem dX10_isStable_18 : decode cX10_isStable 18 = .ok (.invokevirtual 201, 3) := by decide +kernel
theorem dX10_isStable_21 : decode cX10_isStable 21 = .ok (.ifCond .eq 7, 3) := by decide +kernel
theorem dX10_isStable_24 : decode cX10_isStable 24 = .ok (.iconst 1, 1) := by decide +kernel
theorem dX10_isStable_25 : decode cX10_isStable 25 = .ok (.goto 4, 3) := by decide +kernel
theorem dX10_isStable_28 : decode cX10_isStable 28 = .ok (.iconst 0, 1) := by decide +kernel
theorem dX10_isStable_29 : decode cX10_isStable 29 = .ok (.ireturn, 1) := by decide +kernel
set_option maxRecDepth 20000 in
theorem ggX10_greatestStable_X10_areStable : GoodIn wsX10_greatestStable wsX10_areStable := goodIn_r _ [6, 1, 7, 8, 9, 5, 10, 11, 12, 13, 14, 15, 16, 17, 18, 19, 20, 21, 22, 23, 24, 25, 26, 27, 28, 29, 30, 31, 32, 33, 34, 35, 36, 37, 38, 39, 40, 41, 42, 43, 44, 45, 46, 47, 48, 49] (by decide +kernel) (by decide +kernel)
set_option maxRecDepth 20000 in
theorem gX10_greatestStable_X10_areStable : GoodIn wsX10_greatestStable (wsV RX10 201 RX10 yX10_areStable wsX10_areStable) := goodIn_app (goodIn_of _ (by decide +kernel)) ggX10_greatestStable_X10_areStable
theorem dX10_greatestStable_0 : decode cX10_greatestStable 0 = .ok (.aload_n 0, 1) := by decide +kernel
theorem dX10_greatestStable_1 : decode cX10_greatestStable 1 = .ok (.getfield 7, 3) := by decide +kernel
theorem dX10_greatestStable_4 : decode cX10_greatestStable 4 = .ok (.iconst 1, 1) := by decide +kernel
theorem dX10_greatestStable_5 : decode cX10_greatestStable 5 = .ok (.iaload, 1) := by decide +kernel
theorem dX10_greatestStable_6 : decode cX10_greatestStable 6 = .ok (.istore_n 1, 1) := by decide +kernel
theorem dX10_greatestStable_7 : decode cX10_greatestStable 7 = .ok (.iload_n 1, 1) := by decide +kernel
theorem dX10_greatestStable_8 : decode cX10_greatestStable 8 = .ok (.ifCond .le 17, 3) := by decide +kernel
theorem dX10_greatestStable_11 : decode cX10_greatestStable 11 = .ok (.aload_n 0, 1) := by decide +kernel
theorem dX10_greatestStable_12 : decode cX10_greatestStable 12 = .ok (.iload_n 1, 1) := by decide +kernel
theorem dX10_greatestStable_13 : decode cX10_greatestStable 13 = .ok (.invokevirtual 201, 3) := by decide +kernel
theorem dX10_greatestStable_16 : decode cX10_greatestStable 16 = .ok (.ifCond .ne 9, 3) := by decide +kernel
theorem dX10_greatestStable_19 : decode cX10_greatestStable 19 = .ok (.iinc 1 (-1), 3) := by decide +kernel
theorem dX10_greatestStable_22 : decode cX10_greatestStable 22 = .ok (.goto (-15), 3) := by decide +kernel
theorem dX10_greatestStable_25 : decode cX10_greatestStable 25 = .ok (.iload_n 1, 1) := by decide +kernel
theorem dX10_greatestStable_26 : decode cX10_greatestStable 26 = .ok (.ireturn, 1) := by decide +kernel
set_option maxRecDepth 20000 in
theorem ggX10_window_X10_isRound : GoodIn wsX10_window wsX10_isRound := goodIn_r _ [6, 1, 7, 8, 5, 9, 34, 35, 36, 37, 38, 39, 40, 41, 42, 43, 44, 45, 46, 47, 48, 49, 50, 51, 52] (by decide +kernel) (by decide +kernel)
set_option maxRecDepth 20000 in
theorem gX10_window_X10_isRound : GoodIn wsX10_window (wsV RX10 69 RX10 yX10_isRound wsX10_isRound) := goodIn_app (goodIn_of _ (by decide +kernel)) ggX10_window_X10_isRound
set_option maxRecDepth 20000 in
theorem ggX10_window_X10_stay : GoodIn wsX10_window wsX10_stay := goodIn_r _ [13, 14, 1, 34, 35, 36, 37, 38, 39, 40, 41, 42, 43, 44, 45, 46, 47, 48, 49, 50, 51, 52] (by decide +kernel) (by decide +kernel)
set_option maxRecDepth 20000 in
theorem gX10_window_X10_stay : GoodIn wsX10_window (wsV RX10 198 RX10 yX10_stay wsX10_stay) := goodIn_app (goodIn_of _ (by decide +kernel)) ggX10_window_X10_stay
set_option maxRecDepth 20000 in
theorem ggX10_window_X10_isConnected : GoodIn wsX10_window wsX10_isConnected := goodIn_r _ [18, 19, 20, 21, 5, 22, 1, 23, 24, 25, 26, 27, 28, 29, 30, 31, 32, 33, 34, 35, 36, 37, 38, 39, 40, 41, 42, 43, 44, 45, 46, 47, 48, 49, 50, 51, 52] (by decide +kernel) (by decide +kernel)
set_option maxRecDepth 20000 in
theorem gX10_window_X10_isConnected : GoodIn wsX10_window (wsV RX10 109 RX10 yX10_isConnected wsX10_isConnected) := goodIn_app (goodIn_of _ (by decide +kernel)) ggX10_window_X10_isConnected
theorem dX10_window_0 : decode cX10_window 0 = .ok (.aload_n 0, 1) := by decide +kernel
theorem dX10_window_1 : decode cX10_window 1 = .ok (.iload_n 1, 1) := by decide +kernel
theorem dX10_window_2 : decode cX10_window 2 = .ok (.invokevirtual 69, 3) := by decide +kernel
theorem dX10_window_5 : decode cX10_window 5 = .ok (.ifCond .ne 5, 3) := by decide +kernel
theorem dX10_window_8 : decode cX10_window 8 = .ok (.iconst (-1), 1) := by decide +kernel
theorem dX10_window_9 : decode cX10_window 9 = .ok (.ireturn, 1) := by decide +kernel
theorem dX10_window_10 : decode cX10_window 10 = .ok (.iconst 0, 1) := by decide +kernel
theorem dX10_window_11 : decode cX10_window 11 = .ok (.istore_n 2, 1) := by decide +kernel
theorem dX10_window_12 : decode cX10_window 12 = .ok (.iload_n 1, 1) := by decide +kernel
theorem dX10_window_13 : decode cX10_window 13 = .ok (.iload_n 2, 1) := by decide +kernel
theorem dX10_window_14 : decode cX10_window 14 = .ok (.iadd, 1) := by decide +kernel
theorem dX10_window_15 : decode cX10_window 15 = .ok (.aload_n 0, 1) := by decide +kernel
theorem dX10_window_16 : decode cX10_window 16 = .ok (.getfield 7, 3) := by decide +kernel
theorem dX10_window_19 : decode cX10_window 19 = .ok (.iconst 1, 1) := by decide +kernel
theorem dX10_window_20 : decode cX10_window 20 = .ok (.iaload, 1) := by decide +kernel
theorem dX10_window_21 : decode cX10_window 21 = .ok (.if_icmp .ge 24, 3) := by decide +kernel
theorem dX10_window_24 : decode cX10_window 24 = .ok (.aload_n 0, 1) := by decide +kernel
theorem dX10_window_25 : decode cX10_window 25 = .ok (.aload_n 0, 1) := by decide +kernel
theorem dX10_window_26 : decode cX10_window 26 = .ok (.iload_n 1, 1) := by decide +kernel
theorem dX10_window_27 : decode cX10_window 27 = .ok (.iload_n 2, 1) := by decide +kernel
theorem dX10_window_28 : decode cX10_window 28 = .ok (.iconst 1, 1) := by decide +kernel
theorem dX10_window_29 : decode cX10_window 29 = .ok (.iadd, 1) := by decide +kernel
theorem dX10_window_30 : decode cX10_window 30 = .ok (.invokevirtual 198, 3) := by decide +kernel
theorem dX10_window_33 : decode cX10_window 33 = .ok (.invokevirtual 109, 3) := by decide +kernel
theorem dX10_window_36 : decode cX10_window 36 = .ok (.ifCond .eq 9, 3) := by decide +kernel
theorem dX10_window_39 : decode cX10_window 39 = .ok (.iinc 2 1, 3) := by decide +kernel
theorem dX10_window_42 : decode cX10_window 42 = .ok (.goto (-30), 3) := by decide +kernel
theorem dX10_window_45 : decode cX10_window 45 = .ok (.iload_n 2, 1) := by decide +kernel
theorem dX10_window_46 : decode cX10_window 46 = .ok (.ireturn, 1) := by decide +kernel
theorem dX10_edgesAt_0 : decode cX10_edgesAt 0 = .ok (.aload_n 0, 1) := by decide +kernel
theorem dX10_edgesAt_1 : decode cX10_edgesAt 1 = .ok (.getfield 7, 3) := by decide +kernel
theorem dX10_edgesAt_4 : decode cX10_edgesAt 4 = .ok (.iconst 1, 1) := by decide +kernel
theorem dX10_edgesAt_5 : decode cX10_edgesAt 5 = .ok (.iaload, 1) := by decide +kernel
theorem dX10_edgesAt_6 : decode cX10_edgesAt 6 = .ok (.ifCond .ne 7, 3) := by decide +kernel
theorem dX10_edgesAt_9 : decode cX10_edgesAt 9 = .ok (.iconst 0, 1) := by decide +kernel
theorem dX10_edgesAt_10 : decode cX10_edgesAt 10 = .ok (.goto 18, 3) := by decide +kernel
theorem dX10_edgesAt_13 : decode cX10_edgesAt 13 = .ok (.aload_n 0, 1) := by decide +kernel
theorem dX10_edgesAt_14 : decode cX10_edgesAt 14 = .ok (.getfield 7, 3) := by decide +kernel
theorem dX10_edgesAt_17 : decode cX10_edgesAt 17 = .ok (.iconst 2, 1) := by decide +kernel
theorem dX10_edgesAt_18 : decode cX10_edgesAt 18 = .ok (.iload_n 1, 1) := by decide +kernel
theorem dX10_edgesAt_19 : decode cX10_edgesAt 19 = .ok (.aload_n 0, 1) := by decide +kernel
theorem dX10_edgesAt_20 : decode cX10_edgesAt 20 = .ok (.getfield 7, 3) := by decide +kernel
theorem dX10_edgesAt_23 : decode cX10_edgesAt 23 = .ok (.iconst 1, 1) := by decide +kernel
theorem dX10_edgesAt_24 : decode cX10_edgesAt 24 = .ok (.iaload, 1) := by decide +kernel
theorem dX10_edgesAt_25 : decode cX10_edgesAt 25 = .ok (.irem, 1) := by decide +kernel
theorem dX10_edgesAt_26 : decode cX10_edgesAt 26 = .ok (.iadd, 1) := by decide +kernel
theorem dX10_edgesAt_27 : decode cX10_edgesAt 27 = .ok (.iaload, 1) := by decide +kernel
theorem dX10_edgesAt_28 : decode cX10_edgesAt 28 = .ok (.ireturn, 1) := by decide +kernel
theorem dX10_alone_0 : decode cX10_alone 0 = .ok (.iconst 0, 1) := by decide +kernel
theorem dX10_alone_1 : decode cX10_alone 1 = .ok (.istore_n 1, 1) := by decide +kernel
theorem dX10_alone_2 : decode cX10_alone 2 = .ok (.iload_n 1, 1) := by decide +kernel
theorem dX10_alone_3 : decode cX10_alone 3 = .ok (.bipush 8, 2) := by decide +kernel
theorem dX10_alone_5 : decode cX10_alone 5 = .ok (.if_icmp .ge 18, 3) := by decide +kernel
theorem dX10_alone_8 : decode cX10_alone 8 = .ok (.aload_n 0, 1) := by decide +kernel
theorem dX10_alone_9 : decode cX10_alone 9 = .ok (.getfield 22, 3) := by decide +kernel
theorem dX10_alone_12 : decode cX10_alone 12 = .ok (.iload_n 1, 1) := by decide +kernel
theorem dX10_alone_13 : decode cX10_alone 13 = .ok (.iconst 1, 1) := by decide +kernel
theorem dX10_alone_14 : decode cX10_alone 14 = .ok (.iload_n 1, 1) := by decide +kernel
theorem dX10_alone_15 : decode cX10_alone 15 = .ok (.ishl, 1) := by decide +kernel
theorem dX10_alone_16 : decode cX10_alone 16 = .ok (.iastore, 1) := by decide +kernel
theorem dX10_alone_17 : decode cX10_alone 17 = .ok (.iinc 1 1, 3) := by decide +kernel
theorem dX10_alone_20 : decode cX10_alone 20 = .ok (.goto (-18), 3) := by decide +kernel
theorem dX10_alone_23 : decode cX10_alone 23 = .ok (.return_, 1) := by decide +kernel
set_option maxRecDepth 20000 in
theorem ggX10_spreads_X10_edgesAt : GoodIn wsX10_spreads wsX10_edgesAt := goodIn_r _ [8, 1, 12, 13, 14, 15, 16, 17, 18, 19, 20, 21, 22, 23, 24, 25, 26, 27, 28, 29, 30] (by decide +kernel) (by decide +kernel)
set_option maxRecDepth 20000 in
theorem gX10_spreads_X10_edgesAt : GoodIn wsX10_spreads (wsV RX10 204 RX10 yX10_edgesAt wsX10_edgesAt) := goodIn_app (goodIn_of _ (by decide +kernel)) ggX10_spreads_X10_edgesAt
set_option maxRecDepth 20000 in
theorem ggX10_spreads_X10_pair : GoodIn wsX10_spreads wsX10_pair := goodIn_r _ [11] (by decide +kernel) (by decide +kernel)
set_option maxRecDepth 20000 in
theorem gX10_spreads_X10_pair : GoodIn wsX10_spreads (va_wsS RX10 76 yX10_pair wsX10_pair) := goodIn_app (goodIn_of _ (by decide +kernel)) ggX10_spreads_X10_pair
theorem dX10_spreads_0 : decode cX10_spreads 0 = .ok (.aload_n 0, 1) := by decide +kernel
theorem dX10_spreads_1 : decode cX10_spreads 1 = .ok (.iload_n 1, 1) := by decide +kernel
theorem dX10_spreads_2 : decode cX10_spreads 2 = .ok (.invokevirtual 204, 3) := by decide +kernel
theorem dX10_spreads_5 : decode cX10_spreads 5 = .ok (.istore_n 2, 1) := by decide +kernel
theorem dX10_spreads_6 : decode cX10_spreads 6 = .ok (.iconst 0, 1) := by decide +kernel
theorem dX10_spreads_7 : decode cX10_spreads 7 = .ok (.istore_n 3, 1) := by decide +kernel
theorem dX10_spreads_8 : decode cX10_spreads 8 = .ok (.iload_n 3, 1) := by decide +kernel
theorem dX10_spreads_9 : decode cX10_spreads 9 = .ok (.aload_n 0, 1) := by decide +kernel
theorem dX10_spreads_10 : decode cX10_spreads 10 = .ok (.getfield 7, 3) := by decide +kernel
theorem dX10_spreads_13 : decode cX10_spreads 13 = .ok (.iconst 0, 1) := by decide +kernel
theorem dX10_spreads_14 : decode cX10_spreads 14 = .ok (.iaload, 1) := by decide +kernel
theorem dX10_spreads_15 : decode cX10_spreads 15 = .ok (.if_icmp .ge 78, 3) := by decide +kernel
theorem dX10_spreads_18 : decode cX10_spreads 18 = .ok (.aload_n 0, 1) := by decide +kernel
theorem dX10_spreads_19 : decode cX10_spreads 19 = .ok (.getfield 25, 3) := by decide +kernel
theorem dX10_spreads_22 : decode cX10_spreads 22 = .ok (.iload_n 3, 1) := by decide +kernel
theorem dX10_spreads_23 : decode cX10_spreads 23 = .ok (.aload_n 0, 1) := by decide +kernel
theorem dX10_spreads_24 : decode cX10_spreads 24 = .ok (.getfield 22, 3) := by decide +kernel
theorem dX10_spreads_27 : decode cX10_spreads 27 = .ok (.iload_n 3, 1) := by decide +kernel
theorem dX10_spreads_28 : decode cX10_spreads 28 = .ok (.iaload, 1) := by decide +kernel
theorem dX10_spreads_29 : decode cX10_spreads 29 = .ok (.iastore, 1) := by decide +kernel
theorem dX10_spreads_30 : decode cX10_spreads 30 = .ok (.iconst 0, 1) := by decide +kernel
theorem dX10_spreads_31 : decode cX10_spreads 31 = .ok (.istore 4, 2) := by decide +kernel
theorem dX10_spreads_33 : decode cX10_spreads 33 = .ok (.iload 4, 2) := by decide +kernel
theorem dX10_spreads_35 : decode cX10_spreads 35 = .ok (.aload_n 0, 1) := by decide +kernel
theorem dX10_spreads_36 : decode cX10_spreads 36 = .ok (.getfield 7, 3) := by decide +kernel
theorem dX10_spreads_39 : decode cX10_spreads 39 = .ok (.iconst 0, 1) := by decide +kernel
theorem dX10_spreads_40 : decode cX10_spreads 40 = .ok (.iaload, 1) := by decide +kernel
theorem dX10_spreads_41 : decode cX10_spreads 41 = .ok (.if_icmp .ge 46, 3) := by decide +kernel
theorem dX10_spreads_44 : decode cX10_spreads 44 = .ok (.aload_n 0, 1) := by decide +kernel
theorem dX10_spreads_45 : decode cX10_spreads 45 = .ok (.getfield 25, 3) := by decide +kernel
theorem dX10_spreads_48 : decode cX10_spreads 48 = .ok (.iload_n 3, 1) := by decide +kernel
theorem dX10_spreads_49 : decode cX10_spreads 49 = .ok (.dup2, 1) := by decide +kernel
theorem dX10_spreads_50 : decode cX10_spreads 50 = .ok (.iaload, 1) := by decide +kernel
theorem dX10_spreads_51 : decode cX10_spreads 51 = .ok (.iload_n 3, 1) := by decide +kernel
theorem dX10_spreads_52 : decode cX10_spreads 52 = .ok (.iload 4, 2) := by decide +kernel
theorem dX10_spreads_54 : decode cX10_spreads 54 = .ok (.if_icmp .eq 24, 3) := by decide +kernel
theorem dX10_spreads_57 : decode cX10_spreads 57 = .ok (.iload_n 2, 1) := by decide +kernel
theorem dX10_spreads_58 : decode cX10_spreads 58 = .ok (.iload_n 3, 1) := by decide +kernel
theorem dX10_spreads_59 : decode cX10_spreads 59 = .ok (.iload 4, 2) := by decide +kernel
theorem dX10_spreads_61 : decode cX10_spreads 61 = .ok (.invokestatic 76, 3) := by decide +kernel
theorem dX10_spreads_64 : decode cX10_spreads 64 = .ok (.iand, 1) := by decide +kernel
theorem dX10_spreads_65 : decode cX10_spreads 65 = .ok (.ifCond .eq 13, 3) := by decide +kernel
theorem dX10_spreads_68 : decode cX10_spreads 68 = .ok (.aload_n 0, 1) := by decide +kernel
theorem dX10_spreads_69 : decode cX10_spreads 69 = .ok (.getfield 22, 3) := by decide +kernel
theorem dX10_spreads_72 : decode cX10_spreads 72 = .ok (.iload 4, 2) := by decide +kernel
theorem dX10_spreads_74 : decode cX10_spreads 74 = .ok (.iaload, 1) := by decide +kernel
theorem dX10_spreads_75 : decode cX10_spreads 75 = .ok (.goto 4, 3) := by decide +kernel
theorem dX10_spreads_78 : decode cX10_spreads 78 = .ok (.iconst 0, 1) := by decide +kernel
theorem dX10_spreads_79 : decode cX10_spreads 79 = .ok (.ior, 1) := by decide +kernel
theorem dX10_spreads_80 : decode cX10_spreads 80 = .ok (.iastore, 1) := by decide +kernel
theorem dX10_spreads_81 : decode cX10_spreads 81 = .ok (.iinc 4 1, 3) := by decide +kernel
theorem dX10_spreads_84 : decode cX10_spreads 84 = .ok (.goto (-51), 3) := by decide +kernel
theorem dX10_spreads_87 : decode cX10_spreads 87 = .ok (.iinc 3 1, 3) := by decide +kernel
theorem dX10_spreads_90 : decode cX10_spreads 90 = .ok (.goto (-82), 3) := by decide +kernel
theorem dX10_spreads_93 : decode cX10_spreads 93 = .ok (.iconst 0, 1) := by decide +kernel
theorem dX10_spreads_94 : decode cX10_spreads 94 = .ok (.istore_n 3, 1) := by decide +kernel
theorem dX10_spreads_95 : decode cX10_spreads 95 = .ok (.iload_n 3, 1) := by decide +kernel
theorem dX10_spreads_96 : decode cX10_spreads 96 = .ok (.aload_n 0, 1) := by decide +kernel
theorem dX10_spreads_97 : decode cX10_spreads 97 = .ok (.getfield 7, 3) := by decide +kernel
theorem dX10_spreads_100 : decode cX10_spreads 100 = .ok (.iconst 0, 1) := by decide +kernel
theorem dX10_spreads_101 : decode cX10_spreads 101 = .ok (.iaload, 1) := by decide +kernel
theorem dX10_spreads_102 : decode cX10_spreads 102 = .ok (.if_icmp .ge 21, 3) := by decide +kernel
theorem dX10_spreads_105 : decode cX10_spreads 105 = .ok (.aload_n 0, 1) := by decide +kernel
theorem dX10_spreads_106 : decode cX10_spreads 106 = .ok (.getfield 22, 3) := by decide +kernel
theorem dX10_spreads_109 : decode cX10_spreads 109 = .ok (.iload_n 3, 1) := by decide +kernel
theorem dX10_spreads_110 : decode cX10_spreads 110 = .ok (.aload_n 0, 1) := by decide +kernel
theorem dX10_spreads_111 : decode cX10_spreads 111 = .ok (.getfield 25, 3) := by decide +kernel
theorem dX10_spreads_114 : decode cX10_spreads 114 = .ok (.iload_n 3, 1) := by decide +kernel
theorem dX10_spreads_115 : decode cX10_spreads 115 = .ok (.iaload, 1) := by decide +kernel
theorem dX10_spreads_116 : decode cX10_spreads 116 = .ok (.iastore, 1) := by decide +kernel
theorem dX10_spreads_117 : decode cX10_spreads 117 = .ok (.iinc 3 1, 3) := by decide +kernel
theorem dX10_spreads_120 : decode cX10_spreads 120 = .ok (.goto (-25), 3) := by decide +kernel
theorem dX10_spreads_123 : decode cX10_spreads 123 = .ok (.return_, 1) := by decide +kernel
set_option maxRecDepth 20000 in
theorem ggX10_floods_X10_alone : GoodIn wsX10_floods wsX10_alone := goodIn_r _ [5, 6, 20, 21, 22, 23, 24, 25, 26, 27, 28, 29, 30, 31, 32, 33, 34, 35, 36, 37, 38] (by decide +kernel) (by decide +kernel)
set_option maxRecDepth 20000 in
theorem gX10_floods_X10_alone : GoodIn wsX10_floods (wsV RX10 207 RX10 yX10_alone wsX10_alone) := goodIn_app (goodIn_of _ (by decide +kernel)) ggX10_floods_X10_alone
set_option maxRecDepth 20000 in
theorem ggX10_floods_X10_spreads : GoodIn wsX10_floods wsX10_spreads := goodIn_r _ [10, 11, 12, 6, 13, 14, 15, 4, 16, 17, 18, 19, 20, 21, 22, 23, 24, 25, 26, 27, 28, 29, 30, 31, 32, 33, 34, 35, 36, 37, 38] (by decide +kernel) (by decide +kernel)
set_option maxRecDepth 20000 in
theorem gX10_floods_X10_spreads : GoodIn wsX10_floods (wsV RX10 210 RX10 yX10_spreads wsX10_spreads) := goodIn_app (goodIn_of _ (by decide +kernel)) ggX10_floods_X10_spreads
theorem dX10_floods_0 : decode cX10_floods 0 = .ok (.aload_n 0, 1) := by decide +kernel
theorem dX10_floods_1 : decode cX10_floods 1 = .ok (.invokevirtual 207, 3) := by decide +kernel
theorem dX10_floods_4 : decode cX10_floods 4 = .ok (.iconst 0, 1) := by decide +kernel
theorem dX10_floods_5 : decode cX10_floods 5 = .ok (.istore_n 3, 1) := by decide +kernel
theorem dX10_floods_6 : decode cX10_floods 6 = .ok (.iload_n 3, 1) := by decide +kernel
theorem dX10_floods_7 : decode cX10_floods 7 = .ok (.iload_n 2, 1) := by decide +kernel
theorem dX10_floods_8 : decode cX10_floods 8 = .ok (.if_icmp .ge 16, 3) := by decide +kernel
theorem dX10_floods_11 : decode cX10_floods 11 = .ok (.aload_n 0, 1) := by decide +kernel
theorem dX10_floods_12 : decode cX10_floods 12 = .ok (.iload_n 1, 1) := by decide +kernel
theorem dX10_floods_13 : decode cX10_floods 13 = .ok (.iload_n 3, 1) := by decide +kernel
theorem dX10_floods_14 : decode cX10_floods 14 = .ok (.iadd, 1) := by decide +kernel
theorem dX10_floods_15 : decode cX10_floods 15 = .ok (.invokevirtual 210, 3) := by decide +kernel
theorem dX10_floods_18 : decode cX10_floods 18 = .ok (.iinc 3 1, 3) := by decide +kernel
theorem dX10_floods_21 : decode cX10_floods 21 = .ok (.goto (-15), 3) := by decide +kernel
theorem dX10_floods_24 : decode cX10_floods 24 = .ok (.return_, 1) := by decide +kernel
set_option maxRecDepth 20000 in
theorem ggX10_isTime_X10_in : GoodIn wsX10_isTime wsX10_in := goodIn_r _ [4] (by decide +kernel) (by decide +kernel)
set_option maxRecDepth 20000 in
theorem gX10_isTime_X10_in : GoodIn wsX10_isTime (va_wsS RX10 51 yX10_in wsX10_in) := goodIn_app (goodIn_of _ (by decide +kernel)) ggX10_isTime_X10_in
theorem dX10_isTime_0 : decode cX10_isTime 0 = .ok (.iload_n 0, 1) := by decide +kernel
theorem dX10_isTime_1 : decode cX10_isTime 1 = .ok (.iconst 0, 1) := by decide +kernel
theorem dX10_isTime_2 : decode cX10_isTime 2 = .ok (.bipush 99, 2) := by decide +kernel
theorem dX10_isTime_4 : decode cX10_isTime 4 = .ok (.invokestatic 51, 3) := by decide +kernel
theorem dX10_isTime_7 : decode cX10_isTime 7 = .ok (.ireturn, 1) := by decide +kernel
set_option maxRecDepth 20000 in
theorem ggX10_heard_X10_isNode : GoodIn wsX10_heard wsX10_isNode := goodIn_r _ [6, 7, 8, 9, 5, 10, 34, 35, 36, 37, 38, 39, 40, 41, 42, 43, 44, 45, 46, 47, 48, 49, 50, 51, 52] (by decide +kernel) (by decide +kernel)
set_option maxRecDepth 20000 in
theorem gX10_heard_X10_isNode : GoodIn wsX10_heard (wsV RX10 55 RX10 yX10_isNode wsX10_isNode) := goodIn_app (goodIn_of _ (by decide +kernel)) ggX10_heard_X10_isNode
set_option maxRecDepth 20000 in
theorem ggX10_heard_X10_isTime : GoodIn wsX10_heard wsX10_isTime := goodIn_r _ [13, 8, 9, 5, 10] (by decide +kernel) (by decide +kernel)
set_option maxRecDepth 20000 in
theorem gX10_heard_X10_isTime : GoodIn wsX10_heard (va_wsS RX10 213 yX10_isTime wsX10_isTime) := goodIn_app (goodIn_of _ (by decide +kernel)) ggX10_heard_X10_isTime
set_option maxRecDepth 20000 in
theorem ggX10_heard_X10_floods : GoodIn wsX10_heard wsX10_floods := goodIn_r _ [17, 18, 19, 20, 5, 21, 1, 22, 23, 24, 25, 7, 26, 27, 28, 29, 30, 31, 32, 33, 34, 35, 36, 37, 38, 39, 40, 41, 42, 43, 44, 45, 46, 47, 48, 49, 50, 51, 52] (by decide +kernel) (by decide +kernel)
set_option maxRecDepth 20000 in
theorem gX10_heard_X10_floods : GoodIn wsX10_heard (wsV RX10 83 RX10 yX10_floods wsX10_floods) := goodIn_app (goodIn_of _ (by decide +kernel)) ggX10_heard_X10_floods
theorem dX10_heard_0 : decode cX10_heard 0 = .ok (.aload_n 0, 1) := by decide +kernel
theorem dX10_heard_1 : decode cX10_heard 1 = .ok (.iload_n 1, 1) := by decide +kernel
theorem dX10_heard_2 : decode cX10_heard 2 = .ok (.invokevirtual 55, 3) := by decide +kernel
theorem dX10_heard_5 : decode cX10_heard 5 = .ok (.ifCond .eq 17, 3) := by decide +kernel
theorem dX10_heard_8 : decode cX10_heard 8 = .ok (.iload_n 2, 1) := by decide +kernel
theorem dX10_heard_9 : decode cX10_heard 9 = .ok (.invokestatic 213, 3) := by decide +kernel
theorem dX10_heard_12 : decode cX10_heard 12 = .ok (.ifCond .eq 10, 3) := by decide +kernel
theorem dX10_heard_15 : decode cX10_heard 15 = .ok (.iload_n 3, 1) := by decide +kernel
theorem dX10_heard_16 : decode cX10_heard 16 = .ok (.invokestatic 213, 3) := by decide +kernel
theorem dX10_heard_19 : decode cX10_heard 19 = .ok (.ifCond .ne 5, 3) := by decide +kernel
theorem dX10_heard_22 : decode cX10_heard 22 = .ok (.iconst (-1), 1) := by decide +kernel
theorem dX10_heard_23 : decode cX10_heard 23 = .ok (.ireturn, 1) := by decide +kernel
theorem dX10_heard_24 : decode cX10_heard 24 = .ok (.aload_n 0, 1) := by decide +kernel
theorem dX10_heard_25 : decode cX10_heard 25 = .ok (.iload_n 2, 1) := by decide +kernel
theorem dX10_heard_26 : decode cX10_heard 26 = .ok (.iload_n 3, 1) := by decide +kernel
theorem dX10_heard_27 : decode cX10_heard 27 = .ok (.invokevirtual 83, 3) := by decide +kernel
theorem dX10_heard_30 : decode cX10_heard 30 = .ok (.aload_n 0, 1) := by decide +kernel
theorem dX10_heard_31 : decode cX10_heard 31 = .ok (.getfield 22, 3) := by decide +kernel
theorem dX10_heard_34 : decode cX10_heard 34 = .ok (.iload_n 1, 1) := by decide +kernel
theorem dX10_heard_35 : decode cX10_heard 35 = .ok (.iaload, 1) := by decide +kernel
theorem dX10_heard_36 : decode cX10_heard 36 = .ok (.ireturn, 1) := by decide +kernel
set_option maxRecDepth 20000 in
theorem ggX10_travels_X10_alone : GoodIn wsX10_travels wsX10_alone := goodIn_r _ [7, 2, 21, 22, 23, 24, 25, 26, 27, 28, 29, 30, 31, 32, 33, 34, 35, 36, 37, 38, 39] (by decide +kernel) (by decide +kernel)
set_option maxRecDepth 20000 in
theorem gX10_travels_X10_alone : GoodIn wsX10_travels (wsV RX10 207 RX10 yX10_alone wsX10_alone) := goodIn_app (goodIn_of _ (by decide +kernel)) ggX10_travels_X10_alone
set_option maxRecDepth 20000 in
theorem ggX10_travels_X10_spreads : GoodIn wsX10_travels wsX10_spreads := goodIn_r _ [11, 12, 13, 2, 14, 15, 16, 6, 17, 18, 19, 20, 21, 22, 23, 24, 25, 26, 27, 28, 29, 30, 31, 32, 33, 34, 35, 36, 37, 38, 39] (by decide +kernel) (by decide +kernel)
set_option maxRecDepth 20000 in
theorem gX10_travels_X10_spreads : GoodIn wsX10_travels (wsV RX10 210 RX10 yX10_spreads wsX10_spreads) := goodIn_app (goodIn_of _ (by decide +kernel)) ggX10_travels_X10_spreads
theorem dX10_travels_0 : decode cX10_travels 0 = .ok (.aload_n 0, 1) := by decide +kernel
theorem dX10_travels_1 : decode cX10_travels 1 = .ok (.invokevirtual 207, 3) := by decide +kernel
theorem dX10_travels_4 : decode cX10_travels 4 = .ok (.iconst 0, 1) := by decide +kernel
theorem dX10_travels_5 : decode cX10_travels 5 = .ok (.istore_n 2, 1) := by decide +kernel
theorem dX10_travels_6 : decode cX10_travels 6 = .ok (.iload_n 2, 1) := by decide +kernel
theorem dX10_travels_7 : decode cX10_travels 7 = .ok (.bipush 64, 2) := by decide +kernel
theorem dX10_travels_9 : decode cX10_travels 9 = .ok (.if_icmp .ge 17, 3) := by decide +kernel
theorem dX10_travels_12 : decode cX10_travels 12 = .ok (.aload_n 0, 1) := by decide +kernel
theorem dX10_travels_13 : decode cX10_travels 13 = .ok (.getfield 28, 3) := by decide +kernel
theorem dX10_travels_16 : decode cX10_travels 16 = .ok (.iload_n 2, 1) := by decide +kernel
theorem dX10_travels_17 : decode cX10_travels 17 = .ok (.bipush (-9), 2) := by decide +kernel
theorem dX10_travels_19 : decode cX10_travels 19 = .ok (.iastore, 1) := by decide +kernel
theorem dX10_travels_20 : decode cX10_travels 20 = .ok (.iinc 2 1, 3) := by decide +kernel
theorem dX10_travels_23 : decode cX10_travels 23 = .ok (.goto (-17), 3) := by decide +kernel
theorem dX10_travels_26 : decode cX10_travels 26 = .ok (.iconst 0, 1) := by decide +kernel
theorem dX10_travels_27 : decode cX10_travels 27 = .ok (.istore_n 2, 1) := by decide +kernel
theorem dX10_travels_28 : decode cX10_travels 28 = .ok (.iload_n 2, 1) := by decide +kernel
theorem dX10_travels_29 : decode cX10_travels 29 = .ok (.sipush 130, 3) := by decide +kernel
theorem dX10_travels_32 : decode cX10_travels 32 = .ok (.if_icmp .gt 77, 3) := by decide +kernel
theorem dX10_travels_35 : decode cX10_travels 35 = .ok (.iconst 0, 1) := by decide +kernel
theorem dX10_travels_36 : decode cX10_travels 36 = .ok (.istore_n 3, 1) := by decide +kernel
theorem dX10_travels_37 : decode cX10_travels 37 = .ok (.iload_n 3, 1) := by decide +kernel
theorem dX10_travels_38 : decode cX10_travels 38 = .ok (.bipush 64, 2) := by decide +kernel
theorem dX10_travels_40 : decode cX10_travels 40 = .ok (.if_icmp .ge 56, 3) := by decide +kernel
theorem dX10_travels_43 : decode cX10_travels 43 = .ok (.aload_n 0, 1) := by decide +kernel
theorem dX10_travels_44 : decode cX10_travels 44 = .ok (.getfield 28, 3) := by decide +kernel
theorem dX10_travels_47 : decode cX10_travels 47 = .ok (.iload_n 3, 1) := by decide +kernel
theorem dX10_travels_48 : decode cX10_travels 48 = .ok (.aload_n 0, 1) := by decide +kernel
theorem dX10_travels_49 : decode cX10_travels 49 = .ok (.getfield 28, 3) := by decide +kernel
theorem dX10_travels_52 : decode cX10_travels 52 = .ok (.iload_n 3, 1) := by decide +kernel
theorem dX10_travels_53 : decode cX10_travels 53 = .ok (.iaload, 1) := by decide +kernel
theorem dX10_travels_54 : decode cX10_travels 54 = .ok (.bipush (-9), 2) := by decide +kernel
theorem dX10_travels_56 : decode cX10_travels 56 = .ok (.if_icmp .ne 27, 3) := by decide +kernel
theorem dX10_travels_59 : decode cX10_travels 59 = .ok (.aload_n 0, 1) := by decide +kernel
theorem dX10_travels_60 : decode cX10_travels 60 = .ok (.getfield 22, 3) := by decide +kernel
theorem dX10_travels_63 : decode cX10_travels 63 = .ok (.iload_n 3, 1) := by decide +kernel
theorem dX10_travels_64 : decode cX10_travels 64 = .ok (.bipush 8, 2) := by decide +kernel
theorem dX10_travels_66 : decode cX10_travels 66 = .ok (.irem, 1) := by decide +kernel
theorem dX10_travels_67 : decode cX10_travels 67 = .ok (.iaload, 1) := by decide +kernel
theorem dX10_travels_68 : decode cX10_travels 68 = .ok (.iload_n 3, 1) := by decide +kernel
theorem dX10_travels_69 : decode cX10_travels 69 = .ok (.bipush 8, 2) := by decide +kernel
theorem dX10_travels_71 : decode cX10_travels 71 = .ok (.idiv, 1) := by decide +kernel
theorem dX10_travels_72 : decode cX10_travels 72 = .ok (.ishr, 1) := by decide +kernel
theorem dX10_travels_73 : decode cX10_travels 73 = .ok (.iconst 1, 1) := by decide +kernel
theorem dX10_travels_74 : decode cX10_travels 74 = .ok (.iand, 1) := by decide +kernel
theorem dX10_travels_75 : decode cX10_travels 75 = .ok (.iconst 1, 1) := by decide +kernel
theorem dX10_travels_76 : decode cX10_travels 76 = .ok (.if_icmp .ne 7, 3) := by decide +kernel
theorem dX10_travels_79 : decode cX10_travels 79 = .ok (.iload_n 2, 1) := by decide +kernel
theorem dX10_travels_80 : decode cX10_travels 80 = .ok (.goto 9, 3) := by decide +kernel
theorem dX10_travels_83 : decode cX10_travels 83 = .ok (.aload_n 0, 1) := by decide +kernel
theorem dX10_travels_84 : decode cX10_travels 84 = .ok (.getfield 28, 3) := by decide +kernel
theorem dX10_travels_87 : decode cX10_travels 87 = .ok (.iload_n 3, 1) := by decide +kernel
theorem dX10_travels_88 : decode cX10_travels 88 = .ok (.iaload, 1) := by decide +kernel
theorem dX10_travels_89 : decode cX10_travels 89 = .ok (.iastore, 1) := by decide +kernel
theorem dX10_travels_90 : decode cX10_travels 90 = .ok (.iinc 3 1, 3) := by decide +kernel
theorem dX10_travels_93 : decode cX10_travels 93 = .ok (.goto (-56), 3) := by decide +kernel
theorem dX10_travels_96 : decode cX10_travels 96 = .ok (.aload_n 0, 1) := by decide +kernel
theorem dX10_travels_97 : decode cX10_travels 97 = .ok (.iload_n 1, 1) := by decide +kernel
theorem dX10_travels_98 : decode cX10_travels 98 = .ok (.iload_n 2, 1) := by decide +kernel
theorem dX10_travels_99 : decode cX10_travels 99 = .ok (.iadd, 1) := by decide +kernel
theorem dX10_travels_100 : decode cX10_travels 100 = .ok (.invokevirtual 210, 3) := by decide +kernel
theorem dX10_travels_103 : decode cX10_travels 103 = .ok (.iinc 2 1, 3) := by decide +kernel
theorem dX10_travels_106 : decode cX10_travels 106 = .ok (.goto (-78), 3) := by decide +kernel
theorem dX10_travels_109 : decode cX10_travels 109 = .ok (.return_, 1) := by decide +kernel
theorem dX10_farthest_0 : decode cX10_farthest 0 = .ok (.iconst 0, 1) := by decide +kernel
theorem dX10_farthest_1 : decode cX10_farthest 1 = .ok (.istore_n 2, 1) := by decide +kernel
theorem dX10_farthest_2 : decode cX10_farthest 2 = .ok (.iconst 0, 1) := by decide +kernel
theorem dX10_farthest_3 : decode cX10_farthest 3 = .ok (.istore_n 3, 1) := by decide +kernel
theorem dX10_farthest_4 : decode cX10_farthest 4 = .ok (.iload_n 3, 1) := by decide +kernel
theorem dX10_farthest_5 : decode cX10_farthest 5 = .ok (.aload_n 0, 1) := by decide +kernel
theorem dX10_farthest_6 : decode cX10_farthest 6 = .ok (.getfield 7, 3) := by decide +kernel
theorem dX10_farthest_9 : decode cX10_farthest 9 = .ok (.iconst 0, 1) := by decide +kernel
theorem dX10_farthest_10 : decode cX10_farthest 10 = .ok (.iaload, 1) := by decide +kernel
theorem dX10_farthest_11 : decode cX10_farthest 11 = .ok (.if_icmp .ge 53, 3) := by decide +kernel
theorem dX10_farthest_14 : decode cX10_farthest 14 = .ok (.aload_n 0, 1) := by decide +kernel
theorem dX10_farthest_15 : decode cX10_farthest 15 = .ok (.getfield 28, 3) := by decide +kernel
theorem dX10_farthest_18 : decode cX10_farthest 18 = .ok (.bipush 8, 2) := by decide +kernel
theorem dX10_farthest_20 : decode cX10_farthest 20 = .ok (.iload_n 1, 1) := by decide +kernel
theorem dX10_farthest_21 : decode cX10_farthest 21 = .ok (.imul, 1) := by decide +kernel
theorem dX10_farthest_22 : decode cX10_farthest 22 = .ok (.iload_n 3, 1) := by decide +kernel
theorem dX10_farthest_23 : decode cX10_farthest 23 = .ok (.iadd, 1) := by decide +kernel
theorem dX10_farthest_24 : decode cX10_farthest 24 = .ok (.iaload, 1) := by decide +kernel
theorem dX10_farthest_25 : decode cX10_farthest 25 = .ok (.istore 4, 2) := by decide +kernel
theorem dX10_farthest_27 : decode cX10_farthest 27 = .ok (.iload_n 2, 1) := by decide +kernel
theorem dX10_farthest_28 : decode cX10_farthest 28 = .ok (.bipush (-9), 2) := by decide +kernel
theorem dX10_farthest_30 : decode cX10_farthest 30 = .ok (.if_icmp .eq 10, 3) := by decide +kernel
theorem dX10_farthest_33 : decode cX10_farthest 33 = .ok (.iload 4, 2) := by decide +kernel
theorem dX10_farthest_35 : decode cX10_farthest 35 = .ok (.bipush (-9), 2) := by decide +kernel
theorem dX10_farthest_37 : decode cX10_farthest 37 = .ok (.if_icmp .ne 8, 3) := by decide +kernel
theorem dX10_farthest_40 : decode cX10_farthest 40 = .ok (.bipush (-9), 2) := by decide +kernel
theorem dX10_farthest_42 : decode cX10_farthest 42 = .ok (.goto 15, 3) := by decide +kernel
theorem dX10_farthest_45 : decode cX10_farthest 45 = .ok (.iload 4, 2) := by decide +kernel
theorem dX10_farthest_47 : decode cX10_farthest 47 = .ok (.iload_n 2, 1) := by decide +kernel
theorem dX10_farthest_48 : decode cX10_farthest 48 = .ok (.if_icmp .le 8, 3) := by decide +kernel
theorem dX10_farthest_51 : decode cX10_farthest 51 = .ok (.iload 4, 2) := by decide +kernel
theorem dX10_farthest_53 : decode cX10_farthest 53 = .ok (.goto 4, 3) := by decide +kernel
theorem dX10_farthest_56 : decode cX10_farthest 56 = .ok (.iload_n 2, 1) := by decide +kernel
theorem dX10_farthest_57 : decode cX10_farthest 57 = .ok (.istore_n 2, 1) := by decide +kernel
theorem dX10_farthest_58 : decode cX10_farthest 58 = .ok (.iinc 3 1, 3) := by decide +kernel
theorem dX10_farthest_61 : decode cX10_farthest 61 = .ok (.goto (-57), 3) := by decide +kernel
theorem dX10_farthest_64 : decode cX10_farthest 64 = .ok (.iload_n 2, 1) := by decide +kernel
theorem dX10_farthest_65 : decode cX10_farthest 65 = .ok (.ireturn, 1) := by decide +kernel
set_option maxRecDepth 20000 in
theorem ggX10_journey_X10_isNode : GoodIn wsX10_journey wsX10_isNode := goodIn_r _ [6, 7, 8, 9, 5, 10, 35, 36, 37, 38, 39, 40, 41, 42, 43, 44, 45, 46, 47, 48, 49, 50, 51, 52, 53] (by decide +kernel) (by decide +kernel)
set_option maxRecDepth 20000 in
theorem gX10_journey_X10_isNode : GoodIn wsX10_journey (wsV RX10 55 RX10 yX10_isNode wsX10_isNode) := goodIn_app (goodIn_of _ (by decide +kernel)) ggX10_journey_X10_isNode
set_option maxRecDepth 20000 in
theorem ggX10_journey_X10_isTime : GoodIn wsX10_journey wsX10_isTime := goodIn_r _ [13, 8, 9, 5, 10] (by decide +kernel) (by decide +kernel)
set_option maxRecDepth 20000 in
theorem gX10_journey_X10_isTime : GoodIn wsX10_journey (va_wsS RX10 213 yX10_isTime wsX10_isTime) := goodIn_app (goodIn_of _ (by decide +kernel)) ggX10_journey_X10_isTime
set_option maxRecDepth 20000 in
theorem ggX10_journey_X10_travels : GoodIn wsX10_journey wsX10_travels := goodIn_r _ [17, 1, 18, 19, 20, 21, 5, 22, 23, 24, 25, 26, 7, 27, 28, 29, 30, 31, 32, 33, 34, 35, 36, 37, 38, 39, 40, 41, 42, 43, 44, 45, 46, 47, 48, 49, 50, 51, 52, 53] (by decide +kernel) (by decide +kernel)
set_option maxRecDepth 20000 in
theorem gX10_journey_X10_travels : GoodIn wsX10_journey (wsV RX10 216 RX10 yX10_travels wsX10_travels) := goodIn_app (goodIn_of _ (by decide +kernel)) ggX10_journey_X10_travels
theorem dX10_journey_0 : decode cX10_journey 0 = .ok (.aload_n 0, 1) := by decide +kernel
theorem dX10_journey_1 : decode cX10_journey 1 = .ok (.iload_n 1, 1) := by decide +kernel
theorem dX10_journey_2 : decode cX10_journey 2 = .ok (.invokevirtual 55, 3) := by decide +kernel
theorem dX10_journey_5 : decode cX10_journey 5 = .ok (.ifCond .eq 18, 3) := by decide +kernel
theorem dX10_journey_8 : decode cX10_journey 8 = .ok (.aload_n 0, 1) := by decide +kernel
theorem dX10_journey_9 : decode cX10_journey 9 = .ok (.iload_n 2, 1) := by decide +kernel
theorem dX10_journey_10 : decode cX10_journey 10 = .ok (.invokevirtual 55, 3) := by decide +kernel
theorem dX10_journey_13 : decode cX10_journey 13 = .ok (.ifCond .eq 10, 3) := by decide +kernel
theorem dX10_journey_16 : decode cX10_journey 16 = .ok (.iload_n 3, 1) := by decide +kernel
theorem dX10_journey_17 : decode cX10_journey 17 = .ok (.invokestatic 213, 3) := by decide +kernel
theorem dX10_journey_20 : decode cX10_journey 20 = .ok (.ifCond .ne 5, 3) := by decide +kernel
theorem dX10_journey_23 : decode cX10_journey 23 = .ok (.iconst (-1), 1) := by decide +kernel
theorem dX10_journey_24 : decode cX10_journey 24 = .ok (.ireturn, 1) := by decide +kernel
theorem dX10_journey_25 : decode cX10_journey 25 = .ok (.aload_n 0, 1) := by decide +kernel
theorem dX10_journey_26 : decode cX10_journey 26 = .ok (.iload_n 3, 1) := by decide +kernel
theorem dX10_journey_27 : decode cX10_journey 27 = .ok (.invokevirtual 216, 3) := by decide +kernel
theorem dX10_journey_30 : decode cX10_journey 30 = .ok (.aload_n 0, 1) := by decide +kernel
theorem dX10_journey_31 : decode cX10_journey 31 = .ok (.getfield 28, 3) := by decide +kernel
theorem dX10_journey_34 : decode cX10_journey 34 = .ok (.bipush 8, 2) := by decide +kernel
theorem dX10_journey_36 : decode cX10_journey 36 = .ok (.iload_n 1, 1) := by decide +kernel
theorem dX10_journey_37 : decode cX10_journey 37 = .ok (.imul, 1) := by decide +kernel
theorem dX10_journey_38 : decode cX10_journey 38 = .ok (.iload_n 2, 1) := by decide +kernel
theorem dX10_journey_39 : decode cX10_journey 39 = .ok (.iadd, 1) := by decide +kernel
theorem dX10_journey_40 : decode cX10_journey 40 = .ok (.iaload, 1) := by decide +kernel
theorem dX10_journey_41 : decode cX10_journey 41 = .ok (.ireturn, 1) := by decide +kernel
set_option maxRecDepth 20000 in
theorem ggX10_diameter_X10_isTime : GoodIn wsX10_diameter wsX10_isTime := goodIn_r _ [5, 6, 7, 4, 8] (by decide +kernel) (by decide +kernel)
set_option maxRecDepth 20000 in
theorem gX10_diameter_X10_isTime : GoodIn wsX10_diameter (va_wsS RX10 213 yX10_isTime wsX10_isTime) := goodIn_app (goodIn_of _ (by decide +kernel)) ggX10_diameter_X10_isTime
set_option maxRecDepth 20000 in
theorem ggX10_diameter_X10_travels : GoodIn wsX10_diameter wsX10_travels := goodIn_r _ [12, 13, 14, 15, 16, 17, 4, 18, 19, 20, 21, 22, 1, 23, 24, 25, 26, 27, 28, 29, 30, 35, 36, 37, 38, 39, 40, 41, 42, 43, 44, 45, 46, 47, 48, 49, 50, 51, 52, 53] (by decide +kernel) (by decide +kernel)
set_option maxRecDepth 20000 in
theorem gX10_diameter_X10_travels : GoodIn wsX10_diameter (wsV RX10 216 RX10 yX10_travels wsX10_travels) := goodIn_app (goodIn_of _ (by decide +kernel)) ggX10_diameter_X10_travels
set_option maxRecDepth 20000 in
theorem ggX10_diameter_X10_farthest : GoodIn wsX10_diameter wsX10_farthest := goodIn_r _ [34, 1, 13, 35, 36, 37, 38, 39, 40, 41, 42, 43, 44, 45, 46, 47, 48, 49, 50, 51, 52, 53] (by decide +kernel) (by decide +kernel)
set_option maxRecDepth 20000 in
theorem gX10_diameter_X10_farthest : GoodIn wsX10_diameter (wsV RX10 219 RX10 yX10_farthest wsX10_farthest) := goodIn_app (goodIn_of _ (by decide +kernel)) ggX10_diameter_X10_farthest
theorem dX10_diameter_0 : decode cX10_diameter 0 = .ok (.iload_n 1, 1) := by decide +kernel
theorem dX10_diameter_1 : decode cX10_diameter 1 = .ok (.invokestatic 213, 3) := by decide +kernel
theorem dX10_diameter_4 : decode cX10_diameter 4 = .ok (.ifCond .ne 5, 3) := by decide +kernel
theorem dX10_diameter_7 : decode cX10_diameter 7 = .ok (.iconst (-1), 1) := by decide +kernel
