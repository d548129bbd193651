set_option maxRecDepth 20000 in
theorem ggX7_readClause_X7_number : GoodIn wsX7_readClause wsX7_number := goodIn_r _ [75, 1, 12, 18, 7, 8, 9, 10, 11, 13, 14, 15, 16, 17, 76, 77, 78, 79, 80, 81, 82, 83, 84, 85, 86, 87, 88, 89, 90, 91, 92, 93, 94, 95, 96, 97, 98, 99, 100, 101, 102, 103, 104, 105, 106, 107, 108, 109, 110, 111, 112, 113, 114, 115] (by decide +kernel) (by decide +kernel)
set_option maxRecDepth 20000 in
theorem gX7_readClause_X7_number : GoodIn wsX7_readClause (wsV RX7 176 RX7 yX7_number wsX7_number) := goodIn_app (goodIn_of _ (by decide +kernel)) ggX7_readClause_X7_number
theorem dX7_readClause_0 : decode cX7_readClause 0 = .ok (.aload_n 0, 1) := by decide +kernel
theorem dX7_readClause_1 : decode cX7_readClause 1 = .ok (.invokevirtual 167, 3) := by decide +kernel
theorem dX7_readClause_4 : decode cX7_readClause 4 = .ok (.aload_n 0, 1) := by decide +kernel
theorem dX7_readClause_5 : decode cX7_readClause 5 = .ok (.bipush 97, 2) := by decide +kernel
theorem dX7_readClause_7 : decode cX7_readClause 7 = .ok (.bipush 122, 2) := by decide +kernel
theorem dX7_readClause_9 : decode cX7_readClause 9 = .ok (.invokevirtual 150, 3) := by decide +kernel
theorem dX7_readClause_12 : decode cX7_readClause 12 = .ok (.ifCond .eq 16, 3) := by decide +kernel
theorem dX7_readClause_15 : decode cX7_readClause 15 = .ok (.aload_n 0, 1) := by decide +kernel
theorem dX7_readClause_16 : decode cX7_readClause 16 = .ok (.dup, 1) := by decide +kernel
theorem dX7_readClause_17 : decode cX7_readClause 17 = .ok (.getfield 144, 3) := by decide +kernel
theorem dX7_readClause_20 : decode cX7_readClause 20 = .ok (.iconst 1, 1) := by decide +kernel
theorem dX7_readClause_21 : decode cX7_readClause 21 = .ok (.iadd, 1) := by decide +kernel
theorem dX7_readClause_22 : decode cX7_readClause 22 = .ok (.putfield 144, 3) := by decide +kernel
theorem dX7_readClause_25 : decode cX7_readClause 25 = .ok (.goto (-21), 3) := by decide +kernel
theorem dX7_readClause_28 : decode cX7_readClause 28 = .ok (.aload_n 0, 1) := by decide +kernel
theorem dX7_readClause_29 : decode cX7_readClause 29 = .ok (.ldc 170, 2) := by decide +kernel
theorem dX7_readClause_31 : decode cX7_readClause 31 = .ok (.invokevirtual 171, 3) := by decide +kernel
theorem dX7_readClause_34 : decode cX7_readClause 34 = .ok (.istore_n 1, 1) := by decide +kernel
theorem dX7_readClause_35 : decode cX7_readClause 35 = .ok (.iload_n 1, 1) := by decide +kernel
theorem dX7_readClause_36 : decode cX7_readClause 36 = .ok (.ifCond .ne 12, 3) := by decide +kernel
theorem dX7_readClause_39 : decode cX7_readClause 39 = .ok (.aload_n 0, 1) := by decide +kernel
theorem dX7_readClause_40 : decode cX7_readClause 40 = .ok (.ldc 175, 2) := by decide +kernel
theorem dX7_readClause_42 : decode cX7_readClause 42 = .ok (.invokevirtual 171, 3) := by decide +kernel
theorem dX7_readClause_45 : decode cX7_readClause 45 = .ok (.ifCond .eq 83, 3) := by decide +kernel
theorem dX7_readClause_48 : decode cX7_readClause 48 = .ok (.aload_n 0, 1) := by decide +kernel
theorem dX7_readClause_49 : decode cX7_readClause 49 = .ok (.iconst 0, 1) := by decide +kernel
theorem dX7_readClause_50 : decode cX7_readClause 50 = .ok (.iconst 5, 1) := by decide +kernel
theorem dX7_readClause_51 : decode cX7_readClause 51 = .ok (.invokevirtual 176, 3) := by decide +kernel
theorem dX7_readClause_54 : decode cX7_readClause 54 = .ok (.istore_n 2, 1) := by decide +kernel
theorem dX7_readClause_55 : decode cX7_readClause 55 = .ok (.iload_n 2, 1) := by decide +kernel
theorem dX7_readClause_56 : decode cX7_readClause 56 = .ok (.ifCond .ge 5, 3) := by decide +kernel
theorem dX7_readClause_59 : decode cX7_readClause 59 = .ok (.iconst 0, 1) := by decide +kernel
theorem dX7_readClause_60 : decode cX7_readClause 60 = .ok (.ireturn, 1) := by decide +kernel
theorem dX7_readClause_61 : decode cX7_readClause 61 = .ok (.iload_n 1, 1) := by decide +kernel
theorem dX7_readClause_62 : decode cX7_readClause 62 = .ok (.ifCond .eq 14, 3) := by decide +kernel
theorem dX7_readClause_65 : decode cX7_readClause 65 = .ok (.aload_n 0, 1) := by decide +kernel
theorem dX7_readClause_66 : decode cX7_readClause 66 = .ok (.iconst 1, 1) := by decide +kernel
theorem dX7_readClause_67 : decode cX7_readClause 67 = .ok (.sipush 9999, 3) := by decide +kernel
theorem dX7_readClause_70 : decode cX7_readClause 70 = .ok (.invokevirtual 176, 3) := by decide +kernel
theorem dX7_readClause_73 : decode cX7_readClause 73 = .ok (.goto 10, 3) := by decide +kernel
theorem dX7_readClause_76 : decode cX7_readClause 76 = .ok (.aload_n 0, 1) := by decide +kernel
theorem dX7_readClause_77 : decode cX7_readClause 77 = .ok (.iconst 0, 1) := by decide +kernel
theorem dX7_readClause_78 : decode cX7_readClause 78 = .ok (.bipush 29, 2) := by decide +kernel
theorem dX7_readClause_80 : decode cX7_readClause 80 = .ok (.invokevirtual 176, 3) := by decide +kernel
theorem dX7_readClause_83 : decode cX7_readClause 83 = .ok (.istore_n 3, 1) := by decide +kernel
theorem dX7_readClause_84 : decode cX7_readClause 84 = .ok (.iload_n 3, 1) := by decide +kernel
theorem dX7_readClause_85 : decode cX7_readClause 85 = .ok (.ifCond .ge 5, 3) := by decide +kernel
theorem dX7_readClause_88 : decode cX7_readClause 88 = .ok (.iconst 0, 1) := by decide +kernel
theorem dX7_readClause_89 : decode cX7_readClause 89 = .ok (.ireturn, 1) := by decide +kernel
theorem dX7_readClause_90 : decode cX7_readClause 90 = .ok (.aload_n 0, 1) := by decide +kernel
theorem dX7_readClause_91 : decode cX7_readClause 91 = .ok (.getfield 25, 3) := by decide +kernel
theorem dX7_readClause_94 : decode cX7_readClause 94 = .ok (.bipush 120, 2) := by decide +kernel
theorem dX7_readClause_96 : decode cX7_readClause 96 = .ok (.iload_n 2, 1) := by decide +kernel
theorem dX7_readClause_97 : decode cX7_readClause 97 = .ok (.iadd, 1) := by decide +kernel
theorem dX7_readClause_98 : decode cX7_readClause 98 = .ok (.iload_n 1, 1) := by decide +kernel
theorem dX7_readClause_99 : decode cX7_readClause 99 = .ok (.ifCond .eq 7, 3) := by decide +kernel
theorem dX7_readClause_102 : decode cX7_readClause 102 = .ok (.iload_n 3, 1) := by decide +kernel
theorem dX7_readClause_103 : decode cX7_readClause 103 = .ok (.goto 4, 3) := by decide +kernel
theorem dX7_readClause_106 : decode cX7_readClause 106 = .ok (.iconst (-1), 1) := by decide +kernel
theorem dX7_readClause_107 : decode cX7_readClause 107 = .ok (.iastore, 1) := by decide +kernel
theorem dX7_readClause_108 : decode cX7_readClause 108 = .ok (.aload_n 0, 1) := by decide +kernel
theorem dX7_readClause_109 : decode cX7_readClause 109 = .ok (.getfield 28, 3) := by decide +kernel
theorem dX7_readClause_112 : decode cX7_readClause 112 = .ok (.bipush 120, 2) := by decide +kernel
theorem dX7_readClause_114 : decode cX7_readClause 114 = .ok (.iload_n 2, 1) := by decide +kernel
theorem dX7_readClause_115 : decode cX7_readClause 115 = .ok (.iadd, 1) := by decide +kernel
theorem dX7_readClause_116 : decode cX7_readClause 116 = .ok (.iload_n 1, 1) := by decide +kernel
theorem dX7_readClause_117 : decode cX7_readClause 117 = .ok (.ifCond .eq 7, 3) := by decide +kernel
theorem dX7_readClause_120 : decode cX7_readClause 120 = .ok (.iconst (-1), 1) := by decide +kernel
theorem dX7_readClause_121 : decode cX7_readClause 121 = .ok (.goto 4, 3) := by decide +kernel
theorem dX7_readClause_124 : decode cX7_readClause 124 = .ok (.iload_n 3, 1) := by decide +kernel
theorem dX7_readClause_125 : decode cX7_readClause 125 = .ok (.iastore, 1) := by decide +kernel
theorem dX7_readClause_126 : decode cX7_readClause 126 = .ok (.iconst 1, 1) := by decide +kernel
theorem dX7_readClause_127 : decode cX7_readClause 127 = .ok (.ireturn, 1) := by decide +kernel
theorem dX7_readClause_128 : decode cX7_readClause 128 = .ok (.aload_n 0, 1) := by decide +kernel
theorem dX7_readClause_129 : decode cX7_readClause 129 = .ok (.ldc 179, 2) := by decide +kernel
theorem dX7_readClause_131 : decode cX7_readClause 131 = .ok (.invokevirtual 171, 3) := by decide +kernel
theorem dX7_readClause_134 : decode cX7_readClause 134 = .ok (.ifCond .eq 33, 3) := by decide +kernel
theorem dX7_readClause_137 : decode cX7_readClause 137 = .ok (.aload_n 0, 1) := by decide +kernel
theorem dX7_readClause_138 : decode cX7_readClause 138 = .ok (.getfield 31, 3) := by decide +kernel
theorem dX7_readClause_141 : decode cX7_readClause 141 = .ok (.bipush 20, 2) := by decide +kernel
theorem dX7_readClause_143 : decode cX7_readClause 143 = .ok (.aload_n 0, 1) := by decide +kernel
theorem dX7_readClause_144 : decode cX7_readClause 144 = .ok (.iconst 0, 1) := by decide +kernel
theorem dX7_readClause_145 : decode cX7_readClause 145 = .ok (.bipush 99, 2) := by decide +kernel
theorem dX7_readClause_147 : decode cX7_readClause 147 = .ok (.invokevirtual 176, 3) := by decide +kernel
theorem dX7_readClause_150 : decode cX7_readClause 150 = .ok (.iastore, 1) := by decide +kernel
theorem dX7_readClause_151 : decode cX7_readClause 151 = .ok (.aload_n 0, 1) := by decide +kernel
theorem dX7_readClause_152 : decode cX7_readClause 152 = .ok (.getfield 31, 3) := by decide +kernel
theorem dX7_readClause_155 : decode cX7_readClause 155 = .ok (.bipush 20, 2) := by decide +kernel
theorem dX7_readClause_157 : decode cX7_readClause 157 = .ok (.iaload, 1) := by decide +kernel
theorem dX7_readClause_158 : decode cX7_readClause 158 = .ok (.ifCond .lt 7, 3) := by decide +kernel
theorem dX7_readClause_161 : decode cX7_readClause 161 = .ok (.iconst 1, 1) := by decide +kernel
theorem dX7_readClause_162 : decode cX7_readClause 162 = .ok (.goto 4, 3) := by decide +kernel
theorem dX7_readClause_165 : decode cX7_readClause 165 = .ok (.iconst 0, 1) := by decide +kernel
theorem dX7_readClause_166 : decode cX7_readClause 166 = .ok (.ireturn, 1) := by decide +kernel
theorem dX7_readClause_167 : decode cX7_readClause 167 = .ok (.aload_n 0, 1) := by decide +kernel
theorem dX7_readClause_168 : decode cX7_readClause 168 = .ok (.ldc 180, 2) := by decide +kernel
theorem dX7_readClause_170 : decode cX7_readClause 170 = .ok (.invokevirtual 171, 3) := by decide +kernel
theorem dX7_readClause_173 : decode cX7_readClause 173 = .ok (.ifCond .eq 33, 3) := by decide +kernel
theorem dX7_readClause_176 : decode cX7_readClause 176 = .ok (.aload_n 0, 1) := by decide +kernel
theorem dX7_readClause_177 : decode cX7_readClause 177 = .ok (.getfield 34, 3) := by decide +kernel
theorem dX7_readClause_180 : decode cX7_readClause 180 = .ok (.bipush 20, 2) := by decide +kernel
theorem dX7_readClause_182 : decode cX7_readClause 182 = .ok (.aload_n 0, 1) := by decide +kernel
theorem dX7_readClause_183 : decode cX7_readClause 183 = .ok (.iconst 0, 1) := by decide +kernel
theorem dX7_readClause_184 : decode cX7_readClause 184 = .ok (.bipush 100, 2) := by decide +kernel
theorem dX7_readClause_186 : decode cX7_readClause 186 = .ok (.invokevirtual 176, 3) := by decide +kernel
theorem dX7_readClause_189 : decode cX7_readClause 189 = .ok (.iastore, 1) := by decide +kernel
theorem dX7_readClause_190 : decode cX7_readClause 190 = .ok (.aload_n 0, 1) := by decide +kernel
theorem dX7_readClause_191 : decode cX7_readClause 191 = .ok (.getfield 34, 3) := by decide +kernel
theorem dX7_readClause_194 : decode cX7_readClause 194 = .ok (.bipush 20, 2) := by decide +kernel
theorem dX7_readClause_196 : decode cX7_readClause 196 = .ok (.iaload, 1) := by decide +kernel
theorem dX7_readClause_197 : decode cX7_readClause 197 = .ok (.ifCond .lt 7, 3) := by decide +kernel
theorem dX7_readClause_200 : decode cX7_readClause 200 = .ok (.iconst 1, 1) := by decide +kernel
theorem dX7_readClause_201 : decode cX7_readClause 201 = .ok (.goto 4, 3) := by decide +kernel
theorem dX7_readClause_204 : decode cX7_readClause 204 = .ok (.iconst 0, 1) := by decide +kernel
theorem dX7_readClause_205 : decode cX7_readClause 205 = .ok (.ireturn, 1) := by decide +kernel
theorem dX7_readClause_206 : decode cX7_readClause 206 = .ok (.aload_n 0, 1) := by decide +kernel
theorem dX7_readClause_207 : decode cX7_readClause 207 = .ok (.ldc 181, 2) := by decide +kernel
theorem dX7_readClause_209 : decode cX7_readClause 209 = .ok (.invokevirtual 171, 3) := by decide +kernel
theorem dX7_readClause_212 : decode cX7_readClause 212 = .ok (.ifCond .ne 5, 3) := by decide +kernel
theorem dX7_readClause_215 : decode cX7_readClause 215 = .ok (.iconst 0, 1) := by decide +kernel
theorem dX7_readClause_216 : decode cX7_readClause 216 = .ok (.ireturn, 1) := by decide +kernel
theorem dX7_readClause_217 : decode cX7_readClause 217 = .ok (.aload_n 0, 1) := by decide +kernel
theorem dX7_readClause_218 : decode cX7_readClause 218 = .ok (.iconst 0, 1) := by decide +kernel
theorem dX7_readClause_219 : decode cX7_readClause 219 = .ok (.bipush 7, 2) := by decide +kernel
theorem dX7_readClause_221 : decode cX7_readClause 221 = .ok (.invokevirtual 176, 3) := by decide +kernel
theorem dX7_readClause_224 : decode cX7_readClause 224 = .ok (.istore_n 2, 1) := by decide +kernel
theorem dX7_readClause_225 : decode cX7_readClause 225 = .ok (.iload_n 2, 1) := by decide +kernel
theorem dX7_readClause_226 : decode cX7_readClause 226 = .ok (.ifCond .ge 5, 3) := by decide +kernel
theorem dX7_readClause_229 : decode cX7_readClause 229 = .ok (.iconst 0, 1) := by decide +kernel
theorem dX7_readClause_230 : decode cX7_readClause 230 = .ok (.ireturn, 1) := by decide +kernel
theorem dX7_readClause_231 : decode cX7_readClause 231 = .ok (.aload_n 0, 1) := by decide +kernel
theorem dX7_readClause_232 : decode cX7_readClause 232 = .ok (.getfield 37, 3) := by decide +kernel
theorem dX7_readClause_235 : decode cX7_readClause 235 = .ok (.bipush 20, 2) := by decide +kernel
theorem dX7_readClause_237 : decode cX7_readClause 237 = .ok (.dup2, 1) := by decide +kernel
theorem dX7_readClause_238 : decode cX7_readClause 238 = .ok (.iaload, 1) := by decide +kernel
theorem dX7_readClause_239 : decode cX7_readClause 239 = .ok (.iconst 1, 1) := by decide +kernel
theorem dX7_readClause_240 : decode cX7_readClause 240 = .ok (.iload_n 2, 1) := by decide +kernel
theorem dX7_readClause_241 : decode cX7_readClause 241 = .ok (.ishl, 1) := by decide +kernel
theorem dX7_readClause_242 : decode cX7_readClause 242 = .ok (.ior, 1) := by decide +kernel
theorem dX7_readClause_243 : decode cX7_readClause 243 = .ok (.iastore, 1) := by decide +kernel
theorem dX7_readClause_244 : decode cX7_readClause 244 = .ok (.iconst 1, 1) := by decide +kernel
theorem dX7_readClause_245 : decode cX7_readClause 245 = .ok (.ireturn, 1) := by decide +kernel
set_option maxRecDepth 20000 in
theorem ggX7_readAll_X7_readClause : GoodIn wsX7_readAll wsX7_readClause := goodIn_r _ [13, 3, 7, 8, 4, 5, 6, 14, 15, 16, 12, 17, 18, 19, 20, 21, 22, 2, 23, 24, 25, 26, 27, 28, 29, 30, 31, 32, 33, 34, 35, 36, 37, 38, 39, 40, 41, 42, 43, 44, 45, 46, 47, 48, 49, 50, 51, 52, 53, 54, 55, 56, 57, 58, 59, 60, 61, 62, 63, 64, 65, 66, 67, 68, 69, 70, 71, 72, 73, 74, 75, 76, 77, 78, 79, 80, 81, 82, 83, 84, 85, 86, 87, 88, 89, 90, 91, 92, 93, 94, 95, 96, 97, 98, 99, 100, 101, 102, 103, 104, 105, 106, 107, 108, 109, 110, 111, 112, 113, 114, 115, 116, 117, 118, 119, 120] (by decide +kernel) (by decide +kernel)
set_option maxRecDepth 20000 in
theorem gX7_readAll_X7_readClause : GoodIn wsX7_readAll (wsV RX7 182 RX7 yX7_readClause wsX7_readClause) := goodIn_app (goodIn_of _ (by decide +kernel)) ggX7_readAll_X7_readClause
set_option maxRecDepth 20000 in
theorem ggX7_readAll_X7_blanks : GoodIn wsX7_readAll wsX7_blanks := goodIn_r _ [17, 3, 18, 19, 20, 21, 12, 22, 2, 23, 81, 82, 83, 84, 85, 86, 87, 88, 89, 90, 91, 92, 93, 94, 95, 96, 97, 98, 99, 100, 101, 102, 103, 104, 105, 106, 107, 108, 109, 110, 111, 112, 113, 114, 115, 116, 117, 118, 119, 120] (by decide +kernel) (by decide +kernel)
set_option maxRecDepth 20000 in
theorem gX7_readAll_X7_blanks : GoodIn wsX7_readAll (wsV RX7 167 RX7 yX7_blanks wsX7_blanks) := goodIn_app (goodIn_of _ (by decide +kernel)) ggX7_readAll_X7_blanks
set_option maxRecDepth 20000 in
theorem ggX7_readAll_X7_isAt : GoodIn wsX7_readAll wsX7_isAt := goodIn_r _ [22, 3, 2, 23, 81, 82, 83, 84, 85, 86, 87, 88, 89, 90, 91, 92, 93, 94, 95, 96, 97, 98, 99, 100, 101, 102, 103, 104, 105, 106, 107, 108, 109, 110, 111, 112, 113, 114, 115, 116, 117, 118, 119, 120] (by decide +kernel) (by decide +kernel)
set_option maxRecDepth 20000 in
theorem gX7_readAll_X7_isAt : GoodIn wsX7_readAll (wsV RX7 150 RX7 yX7_isAt wsX7_isAt) := goodIn_app (goodIn_of _ (by decide +kernel)) ggX7_readAll_X7_isAt
theorem dX7_readAll_0 : decode cX7_readAll 0 = .ok (.aload_n 0, 1) := by decide +kernel
theorem dX7_readAll_1 : decode cX7_readAll 1 = .ok (.aload_n 0, 1) := by decide +kernel
theorem dX7_readAll_2 : decode cX7_readAll 2 = .ok (.getfield 141, 3) := by decide +kernel
theorem dX7_readAll_5 : decode cX7_readAll 5 = .ok (.putfield 147, 3) := by decide +kernel
theorem dX7_readAll_8 : decode cX7_readAll 8 = .ok (.aload_n 0, 1) := by decide +kernel
theorem dX7_readAll_9 : decode cX7_readAll 9 = .ok (.iconst 0, 1) := by decide +kernel
theorem dX7_readAll_10 : decode cX7_readAll 10 = .ok (.putfield 141, 3) := by decide +kernel
theorem dX7_readAll_13 : decode cX7_readAll 13 = .ok (.aload_n 0, 1) := by decide +kernel
theorem dX7_readAll_14 : decode cX7_readAll 14 = .ok (.iconst 0, 1) := by decide +kernel
theorem dX7_readAll_15 : decode cX7_readAll 15 = .ok (.putfield 144, 3) := by decide +kernel
theorem dX7_readAll_18 : decode cX7_readAll 18 = .ok (.aload_n 0, 1) := by decide +kernel
theorem dX7_readAll_19 : decode cX7_readAll 19 = .ok (.getfield 31, 3) := by decide +kernel
theorem dX7_readAll_22 : decode cX7_readAll 22 = .ok (.bipush 20, 2) := by decide +kernel
theorem dX7_readAll_24 : decode cX7_readAll 24 = .ok (.iconst 0, 1) := by decide +kernel
theorem dX7_readAll_25 : decode cX7_readAll 25 = .ok (.iastore, 1) := by decide +kernel
theorem dX7_readAll_26 : decode cX7_readAll 26 = .ok (.aload_n 0, 1) := by decide +kernel
theorem dX7_readAll_27 : decode cX7_readAll 27 = .ok (.getfield 34, 3) := by decide +kernel
theorem dX7_readAll_30 : decode cX7_readAll 30 = .ok (.bipush 20, 2) := by decide +kernel
theorem dX7_readAll_32 : decode cX7_readAll 32 = .ok (.iconst 0, 1) := by decide +kernel
theorem dX7_readAll_33 : decode cX7_readAll 33 = .ok (.iastore, 1) := by decide +kernel
theorem dX7_readAll_34 : decode cX7_readAll 34 = .ok (.aload_n 0, 1) := by decide +kernel
theorem dX7_readAll_35 : decode cX7_readAll 35 = .ok (.getfield 37, 3) := by decide +kernel
theorem dX7_readAll_38 : decode cX7_readAll 38 = .ok (.bipush 20, 2) := by decide +kernel
theorem dX7_readAll_40 : decode cX7_readAll 40 = .ok (.iconst 0, 1) := by decide +kernel
theorem dX7_readAll_41 : decode cX7_readAll 41 = .ok (.iastore, 1) := by decide +kernel
theorem dX7_readAll_42 : decode cX7_readAll 42 = .ok (.iconst 0, 1) := by decide +kernel
theorem dX7_readAll_43 : decode cX7_readAll 43 = .ok (.istore_n 1, 1) := by decide +kernel
theorem dX7_readAll_44 : decode cX7_readAll 44 = .ok (.iload_n 1, 1) := by decide +kernel
theorem dX7_readAll_45 : decode cX7_readAll 45 = .ok (.bipush 6, 2) := by decide +kernel
theorem dX7_readAll_47 : decode cX7_readAll 47 = .ok (.if_icmp .ge 29, 3) := by decide +kernel
theorem dX7_readAll_50 : decode cX7_readAll 50 = .ok (.aload_n 0, 1) := by decide +kernel
theorem dX7_readAll_51 : decode cX7_readAll 51 = .ok (.getfield 25, 3) := by decide +kernel
theorem dX7_readAll_54 : decode cX7_readAll 54 = .ok (.bipush 120, 2) := by decide +kernel
theorem dX7_readAll_56 : decode cX7_readAll 56 = .ok (.iload_n 1, 1) := by decide +kernel
theorem dX7_readAll_57 : decode cX7_readAll 57 = .ok (.iadd, 1) := by decide +kernel
theorem dX7_readAll_58 : decode cX7_readAll 58 = .ok (.iconst (-1), 1) := by decide +kernel
theorem dX7_readAll_59 : decode cX7_readAll 59 = .ok (.iastore, 1) := by decide +kernel
theorem dX7_readAll_60 : decode cX7_readAll 60 = .ok (.aload_n 0, 1) := by decide +kernel
theorem dX7_readAll_61 : decode cX7_readAll 61 = .ok (.getfield 28, 3) := by decide +kernel
theorem dX7_readAll_64 : decode cX7_readAll 64 = .ok (.bipush 120, 2) := by decide +kernel
theorem dX7_readAll_66 : decode cX7_readAll 66 = .ok (.iload_n 1, 1) := by decide +kernel
theorem dX7_readAll_67 : decode cX7_readAll 67 = .ok (.iadd, 1) := by decide +kernel
theorem dX7_readAll_68 : decode cX7_readAll 68 = .ok (.iconst (-1), 1) := by decide +kernel
theorem dX7_readAll_69 : decode cX7_readAll 69 = .ok (.iastore, 1) := by decide +kernel
theorem dX7_readAll_70 : decode cX7_readAll 70 = .ok (.iinc 1 1, 3) := by decide +kernel
theorem dX7_readAll_73 : decode cX7_readAll 73 = .ok (.goto (-29), 3) := by decide +kernel
theorem dX7_readAll_76 : decode cX7_readAll 76 = .ok (.aload_n 0, 1) := by decide +kernel
theorem dX7_readAll_77 : decode cX7_readAll 77 = .ok (.invokevirtual 182, 3) := by decide +kernel
theorem dX7_readAll_80 : decode cX7_readAll 80 = .ok (.ifCond .ne 5, 3) := by decide +kernel
theorem dX7_readAll_83 : decode cX7_readAll 83 = .ok (.iconst 0, 1) := by decide +kernel
theorem dX7_readAll_84 : decode cX7_readAll 84 = .ok (.ireturn, 1) := by decide +kernel
theorem dX7_readAll_85 : decode cX7_readAll 85 = .ok (.aload_n 0, 1) := by decide +kernel
theorem dX7_readAll_86 : decode cX7_readAll 86 = .ok (.invokevirtual 167, 3) := by decide +kernel
theorem dX7_readAll_89 : decode cX7_readAll 89 = .ok (.aload_n 0, 1) := by decide +kernel
theorem dX7_readAll_90 : decode cX7_readAll 90 = .ok (.getfield 144, 3) := by decide +kernel
theorem dX7_readAll_93 : decode cX7_readAll 93 = .ok (.aload_n 0, 1) := by decide +kernel
theorem dX7_readAll_94 : decode cX7_readAll 94 = .ok (.getfield 147, 3) := by decide +kernel
theorem dX7_readAll_97 : decode cX7_readAll 97 = .ok (.if_icmp .ne 5, 3) := by decide +kernel
theorem dX7_readAll_100 : decode cX7_readAll 100 = .ok (.iconst 1, 1) := by decide +kernel
theorem dX7_readAll_101 : decode cX7_readAll 101 = .ok (.ireturn, 1) := by decide +kernel
theorem dX7_readAll_102 : decode cX7_readAll 102 = .ok (.aload_n 0, 1) := by decide +kernel
theorem dX7_readAll_103 : decode cX7_readAll 103 = .ok (.bipush 59, 2) := by decide +kernel
theorem dX7_readAll_105 : decode cX7_readAll 105 = .ok (.bipush 59, 2) := by decide +kernel
theorem dX7_readAll_107 : decode cX7_readAll 107 = .ok (.invokevirtual 150, 3) := by decide +kernel
theorem dX7_readAll_110 : decode cX7_readAll 110 = .ok (.ifCond .ne 5, 3) := by decide +kernel
theorem dX7_readAll_113 : decode cX7_readAll 113 = .ok (.iconst 0, 1) := by decide +kernel
theorem dX7_readAll_114 : decode cX7_readAll 114 = .ok (.ireturn, 1) := by decide +kernel
theorem dX7_readAll_115 : decode cX7_readAll 115 = .ok (.aload_n 0, 1) := by decide +kernel
theorem dX7_readAll_116 : decode cX7_readAll 116 = .ok (.dup, 1) := by decide +kernel
theorem dX7_readAll_117 : decode cX7_readAll 117 = .ok (.getfield 144, 3) := by decide +kernel
theorem dX7_readAll_120 : decode cX7_readAll 120 = .ok (.iconst 1, 1) := by decide +kernel
theorem dX7_readAll_121 : decode cX7_readAll 121 = .ok (.iadd, 1) := by decide +kernel
theorem dX7_readAll_122 : decode cX7_readAll 122 = .ok (.putfield 144, 3) := by decide +kernel
theorem dX7_readAll_125 : decode cX7_readAll 125 = .ok (.goto (-49), 3) := by decide +kernel
theorem dX7_tells_0 : decode cX7_tells 0 = .ok (.aload_n 0, 1) := by decide +kernel
theorem dX7_tells_1 : decode cX7_tells 1 = .ok (.getfield 40, 3) := by decide +kernel
theorem dX7_tells_4 : decode cX7_tells 4 = .ok (.aload_n 0, 1) := by decide +kernel
theorem dX7_tells_5 : decode cX7_tells 5 = .ok (.getfield 186, 3) := by decide +kernel
theorem dX7_tells_8 : decode cX7_tells 8 = .ok (.iload_n 1, 1) := by decide +kernel
theorem dX7_tells_9 : decode cX7_tells 9 = .ok (.iastore, 1) := by decide +kernel
theorem dX7_tells_10 : decode cX7_tells 10 = .ok (.aload_n 0, 1) := by decide +kernel
theorem dX7_tells_11 : decode cX7_tells 11 = .ok (.getfield 43, 3) := by decide +kernel
theorem dX7_tells_14 : decode cX7_tells 14 = .ok (.aload_n 0, 1) := by decide +kernel
theorem dX7_tells_15 : decode cX7_tells 15 = .ok (.getfield 186, 3) := by decide +kernel
theorem dX7_tells_18 : decode cX7_tells 18 = .ok (.aload_n 0, 1) := by decide +kernel
theorem dX7_tells_19 : decode cX7_tells 19 = .ok (.getfield 117, 3) := by decide +kernel
theorem dX7_tells_22 : decode cX7_tells 22 = .ok (.iastore, 1) := by decide +kernel
theorem dX7_tells_23 : decode cX7_tells 23 = .ok (.aload_n 0, 1) := by decide +kernel
theorem dX7_tells_24 : decode cX7_tells 24 = .ok (.dup, 1) := by decide +kernel
theorem dX7_tells_25 : decode cX7_tells 25 = .ok (.getfield 186, 3) := by decide +kernel
theorem dX7_tells_28 : decode cX7_tells 28 = .ok (.iconst 1, 1) := by decide +kernel
theorem dX7_tells_29 : decode cX7_tells 29 = .ok (.iadd, 1) := by decide +kernel
theorem dX7_tells_30 : decode cX7_tells 30 = .ok (.putfield 186, 3) := by decide +kernel
theorem dX7_tells_33 : decode cX7_tells 33 = .ok (.return_, 1) := by decide +kernel
set_option maxRecDepth 20000 in
theorem ggX7_edict_X7_readAll : GoodIn wsX7_edict wsX7_readAll := goodIn_r _ [14, 15, 16, 17, 5, 6, 7, 8, 9, 18, 19, 20, 13, 21, 22, 23, 24, 25, 2, 26, 27, 28, 29, 30, 31, 32, 33, 34, 35, 36, 37, 38, 39, 40, 41, 42, 43, 44, 45, 46, 47, 48, 49, 50, 51, 52, 53, 54, 55, 56, 57, 58, 59, 60, 61, 62, 63, 64, 65, 66, 67, 68, 69, 70, 71, 72, 73, 74, 75, 76, 77, 78, 79, 80, 81, 82, 83, 84, 85, 86, 87, 100, 101, 102, 103, 104, 105, 106, 107, 108, 109, 110, 111, 112, 113, 114, 115, 116, 117, 118, 119, 120, 121, 122, 123, 124, 125, 126, 127, 128, 129, 130, 131, 132, 133, 134, 135, 136, 137, 138, 139] (by decide +kernel) (by decide +kernel)
set_option maxRecDepth 20000 in
theorem gX7_edict_X7_readAll : GoodIn wsX7_edict (wsV RX7 189 RX7 yX7_readAll wsX7_readAll) := goodIn_app (goodIn_of _ (by decide +kernel)) ggX7_edict_X7_readAll
set_option maxRecDepth 20000 in
theorem ggX7_edict_X7_throwsIf : GoodIn wsX7_edict wsX7_throwsIf := goodIn_r _ [91, 1, 100, 101, 102, 103, 104, 105, 106, 107, 108, 109, 110, 111, 112, 113, 114, 115, 116, 117, 118, 119, 120, 121, 122, 123, 124, 125, 126, 127, 128, 129, 130, 131, 132, 133, 134, 135, 136, 137, 138, 139] (by decide +kernel) (by decide +kernel)
set_option maxRecDepth 20000 in
theorem gX7_edict_X7_throwsIf : GoodIn wsX7_edict (wsV RX7 110 RX7 yX7_throwsIf wsX7_throwsIf) := goodIn_app (goodIn_of _ (by decide +kernel)) ggX7_edict_X7_throwsIf
set_option maxRecDepth 20000 in
theorem ggX7_edict_X7_tells : GoodIn wsX7_edict wsX7_tells := goodIn_r _ [95, 96, 97, 98, 99, 100, 101, 102, 103, 104, 105, 106, 107, 108, 109, 110, 111, 112, 113, 114, 115, 116, 117, 118, 119, 120, 121, 122, 123, 124, 125, 126, 127, 128, 129, 130, 131, 132, 133, 134, 135, 136, 137, 138, 139] (by decide +kernel) (by decide +kernel)
set_option maxRecDepth 20000 in
theorem gX7_edict_X7_tells : GoodIn wsX7_edict (wsV RX7 195 RX7 yX7_tells wsX7_tells) := goodIn_app (goodIn_of _ (by decide +kernel)) ggX7_edict_X7_tells
theorem dX7_edict_0 : decode cX7_edict 0 = .ok (.aload_n 0, 1) := by decide +kernel
theorem dX7_edict_1 : decode cX7_edict 1 = .ok (.iconst 0, 1) := by decide +kernel
theorem dX7_edict_2 : decode cX7_edict 2 = .ok (.putfield 99, 3) := by decide +kernel
theorem dX7_edict_5 : decode cX7_edict 5 = .ok (.aload_n 0, 1) := by decide +kernel
theorem dX7_edict_6 : decode cX7_edict 6 = .ok (.invokevirtual 189, 3) := by decide +kernel
theorem dX7_edict_9 : decode cX7_edict 9 = .ok (.istore_n 1, 1) := by decide +kernel
theorem dX7_edict_10 : decode cX7_edict 10 = .ok (.aload_n 0, 1) := by decide +kernel
theorem dX7_edict_11 : decode cX7_edict 11 = .ok (.iload_n 1, 1) := by decide +kernel
theorem dX7_edict_12 : decode cX7_edict 12 = .ok (.ifCond .eq 7, 3) := by decide +kernel
theorem dX7_edict_15 : decode cX7_edict 15 = .ok (.iconst (-1), 1) := by decide +kernel
theorem dX7_edict_16 : decode cX7_edict 16 = .ok (.goto 7, 3) := by decide +kernel
theorem dX7_edict_19 : decode cX7_edict 19 = .ok (.aload_n 0, 1) := by decide +kernel
theorem dX7_edict_20 : decode cX7_edict 20 = .ok (.getfield 154, 3) := by decide +kernel
theorem dX7_edict_23 : decode cX7_edict 23 = .ok (.putfield 50, 3) := by decide +kernel
theorem dX7_edict_26 : decode cX7_edict 26 = .ok (.aload_n 0, 1) := by decide +kernel
theorem dX7_edict_27 : decode cX7_edict 27 = .ok (.iload_n 1, 1) := by decide +kernel
theorem dX7_edict_28 : decode cX7_edict 28 = .ok (.ifCond .ne 7, 3) := by decide +kernel
theorem dX7_edict_31 : decode cX7_edict 31 = .ok (.iconst 1, 1) := by decide +kernel
theorem dX7_edict_32 : decode cX7_edict 32 = .ok (.goto 4, 3) := by decide +kernel
theorem dX7_edict_35 : decode cX7_edict 35 = .ok (.iconst 0, 1) := by decide +kernel
theorem dX7_edict_36 : decode cX7_edict 36 = .ok (.iconst 1, 1) := by decide +kernel
theorem dX7_edict_37 : decode cX7_edict 37 = .ok (.invokevirtual 110, 3) := by decide +kernel
theorem dX7_edict_40 : decode cX7_edict 40 = .ok (.ifCond .ne 25, 3) := by decide +kernel
theorem dX7_edict_43 : decode cX7_edict 43 = .ok (.aload_n 0, 1) := by decide +kernel
theorem dX7_edict_44 : decode cX7_edict 44 = .ok (.aload_n 0, 1) := by decide +kernel
theorem dX7_edict_45 : decode cX7_edict 45 = .ok (.getfield 192, 3) := by decide +kernel
theorem dX7_edict_48 : decode cX7_edict 48 = .ok (.bipush 20, 2) := by decide +kernel
theorem dX7_edict_50 : decode cX7_edict 50 = .ok (.if_icmp .ne 7, 3) := by decide +kernel
theorem dX7_edict_53 : decode cX7_edict 53 = .ok (.iconst 1, 1) := by decide +kernel
theorem dX7_edict_54 : decode cX7_edict 54 = .ok (.goto 4, 3) := by decide +kernel
theorem dX7_edict_57 : decode cX7_edict 57 = .ok (.iconst 0, 1) := by decide +kernel
theorem dX7_edict_58 : decode cX7_edict 58 = .ok (.iconst 2, 1) := by decide +kernel
theorem dX7_edict_59 : decode cX7_edict 59 = .ok (.invokevirtual 110, 3) := by decide +kernel
theorem dX7_edict_62 : decode cX7_edict 62 = .ok (.ifCond .eq 5, 3) := by decide +kernel
theorem dX7_edict_65 : decode cX7_edict 65 = .ok (.iconst 0, 1) := by decide +kernel
theorem dX7_edict_66 : decode cX7_edict 66 = .ok (.ireturn, 1) := by decide +kernel
theorem dX7_edict_67 : decode cX7_edict 67 = .ok (.aload_n 0, 1) := by decide +kernel
theorem dX7_edict_68 : decode cX7_edict 68 = .ok (.getfield 31, 3) := by decide +kernel
theorem dX7_edict_71 : decode cX7_edict 71 = .ok (.aload_n 0, 1) := by decide +kernel
theorem dX7_edict_72 : decode cX7_edict 72 = .ok (.getfield 192, 3) := by decide +kernel
theorem dX7_edict_75 : decode cX7_edict 75 = .ok (.aload_n 0, 1) := by decide +kernel
theorem dX7_edict_76 : decode cX7_edict 76 = .ok (.getfield 31, 3) := by decide +kernel
theorem dX7_edict_79 : decode cX7_edict 79 = .ok (.bipush 20, 2) := by decide +kernel
theorem dX7_edict_81 : decode cX7_edict 81 = .ok (.iaload, 1) := by decide +kernel
theorem dX7_edict_82 : decode cX7_edict 82 = .ok (.iastore, 1) := by decide +kernel
theorem dX7_edict_83 : decode cX7_edict 83 = .ok (.aload_n 0, 1) := by decide +kernel
theorem dX7_edict_84 : decode cX7_edict 84 = .ok (.getfield 34, 3) := by decide +kernel
theorem dX7_edict_87 : decode cX7_edict 87 = .ok (.aload_n 0, 1) := by decide +kernel
theorem dX7_edict_88 : decode cX7_edict 88 = .ok (.getfield 192, 3) := by decide +kernel
theorem dX7_edict_91 : decode cX7_edict 91 = .ok (.aload_n 0, 1) := by decide +kernel
theorem dX7_edict_92 : decode cX7_edict 92 = .ok (.getfield 34, 3) := by decide +kernel
theorem dX7_edict_95 : decode cX7_edict 95 = .ok (.bipush 20, 2) := by decide +kernel
theorem dX7_edict_97 : decode cX7_edict 97 = .ok (.iaload, 1) := by decide +kernel
theorem dX7_edict_98 : decode cX7_edict 98 = .ok (.iastore, 1) := by decide +kernel
theorem dX7_edict_99 : decode cX7_edict 99 = .ok (.aload_n 0, 1) := by decide +kernel
theorem dX7_edict_100 : decode cX7_edict 100 = .ok (.getfield 37, 3) := by decide +kernel
theorem dX7_edict_103 : decode cX7_edict 103 = .ok (.aload_n 0, 1) := by decide +kernel
theorem dX7_edict_104 : decode cX7_edict 104 = .ok (.getfield 192, 3) := by decide +kernel
theorem dX7_edict_107 : decode cX7_edict 107 = .ok (.aload_n 0, 1) := by decide +kernel
theorem dX7_edict_108 : decode cX7_edict 108 = .ok (.getfield 37, 3) := by decide +kernel
theorem dX7_edict_111 : decode cX7_edict 111 = .ok (.bipush 20, 2) := by decide +kernel
theorem dX7_edict_113 : decode cX7_edict 113 = .ok (.iaload, 1) := by decide +kernel
theorem dX7_edict_114 : decode cX7_edict 114 = .ok (.iastore, 1) := by decide +kernel
theorem dX7_edict_115 : decode cX7_edict 115 = .ok (.iconst 0, 1) := by decide +kernel
theorem dX7_edict_116 : decode cX7_edict 116 = .ok (.istore_n 2, 1) := by decide +kernel
theorem dX7_edict_117 : decode cX7_edict 117 = .ok (.iload_n 2, 1) := by decide +kernel
theorem dX7_edict_118 : decode cX7_edict 118 = .ok (.bipush 6, 2) := by decide +kernel
theorem dX7_edict_120 : decode cX7_edict 120 = .ok (.if_icmp .ge 55, 3) := by decide +kernel
theorem dX7_edict_123 : decode cX7_edict 123 = .ok (.aload_n 0, 1) := by decide +kernel
theorem dX7_edict_124 : decode cX7_edict 124 = .ok (.getfield 25, 3) := by decide +kernel
theorem dX7_edict_127 : decode cX7_edict 127 = .ok (.bipush 6, 2) := by decide +kernel
theorem dX7_edict_129 : decode cX7_edict 129 = .ok (.aload_n 0, 1) := by decide +kernel
theorem dX7_edict_130 : decode cX7_edict 130 = .ok (.getfield 192, 3) := by decide +kernel
theorem dX7_edict_133 : decode cX7_edict 133 = .ok (.imul, 1) := by decide +kernel
theorem dX7_edict_134 : decode cX7_edict 134 = .ok (.iload_n 2, 1) := by decide +kernel
theorem dX7_edict_135 : decode cX7_edict 135 = .ok (.iadd, 1) := by decide +kernel
theorem dX7_edict_136 : decode cX7_edict 136 = .ok (.aload_n 0, 1) := by decide +kernel
theorem dX7_edict_137 : decode cX7_edict 137 = .ok (.getfield 25, 3) := by decide +kernel
theorem dX7_edict_140 : decode cX7_edict 140 = .ok (.bipush 120, 2) := by decide +kernel
theorem dX7_edict_142 : decode cX7_edict 142 = .ok (.iload_n 2, 1) := by decide +kernel
theorem dX7_edict_143 : decode cX7_edict 143 = .ok (.iadd, 1) := by decide +kernel
theorem dX7_edict_144 : decode cX7_edict 144 = .ok (.iaload, 1) := by decide +kernel
theorem dX7_edict_145 : decode cX7_edict 145 = .ok (.iastore, 1) := by decide +kernel
theorem dX7_edict_146 : decode cX7_edict 146 = .ok (.aload_n 0, 1) := by decide +kernel
theorem dX7_edict_147 : decode cX7_edict 147 = .ok (.getfield 28, 3) := by decide +kernel
theorem dX7_edict_150 : decode cX7_edict 150 = .ok (.bipush 6, 2) := by decide +kernel
theorem dX7_edict_152 : decode cX7_edict 152 = .ok (.aload_n 0, 1) := by decide +kernel
theorem dX7_edict_153 : decode cX7_edict 153 = .ok (.getfield 192, 3) := by decide +kernel
theorem dX7_edict_156 : decode cX7_edict 156 = .ok (.imul, 1) := by decide +kernel
theorem dX7_edict_157 : decode cX7_edict 157 = .ok (.iload_n 2, 1) := by decide +kernel
theorem dX7_edict_158 : decode cX7_edict 158 = .ok (.iadd, 1) := by decide +kernel
theorem dX7_edict_159 : decode cX7_edict 159 = .ok (.aload_n 0, 1) := by decide +kernel
theorem dX7_edict_160 : decode cX7_edict 160 = .ok (.getfield 28, 3) := by decide +kernel
theorem dX7_edict_163 : decode cX7_edict 163 = .ok (.bipush 120, 2) := by decide +kernel
theorem dX7_edict_165 : decode cX7_edict 165 = .ok (.iload_n 2, 1) := by decide +kernel
theorem dX7_edict_166 : decode cX7_edict 166 = .ok (.iadd, 1) := by decide +kernel
theorem dX7_edict_167 : decode cX7_edict 167 = .ok (.iaload, 1) := by decide +kernel
theorem dX7_edict_168 : decode cX7_edict 168 = .ok (.iastore, 1) := by decide +kernel
theorem dX7_edict_169 : decode cX7_edict 169 = .ok (.iinc 2 1, 3) := by decide +kernel
theorem dX7_edict_172 : decode cX7_edict 172 = .ok (.goto (-55), 3) := by decide +kernel
theorem dX7_edict_175 : decode cX7_edict 175 = .ok (.aload_n 0, 1) := by decide +kernel
theorem dX7_edict_176 : decode cX7_edict 176 = .ok (.aload_n 0, 1) := by decide +kernel
theorem dX7_edict_177 : decode cX7_edict 177 = .ok (.getfield 192, 3) := by decide +kernel
theorem dX7_edict_180 : decode cX7_edict 180 = .ok (.invokevirtual 195, 3) := by decide +kernel
theorem dX7_edict_183 : decode cX7_edict 183 = .ok (.aload_n 0, 1) := by decide +kernel
theorem dX7_edict_184 : decode cX7_edict 184 = .ok (.dup, 1) := by decide +kernel
theorem dX7_edict_185 : decode cX7_edict 185 = .ok (.getfield 192, 3) := by decide +kernel
theorem dX7_edict_188 : decode cX7_edict 188 = .ok (.iconst 1, 1) := by decide +kernel
theorem dX7_edict_189 : decode cX7_edict 189 = .ok (.iadd, 1) := by decide +kernel
theorem dX7_edict_190 : decode cX7_edict 190 = .ok (.putfield 192, 3) := by decide +kernel
theorem dX7_edict_193 : decode cX7_edict 193 = .ok (.aload_n 0, 1) := by decide +kernel
theorem dX7_edict_194 : decode cX7_edict 194 = .ok (.getfield 192, 3) := by decide +kernel
theorem dX7_edict_197 : decode cX7_edict 197 = .ok (.iconst 1, 1) := by decide +kernel
theorem dX7_edict_198 : decode cX7_edict 198 = .ok (.isub, 1) := by decide +kernel
theorem dX7_edict_199 : decode cX7_edict 199 = .ok (.ireturn, 1) := by decide +kernel
theorem dX7_fault_0 : decode cX7_fault 0 = .ok (.aload_n 0, 1) := by decide +kernel
theorem dX7_fault_1 : decode cX7_fault 1 = .ok (.iconst 0, 1) := by decide +kernel
theorem dX7_fault_2 : decode cX7_fault 2 = .ok (.putfield 99, 3) := by decide +kernel
theorem dX7_fault_5 : decode cX7_fault 5 = .ok (.aload_n 0, 1) := by decide +kernel
theorem dX7_fault_6 : decode cX7_fault 6 = .ok (.getfield 50, 3) := by decide +kernel
theorem dX7_fault_9 : decode cX7_fault 9 = .ok (.ireturn, 1) := by decide +kernel
set_option maxRecDepth 20000 in
theorem ggX7_undo_X7_tells : GoodIn wsX7_undo wsX7_tells := goodIn_r _ [8, 3, 2, 9, 10, 11, 12, 13, 14, 15, 16, 17, 18, 19, 20, 21, 22, 23, 24, 25, 26, 27, 28, 29, 30, 31, 32, 33, 34, 35, 36, 37, 38, 39, 40, 41, 42, 43, 44, 45, 46, 47, 48, 49, 50] (by decide +kernel) (by decide +kernel)
set_option maxRecDepth 20000 in
theorem gX7_undo_X7_tells : GoodIn wsX7_undo (wsV RX7 195 RX7 yX7_tells wsX7_tells) := goodIn_app (goodIn_of _ (by decide +kernel)) ggX7_undo_X7_tells
theorem dX7_undo_0 : decode cX7_undo 0 = .ok (.aload_n 0, 1) := by decide +kernel
theorem dX7_undo_1 : decode cX7_undo 1 = .ok (.iconst 0, 1) := by decide +kernel
theorem dX7_undo_2 : decode cX7_undo 2 = .ok (.putfield 99, 3) := by decide +kernel
theorem dX7_undo_5 : decode cX7_undo 5 = .ok (.aload_n 0, 1) := by decide +kernel
theorem dX7_undo_6 : decode cX7_undo 6 = .ok (.getfield 186, 3) := by decide +kernel
theorem dX7_undo_9 : decode cX7_undo 9 = .ok (.ifCond .eq 18, 3) := by decide +kernel
theorem dX7_undo_12 : decode cX7_undo 12 = .ok (.aload_n 0, 1) := by decide +kernel
theorem dX7_undo_13 : decode cX7_undo 13 = .ok (.getfield 40, 3) := by decide +kernel
theorem dX7_undo_16 : decode cX7_undo 16 = .ok (.aload_n 0, 1) := by decide +kernel
theorem dX7_undo_17 : decode cX7_undo 17 = .ok (.getfield 186, 3) := by decide +kernel
theorem dX7_undo_20 : decode cX7_undo 20 = .ok (.iconst 1, 1) := by decide +kernel
theorem dX7_undo_21 : decode cX7_undo 21 = .ok (.isub, 1) := by decide +kernel
theorem dX7_undo_22 : decode cX7_undo 22 = .ok (.iaload, 1) := by decide +kernel
theorem dX7_undo_23 : decode cX7_undo 23 = .ok (.iconst (-1), 1) := by decide +kernel
theorem dX7_undo_24 : decode cX7_undo 24 = .ok (.if_icmp .ne 5, 3) := by decide +kernel
theorem dX7_undo_27 : decode cX7_undo 27 = .ok (.iconst 0, 1) := by decide +kernel
theorem dX7_undo_28 : decode cX7_undo 28 = .ok (.ireturn, 1) := by decide +kernel
theorem dX7_undo_29 : decode cX7_undo 29 = .ok (.aload_n 0, 1) := by decide +kernel
theorem dX7_undo_30 : decode cX7_undo 30 = .ok (.iconst (-1), 1) := by decide +kernel
theorem dX7_undo_31 : decode cX7_undo 31 = .ok (.invokevirtual 195, 3) := by decide +kernel
theorem dX7_undo_34 : decode cX7_undo 34 = .ok (.iconst 1, 1) := by decide +kernel
theorem dX7_undo_35 : decode cX7_undo 35 = .ok (.ireturn, 1) := by decide +kernel
set_option maxRecDepth 20000 in
theorem ggX7_noTown_X7_in : GoodIn wsX7_noTown wsX7_in := goodIn_r _ [5] (by decide +kernel) (by decide +kernel)
set_option maxRecDepth 20000 in
theorem gX7_noTown_X7_in : GoodIn wsX7_noTown (va_wsS RX7 102 yX7_in wsX7_in) := goodIn_app (goodIn_of _ (by decide +kernel)) ggX7_noTown_X7_in
theorem dX7_noTown_0 : decode cX7_noTown 0 = .ok (.iload_n 1, 1) := by decide +kernel
theorem dX7_noTown_1 : decode cX7_noTown 1 = .ok (.iconst 0, 1) := by decide +kernel
theorem dX7_noTown_2 : decode cX7_noTown 2 = .ok (.aload_n 0, 1) := by decide +kernel
theorem dX7_noTown_3 : decode cX7_noTown 3 = .ok (.getfield 199, 3) := by decide +kernel
theorem dX7_noTown_6 : decode cX7_noTown 6 = .ok (.iconst 1, 1) := by decide +kernel
theorem dX7_noTown_7 : decode cX7_noTown 7 = .ok (.isub, 1) := by decide +kernel
theorem dX7_noTown_8 : decode cX7_noTown 8 = .ok (.invokestatic 102, 3) := by decide +kernel
theorem dX7_noTown_11 : decode cX7_noTown 11 = .ok (.ifCond .ne 7, 3) := by decide +kernel
theorem dX7_noTown_14 : decode cX7_noTown 14 = .ok (.iconst 1, 1) := by decide +kernel
theorem dX7_noTown_15 : decode cX7_noTown 15 = .ok (.goto 4, 3) := by decide +kernel
theorem dX7_noTown_18 : decode cX7_noTown 18 = .ok (.iconst 0, 1) := by decide +kernel
theorem dX7_noTown_19 : decode cX7_noTown 19 = .ok (.ireturn, 1) := by decide +kernel
set_option maxRecDepth 20000 in
theorem ggX7_noThing_X7_in : GoodIn wsX7_noThing wsX7_in := goodIn_r _ [4] (by decide +kernel) (by decide +kernel)
set_option maxRecDepth 20000 in
theorem gX7_noThing_X7_in : GoodIn wsX7_noThing (va_wsS RX7 102 yX7_in wsX7_in) := goodIn_app (goodIn_of _ (by decide +kernel)) ggX7_noThing_X7_in
theorem dX7_noThing_0 : decode cX7_noThing 0 = .ok (.iload_n 0, 1) := by decide +kernel
theorem dX7_noThing_1 : decode cX7_noThing 1 = .ok (.iconst 0, 1) := by decide +kernel
theorem dX7_noThing_2 : decode cX7_noThing 2 = .ok (.iconst 5, 1) := by decide +kernel
theorem dX7_noThing_3 : decode cX7_noThing 3 = .ok (.invokestatic 102, 3) := by decide +kernel
theorem dX7_noThing_6 : decode cX7_noThing 6 = .ok (.ifCond .ne 7, 3) := by decide +kernel
theorem dX7_noThing_9 : decode cX7_noThing 9 = .ok (.iconst 1, 1) := by decide +kernel
theorem dX7_noThing_10 : decode cX7_noThing 10 = .ok (.goto 4, 3) := by decide +kernel
theorem dX7_noThing_13 : decode cX7_noThing 13 = .ok (.iconst 0, 1) := by decide +kernel
theorem dX7_noThing_14 : decode cX7_noThing 14 = .ok (.ireturn, 1) := by decide +kernel
set_option maxRecDepth 20000 in
theorem ggX7_town_X7_in : GoodIn wsX7_town wsX7_in := goodIn_r _ [7] (by decide +kernel) (by decide +kernel)
set_option maxRecDepth 20000 in
theorem gX7_town_X7_in : GoodIn wsX7_town (va_wsS RX7 102 yX7_in wsX7_in) := goodIn_app (goodIn_of _ (by decide +kernel)) ggX7_town_X7_in
set_option maxRecDepth 20000 in
theorem ggX7_town_X7_throwsIf : GoodIn wsX7_town wsX7_throwsIf := goodIn_r _ [11, 1, 12, 13, 14, 15, 16, 17, 18, 19, 20, 21, 22, 23, 24, 25, 26, 27, 28, 29, 30, 31, 32, 33, 34, 35, 36, 37, 38, 39, 40, 41, 42, 43, 44, 45, 46, 47, 48, 49, 50, 51] (by decide +kernel) (by decide +kernel)
set_option maxRecDepth 20000 in
theorem gX7_town_X7_throwsIf : GoodIn wsX7_town (wsV RX7 110 RX7 yX7_throwsIf wsX7_throwsIf) := goodIn_app (goodIn_of _ (by decide +kernel)) ggX7_town_X7_throwsIf
theorem dX7_town_0 : decode cX7_town 0 = .ok (.aload_n 0, 1) := by decide +kernel
theorem dX7_town_1 : decode cX7_town 1 = .ok (.iconst 0, 1) := by decide +kernel
theorem dX7_town_2 : decode cX7_town 2 = .ok (.putfield 99, 3) := by decide +kernel
theorem dX7_town_5 : decode cX7_town 5 = .ok (.aload_n 0, 1) := by decide +kernel
theorem dX7_town_6 : decode cX7_town 6 = .ok (.iload_n 1, 1) := by decide +kernel
theorem dX7_town_7 : decode cX7_town 7 = .ok (.iconst 0, 1) := by decide +kernel
theorem dX7_town_8 : decode cX7_town 8 = .ok (.sipush 2000, 3) := by decide +kernel
theorem dX7_town_11 : decode cX7_town 11 = .ok (.invokestatic 102, 3) := by decide +kernel
theorem dX7_town_14 : decode cX7_town 14 = .ok (.ifCond .ne 7, 3) := by decide +kernel
theorem dX7_town_17 : decode cX7_town 17 = .ok (.iconst 1, 1) := by decide +kernel
theorem dX7_town_18 : decode cX7_town 18 = .ok (.goto 4, 3) := by decide +kernel
theorem dX7_town_21 : decode cX7_town 21 = .ok (.iconst 0, 1) := by decide +kernel
theorem dX7_town_22 : decode cX7_town 22 = .ok (.iconst 1, 1) := by decide +kernel
theorem dX7_town_23 : decode cX7_town 23 = .ok (.invokevirtual 110, 3) := by decide +kernel
theorem dX7_town_26 : decode cX7_town 26 = .ok (.ifCond .ne 25, 3) := by decide +kernel
theorem dX7_town_29 : decode cX7_town 29 = .ok (.aload_n 0, 1) := by decide +kernel
theorem dX7_town_30 : decode cX7_town 30 = .ok (.aload_n 0, 1) := by decide +kernel
theorem dX7_town_31 : decode cX7_town 31 = .ok (.getfield 199, 3) := by decide +kernel
theorem dX7_town_34 : decode cX7_town 34 = .ok (.bipush 8, 2) := by decide +kernel
theorem dX7_town_36 : decode cX7_town 36 = .ok (.if_icmp .ne 7, 3) := by decide +kernel
theorem dX7_town_39 : decode cX7_town 39 = .ok (.iconst 1, 1) := by decide +kernel
theorem dX7_town_40 : decode cX7_town 40 = .ok (.goto 4, 3) := by decide +kernel
theorem dX7_town_43 : decode cX7_town 43 = .ok (.iconst 0, 1) := by decide +kernel
theorem dX7_town_44 : decode cX7_town 44 = .ok (.iconst 2, 1) := by decide +kernel
theorem dX7_town_45 : decode cX7_town 45 = .ok (.invokevirtual 110, 3) := by decide +kernel
theorem dX7_town_48 : decode cX7_town 48 = .ok (.ifCond .eq 5, 3) := by decide +kernel
theorem dX7_town_51 : decode cX7_town 51 = .ok (.iconst 0, 1) := by decide +kernel
theorem dX7_town_52 : decode cX7_town 52 = .ok (.ireturn, 1) := by decide +kernel
theorem dX7_town_53 : decode cX7_town 53 = .ok (.aload_n 0, 1) := by decide +kernel
theorem dX7_town_54 : decode cX7_town 54 = .ok (.getfield 57, 3) := by decide +kernel
theorem dX7_town_57 : decode cX7_town 57 = .ok (.aload_n 0, 1) := by decide +kernel
theorem dX7_town_58 : decode cX7_town 58 = .ok (.getfield 199, 3) := by decide +kernel
theorem dX7_town_61 : decode cX7_town 61 = .ok (.iload_n 1, 1) := by decide +kernel
theorem dX7_town_62 : decode cX7_town 62 = .ok (.iastore, 1) := by decide +kernel
theorem dX7_town_63 : decode cX7_town 63 = .ok (.aload_n 0, 1) := by decide +kernel
theorem dX7_town_64 : decode cX7_town 64 = .ok (.dup, 1) := by decide +kernel
theorem dX7_town_65 : decode cX7_town 65 = .ok (.getfield 199, 3) := by decide +kernel
theorem dX7_town_68 : decode cX7_town 68 = .ok (.iconst 1, 1) := by decide +kernel
theorem dX7_town_69 : decode cX7_town 69 = .ok (.iadd, 1) := by decide +kernel
theorem dX7_town_70 : decode cX7_town 70 = .ok (.putfield 199, 3) := by decide +kernel
theorem dX7_town_73 : decode cX7_town 73 = .ok (.aload_n 0, 1) := by decide +kernel
theorem dX7_town_74 : decode cX7_town 74 = .ok (.getfield 199, 3) := by decide +kernel
theorem dX7_town_77 : decode cX7_town 77 = .ok (.iconst 1, 1) := by decide +kernel
theorem dX7_town_78 : decode cX7_town 78 = .ok (.isub, 1) := by decide +kernel
theorem dX7_town_79 : decode cX7_town 79 = .ok (.ireturn, 1) := by decide +kernel
set_option maxRecDepth 20000 in
theorem ggX7_goods_X7_noTown : GoodIn wsX7_goods wsX7_noTown := goodIn_r _ [10, 11, 12, 13, 9, 14, 22, 23, 24, 25, 26, 27, 28, 29, 30, 31, 32, 33, 34, 35, 36, 37, 38, 39, 40, 41, 42, 43, 44, 45, 46, 47, 48, 49, 50, 51, 52, 53, 54, 55, 56, 57, 58, 59, 60, 61] (by decide +kernel) (by decide +kernel)
set_option maxRecDepth 20000 in
theorem gX7_goods_X7_noTown : GoodIn wsX7_goods (wsV RX7 202 RX7 yX7_noTown wsX7_noTown) := goodIn_app (goodIn_of _ (by decide +kernel)) ggX7_goods_X7_noTown
set_option maxRecDepth 20000 in
theorem ggX7_goods_X7_noThing : GoodIn wsX7_goods wsX7_noThing := goodIn_r _ [17, 12, 13, 9, 14] (by decide +kernel) (by decide +kernel)
set_option maxRecDepth 20000 in
theorem gX7_goods_X7_noThing : GoodIn wsX7_goods (va_wsS RX7 205 yX7_noThing wsX7_noThing) := goodIn_app (goodIn_of _ (by decide +kernel)) ggX7_goods_X7_noThing
set_option maxRecDepth 20000 in
theorem ggX7_goods_X7_throwsIf : GoodIn wsX7_goods wsX7_throwsIf := goodIn_r _ [21, 1, 22, 23, 24, 25, 26, 27, 28, 29, 30, 31, 32, 33, 34, 35, 36, 37, 38, 39, 40, 41, 42, 43, 44, 45, 46, 47, 48, 49, 50, 51, 52, 53, 54, 55, 56, 57, 58, 59, 60, 61] (by decide +kernel) (by decide +kernel)
set_option maxRecDepth 20000 in
theorem gX7_goods_X7_throwsIf : GoodIn wsX7_goods (wsV RX7 110 RX7 yX7_throwsIf wsX7_throwsIf) := goodIn_app (goodIn_of _ (by decide +kernel)) ggX7_goods_X7_throwsIf
set_option maxRecDepth 20000 in
theorem ggX7_goods_X7_in : GoodIn wsX7_goods wsX7_in := goodIn_r _ [14] (by decide +kernel) (by decide +kernel)
set_option maxRecDepth 20000 in
theorem gX7_goods_X7_in : GoodIn wsX7_goods (va_wsS RX7 102 yX7_in wsX7_in) := goodIn_app (goodIn_of _ (by decide +kernel)) ggX7_goods_X7_in
theorem dX7_goods_0 : decode cX7_goods 0 = .ok (.aload_n 0, 1) := by decide +kernel
theorem dX7_goods_1 : decode cX7_goods 1 = .ok (.iconst 0, 1) := by decide +kernel
theorem dX7_goods_2 : decode cX7_goods 2 = .ok (.putfield 99, 3) := by decide +kernel
theorem dX7_goods_5 : decode cX7_goods 5 = .ok (.aload_n 0, 1) := by decide +kernel
theorem dX7_goods_6 : decode cX7_goods 6 = .ok (.aload_n 0, 1) := by decide +kernel
theorem dX7_goods_7 : decode cX7_goods 7 = .ok (.iload_n 1, 1) := by decide +kernel
theorem dX7_goods_8 : decode cX7_goods 8 = .ok (.invokevirtual 202, 3) := by decide +kernel
theorem dX7_goods_11 : decode cX7_goods 11 = .ok (.ifCond .ne 10, 3) := by decide +kernel
theorem dX7_goods_14 : decode cX7_goods 14 = .ok (.iload_n 2, 1) := by decide +kernel
theorem dX7_goods_15 : decode cX7_goods 15 = .ok (.invokestatic 205, 3) := by decide +kernel
theorem dX7_goods_18 : decode cX7_goods 18 = .ok (.ifCond .eq 7, 3) := by decide +kernel
theorem dX7_goods_21 : decode cX7_goods 21 = .ok (.iconst 1, 1) := by decide +kernel
theorem dX7_goods_22 : decode cX7_goods 22 = .ok (.goto 4, 3) := by decide +kernel
theorem dX7_goods_25 : decode cX7_goods 25 = .ok (.iconst 0, 1) := by decide +kernel
theorem dX7_goods_26 : decode cX7_goods 26 = .ok (.iconst 1, 1) := by decide +kernel
theorem dX7_goods_27 : decode cX7_goods 27 = .ok (.invokevirtual 110, 3) := by decide +kernel
theorem dX7_goods_30 : decode cX7_goods 30 = .ok (.ifCond .ne 63, 3) := by decide +kernel
theorem dX7_goods_33 : decode cX7_goods 33 = .ok (.aload_n 0, 1) := by decide +kernel
theorem dX7_goods_34 : decode cX7_goods 34 = .ok (.iload_n 3, 1) := by decide +kernel
theorem dX7_goods_35 : decode cX7_goods 35 = .ok (.iconst 0, 1) := by decide +kernel
theorem dX7_goods_36 : decode cX7_goods 36 = .ok (.sipush 9999, 3) := by decide +kernel
theorem dX7_goods_39 : decode cX7_goods 39 = .ok (.invokestatic 102, 3) := by decide +kernel
theorem dX7_goods_42 : decode cX7_goods 42 = .ok (.ifCond .eq 39, 3) := by decide +kernel
theorem dX7_goods_45 : decode cX7_goods 45 = .ok (.iload 4, 2) := by decide +kernel
theorem dX7_goods_47 : decode cX7_goods 47 = .ok (.iconst 0, 1) := by decide +kernel
theorem dX7_goods_48 : decode cX7_goods 48 = .ok (.sipush 9999, 3) := by decide +kernel
theorem dX7_goods_51 : decode cX7_goods 51 = .ok (.invokestatic 102, 3) := by decide +kernel
theorem dX7_goods_54 : decode cX7_goods 54 = .ok (.ifCond .eq 27, 3) := by decide +kernel
theorem dX7_goods_57 : decode cX7_goods 57 = .ok (.iload 5, 2) := by decide +kernel
theorem dX7_goods_59 : decode cX7_goods 59 = .ok (.iconst 0, 1) := by decide +kernel
theorem dX7_goods_60 : decode cX7_goods 60 = .ok (.sipush 1000, 3) := by decide +kernel
theorem dX7_goods_63 : decode cX7_goods 63 = .ok (.invokestatic 102, 3) := by decide +kernel
theorem dX7_goods_66 : decode cX7_goods 66 = .ok (.ifCond .eq 15, 3) := by decide +kernel
theorem dX7_goods_69 : decode cX7_goods 69 = .ok (.iload 6, 2) := by decide +kernel
theorem dX7_goods_71 : decode cX7_goods 71 = .ok (.iconst 0, 1) := by decide +kernel
theorem dX7_goods_72 : decode cX7_goods 72 = .ok (.sipush 1000, 3) := by decide +kernel
theorem dX7_goods_75 : decode cX7_goods 75 = .ok (.invokestatic 102, 3) := by decide +kernel
theorem dX7_goods_78 : decode cX7_goods 78 = .ok (.ifCond .ne 7, 3) := by decide +kernel
theorem dX7_goods_81 : decode cX7_goods 81 = .ok (.iconst 1, 1) := by decide +kernel
theorem dX7_goods_82 : decode cX7_goods 82 = .ok (.goto 4, 3) := by decide +kernel
theorem dX7_goods_85 : decode cX7_goods 85 = .ok (.iconst 0, 1) := by decide +kernel
theorem dX7_goods_86 : decode cX7_goods 86 = .ok (.iconst 2, 1) := by decide +kernel
theorem dX7_goods_87 : decode cX7_goods 87 = .ok (.invokevirtual 110, 3) := by decide +kernel
theorem dX7_goods_90 : decode cX7_goods 90 = .ok (.ifCond .eq 4, 3) := by decide +kernel
theorem dX7_goods_93 : decode cX7_goods 93 = .ok (.return_, 1) := by decide +kernel
theorem dX7_goods_94 : decode cX7_goods 94 = .ok (.bipush 6, 2) := by decide +kernel
theorem dX7_goods_96 : decode cX7_goods 96 = .ok (.iload_n 1, 1) := by decide +kernel
theorem dX7_goods_97 : decode cX7_goods 97 = .ok (.imul, 1) := by decide +kernel
theorem dX7_goods_98 : decode cX7_goods 98 = .ok (.iload_n 2, 1) := by decide +kernel
theorem dX7_goods_99 : decode cX7_goods 99 = .ok (.iadd, 1) := by decide +kernel
theorem dX7_goods_100 : decode cX7_goods 100 = .ok (.istore 7, 2) := by decide +kernel
theorem dX7_goods_102 : decode cX7_goods 102 = .ok (.aload_n 0, 1) := by decide +kernel
theorem dX7_goods_103 : decode cX7_goods 103 = .ok (.getfield 60, 3) := by decide +kernel
theorem dX7_goods_106 : decode cX7_goods 106 = .ok (.iload 7, 2) := by decide +kernel
theorem dX7_goods_108 : decode cX7_goods 108 = .ok (.iload_n 3, 1) := by decide +kernel
theorem dX7_goods_109 : decode cX7_goods 109 = .ok (.iastore, 1) := by decide +kernel
theorem dX7_goods_110 : decode cX7_goods 110 = .ok (.aload_n 0, 1) := by decide +kernel
theorem dX7_goods_111 : decode cX7_goods 111 = .ok (.getfield 63, 3) := by decide +kernel
theorem dX7_goods_114 : decode cX7_goods 114 = .ok (.iload 7, 2) := by decide +kernel
theorem dX7_goods_116 : decode cX7_goods 116 = .ok (.iload 4, 2) := by decide +kernel
theorem dX7_goods_118 : decode cX7_goods 118 = .ok (.iastore, 1) := by decide +kernel
theorem dX7_goods_119 : decode cX7_goods 119 = .ok (.aload_n 0, 1) := by decide +kernel
theorem dX7_goods_120 : decode cX7_goods 120 = .ok (.getfield 66, 3) := by decide +kernel
theorem dX7_goods_123 : decode cX7_goods 123 = .ok (.iload 7, 2) := by decide +kernel
theorem dX7_goods_125 : decode cX7_goods 125 = .ok (.iload 5, 2) := by decide +kernel
theorem dX7_goods_127 : decode cX7_goods 127 = .ok (.iastore, 1) := by decide +kernel
theorem dX7_goods_128 : decode cX7_goods 128 = .ok (.aload_n 0, 1) := by decide +kernel
theorem dX7_goods_129 : decode cX7_goods 129 = .ok (.getfield 69, 3) := by decide +kernel
theorem dX7_goods_132 : decode cX7_goods 132 = .ok (.iload 7, 2) := by decide +kernel
theorem dX7_goods_134 : decode cX7_goods 134 = .ok (.iload 6, 2) := by decide +kernel
theorem dX7_goods_136 : decode cX7_goods 136 = .ok (.iastore, 1) := by decide +kernel
theorem dX7_goods_137 : decode cX7_goods 137 = .ok (.return_, 1) := by decide +kernel
set_option maxRecDepth 20000 in
theorem ggX7_spoil_X7_noThing : GoodIn wsX7_spoil wsX7_noThing := goodIn_r _ [6, 7, 8, 5, 9] (by decide +kernel) (by decide +kernel)
set_option maxRecDepth 20000 in
theorem gX7_spoil_X7_noThing : GoodIn wsX7_spoil (va_wsS RX7 205 yX7_noThing wsX7_noThing) := goodIn_app (goodIn_of _ (by decide +kernel)) ggX7_spoil_X7_noThing
set_option maxRecDepth 20000 in
theorem ggX7_spoil_X7_throwsIf : GoodIn wsX7_spoil wsX7_throwsIf := goodIn_r _ [13, 1, 14, 15, 16, 17, 18, 19, 20, 21, 22, 23, 24, 25, 26, 27, 28, 29, 30, 31, 32, 33, 34, 35, 36, 37, 38, 39, 40, 41, 42, 43, 44, 45, 46, 47, 48, 49, 50, 51, 52, 53] (by decide +kernel) (by decide +kernel)
set_option maxRecDepth 20000 in
theorem gX7_spoil_X7_throwsIf : GoodIn wsX7_spoil (wsV RX7 110 RX7 yX7_throwsIf wsX7_throwsIf) := goodIn_app (goodIn_of _ (by decide +kernel)) ggX7_spoil_X7_throwsIf
set_option maxRecDepth 20000 in
theorem ggX7_spoil_X7_in : GoodIn wsX7_spoil wsX7_in := goodIn_r _ [9] (by decide +kernel) (by decide +kernel)
set_option maxRecDepth 20000 in
theorem gX7_spoil_X7_in : GoodIn wsX7_spoil (va_wsS RX7 102 yX7_in wsX7_in) := goodIn_app (goodIn_of _ (by decide +kernel)) ggX7_spoil_X7_in
theorem dX7_spoil_0 : decode cX7_spoil 0 = .ok (.aload_n 0, 1) := by decide +kernel
theorem dX7_spoil_1 : decode cX7_spoil 1 = .ok (.iconst 0, 1) := by decide +kernel
theorem dX7_spoil_2 : decode cX7_spoil 2 = .ok (.putfield 99, 3) := by decide +kernel
theorem dX7_spoil_5 : decode cX7_spoil 5 = .ok (.aload_n 0, 1) := by decide +kernel
theorem dX7_spoil_6 : decode cX7_spoil 6 = .ok (.iload_n 1, 1) := by decide +kernel
theorem dX7_spoil_7 : decode cX7_spoil 7 = .ok (.invokestatic 205, 3) := by decide +kernel
theorem dX7_spoil_10 : decode cX7_spoil 10 = .ok (.iconst 1, 1) := by decide +kernel
theorem dX7_spoil_11 : decode cX7_spoil 11 = .ok (.invokevirtual 110, 3) := by decide +kernel
theorem dX7_spoil_14 : decode cX7_spoil 14 = .ok (.ifCond .ne 26, 3) := by decide +kernel
theorem dX7_spoil_17 : decode cX7_spoil 17 = .ok (.aload_n 0, 1) := by decide +kernel
theorem dX7_spoil_18 : decode cX7_spoil 18 = .ok (.iload_n 2, 1) := by decide +kernel
theorem dX7_spoil_19 : decode cX7_spoil 19 = .ok (.iconst 0, 1) := by decide +kernel
theorem dX7_spoil_20 : decode cX7_spoil 20 = .ok (.bipush 100, 2) := by decide +kernel
theorem dX7_spoil_22 : decode cX7_spoil 22 = .ok (.invokestatic 102, 3) := by decide +kernel
theorem dX7_spoil_25 : decode cX7_spoil 25 = .ok (.ifCond .ne 7, 3) := by decide +kernel
theorem dX7_spoil_28 : decode cX7_spoil 28 = .ok (.iconst 1, 1) := by decide +kernel
theorem dX7_spoil_29 : decode cX7_spoil 29 = .ok (.goto 4, 3) := by decide +kernel
theorem dX7_spoil_32 : decode cX7_spoil 32 = .ok (.iconst 0, 1) := by decide +kernel
theorem dX7_spoil_33 : decode cX7_spoil 33 = .ok (.iconst 2, 1) := by decide +kernel
theorem dX7_spoil_34 : decode cX7_spoil 34 = .ok (.invokevirtual 110, 3) := by decide +kernel
theorem dX7_spoil_37 : decode cX7_spoil 37 = .ok (.ifCond .eq 4, 3) := by decide +kernel
theorem dX7_spoil_40 : decode cX7_spoil 40 = .ok (.return_, 1) := by decide +kernel
theorem dX7_spoil_41 : decode cX7_spoil 41 = .ok (.aload_n 0, 1) := by decide +kernel
theorem dX7_spoil_42 : decode cX7_spoil 42 = .ok (.getfield 93, 3) := by decide +kernel
theorem dX7_spoil_45 : decode cX7_spoil 45 = .ok (.iload_n 1, 1) := by decide +kernel
theorem dX7_spoil_46 : decode cX7_spoil 46 = .ok (.iload_n 2, 1) := by decide +kernel
theorem dX7_spoil_47 : decode cX7_spoil 47 = .ok (.iastore, 1) := by decide +kernel
theorem dX7_spoil_48 : decode cX7_spoil 48 = .ok (.return_, 1) := by decide +kernel
set_option maxRecDepth 20000 in
theorem ggX7_carry_X7_in : GoodIn wsX7_carry wsX7_in := goodIn_r _ [6] (by decide +kernel) (by decide +kernel)
set_option maxRecDepth 20000 in
theorem gX7_carry_X7_in : GoodIn wsX7_carry (va_wsS RX7 102 yX7_in wsX7_in) := goodIn_app (goodIn_of _ (by decide +kernel)) ggX7_carry_X7_in
set_option maxRecDepth 20000 in
theorem ggX7_carry_X7_throwsIf : GoodIn wsX7_carry wsX7_throwsIf := goodIn_r _ [10, 1, 11, 12, 13, 14, 15, 16, 17, 18, 19, 20, 21, 22, 23, 24, 25, 26, 27, 28, 29, 30, 31, 32, 33, 34, 35, 36, 37, 38, 39, 40, 41, 42, 43, 44, 45, 46, 47, 48, 49, 50] (by decide +kernel) (by decide +kernel)
set_option maxRecDepth 20000 in
theorem gX7_carry_X7_throwsIf : GoodIn wsX7_carry (wsV RX7 110 RX7 yX7_throwsIf wsX7_throwsIf) := goodIn_app (goodIn_of _ (by decide +kernel)) ggX7_carry_X7_throwsIf
theorem dX7_carry_0 : decode cX7_carry 0 = .ok (.aload_n 0, 1) := by decide +kernel
theorem dX7_carry_1 : decode cX7_carry 1 = .ok (.iconst 0, 1) := by decide +kernel
theorem dX7_carry_2 : decode cX7_carry 2 = .ok (.putfield 99, 3) := by decide +kernel
theorem dX7_carry_5 : decode cX7_carry 5 = .ok (.aload_n 0, 1) := by decide +kernel
theorem dX7_carry_6 : decode cX7_carry 6 = .ok (.iload_n 1, 1) := by decide +kernel
theorem dX7_carry_7 : decode cX7_carry 7 = .ok (.iconst 0, 1) := by decide +kernel
theorem dX7_carry_8 : decode cX7_carry 8 = .ok (.bipush 99, 2) := by decide +kernel
theorem dX7_carry_10 : decode cX7_carry 10 = .ok (.invokestatic 102, 3) := by decide +kernel
theorem dX7_carry_13 : decode cX7_carry 13 = .ok (.ifCond .ne 7, 3) := by decide +kernel
theorem dX7_carry_16 : decode cX7_carry 16 = .ok (.iconst 1, 1) := by decide +kernel
theorem dX7_carry_17 : decode cX7_carry 17 = .ok (.goto 4, 3) := by decide +kernel
theorem dX7_carry_20 : decode cX7_carry 20 = .ok (.iconst 0, 1) := by decide +kernel
theorem dX7_carry_21 : decode cX7_carry 21 = .ok (.iconst 1, 1) := by decide +kernel
theorem dX7_carry_22 : decode cX7_carry 22 = .ok (.invokevirtual 110, 3) := by decide +kernel
theorem dX7_carry_25 : decode cX7_carry 25 = .ok (.ifCond .eq 4, 3) := by decide +kernel
theorem dX7_carry_28 : decode cX7_carry 28 = .ok (.return_, 1) := by decide +kernel
theorem dX7_carry_29 : decode cX7_carry 29 = .ok (.aload_n 0, 1) := by decide +kernel
theorem dX7_carry_30 : decode cX7_carry 30 = .ok (.iload_n 1, 1) := by decide +kernel
theorem dX7_carry_31 : decode cX7_carry 31 = .ok (.putfield 96, 3) := by decide +kernel
theorem dX7_carry_34 : decode cX7_carry 34 = .ok (.return_, 1) := by decide +kernel
theorem dX7_forceOf_0 : decode cX7_forceOf 0 = .ok (.aload_n 0, 1) := by decide +kernel
theorem dX7_forceOf_1 : decode cX7_forceOf 1 = .ok (.getfield 186, 3) := by decide +kernel
theorem dX7_forceOf_4 : decode cX7_forceOf 4 = .ok (.iconst 1, 1) := by decide +kernel
theorem dX7_forceOf_5 : decode cX7_forceOf 5 = .ok (.isub, 1) := by decide +kernel
theorem dX7_forceOf_6 : decode cX7_forceOf 6 = .ok (.istore_n 3, 1) := by decide +kernel
theorem dX7_forceOf_7 : decode cX7_forceOf 7 = .ok (.iload_n 3, 1) := by decide +kernel
theorem dX7_forceOf_8 : decode cX7_forceOf 8 = .ok (.ifCond .lt 36, 3) := by decide +kernel
theorem dX7_forceOf_11 : decode cX7_forceOf 11 = .ok (.aload_n 0, 1) := by decide +kernel
theorem dX7_forceOf_12 : decode cX7_forceOf 12 = .ok (.getfield 43, 3) := by decide +kernel
theorem dX7_forceOf_15 : decode cX7_forceOf 15 = .ok (.iload_n 3, 1) := by decide +kernel
theorem dX7_forceOf_16 : decode cX7_forceOf 16 = .ok (.iaload, 1) := by decide +kernel
theorem dX7_forceOf_17 : decode cX7_forceOf 17 = .ok (.aload_n 0, 1) := by decide +kernel
theorem dX7_forceOf_18 : decode cX7_forceOf 18 = .ok (.getfield 57, 3) := by decide +kernel
theorem dX7_forceOf_21 : decode cX7_forceOf 21 = .ok (.iload_n 1, 1) := by decide +kernel
theorem dX7_forceOf_22 : decode cX7_forceOf 22 = .ok (.iaload, 1) := by decide +kernel
theorem dX7_forceOf_23 : decode cX7_forceOf 23 = .ok (.bipush 10, 2) := by decide +kernel
theorem dX7_forceOf_25 : decode cX7_forceOf 25 = .ok (.idiv, 1) := by decide +kernel
theorem dX7_forceOf_26 : decode cX7_forceOf 26 = .ok (.iadd, 1) := by decide +kernel
theorem dX7_forceOf_27 : decode cX7_forceOf 27 = .ok (.iload_n 2, 1) := by decide +kernel
theorem dX7_forceOf_28 : decode cX7_forceOf 28 = .ok (.if_icmp .gt 10, 3) := by decide +kernel
theorem dX7_forceOf_31 : decode cX7_forceOf 31 = .ok (.aload_n 0, 1) := by decide +kernel
theorem dX7_forceOf_32 : decode cX7_forceOf 32 = .ok (.getfield 40, 3) := by decide +kernel
theorem dX7_forceOf_35 : decode cX7_forceOf 35 = .ok (.iload_n 3, 1) := by decide +kernel
theorem dX7_forceOf_36 : decode cX7_forceOf 36 = .ok (.iaload, 1) := by decide +kernel
theorem dX7_forceOf_37 : decode cX7_forceOf 37 = .ok (.ireturn, 1) := by decide +kernel
theorem dX7_forceOf_38 : decode cX7_forceOf 38 = .ok (.iinc 3 (-1), 3) := by decide +kernel
theorem dX7_forceOf_41 : decode cX7_forceOf 41 = .ok (.goto (-34), 3) := by decide +kernel
theorem dX7_forceOf_44 : decode cX7_forceOf 44 = .ok (.iconst (-1), 1) := by decide +kernel
theorem dX7_forceOf_45 : decode cX7_forceOf 45 = .ok (.ireturn, 1) := by decide +kernel
set_option maxRecDepth 20000 in
theorem ggX7_force_X7_noTown : GoodIn wsX7_force wsX7_noTown := goodIn_r _ [6, 7, 8, 9, 5, 10, 23, 24, 25, 26, 27, 28, 29, 30, 31, 32, 33, 34, 35, 36, 37, 38, 39, 40, 41, 42, 43, 44, 45, 46, 47, 48, 49, 50, 51, 52, 53, 54, 55, 56, 57, 58, 59, 60, 61, 62] (by decide +kernel) (by decide +kernel)
set_option maxRecDepth 20000 in
theorem gX7_force_X7_noTown : GoodIn wsX7_force (wsV RX7 202 RX7 yX7_noTown wsX7_noTown) := goodIn_app (goodIn_of _ (by decide +kernel)) ggX7_force_X7_noTown
set_option maxRecDepth 20000 in
theorem ggX7_force_X7_throwsIf : GoodIn wsX7_force wsX7_throwsIf := goodIn_r _ [14, 1, 23, 24, 25, 26, 27, 28, 29, 30, 31, 32, 33, 34, 35, 36, 37, 38, 39, 40, 41, 42, 43, 44, 45, 46, 47, 48, 49, 50, 51, 52, 53, 54, 55, 56, 57, 58, 59, 60, 61, 62] (by decide +kernel) (by decide +kernel)
set_option maxRecDepth 20000 in
theorem gX7_force_X7_throwsIf : GoodIn wsX7_force (wsV RX7 110 RX7 yX7_throwsIf wsX7_throwsIf) := goodIn_app (goodIn_of _ (by decide +kernel)) ggX7_force_X7_throwsIf
set_option maxRecDepth 20000 in
theorem ggX7_force_X7_forceOf : GoodIn wsX7_force wsX7_forceOf := goodIn_r _ [18, 19, 20, 21, 22, 23, 24, 25, 26, 27, 28, 29, 30, 31, 32, 33, 34, 35, 36, 37, 38, 39, 40, 41, 42, 43, 44, 45, 46, 47, 48, 49, 50, 51, 52, 53, 54, 55, 56, 57, 58, 59, 60, 61, 62] (by decide +kernel) (by decide +kernel)
set_option maxRecDepth 20000 in
theorem gX7_force_X7_forceOf : GoodIn wsX7_force (wsV RX7 208 RX7 yX7_forceOf wsX7_forceOf) := goodIn_app (goodIn_of _ (by decide +kernel)) ggX7_force_X7_forceOf
theorem dX7_force_0 : decode cX7_force 0 = .ok (.aload_n 0, 1) := by decide +kernel
theorem dX7_force_1 : decode cX7_force 1 = .ok (.iconst 0, 1) := by decide +kernel
theorem dX7_force_2 : decode cX7_force 2 = .ok (.putfield 99, 3) := by decide +kernel
theorem dX7_force_5 : decode cX7_force 5 = .ok (.aload_n 0, 1) := by decide +kernel
theorem dX7_force_6 : decode cX7_force 6 = .ok (.aload_n 0, 1) := by decide +kernel
theorem dX7_force_7 : decode cX7_force 7 = .ok (.iload_n 1, 1) := by decide +kernel
theorem dX7_force_8 : decode cX7_force 8 = .ok (.invokevirtual 202, 3) := by decide +kernel
theorem dX7_force_11 : decode cX7_force 11 = .ok (.iconst 1, 1) := by decide +kernel
theorem dX7_force_12 : decode cX7_force 12 = .ok (.invokevirtual 110, 3) := by decide +kernel
theorem dX7_force_15 : decode cX7_force 15 = .ok (.ifCond .eq 7, 3) := by decide +kernel
theorem dX7_force_18 : decode cX7_force 18 = .ok (.iconst 0, 1) := by decide +kernel
theorem dX7_force_19 : decode cX7_force 19 = .ok (.goto 9, 3) := by decide +kernel
theorem dX7_force_22 : decode cX7_force 22 = .ok (.aload_n 0, 1) := by decide +kernel
theorem dX7_force_23 : decode cX7_force 23 = .ok (.iload_n 1, 1) := by decide +kernel
theorem dX7_force_24 : decode cX7_force 24 = .ok (.iload_n 2, 1) := by decide +kernel
theorem dX7_force_25 : decode cX7_force 25 = .ok (.invokevirtual 208, 3) := by decide +kernel
theorem dX7_force_28 : decode cX7_force 28 = .ok (.ireturn, 1) := by decide +kernel
set_option maxRecDepth 20000 in
theorem ggX7_capOf_X7_forceOf : GoodIn wsX7_capOf wsX7_forceOf := goodIn_r _ [11, 12, 13, 5, 14, 32, 33, 34, 35, 36, 37, 38, 39, 40, 41, 42, 43, 44, 45, 46, 47, 48, 49, 50, 51, 52, 53, 54, 55, 56, 57, 58, 59, 60, 61, 62, 63, 64, 65, 66, 67, 68, 69, 70, 71] (by decide +kernel) (by decide +kernel)
set_option maxRecDepth 20000 in
theorem gX7_capOf_X7_forceOf : GoodIn wsX7_capOf (wsV RX7 208 RX7 yX7_forceOf wsX7_forceOf) := goodIn_app (goodIn_of _ (by decide +kernel)) ggX7_capOf_X7_forceOf
set_option maxRecDepth 20000 in
theorem ggX7_capOf_X7_extreme : GoodIn wsX7_capOf wsX7_extreme := goodIn_r _ [18, 19, 20, 21, 10, 22, 23, 24, 25, 26, 27, 28, 29, 30, 31, 32, 33, 34, 35, 36, 37, 38, 39, 40, 41, 42, 43, 44, 45, 46, 47, 48, 49, 50, 51, 52, 53, 54, 55, 56, 57, 58, 59, 60, 61, 62, 63, 64, 65, 66, 67, 68, 69, 70, 71] (by decide +kernel) (by decide +kernel)
set_option maxRecDepth 20000 in
theorem gX7_capOf_X7_extreme : GoodIn wsX7_capOf (wsV RX7 137 RX7 yX7_extreme wsX7_extreme) := goodIn_app (goodIn_of _ (by decide +kernel)) ggX7_capOf_X7_extreme
theorem dX7_capOf_0 : decode cX7_capOf 0 = .ok (.aload_n 0, 1) := by decide +kernel
theorem dX7_capOf_1 : decode cX7_capOf 1 = .ok (.iload_n 1, 1) := by decide +kernel
theorem dX7_capOf_2 : decode cX7_capOf 2 = .ok (.iload 4, 2) := by decide +kernel
theorem dX7_capOf_4 : decode cX7_capOf 4 = .ok (.invokevirtual 208, 3) := by decide +kernel
theorem dX7_capOf_7 : decode cX7_capOf 7 = .ok (.istore 5, 2) := by decide +kernel
theorem dX7_capOf_9 : decode cX7_capOf 9 = .ok (.iload 5, 2) := by decide +kernel
theorem dX7_capOf_11 : decode cX7_capOf 11 = .ok (.ifCond .lt 18, 3) := by decide +kernel
theorem dX7_capOf_14 : decode cX7_capOf 14 = .ok (.aload_n 0, 1) := by decide +kernel
theorem dX7_capOf_15 : decode cX7_capOf 15 = .ok (.getfield 37, 3) := by decide +kernel
theorem dX7_capOf_18 : decode cX7_capOf 18 = .ok (.iload 5, 2) := by decide +kernel
theorem dX7_capOf_20 : decode cX7_capOf 20 = .ok (.iaload, 1) := by decide +kernel
theorem dX7_capOf_21 : decode cX7_capOf 21 = .ok (.iload_n 1, 1) := by decide +kernel
theorem dX7_capOf_22 : decode cX7_capOf 22 = .ok (.ishr, 1) := by decide +kernel
theorem dX7_capOf_23 : decode cX7_capOf 23 = .ok (.iconst 1, 1) := by decide +kernel
theorem dX7_capOf_24 : decode cX7_capOf 24 = .ok (.iand, 1) := by decide +kernel
theorem dX7_capOf_25 : decode cX7_capOf 25 = .ok (.iconst 1, 1) := by decide +kernel
theorem dX7_capOf_26 : decode cX7_capOf 26 = .ok (.if_icmp .ne 5, 3) := by decide +kernel
theorem dX7_capOf_29 : decode cX7_capOf 29 = .ok (.iconst (-1), 1) := by decide +kernel
theorem dX7_capOf_30 : decode cX7_capOf 30 = .ok (.ireturn, 1) := by decide +kernel
theorem dX7_capOf_31 : decode cX7_capOf 31 = .ok (.aload_n 0, 1) := by decide +kernel
theorem dX7_capOf_32 : decode cX7_capOf 32 = .ok (.getfield 25, 3) := by decide +kernel
theorem dX7_capOf_35 : decode cX7_capOf 35 = .ok (.bipush 6, 2) := by decide +kernel
theorem dX7_capOf_37 : decode cX7_capOf 37 = .ok (.iload 5, 2) := by decide +kernel
theorem dX7_capOf_39 : decode cX7_capOf 39 = .ok (.imul, 1) := by decide +kernel
theorem dX7_capOf_40 : decode cX7_capOf 40 = .ok (.iload_n 2, 1) := by decide +kernel
theorem dX7_capOf_41 : decode cX7_capOf 41 = .ok (.iadd, 1) := by decide +kernel
theorem dX7_capOf_42 : decode cX7_capOf 42 = .ok (.iaload, 1) := by decide +kernel
theorem dX7_capOf_43 : decode cX7_capOf 43 = .ok (.istore 6, 2) := by decide +kernel
theorem dX7_capOf_45 : decode cX7_capOf 45 = .ok (.aload_n 0, 1) := by decide +kernel
theorem dX7_capOf_46 : decode cX7_capOf 46 = .ok (.getfield 28, 3) := by decide +kernel
theorem dX7_capOf_49 : decode cX7_capOf 49 = .ok (.bipush 6, 2) := by decide +kernel
theorem dX7_capOf_51 : decode cX7_capOf 51 = .ok (.iload 5, 2) := by decide +kernel
theorem dX7_capOf_53 : decode cX7_capOf 53 = .ok (.imul, 1) := by decide +kernel
theorem dX7_capOf_54 : decode cX7_capOf 54 = .ok (.iload_n 2, 1) := by decide +kernel
theorem dX7_capOf_55 : decode cX7_capOf 55 = .ok (.iadd, 1) := by decide +kernel
theorem dX7_capOf_56 : decode cX7_capOf 56 = .ok (.iaload, 1) := by decide +kernel
theorem dX7_capOf_57 : decode cX7_capOf 57 = .ok (.istore 7, 2) := by decide +kernel
theorem dX7_capOf_59 : decode cX7_capOf 59 = .ok (.iload 7, 2) := by decide +kernel
theorem dX7_capOf_61 : decode cX7_capOf 61 = .ok (.ifCond .lt 24, 3) := by decide +kernel
theorem dX7_capOf_64 : decode cX7_capOf 64 = .ok (.aload_n 0, 1) := by decide +kernel
theorem dX7_capOf_65 : decode cX7_capOf 65 = .ok (.iload 7, 2) := by decide +kernel
theorem dX7_capOf_67 : decode cX7_capOf 67 = .ok (.iload 4, 2) := by decide +kernel
theorem dX7_capOf_69 : decode cX7_capOf 69 = .ok (.iconst 1, 1) := by decide +kernel
theorem dX7_capOf_70 : decode cX7_capOf 70 = .ok (.invokevirtual 137, 3) := by decide +kernel
theorem dX7_capOf_73 : decode cX7_capOf 73 = .ok (.istore 6, 2) := by decide +kernel
theorem dX7_capOf_75 : decode cX7_capOf 75 = .ok (.iload 6, 2) := by decide +kernel
theorem dX7_capOf_77 : decode cX7_capOf 77 = .ok (.ifCond .ge 8, 3) := by decide +kernel
theorem dX7_capOf_80 : decode cX7_capOf 80 = .ok (.sipush 9999, 3) := by decide +kernel
theorem dX7_capOf_83 : decode cX7_capOf 83 = .ok (.istore 6, 2) := by decide +kernel
theorem dX7_capOf_85 : decode cX7_capOf 85 = .ok (.iload 6, 2) := by decide +kernel
theorem dX7_capOf_87 : decode cX7_capOf 87 = .ok (.ifCond .ge 5, 3) := by decide +kernel
theorem dX7_capOf_90 : decode cX7_capOf 90 = .ok (.iconst (-1), 1) := by decide +kernel
theorem dX7_capOf_91 : decode cX7_capOf 91 = .ok (.ireturn, 1) := by decide +kernel
theorem dX7_capOf_92 : decode cX7_capOf 92 = .ok (.iload 6, 2) := by decide +kernel
theorem dX7_capOf_94 : decode cX7_capOf 94 = .ok (.aload_n 0, 1) := by decide +kernel
theorem dX7_capOf_95 : decode cX7_capOf 95 = .ok (.getfield 31, 3) := by decide +kernel
theorem dX7_capOf_98 : decode cX7_capOf 98 = .ok (.iload 5, 2) := by decide +kernel
theorem dX7_capOf_100 : decode cX7_capOf 100 = .ok (.iaload, 1) := by decide +kernel
theorem dX7_capOf_101 : decode cX7_capOf 101 = .ok (.aload_n 0, 1) := by decide +kernel
theorem dX7_capOf_102 : decode cX7_capOf 102 = .ok (.getfield 57, 3) := by decide +kernel
theorem dX7_capOf_105 : decode cX7_capOf 105 = .ok (.iload_n 1, 1) := by decide +kernel
theorem dX7_capOf_106 : decode cX7_capOf 106 = .ok (.iaload, 1) := by decide +kernel
theorem dX7_capOf_107 : decode cX7_capOf 107 = .ok (.bipush 10, 2) := by decide +kernel
theorem dX7_capOf_109 : decode cX7_capOf 109 = .ok (.idiv, 1) := by decide +kernel
theorem dX7_capOf_110 : decode cX7_capOf 110 = .ok (.imul, 1) := by decide +kernel
theorem dX7_capOf_111 : decode cX7_capOf 111 = .ok (.iadd, 1) := by decide +kernel
theorem dX7_capOf_112 : decode cX7_capOf 112 = .ok (.istore 6, 2) := by decide +kernel
theorem dX7_capOf_114 : decode cX7_capOf 114 = .ok (.iload_n 3, 1) := by decide +kernel
theorem dX7_capOf_115 : decode cX7_capOf 115 = .ok (.ifCond .eq 22, 3) := by decide +kernel
theorem dX7_capOf_118 : decode cX7_capOf 118 = .ok (.iload 6, 2) := by decide +kernel
theorem dX7_capOf_120 : decode cX7_capOf 120 = .ok (.iload 6, 2) := by decide +kernel
theorem dX7_capOf_122 : decode cX7_capOf 122 = .ok (.aload_n 0, 1) := by decide +kernel
theorem dX7_capOf_123 : decode cX7_capOf 123 = .ok (.getfield 34, 3) := by decide +kernel
theorem dX7_capOf_126 : decode cX7_capOf 126 = .ok (.iload 5, 2) := by decide +kernel
theorem dX7_capOf_128 : decode cX7_capOf 128 = .ok (.iaload, 1) := by decide +kernel
theorem dX7_capOf_129 : decode cX7_capOf 129 = .ok (.imul, 1) := by decide +kernel
theorem dX7_capOf_130 : decode cX7_capOf 130 = .ok (.bipush 100, 2) := by decide +kernel
theorem dX7_capOf_132 : decode cX7_capOf 132 = .ok (.idiv, 1) := by decide +kernel
theorem dX7_capOf_133 : decode cX7_capOf 133 = .ok (.iadd, 1) := by decide +kernel
theorem dX7_capOf_134 : decode cX7_capOf 134 = .ok (.goto 5, 3) := by decide +kernel
theorem dX7_capOf_137 : decode cX7_capOf 137 = .ok (.iload 6, 2) := by decide +kernel
theorem dX7_capOf_139 : decode cX7_capOf 139 = .ok (.ireturn, 1) := by decide +kernel
set_option maxRecDepth 20000 in
theorem ggX7_cap_X7_noTown : GoodIn wsX7_cap wsX7_noTown := goodIn_r _ [6, 7, 8, 9, 5, 10, 49, 50, 51, 52, 53, 54, 55, 56, 57, 58, 59, 60, 61, 62, 63, 64, 65, 66, 67, 68, 69, 70, 71, 72, 73, 74, 75, 76, 77, 78, 79, 80, 81, 82, 83, 84, 85, 86, 87, 88] (by decide +kernel) (by decide +kernel)
set_option maxRecDepth 20000 in
theorem gX7_cap_X7_noTown : GoodIn wsX7_cap (wsV RX7 202 RX7 yX7_noTown wsX7_noTown) := goodIn_app (goodIn_of _ (by decide +kernel)) ggX7_cap_X7_noTown
set_option maxRecDepth 20000 in
theorem ggX7_cap_X7_noThing : GoodIn wsX7_cap wsX7_noThing := goodIn_r _ [13, 8, 9, 5, 10] (by decide +kernel) (by decide +kernel)
set_option maxRecDepth 20000 in
theorem gX7_cap_X7_noThing : GoodIn wsX7_cap (va_wsS RX7 205 yX7_noThing wsX7_noThing) := goodIn_app (goodIn_of _ (by decide +kernel)) ggX7_cap_X7_noThing
set_option maxRecDepth 20000 in
theorem ggX7_cap_X7_throwsIf : GoodIn wsX7_cap wsX7_throwsIf := goodIn_r _ [17, 1, 49, 50, 51, 52, 53, 54, 55, 56, 57, 58, 59, 60, 61, 62, 63, 64, 65, 66, 67, 68, 69, 70, 71, 72, 73, 74, 75, 76, 77, 78, 79, 80, 81, 82, 83, 84, 85, 86, 87, 88] (by decide +kernel) (by decide +kernel)
set_option maxRecDepth 20000 in
theorem gX7_cap_X7_throwsIf : GoodIn wsX7_cap (wsV RX7 110 RX7 yX7_throwsIf wsX7_throwsIf) := goodIn_app (goodIn_of _ (by decide +kernel)) ggX7_cap_X7_throwsIf
set_option maxRecDepth 20000 in
theorem ggX7_cap_X7_capOf : GoodIn wsX7_cap wsX7_capOf := goodIn_r _ [21, 22, 23, 24, 25, 26, 27, 28, 29, 30, 5, 31, 32, 33, 34, 35, 36, 37, 38, 39, 40, 41, 42, 43, 44, 45, 46, 47, 48, 8, 9, 10, 49, 50, 51, 52, 53, 54, 55, 56, 57, 58, 59, 60, 61, 62, 63, 64, 65, 66, 67, 68, 69, 70, 71, 72, 73, 74, 75, 76, 77, 78, 79, 80, 81, 82, 83, 84, 85, 86, 87, 88] (by decide +kernel) (by decide +kernel)
set_option maxRecDepth 20000 in
theorem gX7_cap_X7_capOf : GoodIn wsX7_cap (wsV RX7 211 RX7 yX7_capOf wsX7_capOf) := goodIn_app (goodIn_of _ (by decide +kernel)) ggX7_cap_X7_capOf
theorem dX7_cap_0 : decode cX7_cap 0 = .ok (.aload_n 0, 1) := by decide +kernel
theorem dX7_cap_1 : decode cX7_cap 1 = .ok (.iconst 0, 1) := by decide +kernel
theorem dX7_cap_2 : decode cX7_cap 2 = .ok (.putfield 99, 3) := by decide +kernel
theorem dX7_cap_5 : decode cX7_cap 5 = .ok (.aload_n 0, 1) := by decide +kernel
theorem dX7_cap_6 : decode cX7_cap 6 = .ok (.aload_n 0, 1) := by decide +kernel
theorem dX7_cap_7 : decode cX7_cap 7 = .ok (.iload_n 1, 1) := by decide +kernel
theorem dX7_cap_8 : decode cX7_cap 8 = .ok (.invokevirtual 202, 3) := by decide +kernel
theorem dX7_cap_11 : decode cX7_cap 11 = .ok (.ifCond .ne 10, 3) := by decide +kernel
theorem dX7_cap_14 : decode cX7_cap 14 = .ok (.iload_n 2, 1) := by decide +kernel
theorem dX7_cap_15 : decode cX7_cap 15 = .ok (.invokestatic 205, 3) := by decide +kernel
theorem dX7_cap_18 : decode cX7_cap 18 = .ok (.ifCond .eq 7, 3) := by decide +kernel
theorem dX7_cap_21 : decode cX7_cap 21 = .ok (.iconst 1, 1) := by decide +kernel
theorem dX7_cap_22 : decode cX7_cap 22 = .ok (.goto 4, 3) := by decide +kernel
theorem dX7_cap_25 : decode cX7_cap 25 = .ok (.iconst 0, 1) := by decide +kernel
theorem dX7_cap_26 : decode cX7_cap 26 = .ok (.iconst 1, 1) := by decide +kernel
theorem dX7_cap_27 : decode cX7_cap 27 = .ok (.invokevirtual 110, 3) := by decide +kernel
theorem dX7_cap_30 : decode cX7_cap 30 = .ok (.ifCond .eq 7, 3) := by decide +kernel
theorem dX7_cap_33 : decode cX7_cap 33 = .ok (.iconst 0, 1) := by decide +kernel
theorem dX7_cap_34 : decode cX7_cap 34 = .ok (.goto 12, 3) := by decide +kernel
theorem dX7_cap_37 : decode cX7_cap 37 = .ok (.aload_n 0, 1) := by decide +kernel
theorem dX7_cap_38 : decode cX7_cap 38 = .ok (.iload_n 1, 1) := by decide +kernel
theorem dX7_cap_39 : decode cX7_cap 39 = .ok (.iload_n 2, 1) := by decide +kernel
theorem dX7_cap_40 : decode cX7_cap 40 = .ok (.iload_n 3, 1) := by decide +kernel
theorem dX7_cap_41 : decode cX7_cap 41 = .ok (.iload 4, 2) := by decide +kernel
theorem dX7_cap_43 : decode cX7_cap 43 = .ok (.invokevirtual 211, 3) := by decide +kernel
theorem dX7_cap_46 : decode cX7_cap 46 = .ok (.ireturn, 1) := by decide +kernel
set_option maxRecDepth 20000 in
theorem ggX7_judge_X7_noTown : GoodIn wsX7_judge wsX7_noTown := goodIn_r _ [6, 7, 8, 9, 5, 10, 49, 50, 51, 52, 53, 54, 55, 56, 57, 58, 59, 60, 61, 62, 63, 64, 65, 66, 67, 68, 69, 70, 71, 72, 73, 74, 75, 76, 77, 78, 79, 80, 81, 82, 83, 84, 85, 86, 87, 88] (by decide +kernel) (by decide +kernel)
set_option maxRecDepth 20000 in
theorem gX7_judge_X7_noTown : GoodIn wsX7_judge (wsV RX7 202 RX7 yX7_noTown wsX7_noTown) := goodIn_app (goodIn_of _ (by decide +kernel)) ggX7_judge_X7_noTown
set_option maxRecDepth 20000 in
theorem ggX7_judge_X7_noThing : GoodIn wsX7_judge wsX7_noThing := goodIn_r _ [13, 8, 9, 5, 10] (by decide +kernel) (by decide +kernel)
set_option maxRecDepth 20000 in
theorem gX7_judge_X7_noThing : GoodIn wsX7_judge (va_wsS RX7 205 yX7_noThing wsX7_noThing) := goodIn_app (goodIn_of _ (by decide +kernel)) ggX7_judge_X7_noThing
set_option maxRecDepth 20000 in
theorem ggX7_judge_X7_throwsIf : GoodIn wsX7_judge wsX7_throwsIf := goodIn_r _ [17, 1, 49, 50, 51, 52, 53, 54, 55, 56, 57, 58, 59, 60, 61, 62, 63, 64, 65, 66, 67, 68, 69, 70, 71, 72, 73, 74, 75, 76, 77, 78, 79, 80, 81, 82, 83, 84, 85, 86, 87, 88] (by decide +kernel) (by decide +kernel)
set_option maxRecDepth 20000 in
theorem gX7_judge_X7_throwsIf : GoodIn wsX7_judge (wsV RX7 110 RX7 yX7_throwsIf wsX7_throwsIf) := goodIn_app (goodIn_of _ (by decide +kernel)) ggX7_judge_X7_throwsIf
set_option maxRecDepth 20000 in
theorem ggX7_judge_X7_capOf : GoodIn wsX7_judge wsX7_capOf := goodIn_r _ [21, 22, 23, 24, 25, 26, 27, 28, 29, 30, 5, 31, 32, 33, 34, 35, 36, 37, 38, 39, 40, 41, 42, 43, 44, 45, 46, 47, 48, 8, 9, 10, 49, 50, 51, 52, 53, 54, 55, 56, 57, 58, 59, 60, 61, 62, 63, 64, 65, 66, 67, 68, 69, 70, 71, 72, 73, 74, 75, 76, 77, 78, 79, 80, 81, 82, 83, 84, 85, 86, 87, 88] (by decide +kernel) (by decide +kernel)
set_option maxRecDepth 20000 in
theorem gX7_judge_X7_capOf : GoodIn wsX7_judge (wsV RX7 211 RX7 yX7_capOf wsX7_capOf) := goodIn_app (goodIn_of _ (by decide +kernel)) ggX7_judge_X7_capOf
theorem dX7_judge_0 : decode cX7_judge 0 = .ok (.aload_n 0, 1) := by decide +kernel
theorem dX7_judge_1 : decode cX7_judge 1 = .ok (.iconst 0, 1) := by decide +kernel
theorem dX7_judge_2 : decode cX7_judge 2 = .ok (.putfield 99, 3) := by decide +kernel
theorem dX7_judge_5 : decode cX7_judge 5 = .ok (.aload_n 0, 1) := by decide +kernel
theorem dX7_judge_6 : decode cX7_judge 6 = .ok (.aload_n 0, 1) := by decide +kernel
theorem dX7_judge_7 : decode cX7_judge 7 = .ok (.iload_n 1, 1) := by decide +kernel
theorem dX7_judge_8 : decode cX7_judge 8 = .ok (.invokevirtual 202, 3) := by decide +kernel
theorem dX7_judge_11 : decode cX7_judge 11 = .ok (.ifCond .ne 10, 3) := by decide +kernel
theorem dX7_judge_14 : decode cX7_judge 14 = .ok (.iload_n 2, 1) := by decide +kernel
theorem dX7_judge_15 : decode cX7_judge 15 = .ok (.invokestatic 205, 3) := by decide +kernel
theorem dX7_judge_18 : decode cX7_judge 18 = .ok (.ifCond .eq 7, 3) := by decide +kernel
theorem dX7_judge_21 : decode cX7_judge 21 = .ok (.iconst 1, 1) := by decide +kernel
theorem dX7_judge_22 : decode cX7_judge 22 = .ok (.goto 4, 3) := by decide +kernel
theorem dX7_judge_25 : decode cX7_judge 25 = .ok (.iconst 0, 1) := by decide +kernel
theorem dX7_judge_26 : decode cX7_judge 26 = .ok (.iconst 1, 1) := by decide +kernel
theorem dX7_judge_27 : decode cX7_judge 27 = .ok (.invokevirtual 110, 3) := by decide +kernel
theorem dX7_judge_30 : decode cX7_judge 30 = .ok (.ifCond .ne 20, 3) := by decide +kernel
theorem dX7_judge_33 : decode cX7_judge 33 = .ok (.aload_n 0, 1) := by decide +kernel
theorem dX7_judge_34 : decode cX7_judge 34 = .ok (.iload_n 3, 1) := by decide +kernel
theorem dX7_judge_35 : decode cX7_judge 35 = .ok (.ifCond .ge 7, 3) := by decide +kernel
theorem dX7_judge_38 : decode cX7_judge 38 = .ok (.iconst 1, 1) := by decide +kernel
theorem dX7_judge_39 : decode cX7_judge 39 = .ok (.goto 4, 3) := by decide +kernel
theorem dX7_judge_42 : decode cX7_judge 42 = .ok (.iconst 0, 1) := by decide +kernel
theorem dX7_judge_43 : decode cX7_judge 43 = .ok (.iconst 2, 1) := by decide +kernel
theorem dX7_judge_44 : decode cX7_judge 44 = .ok (.invokevirtual 110, 3) := by decide +kernel
theorem dX7_judge_47 : decode cX7_judge 47 = .ok (.ifCond .eq 5, 3) := by decide +kernel
theorem dX7_judge_50 : decode cX7_judge 50 = .ok (.iconst 0, 1) := by decide +kernel
theorem dX7_judge_51 : decode cX7_judge 51 = .ok (.ireturn, 1) := by decide +kernel
theorem dX7_judge_52 : decode cX7_judge 52 = .ok (.aload_n 0, 1) := by decide +kernel
theorem dX7_judge_53 : decode cX7_judge 53 = .ok (.iload_n 1, 1) := by decide +kernel
theorem dX7_judge_54 : decode cX7_judge 54 = .ok (.iload_n 2, 1) := by decide +kernel
theorem dX7_judge_55 : decode cX7_judge 55 = .ok (.iload 4, 2) := by decide +kernel
theorem dX7_judge_57 : decode cX7_judge 57 = .ok (.iload 5, 2) := by decide +kernel
theorem dX7_judge_59 : decode cX7_judge 59 = .ok (.invokevirtual 211, 3) := by decide +kernel
theorem dX7_judge_62 : decode cX7_judge 62 = .ok (.istore 6, 2) := by decide +kernel
theorem dX7_judge_64 : decode cX7_judge 64 = .ok (.iload 6, 2) := by decide +kernel
theorem dX7_judge_66 : decode cX7_judge 66 = .ok (.ifCond .lt 13, 3) := by decide +kernel
theorem dX7_judge_69 : decode cX7_judge 69 = .ok (.iload_n 3, 1) := by decide +kernel
theorem dX7_judge_70 : decode cX7_judge 70 = .ok (.iload 6, 2) := by decide +kernel
theorem dX7_judge_72 : decode cX7_judge 72 = .ok (.if_icmp .le 7, 3) := by decide +kernel
theorem dX7_judge_75 : decode cX7_judge 75 = .ok (.iconst 1, 1) := by decide +kernel
theorem dX7_judge_76 : decode cX7_judge 76 = .ok (.goto 4, 3) := by decide +kernel
theorem dX7_judge_79 : decode cX7_judge 79 = .ok (.iconst 0, 1) := by decide +kernel
theorem dX7_judge_80 : decode cX7_judge 80 = .ok (.ireturn, 1) := by decide +kernel
set_option maxRecDepth 20000 in
theorem ggX7_priceOf_X7_capOf : GoodIn wsX7_priceOf wsX7_capOf := goodIn_r _ [7, 8, 9, 10, 11, 12, 13, 14, 15, 16, 6, 17, 18, 19, 20, 21, 22, 23, 24, 25, 26, 27, 28, 29, 30, 31, 32, 33, 34, 35, 36, 37, 38, 39, 40, 41, 42, 43, 44, 45, 46, 47, 48, 49, 50, 51, 52, 53, 54, 55, 56, 57, 58, 59, 60, 61, 62, 63, 64, 65, 66, 67, 68, 69, 70, 71, 72, 73, 74, 75, 76, 77] (by decide +kernel) (by decide +kernel)
set_option maxRecDepth 20000 in
theorem gX7_priceOf_X7_capOf : GoodIn wsX7_priceOf (wsV RX7 211 RX7 yX7_capOf wsX7_capOf) := goodIn_app (goodIn_of _ (by decide +kernel)) ggX7_priceOf_X7_capOf
theorem dX7_priceOf_0 : decode cX7_priceOf 0 = .ok (.aload_n 0, 1) := by decide +kernel
theorem dX7_priceOf_1 : decode cX7_priceOf 1 = .ok (.iload_n 1, 1) := by decide +kernel
theorem dX7_priceOf_2 : decode cX7_priceOf 2 = .ok (.iload_n 2, 1) := by decide +kernel
theorem dX7_priceOf_3 : decode cX7_priceOf 3 = .ok (.iconst 0, 1) := by decide +kernel
theorem dX7_priceOf_4 : decode cX7_priceOf 4 = .ok (.aload_n 0, 1) := by decide +kernel
theorem dX7_priceOf_5 : decode cX7_priceOf 5 = .ok (.getfield 117, 3) := by decide +kernel
theorem dX7_priceOf_8 : decode cX7_priceOf 8 = .ok (.invokevirtual 211, 3) := by decide +kernel
theorem dX7_priceOf_11 : decode cX7_priceOf 11 = .ok (.istore_n 3, 1) := by decide +kernel
theorem dX7_priceOf_12 : decode cX7_priceOf 12 = .ok (.aload_n 0, 1) := by decide +kernel
theorem dX7_priceOf_13 : decode cX7_priceOf 13 = .ok (.getfield 63, 3) := by decide +kernel
theorem dX7_priceOf_16 : decode cX7_priceOf 16 = .ok (.bipush 6, 2) := by decide +kernel
theorem dX7_priceOf_18 : decode cX7_priceOf 18 = .ok (.iload_n 1, 1) := by decide +kernel
theorem dX7_priceOf_19 : decode cX7_priceOf 19 = .ok (.imul, 1) := by decide +kernel
theorem dX7_priceOf_20 : decode cX7_priceOf 20 = .ok (.iload_n 2, 1) := by decide +kernel
theorem dX7_priceOf_21 : decode cX7_priceOf 21 = .ok (.iadd, 1) := by decide +kernel
theorem dX7_priceOf_22 : decode cX7_priceOf 22 = .ok (.iaload, 1) := by decide +kernel
theorem dX7_priceOf_23 : decode cX7_priceOf 23 = .ok (.istore 4, 2) := by decide +kernel
theorem dX7_priceOf_25 : decode cX7_priceOf 25 = .ok (.iload_n 3, 1) := by decide +kernel
theorem dX7_priceOf_26 : decode cX7_priceOf 26 = .ok (.ifCond .lt 13, 3) := by decide +kernel
theorem dX7_priceOf_29 : decode cX7_priceOf 29 = .ok (.iload_n 3, 1) := by decide +kernel
theorem dX7_priceOf_30 : decode cX7_priceOf 30 = .ok (.iload 4, 2) := by decide +kernel
theorem dX7_priceOf_32 : decode cX7_priceOf 32 = .ok (.if_icmp .ge 7, 3) := by decide +kernel
theorem dX7_priceOf_35 : decode cX7_priceOf 35 = .ok (.iload_n 3, 1) := by decide +kernel
theorem dX7_priceOf_36 : decode cX7_priceOf 36 = .ok (.goto 5, 3) := by decide +kernel
theorem dX7_priceOf_39 : decode cX7_priceOf 39 = .ok (.iload 4, 2) := by decide +kernel
theorem dX7_priceOf_41 : decode cX7_priceOf 41 = .ok (.ireturn, 1) := by decide +kernel
set_option maxRecDepth 20000 in
theorem ggX7_market_X7_priceOf : GoodIn wsX7_market wsX7_priceOf := goodIn_r _ [23, 24, 7, 25, 26, 27, 22, 28, 29, 30, 31, 32, 3, 33, 34, 35, 36, 37, 38, 39, 40, 41, 42, 43, 44, 45, 46, 47, 48, 49, 50, 51, 52, 53, 54, 55, 56, 57, 58, 59, 60, 61, 62, 63, 64, 65, 66, 67, 68, 69, 70, 71, 72, 73, 74, 75, 76, 77, 78, 79, 80, 81, 82, 83, 84, 85, 86, 87, 88, 89, 90, 91, 92, 93, 94, 95, 96, 97] (by decide +kernel) (by decide +kernel)
set_option maxRecDepth 20000 in
theorem gX7_market_X7_priceOf : GoodIn wsX7_market (wsV RX7 215 RX7 yX7_priceOf wsX7_priceOf) := goodIn_app (goodIn_of _ (by decide +kernel)) ggX7_market_X7_priceOf
theorem dX7_market_0 : decode cX7_market 0 = .ok (.bipush 6, 2) := by decide +kernel
theorem dX7_market_2 : decode cX7_market 2 = .ok (.iload_n 1, 1) := by decide +kernel
theorem dX7_market_3 : decode cX7_market 3 = .ok (.imul, 1) := by decide +kernel
theorem dX7_market_4 : decode cX7_market 4 = .ok (.iload_n 2, 1) := by decide +kernel
theorem dX7_market_5 : decode cX7_market 5 = .ok (.iadd, 1) := by decide +kernel
theorem dX7_market_6 : decode cX7_market 6 = .ok (.istore_n 3, 1) := by decide +kernel
theorem dX7_market_7 : decode cX7_market 7 = .ok (.aload_n 0, 1) := by decide +kernel
theorem dX7_market_8 : decode cX7_market 8 = .ok (.iload_n 1, 1) := by decide +kernel
theorem dX7_market_9 : decode cX7_market 9 = .ok (.iload_n 2, 1) := by decide +kernel
theorem dX7_market_10 : decode cX7_market 10 = .ok (.invokevirtual 215, 3) := by decide +kernel
theorem dX7_market_13 : decode cX7_market 13 = .ok (.istore 4, 2) := by decide +kernel
theorem dX7_market_15 : decode cX7_market 15 = .ok (.iload 4, 2) := by decide +kernel
theorem dX7_market_17 : decode cX7_market 17 = .ok (.aload_n 0, 1) := by decide +kernel
theorem dX7_market_18 : decode cX7_market 18 = .ok (.getfield 60, 3) := by decide +kernel
theorem dX7_market_21 : decode cX7_market 21 = .ok (.iload_n 3, 1) := by decide +kernel
theorem dX7_market_22 : decode cX7_market 22 = .ok (.iaload, 1) := by decide +kernel
theorem dX7_market_23 : decode cX7_market 23 = .ok (.aload_n 0, 1) := by decide +kernel
theorem dX7_market_24 : decode cX7_market 24 = .ok (.getfield 96, 3) := by decide +kernel
theorem dX7_market_27 : decode cX7_market 27 = .ok (.aload_n 0, 1) := by decide +kernel
theorem dX7_market_28 : decode cX7_market 28 = .ok (.getfield 57, 3) := by decide +kernel
theorem dX7_market_31 : decode cX7_market 31 = .ok (.iload_n 1, 1) := by decide +kernel
theorem dX7_market_32 : decode cX7_market 32 = .ok (.iaload, 1) := by decide +kernel
theorem dX7_market_33 : decode cX7_market 33 = .ok (.imul, 1) := by decide +kernel
theorem dX7_market_34 : decode cX7_market 34 = .ok (.bipush 10, 2) := by decide +kernel
theorem dX7_market_36 : decode cX7_market 36 = .ok (.idiv, 1) := by decide +kernel
theorem dX7_market_37 : decode cX7_market 37 = .ok (.iadd, 1) := by decide +kernel
theorem dX7_market_38 : decode cX7_market 38 = .ok (.if_icmp .lt 33, 3) := by decide +kernel
theorem dX7_market_41 : decode cX7_market 41 = .ok (.aload_n 0, 1) := by decide +kernel
theorem dX7_market_42 : decode cX7_market 42 = .ok (.getfield 72, 3) := by decide +kernel
theorem dX7_market_45 : decode cX7_market 45 = .ok (.iload_n 3, 1) := by decide +kernel
theorem dX7_market_46 : decode cX7_market 46 = .ok (.dup2, 1) := by decide +kernel
theorem dX7_market_47 : decode cX7_market 47 = .ok (.iaload, 1) := by decide +kernel
theorem dX7_market_48 : decode cX7_market 48 = .ok (.aload_n 0, 1) := by decide +kernel
theorem dX7_market_49 : decode cX7_market 49 = .ok (.getfield 66, 3) := by decide +kernel
theorem dX7_market_52 : decode cX7_market 52 = .ok (.iload_n 3, 1) := by decide +kernel
theorem dX7_market_53 : decode cX7_market 53 = .ok (.iaload, 1) := by decide +kernel
theorem dX7_market_54 : decode cX7_market 54 = .ok (.iadd, 1) := by decide +kernel
theorem dX7_market_55 : decode cX7_market 55 = .ok (.iastore, 1) := by decide +kernel
theorem dX7_market_56 : decode cX7_market 56 = .ok (.aload_n 0, 1) := by decide +kernel
theorem dX7_market_57 : decode cX7_market 57 = .ok (.getfield 78, 3) := by decide +kernel
theorem dX7_market_60 : decode cX7_market 60 = .ok (.iload_n 3, 1) := by decide +kernel
theorem dX7_market_61 : decode cX7_market 61 = .ok (.dup2, 1) := by decide +kernel
theorem dX7_market_62 : decode cX7_market 62 = .ok (.iaload, 1) := by decide +kernel
theorem dX7_market_63 : decode cX7_market 63 = .ok (.aload_n 0, 1) := by decide +kernel
theorem dX7_market_64 : decode cX7_market 64 = .ok (.getfield 66, 3) := by decide +kernel
theorem dX7_market_67 : decode cX7_market 67 = .ok (.iload_n 3, 1) := by decide +kernel
theorem dX7_market_68 : decode cX7_market 68 = .ok (.iaload, 1) := by decide +kernel
theorem dX7_market_69 : decode cX7_market 69 = .ok (.iadd, 1) := by decide +kernel
theorem dX7_market_70 : decode cX7_market 70 = .ok (.iastore, 1) := by decide +kernel
theorem dX7_market_71 : decode cX7_market 71 = .ok (.iload 4, 2) := by decide +kernel
theorem dX7_market_73 : decode cX7_market 73 = .ok (.aload_n 0, 1) := by decide +kernel
theorem dX7_market_74 : decode cX7_market 74 = .ok (.getfield 63, 3) := by decide +kernel
theorem dX7_market_77 : decode cX7_market 77 = .ok (.iload_n 3, 1) := by decide +kernel
theorem dX7_market_78 : decode cX7_market 78 = .ok (.iaload, 1) := by decide +kernel
theorem dX7_market_79 : decode cX7_market 79 = .ok (.if_icmp .ge 14, 3) := by decide +kernel
theorem dX7_market_82 : decode cX7_market 82 = .ok (.aload_n 0, 1) := by decide +kernel
theorem dX7_market_83 : decode cX7_market 83 = .ok (.getfield 72, 3) := by decide +kernel
theorem dX7_market_86 : decode cX7_market 86 = .ok (.iload_n 3, 1) := by decide +kernel
theorem dX7_market_87 : decode cX7_market 87 = .ok (.iaload, 1) := by decide +kernel
theorem dX7_market_88 : decode cX7_market 88 = .ok (.iconst 2, 1) := by decide +kernel
theorem dX7_market_89 : decode cX7_market 89 = .ok (.idiv, 1) := by decide +kernel
theorem dX7_market_90 : decode cX7_market 90 = .ok (.goto 10, 3) := by decide +kernel
theorem dX7_market_93 : decode cX7_market 93 = .ok (.aload_n 0, 1) := by decide +kernel
theorem dX7_market_94 : decode cX7_market 94 = .ok (.getfield 75, 3) := by decide +kernel
theorem dX7_market_97 : decode cX7_market 97 = .ok (.iload_n 3, 1) := by decide +kernel
theorem dX7_market_98 : decode cX7_market 98 = .ok (.iaload, 1) := by decide +kernel
theorem dX7_market_99 : decode cX7_market 99 = .ok (.ineg, 1) := by decide +kernel
theorem dX7_market_100 : decode cX7_market 100 = .ok (.istore 5, 2) := by decide +kernel
theorem dX7_market_102 : decode cX7_market 102 = .ok (.aload_n 0, 1) := by decide +kernel
theorem dX7_market_103 : decode cX7_market 103 = .ok (.getfield 72, 3) := by decide +kernel
theorem dX7_market_106 : decode cX7_market 106 = .ok (.iload_n 3, 1) := by decide +kernel
theorem dX7_market_107 : decode cX7_market 107 = .ok (.dup2, 1) := by decide +kernel
theorem dX7_market_108 : decode cX7_market 108 = .ok (.iaload, 1) := by decide +kernel
theorem dX7_market_109 : decode cX7_market 109 = .ok (.iload 5, 2) := by decide +kernel
theorem dX7_market_111 : decode cX7_market 111 = .ok (.isub, 1) := by decide +kernel
theorem dX7_market_112 : decode cX7_market 112 = .ok (.iastore, 1) := by decide +kernel
theorem dX7_market_113 : decode cX7_market 113 = .ok (.aload_n 0, 1) := by decide +kernel
theorem dX7_market_114 : decode cX7_market 114 = .ok (.getfield 75, 3) := by decide +kernel
theorem dX7_market_117 : decode cX7_market 117 = .ok (.iload_n 3, 1) := by decide +kernel
theorem dX7_market_118 : decode cX7_market 118 = .ok (.dup2, 1) := by decide +kernel
theorem dX7_market_119 : decode cX7_market 119 = .ok (.iaload, 1) := by decide +kernel
theorem dX7_market_120 : decode cX7_market 120 = .ok (.iload 5, 2) := by decide +kernel
theorem dX7_market_122 : decode cX7_market 122 = .ok (.iadd, 1) := by decide +kernel
theorem dX7_market_123 : decode cX7_market 123 = .ok (.iastore, 1) := by decide +kernel
theorem dX7_market_124 : decode cX7_market 124 = .ok (.aload_n 0, 1) := by decide +kernel
theorem dX7_market_125 : decode cX7_market 125 = .ok (.getfield 72, 3) := by decide +kernel
theorem dX7_market_128 : decode cX7_market 128 = .ok (.iload_n 3, 1) := by decide +kernel
theorem dX7_market_129 : decode cX7_market 129 = .ok (.iaload, 1) := by decide +kernel
theorem dX7_market_130 : decode cX7_market 130 = .ok (.aload_n 0, 1) := by decide +kernel
theorem dX7_market_131 : decode cX7_market 131 = .ok (.getfield 69, 3) := by decide +kernel
theorem dX7_market_134 : decode cX7_market 134 = .ok (.iload_n 3, 1) := by decide +kernel
theorem dX7_market_135 : decode cX7_market 135 = .ok (.iaload, 1) := by decide +kernel
theorem dX7_market_136 : decode cX7_market 136 = .ok (.invokestatic 218, 3) := by decide +kernel
theorem dX7_market_139 : decode cX7_market 139 = .ok (.istore 6, 2) := by decide +kernel
theorem dX7_market_141 : decode cX7_market 141 = .ok (.aload_n 0, 1) := by decide +kernel
theorem dX7_market_142 : decode cX7_market 142 = .ok (.getfield 72, 3) := by decide +kernel
theorem dX7_market_145 : decode cX7_market 145 = .ok (.iload_n 3, 1) := by decide +kernel
theorem dX7_market_146 : decode cX7_market 146 = .ok (.dup2, 1) := by decide +kernel
theorem dX7_market_147 : decode cX7_market 147 = .ok (.iaload, 1) := by decide +kernel
theorem dX7_market_148 : decode cX7_market 148 = .ok (.iload 6, 2) := by decide +kernel
theorem dX7_market_150 : decode cX7_market 150 = .ok (.isub, 1) := by decide +kernel
theorem dX7_market_151 : decode cX7_market 151 = .ok (.iastore, 1) := by decide +kernel
theorem dX7_market_152 : decode cX7_market 152 = .ok (.aload_n 0, 1) := by decide +kernel
theorem dX7_market_153 : decode cX7_market 153 = .ok (.getfield 81, 3) := by decide +kernel
theorem dX7_market_156 : decode cX7_market 156 = .ok (.iload_n 3, 1) := by decide +kernel
theorem dX7_market_157 : decode cX7_market 157 = .ok (.dup2, 1) := by decide +kernel
theorem dX7_market_158 : decode cX7_market 158 = .ok (.iaload, 1) := by decide +kernel
theorem dX7_market_159 : decode cX7_market 159 = .ok (.iload 6, 2) := by decide +kernel
theorem dX7_market_161 : decode cX7_market 161 = .ok (.iadd, 1) := by decide +kernel
theorem dX7_market_162 : decode cX7_market 162 = .ok (.iastore, 1) := by decide +kernel
theorem dX7_market_163 : decode cX7_market 163 = .ok (.aload_n 0, 1) := by decide +kernel
theorem dX7_market_164 : decode cX7_market 164 = .ok (.getfield 87, 3) := by decide +kernel
theorem dX7_market_167 : decode cX7_market 167 = .ok (.iload_n 3, 1) := by decide +kernel
theorem dX7_market_168 : decode cX7_market 168 = .ok (.dup2, 1) := by decide +kernel
theorem dX7_market_169 : decode cX7_market 169 = .ok (.iaload, 1) := by decide +kernel
theorem dX7_market_170 : decode cX7_market 170 = .ok (.iload 6, 2) := by decide +kernel
theorem dX7_market_172 : decode cX7_market 172 = .ok (.iload 4, 2) := by decide +kernel
theorem dX7_market_174 : decode cX7_market 174 = .ok (.imul, 1) := by decide +kernel
theorem dX7_market_175 : decode cX7_market 175 = .ok (.iadd, 1) := by decide +kernel
theorem dX7_market_176 : decode cX7_market 176 = .ok (.iastore, 1) := by decide +kernel
theorem dX7_market_177 : decode cX7_market 177 = .ok (.aload_n 0, 1) := by decide +kernel
theorem dX7_market_178 : decode cX7_market 178 = .ok (.getfield 90, 3) := by decide +kernel
theorem dX7_market_181 : decode cX7_market 181 = .ok (.iload_n 3, 1) := by decide +kernel
theorem dX7_market_182 : decode cX7_market 182 = .ok (.dup2, 1) := by decide +kernel
theorem dX7_market_183 : decode cX7_market 183 = .ok (.iaload, 1) := by decide +kernel
theorem dX7_market_184 : decode cX7_market 184 = .ok (.iload 6, 2) := by decide +kernel
theorem dX7_market_186 : decode cX7_market 186 = .ok (.iload 4, 2) := by decide +kernel
theorem dX7_market_188 : decode cX7_market 188 = .ok (.aload_n 0, 1) := by decide +kernel
theorem dX7_market_189 : decode cX7_market 189 = .ok (.getfield 63, 3) := by decide +kernel
theorem dX7_market_192 : decode cX7_market 192 = .ok (.iload_n 3, 1) := by decide +kernel
theorem dX7_market_193 : decode cX7_market 193 = .ok (.iaload, 1) := by decide +kernel
theorem dX7_market_194 : decode cX7_market 194 = .ok (.if_icmp .ge 18, 3) := by decide +kernel
theorem dX7_market_197 : decode cX7_market 197 = .ok (.bipush 100, 2) := by decide +kernel
theorem dX7_market_199 : decode cX7_market 199 = .ok (.iload 4, 2) := by decide +kernel
theorem dX7_market_201 : decode cX7_market 201 = .ok (.imul, 1) := by decide +kernel
theorem dX7_market_202 : decode cX7_market 202 = .ok (.aload_n 0, 1) := by decide +kernel
theorem dX7_market_203 : decode cX7_market 203 = .ok (.getfield 63, 3) := by decide +kernel
theorem dX7_market_206 : decode cX7_market 206 = .ok (.iload_n 3, 1) := by decide +kernel
theorem dX7_market_207 : decode cX7_market 207 = .ok (.iaload, 1) := by decide +kernel
theorem dX7_market_208 : decode cX7_market 208 = .ok (.idiv, 1) := by decide +kernel
theorem dX7_market_209 : decode cX7_market 209 = .ok (.goto 5, 3) := by decide +kernel
theorem dX7_market_212 : decode cX7_market 212 = .ok (.bipush 100, 2) := by decide +kernel
theorem dX7_market_214 : decode cX7_market 214 = .ok (.imul, 1) := by decide +kernel
theorem dX7_market_215 : decode cX7_market 215 = .ok (.iadd, 1) := by decide +kernel
theorem dX7_market_216 : decode cX7_market 216 = .ok (.iastore, 1) := by decide +kernel
theorem dX7_market_217 : decode cX7_market 217 = .ok (.aload_n 0, 1) := by decide +kernel
theorem dX7_market_218 : decode cX7_market 218 = .ok (.getfield 72, 3) := by decide +kernel
theorem dX7_market_221 : decode cX7_market 221 = .ok (.iload_n 3, 1) := by decide +kernel
theorem dX7_market_222 : decode cX7_market 222 = .ok (.iaload, 1) := by decide +kernel
theorem dX7_market_223 : decode cX7_market 223 = .ok (.aload_n 0, 1) := by decide +kernel
theorem dX7_market_224 : decode cX7_market 224 = .ok (.getfield 93, 3) := by decide +kernel
theorem dX7_market_227 : decode cX7_market 227 = .ok (.iload_n 2, 1) := by decide +kernel
theorem dX7_market_228 : decode cX7_market 228 = .ok (.iaload, 1) := by decide +kernel
theorem dX7_market_229 : decode cX7_market 229 = .ok (.imul, 1) := by decide +kernel
theorem dX7_market_230 : decode cX7_market 230 = .ok (.bipush 99, 2) := by decide +kernel
theorem dX7_market_232 : decode cX7_market 232 = .ok (.iadd, 1) := by decide +kernel
theorem dX7_market_233 : decode cX7_market 233 = .ok (.bipush 100, 2) := by decide +kernel
theorem dX7_market_235 : decode cX7_market 235 = .ok (.idiv, 1) := by decide +kernel
theorem dX7_market_236 : decode cX7_market 236 = .ok (.istore 7, 2) := by decide +kernel
theorem dX7_market_238 : decode cX7_market 238 = .ok (.aload_n 0, 1) := by decide +kernel
theorem dX7_market_239 : decode cX7_market 239 = .ok (.getfield 75, 3) := by decide +kernel
theorem dX7_market_242 : decode cX7_market 242 = .ok (.iload_n 3, 1) := by decide +kernel
theorem dX7_market_243 : decode cX7_market 243 = .ok (.iaload, 1) := by decide +kernel
theorem dX7_market_244 : decode cX7_market 244 = .ok (.aload_n 0, 1) := by decide +kernel
theorem dX7_market_245 : decode cX7_market 245 = .ok (.getfield 93, 3) := by decide +kernel
theorem dX7_market_248 : decode cX7_market 248 = .ok (.iload_n 2, 1) := by decide +kernel
theorem dX7_market_249 : decode cX7_market 249 = .ok (.iaload, 1) := by decide +kernel
theorem dX7_market_250 : decode cX7_market 250 = .ok (.imul, 1) := by decide +kernel
theorem dX7_market_251 : decode cX7_market 251 = .ok (.bipush 99, 2) := by decide +kernel
theorem dX7_market_253 : decode cX7_market 253 = .ok (.iadd, 1) := by decide +kernel
theorem dX7_market_254 : decode cX7_market 254 = .ok (.bipush 100, 2) := by decide +kernel
theorem dX7_market_256 : decode cX7_market 256 = .ok (.idiv, 1) := by decide +kernel
theorem dX7_market_257 : decode cX7_market 257 = .ok (.istore 8, 2) := by decide +kernel
theorem dX7_market_259 : decode cX7_market 259 = .ok (.aload_n 0, 1) := by decide +kernel
theorem dX7_market_260 : decode cX7_market 260 = .ok (.getfield 72, 3) := by decide +kernel
theorem dX7_market_263 : decode cX7_market 263 = .ok (.iload_n 3, 1) := by decide +kernel
theorem dX7_market_264 : decode cX7_market 264 = .ok (.dup2, 1) := by decide +kernel
theorem dX7_market_265 : decode cX7_market 265 = .ok (.iaload, 1) := by decide +kernel
theorem dX7_market_266 : decode cX7_market 266 = .ok (.iload 7, 2) := by decide +kernel
theorem dX7_market_268 : decode cX7_market 268 = .ok (.isub, 1) := by decide +kernel
theorem dX7_market_269 : decode cX7_market 269 = .ok (.iastore, 1) := by decide +kernel
theorem dX7_market_270 : decode cX7_market 270 = .ok (.aload_n 0, 1) := by decide +kernel
theorem dX7_market_271 : decode cX7_market 271 = .ok (.getfield 75, 3) := by decide +kernel
theorem dX7_market_274 : decode cX7_market 274 = .ok (.iload_n 3, 1) := by decide +kernel
theorem dX7_market_275 : decode cX7_market 275 = .ok (.dup2, 1) := by decide +kernel
theorem dX7_market_276 : decode cX7_market 276 = .ok (.iaload, 1) := by decide +kernel
theorem dX7_market_277 : decode cX7_market 277 = .ok (.iload 8, 2) := by decide +kernel
theorem dX7_market_279 : decode cX7_market 279 = .ok (.isub, 1) := by decide +kernel
theorem dX7_market_280 : decode cX7_market 280 = .ok (.iastore, 1) := by decide +kernel
theorem dX7_market_281 : decode cX7_market 281 = .ok (.aload_n 0, 1) := by decide +kernel
theorem dX7_market_282 : decode cX7_market 282 = .ok (.getfield 84, 3) := by decide +kernel
theorem dX7_market_285 : decode cX7_market 285 = .ok (.iload_n 3, 1) := by decide +kernel
theorem dX7_market_286 : decode cX7_market 286 = .ok (.dup2, 1) := by decide +kernel
theorem dX7_market_287 : decode cX7_market 287 = .ok (.iaload, 1) := by decide +kernel
theorem dX7_market_288 : decode cX7_market 288 = .ok (.iload 7, 2) := by decide +kernel
theorem dX7_market_290 : decode cX7_market 290 = .ok (.iload 8, 2) := by decide +kernel
theorem dX7_market_292 : decode cX7_market 292 = .ok (.iadd, 1) := by decide +kernel
theorem dX7_market_293 : decode cX7_market 293 = .ok (.iadd, 1) := by decide +kernel
theorem dX7_market_294 : decode cX7_market 294 = .ok (.iastore, 1) := by decide +kernel
theorem dX7_market_295 : decode cX7_market 295 = .ok (.return_, 1) := by decide +kernel
set_option maxRecDepth 20000 in
theorem ggX7_weeks_X7_in : GoodIn wsX7_weeks wsX7_in := goodIn_r _ [7] (by decide +kernel) (by decide +kernel)
set_option maxRecDepth 20000 in
theorem gX7_weeks_X7_in : GoodIn wsX7_weeks (va_wsS RX7 102 yX7_in wsX7_in) := goodIn_app (goodIn_of _ (by decide +kernel)) ggX7_weeks_X7_in
set_option maxRecDepth 20000 in
theorem ggX7_weeks_X7_throwsIf : GoodIn wsX7_weeks wsX7_throwsIf := goodIn_r _ [11, 1, 68, 69, 70, 71, 72, 73, 74, 75, 76, 77, 78, 79, 80, 81, 82, 83, 84, 85, 86, 87, 88, 89, 90, 91, 92, 93, 94, 95, 96, 97, 98, 99, 100, 101, 102, 103, 104, 105, 106, 107] (by decide +kernel) (by decide +kernel)
set_option maxRecDepth 20000 in
theorem gX7_weeks_X7_throwsIf : GoodIn wsX7_weeks (wsV RX7 110 RX7 yX7_throwsIf wsX7_throwsIf) := goodIn_app (goodIn_of _ (by decide +kernel)) ggX7_weeks_X7_throwsIf
set_option maxRecDepth 20000 in
theorem ggX7_weeks_X7_market : GoodIn wsX7_weeks wsX7_market := goodIn_r _ [15, 16, 17, 18, 19, 20, 21, 22, 23, 24, 25, 26, 27, 28, 29, 30, 31, 32, 33, 34, 35, 36, 6, 37, 2, 38, 39, 40, 41, 42, 43, 44, 45, 46, 47, 48, 49, 50, 51, 52, 53, 54, 55, 56, 57, 58, 59, 60, 61, 62, 63, 64, 65, 66, 67, 4, 5, 7, 68, 69, 70, 71, 72, 73, 74, 75, 76, 77, 78, 79, 80, 81, 82, 83, 84, 85, 86, 87, 88, 89, 90, 91, 92, 93, 94, 95, 96, 97, 98, 99, 100, 101, 102, 103, 104, 105, 106, 107] (by decide +kernel) (by decide +kernel)
set_option maxRecDepth 20000 in
theorem gX7_weeks_X7_market : GoodIn wsX7_weeks (wsV RX7 223 RX7 yX7_market wsX7_market) := goodIn_app (goodIn_of _ (by decide +kernel)) ggX7_weeks_X7_market
theorem dX7_weeks_0 : decode cX7_weeks 0 = .ok (.aload_n 0, 1) := by decide +kernel
theorem dX7_weeks_1 : decode cX7_weeks 1 = .ok (.iconst 0, 1) := by decide +kernel
theorem dX7_weeks_2 : decode cX7_weeks 2 = .ok (.putfield 99, 3) := by decide +kernel
theorem dX7_weeks_5 : decode cX7_weeks 5 = .ok (.aload_n 0, 1) := by decide +kernel
theorem dX7_weeks_6 : decode cX7_weeks 6 = .ok (.iload_n 1, 1) := by decide +kernel
theorem dX7_weeks_7 : decode cX7_weeks 7 = .ok (.iconst 0, 1) := by decide +kernel
theorem dX7_weeks_8 : decode cX7_weeks 8 = .ok (.bipush 50, 2) := by decide +kernel
theorem dX7_weeks_10 : decode cX7_weeks 10 = .ok (.invokestatic 102, 3) := by decide +kernel
theorem dX7_weeks_13 : decode cX7_weeks 13 = .ok (.ifCond .ne 7, 3) := by decide +kernel
theorem dX7_weeks_16 : decode cX7_weeks 16 = .ok (.iconst 1, 1) := by decide +kernel
theorem dX7_weeks_17 : decode cX7_weeks 17 = .ok (.goto 4, 3) := by decide +kernel
theorem dX7_weeks_20 : decode cX7_weeks 20 = .ok (.iconst 0, 1) := by decide +kernel
theorem dX7_weeks_21 : decode cX7_weeks 21 = .ok (.iconst 1, 1) := by decide +kernel
theorem dX7_weeks_22 : decode cX7_weeks 22 = .ok (.invokevirtual 110, 3) := by decide +kernel
theorem dX7_weeks_25 : decode cX7_weeks 25 = .ok (.ifCond .eq 5, 3) := by decide +kernel
theorem dX7_weeks_28 : decode cX7_weeks 28 = .ok (.iconst 0, 1) := by decide +kernel
theorem dX7_weeks_29 : decode cX7_weeks 29 = .ok (.ireturn, 1) := by decide +kernel
theorem dX7_weeks_30 : decode cX7_weeks 30 = .ok (.iconst 0, 1) := by decide +kernel
theorem dX7_weeks_31 : decode cX7_weeks 31 = .ok (.istore_n 2, 1) := by decide +kernel
theorem dX7_weeks_32 : decode cX7_weeks 32 = .ok (.iload_n 2, 1) := by decide +kernel
theorem dX7_weeks_33 : decode cX7_weeks 33 = .ok (.iload_n 1, 1) := by decide +kernel
theorem dX7_weeks_34 : decode cX7_weeks 34 = .ok (.if_icmp .ge 72, 3) := by decide +kernel
theorem dX7_weeks_37 : decode cX7_weeks 37 = .ok (.aload_n 0, 1) := by decide +kernel
theorem dX7_weeks_38 : decode cX7_weeks 38 = .ok (.getfield 117, 3) := by decide +kernel
theorem dX7_weeks_41 : decode cX7_weeks 41 = .ok (.bipush 7, 2) := by decide +kernel
theorem dX7_weeks_43 : decode cX7_weeks 43 = .ok (.iadd, 1) := by decide +kernel
theorem dX7_weeks_44 : decode cX7_weeks 44 = .ok (.sipush 5000, 3) := by decide +kernel
theorem dX7_weeks_47 : decode cX7_weeks 47 = .ok (.if_icmp .gt 59, 3) := by decide +kernel
theorem dX7_weeks_50 : decode cX7_weeks 50 = .ok (.aload_n 0, 1) := by decide +kernel
theorem dX7_weeks_51 : decode cX7_weeks 51 = .ok (.dup, 1) := by decide +kernel
theorem dX7_weeks_52 : decode cX7_weeks 52 = .ok (.getfield 117, 3) := by decide +kernel
theorem dX7_weeks_55 : decode cX7_weeks 55 = .ok (.bipush 7, 2) := by decide +kernel
theorem dX7_weeks_57 : decode cX7_weeks 57 = .ok (.iadd, 1) := by decide +kernel
theorem dX7_weeks_58 : decode cX7_weeks 58 = .ok (.putfield 117, 3) := by decide +kernel
theorem dX7_weeks_61 : decode cX7_weeks 61 = .ok (.iconst 0, 1) := by decide +kernel
theorem dX7_weeks_62 : decode cX7_weeks 62 = .ok (.istore_n 3, 1) := by decide +kernel
theorem dX7_weeks_63 : decode cX7_weeks 63 = .ok (.iload_n 3, 1) := by decide +kernel
theorem dX7_weeks_64 : decode cX7_weeks 64 = .ok (.aload_n 0, 1) := by decide +kernel
theorem dX7_weeks_65 : decode cX7_weeks 65 = .ok (.getfield 199, 3) := by decide +kernel
theorem dX7_weeks_68 : decode cX7_weeks 68 = .ok (.if_icmp .ge 32, 3) := by decide +kernel
theorem dX7_weeks_71 : decode cX7_weeks 71 = .ok (.iconst 0, 1) := by decide +kernel
theorem dX7_weeks_72 : decode cX7_weeks 72 = .ok (.istore 4, 2) := by decide +kernel
theorem dX7_weeks_74 : decode cX7_weeks 74 = .ok (.iload 4, 2) := by decide +kernel
theorem dX7_weeks_76 : decode cX7_weeks 76 = .ok (.bipush 6, 2) := by decide +kernel
theorem dX7_weeks_78 : decode cX7_weeks 78 = .ok (.if_icmp .ge 16, 3) := by decide +kernel
theorem dX7_weeks_81 : decode cX7_weeks 81 = .ok (.aload_n 0, 1) := by decide +kernel
theorem dX7_weeks_82 : decode cX7_weeks 82 = .ok (.iload_n 3, 1) := by decide +kernel
theorem dX7_weeks_83 : decode cX7_weeks 83 = .ok (.iload 4, 2) := by decide +kernel
theorem dX7_weeks_85 : decode cX7_weeks 85 = .ok (.invokevirtual 223, 3) := by decide +kernel
theorem dX7_weeks_88 : decode cX7_weeks 88 = .ok (.iinc 4 1, 3) := by decide +kernel
theorem dX7_weeks_91 : decode cX7_weeks 91 = .ok (.goto (-17), 3) := by decide +kernel
theorem dX7_weeks_94 : decode cX7_weeks 94 = .ok (.iinc 3 1, 3) := by decide +kernel
theorem dX7_weeks_97 : decode cX7_weeks 97 = .ok (.goto (-34), 3) := by decide +kernel
theorem dX7_weeks_100 : decode cX7_weeks 100 = .ok (.iinc 2 1, 3) := by decide +kernel
theorem dX7_weeks_103 : decode cX7_weeks 103 = .ok (.goto (-71), 3) := by decide +kernel
theorem dX7_weeks_106 : decode cX7_weeks 106 = .ok (.aload_n 0, 1) := by decide +kernel
theorem dX7_weeks_107 : decode cX7_weeks 107 = .ok (.getfield 117, 3) := by decide +kernel
theorem dX7_weeks_110 : decode cX7_weeks 110 = .ok (.ireturn, 1) := by decide +kernel
set_option maxRecDepth 20000 in
theorem ggX7_days_X7_in : GoodIn wsX7_days wsX7_in := goodIn_r _ [10] (by decide +kernel) (by decide +kernel)
set_option maxRecDepth 20000 in
theorem gX7_days_X7_in : GoodIn wsX7_days (va_wsS RX7 102 yX7_in wsX7_in) := goodIn_app (goodIn_of _ (by decide +kernel)) ggX7_days_X7_in
set_option maxRecDepth 20000 in
theorem ggX7_days_X7_throwsIf : GoodIn wsX7_days wsX7_throwsIf := goodIn_r _ [14, 1, 15, 16, 17, 18, 19, 20, 21, 22, 23, 24, 25, 26, 27, 28, 29, 30, 31, 32, 33, 34, 35, 36, 37, 38, 39, 40, 41, 42, 43, 44, 45, 46, 47, 48, 49, 50, 51, 52, 53, 54] (by decide +kernel) (by decide +kernel)
set_option maxRecDepth 20000 in
theorem gX7_days_X7_throwsIf : GoodIn wsX7_days (wsV RX7 110 RX7 yX7_throwsIf wsX7_throwsIf) := goodIn_app (goodIn_of _ (by decide +kernel)) ggX7_days_X7_throwsIf
theorem dX7_days_0 : decode cX7_days 0 = .ok (.aload_n 0, 1) := by decide +kernel
theorem dX7_days_1 : decode cX7_days 1 = .ok (.iconst 0, 1) := by decide +kernel
theorem dX7_days_2 : decode cX7_days 2 = .ok (.putfield 99, 3) := by decide +kernel
theorem dX7_days_5 : decode cX7_days 5 = .ok (.aload_n 0, 1) := by decide +kernel
theorem dX7_days_6 : decode cX7_days 6 = .ok (.iload_n 1, 1) := by decide +kernel
theorem dX7_days_7 : decode cX7_days 7 = .ok (.iconst 0, 1) := by decide +kernel
theorem dX7_days_8 : decode cX7_days 8 = .ok (.bipush 100, 2) := by decide +kernel
theorem dX7_days_10 : decode cX7_days 10 = .ok (.invokestatic 102, 3) := by decide +kernel
theorem dX7_days_13 : decode cX7_days 13 = .ok (.ifCond .ne 7, 3) := by decide +kernel
theorem dX7_days_16 : decode cX7_days 16 = .ok (.iconst 1, 1) := by decide +kernel
theorem dX7_days_17 : decode cX7_days 17 = .ok (.goto 4, 3) := by decide +kernel
theorem dX7_days_20 : decode cX7_days 20 = .ok (.iconst 0, 1) := by decide +kernel
theorem dX7_days_21 : decode cX7_days 21 = .ok (.iconst 1, 1) := by decide +kernel
theorem dX7_days_22 : decode cX7_days 22 = .ok (.invokevirtual 110, 3) := by decide +kernel
theorem dX7_days_25 : decode cX7_days 25 = .ok (.ifCond .eq 5, 3) := by decide +kernel
theorem dX7_days_28 : decode cX7_days 28 = .ok (.iconst 0, 1) := by decide +kernel
theorem dX7_days_29 : decode cX7_days 29 = .ok (.ireturn, 1) := by decide +kernel
theorem dX7_days_30 : decode cX7_days 30 = .ok (.aload_n 0, 1) := by decide +kernel
theorem dX7_days_31 : decode cX7_days 31 = .ok (.sipush 5000, 3) := by decide +kernel
theorem dX7_days_34 : decode cX7_days 34 = .ok (.aload_n 0, 1) := by decide +kernel
theorem dX7_days_35 : decode cX7_days 35 = .ok (.getfield 117, 3) := by decide +kernel
theorem dX7_days_38 : decode cX7_days 38 = .ok (.iload_n 1, 1) := by decide +kernel
theorem dX7_days_39 : decode cX7_days 39 = .ok (.iadd, 1) := by decide +kernel
theorem dX7_days_40 : decode cX7_days 40 = .ok (.invokestatic 218, 3) := by decide +kernel
theorem dX7_days_43 : decode cX7_days 43 = .ok (.putfield 117, 3) := by decide +kernel
theorem dX7_days_46 : decode cX7_days 46 = .ok (.aload_n 0, 1) := by decide +kernel
theorem dX7_days_47 : decode cX7_days 47 = .ok (.getfield 117, 3) := by decide +kernel
theorem dX7_days_50 : decode cX7_days 50 = .ok (.ireturn, 1) := by decide +kernel
set_option maxRecDepth 20000 in
theorem ggX7_look_X7_noTown : GoodIn wsX7_look wsX7_noTown := goodIn_r _ [13, 14, 15, 16, 12, 17, 62, 63, 64, 65, 66, 67, 68, 69, 70, 71, 72, 73, 74, 75, 76, 77, 78, 79, 80, 81, 82, 83, 84, 85, 86, 87, 88, 89, 90, 91, 92, 93, 94, 95, 96, 97, 98, 99, 100, 101] (by decide +kernel) (by decide +kernel)
set_option maxRecDepth 20000 in
theorem gX7_look_X7_noTown : GoodIn wsX7_look (wsV RX7 202 RX7 yX7_noTown wsX7_noTown) := goodIn_app (goodIn_of _ (by decide +kernel)) ggX7_look_X7_noTown
set_option maxRecDepth 20000 in
theorem ggX7_look_X7_noThing : GoodIn wsX7_look wsX7_noThing := goodIn_r _ [20, 15, 16, 12, 17] (by decide +kernel) (by decide +kernel)
set_option maxRecDepth 20000 in
theorem gX7_look_X7_noThing : GoodIn wsX7_look (va_wsS RX7 205 yX7_noThing wsX7_noThing) := goodIn_app (goodIn_of _ (by decide +kernel)) ggX7_look_X7_noThing
set_option maxRecDepth 20000 in
theorem ggX7_look_X7_throwsIf : GoodIn wsX7_look wsX7_throwsIf := goodIn_r _ [24, 1, 62, 63, 64, 65, 66, 67, 68, 69, 70, 71, 72, 73, 74, 75, 76, 77, 78, 79, 80, 81, 82, 83, 84, 85, 86, 87, 88, 89, 90, 91, 92, 93, 94, 95, 96, 97, 98, 99, 100, 101] (by decide +kernel) (by decide +kernel)
set_option maxRecDepth 20000 in
theorem gX7_look_X7_throwsIf : GoodIn wsX7_look (wsV RX7 110 RX7 yX7_throwsIf wsX7_throwsIf) := goodIn_app (goodIn_of _ (by decide +kernel)) ggX7_look_X7_throwsIf
set_option maxRecDepth 20000 in
theorem ggX7_look_X7_priceOf : GoodIn wsX7_look wsX7_priceOf := goodIn_r _ [28, 29, 30, 31, 32, 33, 12, 34, 35, 36, 37, 38, 39, 40, 41, 42, 43, 44, 45, 46, 47, 48, 49, 50, 51, 52, 53, 54, 55, 56, 57, 58, 59, 60, 61, 15, 16, 17, 62, 63, 64, 65, 66, 67, 68, 69, 70, 71, 72, 73, 74, 75, 76, 77, 78, 79, 80, 81, 82, 83, 84, 85, 86, 87, 88, 89, 90, 91, 92, 93, 94, 95, 96, 97, 98, 99, 100, 101] (by decide +kernel) (by decide +kernel)
set_option maxRecDepth 20000 in
theorem gX7_look_X7_priceOf : GoodIn wsX7_look (wsV RX7 215 RX7 yX7_priceOf wsX7_priceOf) := goodIn_app (goodIn_of _ (by decide +kernel)) ggX7_look_X7_priceOf
theorem dX7_look_0 : decode cX7_look 0 = .ok (.aload_n 0, 1) := by decide +kernel
theorem dX7_look_1 : decode cX7_look 1 = .ok (.iconst 0, 1) := by decide +kernel
theorem dX7_look_2 : decode cX7_look 2 = .ok (.putfield 99, 3) := by decide +kernel
theorem dX7_look_5 : decode cX7_look 5 = .ok (.aload_n 0, 1) := by decide +kernel
theorem dX7_look_6 : decode cX7_look 6 = .ok (.aload_n 0, 1) := by decide +kernel
theorem dX7_look_7 : decode cX7_look 7 = .ok (.iload_n 1, 1) := by decide +kernel
theorem dX7_look_8 : decode cX7_look 8 = .ok (.invokevirtual 202, 3) := by decide +kernel
theorem dX7_look_11 : decode cX7_look 11 = .ok (.ifCond .ne 10, 3) := by decide +kernel
theorem dX7_look_14 : decode cX7_look 14 = .ok (.iload_n 2, 1) := by decide +kernel
theorem dX7_look_15 : decode cX7_look 15 = .ok (.invokestatic 205, 3) := by decide +kernel
theorem dX7_look_18 : decode cX7_look 18 = .ok (.ifCond .eq 7, 3) := by decide +kernel
theorem dX7_look_21 : decode cX7_look 21 = .ok (.iconst 1, 1) := by decide +kernel
theorem dX7_look_22 : decode cX7_look 22 = .ok (.goto 4, 3) := by decide +kernel
theorem dX7_look_25 : decode cX7_look 25 = .ok (.iconst 0, 1) := by decide +kernel
theorem dX7_look_26 : decode cX7_look 26 = .ok (.iconst 1, 1) := by decide +kernel
theorem dX7_look_27 : decode cX7_look 27 = .ok (.invokevirtual 110, 3) := by decide +kernel
theorem dX7_look_30 : decode cX7_look 30 = .ok (.ifCond .eq 5, 3) := by decide +kernel
theorem dX7_look_33 : decode cX7_look 33 = .ok (.iconst 0, 1) := by decide +kernel
theorem dX7_look_34 : decode cX7_look 34 = .ok (.ireturn, 1) := by decide +kernel
theorem dX7_look_35 : decode cX7_look 35 = .ok (.bipush 6, 2) := by decide +kernel
theorem dX7_look_37 : decode cX7_look 37 = .ok (.iload_n 1, 1) := by decide +kernel
theorem dX7_look_38 : decode cX7_look 38 = .ok (.imul, 1) := by decide +kernel
theorem dX7_look_39 : decode cX7_look 39 = .ok (.iload_n 2, 1) := by decide +kernel
theorem dX7_look_40 : decode cX7_look 40 = .ok (.iadd, 1) := by decide +kernel
theorem dX7_look_41 : decode cX7_look 41 = .ok (.istore 4, 2) := by decide +kernel
theorem dX7_look_43 : decode cX7_look 43 = .ok (.iload_n 3, 1) := by decide +kernel
theorem dX7_look_44 : decode cX7_look 44 = .ok (.tableswitch 111 0 7 #[48, 56, 64, 72, 80, 88, 96, 104], 48) := by decide +kernel
theorem dX7_look_92 : decode cX7_look 92 = .ok (.aload_n 0, 1) := by decide +kernel
theorem dX7_look_93 : decode cX7_look 93 = .ok (.getfield 72, 3) := by decide +kernel
theorem dX7_look_96 : decode cX7_look 96 = .ok (.iload 4, 2) := by decide +kernel
theorem dX7_look_98 : decode cX7_look 98 = .ok (.iaload, 1) := by decide +kernel
theorem dX7_look_99 : decode cX7_look 99 = .ok (.ireturn, 1) := by decide +kernel
theorem dX7_look_100 : decode cX7_look 100 = .ok (.aload_n 0, 1) := by decide +kernel
theorem dX7_look_101 : decode cX7_look 101 = .ok (.getfield 75, 3) := by decide +kernel
theorem dX7_look_104 : decode cX7_look 104 = .ok (.iload 4, 2) := by decide +kernel
theorem dX7_look_106 : decode cX7_look 106 = .ok (.iaload, 1) := by decide +kernel
theorem dX7_look_107 : decode cX7_look 107 = .ok (.ireturn, 1) := by decide +kernel
theorem dX7_look_108 : decode cX7_look 108 = .ok (.aload_n 0, 1) := by decide +kernel
theorem dX7_look_109 : decode cX7_look 109 = .ok (.getfield 78, 3) := by decide +kernel
theorem dX7_look_112 : decode cX7_look 112 = .ok (.iload 4, 2) := by decide +kernel
theorem dX7_look_114 : decode cX7_look 114 = .ok (.iaload, 1) := by decide +kernel
theorem dX7_look_115 : decode cX7_look 115 = .ok (.ireturn, 1) := by decide +kernel
theorem dX7_look_116 : decode cX7_look 116 = .ok (.aload_n 0, 1) := by decide +kernel
theorem dX7_look_117 : decode cX7_look 117 = .ok (.getfield 81, 3) := by decide +kernel
theorem dX7_look_120 : decode cX7_look 120 = .ok (.iload 4, 2) := by decide +kernel
theorem dX7_look_122 : decode cX7_look 122 = .ok (.iaload, 1) := by decide +kernel
theorem dX7_look_123 : decode cX7_look 123 = .ok (.ireturn, 1) := by decide +kernel
theorem dX7_look_124 : decode cX7_look 124 = .ok (.aload_n 0, 1) := by decide +kernel
theorem dX7_look_125 : decode cX7_look 125 = .ok (.getfield 84, 3) := by decide +kernel
theorem dX7_look_128 : decode cX7_look 128 = .ok (.iload 4, 2) := by decide +kernel
theorem dX7_look_130 : decode cX7_look 130 = .ok (.iaload, 1) := by decide +kernel
theorem dX7_look_131 : decode cX7_look 131 = .ok (.ireturn, 1) := by decide +kernel
theorem dX7_look_132 : decode cX7_look 132 = .ok (.aload_n 0, 1) := by decide +kernel
theorem dX7_look_133 : decode cX7_look 133 = .ok (.getfield 87, 3) := by decide +kernel
theorem dX7_look_136 : decode cX7_look 136 = .ok (.iload 4, 2) := by decide +kernel
theorem dX7_look_138 : decode cX7_look 138 = .ok (.iaload, 1) := by decide +kernel
theorem dX7_look_139 : decode cX7_look 139 = .ok (.ireturn, 1) := by decide +kernel
theorem dX7_look_140 : decode cX7_look 140 = .ok (.aload_n 0, 1) := by decide +kernel
theorem dX7_look_141 : decode cX7_look 141 = .ok (.getfield 90, 3) := by decide +kernel
theorem dX7_look_144 : decode cX7_look 144 = .ok (.iload 4, 2) := by decide +kernel
theorem dX7_look_146 : decode cX7_look 146 = .ok (.iaload, 1) := by decide +kernel
theorem dX7_look_147 : decode cX7_look 147 = .ok (.ireturn, 1) := by decide +kernel
theorem dX7_look_148 : decode cX7_look 148 = .ok (.aload_n 0, 1) := by decide +kernel
theorem dX7_look_149 : decode cX7_look 149 = .ok (.iload_n 1, 1) := by decide +kernel
theorem dX7_look_150 : decode cX7_look 150 = .ok (.iload_n 2, 1) := by decide +kernel
theorem dX7_look_151 : decode cX7_look 151 = .ok (.invokevirtual 215, 3) := by decide +kernel
theorem dX7_look_154 : decode cX7_look 154 = .ok (.ireturn, 1) := by decide +kernel
theorem dX7_look_155 : decode cX7_look 155 = .ok (.aload_n 0, 1) := by decide +kernel
theorem dX7_look_156 : decode cX7_look 156 = .ok (.iconst 2, 1) := by decide +kernel
theorem dX7_look_157 : decode cX7_look 157 = .ok (.putfield 99, 3) := by decide +kernel
theorem dX7_look_160 : decode cX7_look 160 = .ok (.iconst 0, 1) := by decide +kernel
theorem dX7_look_161 : decode cX7_look 161 = .ok (.ireturn, 1) := by decide +kernel
set_option maxRecDepth 20000 in
theorem ggX7_buys_X7_noTown : GoodIn wsX7_buys wsX7_noTown := goodIn_r _ [12, 13, 14, 15, 11, 16, 61, 62, 63, 64, 65, 66, 67, 68, 69, 70, 71, 72, 73, 74, 75, 76, 77, 78, 79, 80, 81, 82, 83, 84, 85, 86, 87, 88, 89, 90, 91, 92, 93, 94, 95, 96, 97, 98, 99, 100] (by decide +kernel) (by decide +kernel)
set_option maxRecDepth 20000 in
theorem gX7_buys_X7_noTown : GoodIn wsX7_buys (wsV RX7 202 RX7 yX7_noTown wsX7_noTown) := goodIn_app (goodIn_of _ (by decide +kernel)) ggX7_buys_X7_noTown
set_option maxRecDepth 20000 in
theorem ggX7_buys_X7_noThing : GoodIn wsX7_buys wsX7_noThing := goodIn_r _ [19, 14, 15, 11, 16] (by decide +kernel) (by decide +kernel)
set_option maxRecDepth 20000 in
theorem gX7_buys_X7_noThing : GoodIn wsX7_buys (va_wsS RX7 205 yX7_noThing wsX7_noThing) := goodIn_app (goodIn_of _ (by decide +kernel)) ggX7_buys_X7_noThing
set_option maxRecDepth 20000 in
theorem ggX7_buys_X7_throwsIf : GoodIn wsX7_buys wsX7_throwsIf := goodIn_r _ [23, 1, 61, 62, 63, 64, 65, 66, 67, 68, 69, 70, 71, 72, 73, 74, 75, 76, 77, 78, 79, 80, 81, 82, 83, 84, 85, 86, 87, 88, 89, 90, 91, 92, 93, 94, 95, 96, 97, 98, 99, 100] (by decide +kernel) (by decide +kernel)
set_option maxRecDepth 20000 in
theorem gX7_buys_X7_throwsIf : GoodIn wsX7_buys (wsV RX7 110 RX7 yX7_throwsIf wsX7_throwsIf) := goodIn_app (goodIn_of _ (by decide +kernel)) ggX7_buys_X7_throwsIf
set_option maxRecDepth 20000 in
theorem ggX7_buys_X7_in : GoodIn wsX7_buys wsX7_in := goodIn_r _ [16] (by decide +kernel) (by decide +kernel)
set_option maxRecDepth 20000 in
theorem gX7_buys_X7_in : GoodIn wsX7_buys (va_wsS RX7 102 yX7_in wsX7_in) := goodIn_app (goodIn_of _ (by decide +kernel)) ggX7_buys_X7_in
set_option maxRecDepth 20000 in
theorem ggX7_buys_X7_priceOf : GoodIn wsX7_buys wsX7_priceOf := goodIn_r _ [27, 28, 29, 30, 31, 32, 11, 33, 34, 35, 36, 37, 38, 39, 40, 41, 42, 43, 44, 45, 46, 47, 48, 49, 50, 51, 52, 53, 54, 55, 56, 57, 58, 59, 60, 14, 15, 16, 61, 62, 63, 64, 65, 66, 67, 68, 69, 70, 71, 72, 73, 74, 75, 76, 77, 78, 79, 80, 81, 82, 83, 84, 85, 86, 87, 88, 89, 90, 91, 92, 93, 94, 95, 96, 97, 98, 99, 100] (by decide +kernel) (by decide +kernel)
set_option maxRecDepth 20000 in
theorem gX7_buys_X7_priceOf : GoodIn wsX7_buys (wsV RX7 215 RX7 yX7_priceOf wsX7_priceOf) := goodIn_app (goodIn_of _ (by decide +kernel)) ggX7_buys_X7_priceOf
theorem dX7_buys_0 : decode cX7_buys 0 = .ok (.aload_n 0, 1) := by decide +kernel
theorem dX7_buys_1 : decode cX7_buys 1 = .ok (.iconst 0, 1) := by decide +kernel
theorem dX7_buys_2 : decode cX7_buys 2 = .ok (.putfield 99, 3) := by decide +kernel
theorem dX7_buys_5 : decode cX7_buys 5 = .ok (.aload_n 0, 1) := by decide +kernel
theorem dX7_buys_6 : decode cX7_buys 6 = .ok (.aload_n 0, 1) := by decide +kernel
theorem dX7_buys_7 : decode cX7_buys 7 = .ok (.iload_n 1, 1) := by decide +kernel
theorem dX7_buys_8 : decode cX7_buys 8 = .ok (.invokevirtual 202, 3) := by decide +kernel
theorem dX7_buys_11 : decode cX7_buys 11 = .ok (.ifCond .ne 10, 3) := by decide +kernel
theorem dX7_buys_14 : decode cX7_buys 14 = .ok (.iload_n 2, 1) := by decide +kernel
theorem dX7_buys_15 : decode cX7_buys 15 = .ok (.invokestatic 205, 3) := by decide +kernel
theorem dX7_buys_18 : decode cX7_buys 18 = .ok (.ifCond .eq 7, 3) := by decide +kernel
theorem dX7_buys_21 : decode cX7_buys 21 = .ok (.iconst 1, 1) := by decide +kernel
theorem dX7_buys_22 : decode cX7_buys 22 = .ok (.goto 4, 3) := by decide +kernel
theorem dX7_buys_25 : decode cX7_buys 25 = .ok (.iconst 0, 1) := by decide +kernel
theorem dX7_buys_26 : decode cX7_buys 26 = .ok (.iconst 1, 1) := by decide +kernel
theorem dX7_buys_27 : decode cX7_buys 27 = .ok (.invokevirtual 110, 3) := by decide +kernel
theorem dX7_buys_30 : decode cX7_buys 30 = .ok (.ifCond .ne 26, 3) := by decide +kernel
theorem dX7_buys_33 : decode cX7_buys 33 = .ok (.aload_n 0, 1) := by decide +kernel
theorem dX7_buys_34 : decode cX7_buys 34 = .ok (.iload_n 3, 1) := by decide +kernel
theorem dX7_buys_35 : decode cX7_buys 35 = .ok (.iconst 0, 1) := by decide +kernel
theorem dX7_buys_36 : decode cX7_buys 36 = .ok (.ldc 227, 2) := by decide +kernel
theorem dX7_buys_38 : decode cX7_buys 38 = .ok (.invokestatic 102, 3) := by decide +kernel
theorem dX7_buys_41 : decode cX7_buys 41 = .ok (.ifCond .ne 7, 3) := by decide +kernel
theorem dX7_buys_44 : decode cX7_buys 44 = .ok (.iconst 1, 1) := by decide +kernel
theorem dX7_buys_45 : decode cX7_buys 45 = .ok (.goto 4, 3) := by decide +kernel
theorem dX7_buys_48 : decode cX7_buys 48 = .ok (.iconst 0, 1) := by decide +kernel
theorem dX7_buys_49 : decode cX7_buys 49 = .ok (.iconst 2, 1) := by decide +kernel
theorem dX7_buys_50 : decode cX7_buys 50 = .ok (.invokevirtual 110, 3) := by decide +kernel
theorem dX7_buys_53 : decode cX7_buys 53 = .ok (.ifCond .eq 5, 3) := by decide +kernel
theorem dX7_buys_56 : decode cX7_buys 56 = .ok (.iconst 0, 1) := by decide +kernel
theorem dX7_buys_57 : decode cX7_buys 57 = .ok (.ireturn, 1) := by decide +kernel
theorem dX7_buys_58 : decode cX7_buys 58 = .ok (.aload_n 0, 1) := by decide +kernel
theorem dX7_buys_59 : decode cX7_buys 59 = .ok (.iload_n 1, 1) := by decide +kernel
theorem dX7_buys_60 : decode cX7_buys 60 = .ok (.iload_n 2, 1) := by decide +kernel
theorem dX7_buys_61 : decode cX7_buys 61 = .ok (.invokevirtual 215, 3) := by decide +kernel
theorem dX7_buys_64 : decode cX7_buys 64 = .ok (.istore 4, 2) := by decide +kernel
theorem dX7_buys_66 : decode cX7_buys 66 = .ok (.aload_n 0, 1) := by decide +kernel
theorem dX7_buys_67 : decode cX7_buys 67 = .ok (.getfield 72, 3) := by decide +kernel
theorem dX7_buys_70 : decode cX7_buys 70 = .ok (.bipush 6, 2) := by decide +kernel
theorem dX7_buys_72 : decode cX7_buys 72 = .ok (.iload_n 1, 1) := by decide +kernel
theorem dX7_buys_73 : decode cX7_buys 73 = .ok (.imul, 1) := by decide +kernel
theorem dX7_buys_74 : decode cX7_buys 74 = .ok (.iload_n 2, 1) := by decide +kernel
theorem dX7_buys_75 : decode cX7_buys 75 = .ok (.iadd, 1) := by decide +kernel
theorem dX7_buys_76 : decode cX7_buys 76 = .ok (.iaload, 1) := by decide +kernel
theorem dX7_buys_77 : decode cX7_buys 77 = .ok (.istore 5, 2) := by decide +kernel
theorem dX7_buys_79 : decode cX7_buys 79 = .ok (.iload 4, 2) := by decide +kernel
