set_option maxRecDepth 20000 in
theorem ggX1_init_X2_kindsPresent : GoodIn wsX1_init wsX2_kindsPresent := goodIn_r _ [26, 27, 28, 96, 97, 98, 99, 100, 101] (by decide +kernel) (by decide +kernel)
set_option maxRecDepth 20000 in
theorem gX1_init_X2_kindsPresent : GoodIn wsX1_init (wsV RX1 21 RX2 yX2_kindsPresent wsX2_kindsPresent) := goodIn_app (goodIn_of _ (by decide +kernel)) ggX1_init_X2_kindsPresent
set_option maxRecDepth 20000 in
theorem ggX1_init_X2_pointRun : GoodIn wsX1_init wsX2_pointRun := goodIn_r _ [32, 27, 33, 28, 34, 35, 36, 96, 97, 98, 99, 100, 101] (by decide +kernel) (by decide +kernel)
set_option maxRecDepth 20000 in
theorem gX1_init_X2_pointRun : GoodIn wsX1_init (wsV RX1 25 RX2 yX2_pointRun wsX2_pointRun) := goodIn_app (goodIn_of _ (by decide +kernel)) ggX1_init_X2_pointRun
set_option maxRecDepth 20000 in
theorem ggX1_init_J7_copyOf_59c91 : GoodIn wsX1_init wsJ7_copyOf_59c91 := goodIn_r _ [40, 41, 42, 43, 44, 45, 46, 47, 48, 49, 6, 50, 51, 52, 53, 54] (by decide +kernel) (by decide +kernel)
set_option maxRecDepth 20000 in
theorem gX1_init_J7_copyOf_59c91 : GoodIn wsX1_init (va_wsS RX1 32 yJ7_copyOf_59c91 wsJ7_copyOf_59c91) := goodIn_app (goodIn_of _ (by decide +kernel)) ggX1_init_J7_copyOf_59c91
set_option maxRecDepth 20000 in
theorem ggX1_init_X2_allSignsCounted : GoodIn wsX1_init wsX2_allSignsCounted := goodIn_r _ [58, 27, 59, 60, 61, 35, 62, 63, 64, 65, 96, 97, 98, 99, 100, 101] (by decide +kernel) (by decide +kernel)
set_option maxRecDepth 20000 in
theorem gX1_init_X2_allSignsCounted : GoodIn wsX1_init (wsV RX1 52 RX2 yX2_allSignsCounted wsX2_allSignsCounted) := goodIn_app (goodIn_of _ (by decide +kernel)) ggX1_init_X2_allSignsCounted
set_option maxRecDepth 20000 in
theorem ggX1_init_X2_categoryOf : GoodIn wsX1_init wsX2_categoryOf := goodIn_r _ [69, 27, 70, 34, 35, 36, 71, 72, 73, 25, 74, 59, 96, 97, 98, 99, 100, 101] (by decide +kernel) (by decide +kernel)
set_option maxRecDepth 20000 in
theorem gX1_init_X2_categoryOf : GoodIn wsX1_init (wsV RX1 58 RX2 yX2_categoryOf wsX2_categoryOf) := goodIn_app (goodIn_of _ (by decide +kernel)) ggX1_init_X2_categoryOf
set_option maxRecDepth 20000 in
theorem ggX1_init_X2_digitsIn : GoodIn wsX1_init wsX2_digitsIn := goodIn_r _ [78, 79, 5, 6, 7, 27, 80, 96, 97, 98, 99, 100, 101] (by decide +kernel) (by decide +kernel)
set_option maxRecDepth 20000 in
theorem gX1_init_X2_digitsIn : GoodIn wsX1_init (wsV RX1 65 RX2 yX2_digitsIn wsX2_digitsIn) := goodIn_app (goodIn_of _ (by decide +kernel)) ggX1_init_X2_digitsIn
set_option maxRecDepth 20000 in
theorem ggX1_init_X4_holds : GoodIn wsX1_init wsX4_holds := goodIn_r _ [36] (by decide +kernel) (by decide +kernel)
set_option maxRecDepth 20000 in
theorem gX1_init_X4_holds_n74 : GoodIn wsX1_init (wsX4_holds) := ggX1_init_X4_holds
set_option maxRecDepth 20000 in
theorem ggX1_init_X2_countOf : GoodIn wsX1_init wsX2_countOf := goodIn_r _ [83, 27, 59, 60, 96, 97, 98, 99, 100, 101] (by decide +kernel) (by decide +kernel)
set_option maxRecDepth 20000 in
theorem gX1_init_X2_countOf_n78 : GoodIn wsX1_init (wsX2_countOf) := ggX1_init_X2_countOf
set_option maxRecDepth 20000 in
theorem ggX1_init_X0_init : GoodIn wsX1_init wsX0_init := goodIn_r _ [86, 87, 2, 3, 88, 89, 5, 6, 7, 47, 90, 91, 112, 113, 114] (by decide +kernel) (by decide +kernel)
set_option maxRecDepth 20000 in
theorem gX1_init_X0_init : GoodIn wsX1_init (wsX0_init) := ggX1_init_X0_init
set_option maxRecDepth 20000 in
theorem ggX1_init_X0_add : GoodIn wsX1_init wsX0_add := goodIn_r _ [95, 88, 90, 91, 112, 113, 114] (by decide +kernel) (by decide +kernel)
set_option maxRecDepth 20000 in
theorem gX1_init_X0_add : GoodIn wsX1_init (wsV RX1 94 RX0 yX0_add wsX0_add) := goodIn_app (goodIn_of _ (by decide +kernel)) ggX1_init_X0_add
theorem dX1_init_0 : decode cX1_init 0 = .ok (.aload_n 0, 1) := by decide +kernel
theorem dX1_init_1 : decode cX1_init 1 = .ok (.invokespecial 3, 3) := by decide +kernel
theorem dX1_init_4 : decode cX1_init 4 = .ok (.aload_n 1, 1) := by decide +kernel
theorem dX1_init_5 : decode cX1_init 5 = .ok (.getfield 9, 3) := by decide +kernel
theorem dX1_init_8 : decode cX1_init 8 = .ok (.iconst 0, 1) := by decide +kernel
theorem dX1_init_9 : decode cX1_init 9 = .ok (.invokestatic 15, 3) := by decide +kernel
theorem dX1_init_12 : decode cX1_init 12 = .ok (.istore_n 3, 1) := by decide +kernel
theorem dX1_init_13 : decode cX1_init 13 = .ok (.aload_n 1, 1) := by decide +kernel
theorem dX1_init_14 : decode cX1_init 14 = .ok (.invokevirtual 21, 3) := by decide +kernel
theorem dX1_init_17 : decode cX1_init 17 = .ok (.istore 4, 2) := by decide +kernel
theorem dX1_init_19 : decode cX1_init 19 = .ok (.aload_n 1, 1) := by decide +kernel
theorem dX1_init_20 : decode cX1_init 20 = .ok (.invokevirtual 25, 3) := by decide +kernel
theorem dX1_init_23 : decode cX1_init 23 = .ok (.istore 5, 2) := by decide +kernel
theorem dX1_init_25 : decode cX1_init 25 = .ok (.aload_n 0, 1) := by decide +kernel
theorem dX1_init_26 : decode cX1_init 26 = .ok (.aload_n 1, 1) := by decide +kernel
theorem dX1_init_27 : decode cX1_init 27 = .ok (.getfield 28, 3) := by decide +kernel
theorem dX1_init_30 : decode cX1_init 30 = .ok (.iload_n 3, 1) := by decide +kernel
theorem dX1_init_31 : decode cX1_init 31 = .ok (.invokestatic 32, 3) := by decide +kernel
theorem dX1_init_34 : decode cX1_init 34 = .ok (.putfield 38, 3) := by decide +kernel
theorem dX1_init_37 : decode cX1_init 37 = .ok (.aload_n 0, 1) := by decide +kernel
theorem dX1_init_38 : decode cX1_init 38 = .ok (.aload_n 1, 1) := by decide +kernel
theorem dX1_init_39 : decode cX1_init 39 = .ok (.getfield 41, 3) := by decide +kernel
theorem dX1_init_42 : decode cX1_init 42 = .ok (.iload_n 3, 1) := by decide +kernel
theorem dX1_init_43 : decode cX1_init 43 = .ok (.invokestatic 32, 3) := by decide +kernel
theorem dX1_init_46 : decode cX1_init 46 = .ok (.putfield 44, 3) := by decide +kernel
theorem dX1_init_49 : decode cX1_init 49 = .ok (.aload_n 0, 1) := by decide +kernel
theorem dX1_init_50 : decode cX1_init 50 = .ok (.aload_n 1, 1) := by decide +kernel
theorem dX1_init_51 : decode cX1_init 51 = .ok (.getfield 45, 3) := by decide +kernel
theorem dX1_init_54 : decode cX1_init 54 = .ok (.iload_n 3, 1) := by decide +kernel
theorem dX1_init_55 : decode cX1_init 55 = .ok (.invokestatic 32, 3) := by decide +kernel
theorem dX1_init_58 : decode cX1_init 58 = .ok (.putfield 48, 3) := by decide +kernel
theorem dX1_init_61 : decode cX1_init 61 = .ok (.aload_n 0, 1) := by decide +kernel
theorem dX1_init_62 : decode cX1_init 62 = .ok (.iload_n 2, 1) := by decide +kernel
theorem dX1_init_63 : decode cX1_init 63 = .ok (.putfield 49, 3) := by decide +kernel
theorem dX1_init_66 : decode cX1_init 66 = .ok (.aload_n 0, 1) := by decide +kernel
theorem dX1_init_67 : decode cX1_init 67 = .ok (.aload_n 1, 1) := by decide +kernel
theorem dX1_init_68 : decode cX1_init 68 = .ok (.invokevirtual 52, 3) := by decide +kernel
theorem dX1_init_71 : decode cX1_init 71 = .ok (.putfield 55, 3) := by decide +kernel
theorem dX1_init_74 : decode cX1_init 74 = .ok (.aload_n 0, 1) := by decide +kernel
theorem dX1_init_75 : decode cX1_init 75 = .ok (.aload_n 1, 1) := by decide +kernel
theorem dX1_init_76 : decode cX1_init 76 = .ok (.iload 4, 2) := by decide +kernel
theorem dX1_init_78 : decode cX1_init 78 = .ok (.invokevirtual 58, 3) := by decide +kernel
theorem dX1_init_81 : decode cX1_init 81 = .ok (.putfield 62, 3) := by decide +kernel
theorem dX1_init_84 : decode cX1_init 84 = .ok (.aload_n 0, 1) := by decide +kernel
theorem dX1_init_85 : decode cX1_init 85 = .ok (.aload_n 1, 1) := by decide +kernel
theorem dX1_init_86 : decode cX1_init 86 = .ok (.iconst 0, 1) := by decide +kernel
theorem dX1_init_87 : decode cX1_init 87 = .ok (.iload 5, 2) := by decide +kernel
theorem dX1_init_89 : decode cX1_init 89 = .ok (.invokevirtual 65, 3) := by decide +kernel
theorem dX1_init_92 : decode cX1_init 92 = .ok (.putfield 68, 3) := by decide +kernel
theorem dX1_init_95 : decode cX1_init 95 = .ok (.aload_n 0, 1) := by decide +kernel
theorem dX1_init_96 : decode cX1_init 96 = .ok (.aload_n 1, 1) := by decide +kernel
theorem dX1_init_97 : decode cX1_init 97 = .ok (.iload 5, 2) := by decide +kernel
theorem dX1_init_99 : decode cX1_init 99 = .ok (.iload_n 3, 1) := by decide +kernel
theorem dX1_init_100 : decode cX1_init 100 = .ok (.invokevirtual 65, 3) := by decide +kernel
theorem dX1_init_103 : decode cX1_init 103 = .ok (.putfield 71, 3) := by decide +kernel
theorem dX1_init_106 : decode cX1_init 106 = .ok (.aload_n 0, 1) := by decide +kernel
theorem dX1_init_107 : decode cX1_init 107 = .ok (.iload 4, 2) := by decide +kernel
theorem dX1_init_109 : decode cX1_init 109 = .ok (.bipush 17, 2) := by decide +kernel
theorem dX1_init_111 : decode cX1_init 111 = .ok (.invokestatic 74, 3) := by decide +kernel
theorem dX1_init_114 : decode cX1_init 114 = .ok (.ifCond .eq 13, 3) := by decide +kernel
theorem dX1_init_117 : decode cX1_init 117 = .ok (.aload_n 1, 1) := by decide +kernel
theorem dX1_init_118 : decode cX1_init 118 = .ok (.bipush 80, 2) := by decide +kernel
theorem dX1_init_120 : decode cX1_init 120 = .ok (.invokevirtual 78, 3) := by decide +kernel
theorem dX1_init_123 : decode cX1_init 123 = .ok (.ineg, 1) := by decide +kernel
theorem dX1_init_124 : decode cX1_init 124 = .ok (.goto 7, 3) := by decide +kernel
theorem dX1_init_127 : decode cX1_init 127 = .ok (.aload_n 0, 1) := by decide +kernel
theorem dX1_init_128 : decode cX1_init 128 = .ok (.getfield 71, 3) := by decide +kernel
theorem dX1_init_131 : decode cX1_init 131 = .ok (.putfield 81, 3) := by decide +kernel
theorem dX1_init_134 : decode cX1_init 134 = .ok (.aload_n 0, 1) := by decide +kernel
theorem dX1_init_135 : decode cX1_init 135 = .ok (.getfield 71, 3) := by decide +kernel
theorem dX1_init_138 : decode cX1_init 138 = .ok (.ifCond .eq 11, 3) := by decide +kernel
theorem dX1_init_141 : decode cX1_init 141 = .ok (.iload 4, 2) := by decide +kernel
theorem dX1_init_143 : decode cX1_init 143 = .ok (.ldc 84, 2) := by decide +kernel
theorem dX1_init_145 : decode cX1_init 145 = .ok (.iand, 1) := by decide +kernel
theorem dX1_init_146 : decode cX1_init 146 = .ok (.ifCond .eq 7, 3) := by decide +kernel
theorem dX1_init_149 : decode cX1_init 149 = .ok (.iconst 1, 1) := by decide +kernel
theorem dX1_init_150 : decode cX1_init 150 = .ok (.goto 4, 3) := by decide +kernel
theorem dX1_init_153 : decode cX1_init 153 = .ok (.iconst 0, 1) := by decide +kernel
theorem dX1_init_154 : decode cX1_init 154 = .ok (.istore 6, 2) := by decide +kernel
theorem dX1_init_156 : decode cX1_init 156 = .ok (.aload_n 0, 1) := by decide +kernel
theorem dX1_init_157 : decode cX1_init 157 = .ok (.new 85, 3) := by decide +kernel
theorem dX1_init_160 : decode cX1_init 160 = .ok (.dup, 1) := by decide +kernel
theorem dX1_init_161 : decode cX1_init 161 = .ok (.iload_n 3, 1) := by decide +kernel
theorem dX1_init_162 : decode cX1_init 162 = .ok (.invokespecial 87, 3) := by decide +kernel
theorem dX1_init_165 : decode cX1_init 165 = .ok (.putfield 90, 3) := by decide +kernel
theorem dX1_init_168 : decode cX1_init 168 = .ok (.iconst 0, 1) := by decide +kernel
theorem dX1_init_169 : decode cX1_init 169 = .ok (.istore 7, 2) := by decide +kernel
theorem dX1_init_171 : decode cX1_init 171 = .ok (.iload 7, 2) := by decide +kernel
theorem dX1_init_173 : decode cX1_init 173 = .ok (.iload_n 3, 1) := by decide +kernel
theorem dX1_init_174 : decode cX1_init 174 = .ok (.if_icmp .ge 67, 3) := by decide +kernel
theorem dX1_init_177 : decode cX1_init 177 = .ok (.iload 7, 2) := by decide +kernel
theorem dX1_init_179 : decode cX1_init 179 = .ok (.aload_n 0, 1) := by decide +kernel
theorem dX1_init_180 : decode cX1_init 180 = .ok (.getfield 38, 3) := by decide +kernel
theorem dX1_init_183 : decode cX1_init 183 = .ok (.arraylength, 1) := by decide +kernel
theorem dX1_init_184 : decode cX1_init 184 = .ok (.if_icmp .ge 57, 3) := by decide +kernel
theorem dX1_init_187 : decode cX1_init 187 = .ok (.iload 7, 2) := by decide +kernel
theorem dX1_init_189 : decode cX1_init 189 = .ok (.aload_n 0, 1) := by decide +kernel
theorem dX1_init_190 : decode cX1_init 190 = .ok (.getfield 44, 3) := by decide +kernel
theorem dX1_init_193 : decode cX1_init 193 = .ok (.arraylength, 1) := by decide +kernel
theorem dX1_init_194 : decode cX1_init 194 = .ok (.if_icmp .ge 47, 3) := by decide +kernel
theorem dX1_init_197 : decode cX1_init 197 = .ok (.aload_n 0, 1) := by decide +kernel
theorem dX1_init_198 : decode cX1_init 198 = .ok (.getfield 38, 3) := by decide +kernel
theorem dX1_init_201 : decode cX1_init 201 = .ok (.iload 7, 2) := by decide +kernel
theorem dX1_init_203 : decode cX1_init 203 = .ok (.iaload, 1) := by decide +kernel
theorem dX1_init_204 : decode cX1_init 204 = .ok (.bipush 86, 2) := by decide +kernel
theorem dX1_init_206 : decode cX1_init 206 = .ok (.if_icmp .ne 8, 3) := by decide +kernel
theorem dX1_init_209 : decode cX1_init 209 = .ok (.iload 6, 2) := by decide +kernel
theorem dX1_init_211 : decode cX1_init 211 = .ok (.ifCond .ne 24, 3) := by decide +kernel
theorem dX1_init_214 : decode cX1_init 214 = .ok (.aload_n 0, 1) := by decide +kernel
theorem dX1_init_215 : decode cX1_init 215 = .ok (.getfield 90, 3) := by decide +kernel
theorem dX1_init_218 : decode cX1_init 218 = .ok (.aload_n 0, 1) := by decide +kernel
theorem dX1_init_219 : decode cX1_init 219 = .ok (.getfield 38, 3) := by decide +kernel
theorem dX1_init_222 : decode cX1_init 222 = .ok (.iload 7, 2) := by decide +kernel
theorem dX1_init_224 : decode cX1_init 224 = .ok (.iaload, 1) := by decide +kernel
theorem dX1_init_225 : decode cX1_init 225 = .ok (.aload_n 0, 1) := by decide +kernel
theorem dX1_init_226 : decode cX1_init 226 = .ok (.getfield 44, 3) := by decide +kernel
theorem dX1_init_229 : decode cX1_init 229 = .ok (.iload 7, 2) := by decide +kernel
theorem dX1_init_231 : decode cX1_init 231 = .ok (.iaload, 1) := by decide +kernel
theorem dX1_init_232 : decode cX1_init 232 = .ok (.invokevirtual 94, 3) := by decide +kernel
theorem dX1_init_235 : decode cX1_init 235 = .ok (.iinc 7 1, 3) := by decide +kernel
theorem dX1_init_238 : decode cX1_init 238 = .ok (.goto (-67), 3) := by decide +kernel
theorem dX1_init_241 : decode cX1_init 241 = .ok (.return_, 1) := by decide +kernel
theorem dX1_isNumber_0 : decode cX1_isNumber 0 = .ok (.aload_n 0, 1) := by decide +kernel
theorem dX1_isNumber_1 : decode cX1_isNumber 1 = .ok (.getfield 62, 3) := by decide +kernel
theorem dX1_isNumber_4 : decode cX1_isNumber 4 = .ok (.iconst 3, 1) := by decide +kernel
theorem dX1_isNumber_5 : decode cX1_isNumber 5 = .ok (.if_icmp .eq 11, 3) := by decide +kernel
theorem dX1_isNumber_8 : decode cX1_isNumber 8 = .ok (.aload_n 0, 1) := by decide +kernel
theorem dX1_isNumber_9 : decode cX1_isNumber 9 = .ok (.getfield 62, 3) := by decide +kernel
theorem dX1_isNumber_12 : decode cX1_isNumber 12 = .ok (.iconst 4, 1) := by decide +kernel
theorem dX1_isNumber_13 : decode cX1_isNumber 13 = .ok (.if_icmp .ne 7, 3) := by decide +kernel
theorem dX1_isNumber_16 : decode cX1_isNumber 16 = .ok (.iconst 1, 1) := by decide +kernel
theorem dX1_isNumber_17 : decode cX1_isNumber 17 = .ok (.goto 4, 3) := by decide +kernel
theorem dX1_isNumber_20 : decode cX1_isNumber 20 = .ok (.iconst 0, 1) := by decide +kernel
theorem dX1_isNumber_21 : decode cX1_isNumber 21 = .ok (.ireturn, 1) := by decide +kernel
set_option maxRecDepth 20000 in
theorem ggX1_characterAt_X4_widthOf : GoodIn wsX1_characterAt wsX4_widthOf := goodIn_r _ [5] (by decide +kernel) (by decide +kernel)
set_option maxRecDepth 20000 in
theorem gX1_characterAt_X4_widthOf_n98 : GoodIn wsX1_characterAt (wsX4_widthOf) := ggX1_characterAt_X4_widthOf
set_option maxRecDepth 20000 in
theorem ggX1_characterAt_X1_letterOf : GoodIn wsX1_characterAt wsX1_letterOf := goodIn_r _ [10, 11, 12, 13, 14, 15, 16, 17, 18, 19, 20, 21] (by decide +kernel) (by decide +kernel)
set_option maxRecDepth 20000 in
theorem gX1_characterAt_X1_letterOf : GoodIn wsX1_characterAt (wsV RX1 101 RX1 yX1_letterOf wsX1_letterOf) := goodIn_app (goodIn_of _ (by decide +kernel)) ggX1_characterAt_X1_letterOf
theorem dX1_characterAt_0 : decode cX1_characterAt 0 = .ok (.iload_n 1, 1) := by decide +kernel
theorem dX1_characterAt_1 : decode cX1_characterAt 1 = .ok (.ifCond .ge 5, 3) := by decide +kernel
theorem dX1_characterAt_4 : decode cX1_characterAt 4 = .ok (.iconst (-1), 1) := by decide +kernel
theorem dX1_characterAt_5 : decode cX1_characterAt 5 = .ok (.ireturn, 1) := by decide +kernel
theorem dX1_characterAt_6 : decode cX1_characterAt 6 = .ok (.iload_n 1, 1) := by decide +kernel
theorem dX1_characterAt_7 : decode cX1_characterAt 7 = .ok (.istore_n 2, 1) := by decide +kernel
theorem dX1_characterAt_8 : decode cX1_characterAt 8 = .ok (.iconst 0, 1) := by decide +kernel
theorem dX1_characterAt_9 : decode cX1_characterAt 9 = .ok (.istore_n 3, 1) := by decide +kernel
theorem dX1_characterAt_10 : decode cX1_characterAt 10 = .ok (.iload_n 3, 1) := by decide +kernel
theorem dX1_characterAt_11 : decode cX1_characterAt 11 = .ok (.aload_n 0, 1) := by decide +kernel
theorem dX1_characterAt_12 : decode cX1_characterAt 12 = .ok (.getfield 38, 3) := by decide +kernel
theorem dX1_characterAt_15 : decode cX1_characterAt 15 = .ok (.arraylength, 1) := by decide +kernel
theorem dX1_characterAt_16 : decode cX1_characterAt 16 = .ok (.if_icmp .ge 59, 3) := by decide +kernel
theorem dX1_characterAt_19 : decode cX1_characterAt 19 = .ok (.iload_n 3, 1) := by decide +kernel
theorem dX1_characterAt_20 : decode cX1_characterAt 20 = .ok (.aload_n 0, 1) := by decide +kernel
theorem dX1_characterAt_21 : decode cX1_characterAt 21 = .ok (.getfield 44, 3) := by decide +kernel
theorem dX1_characterAt_24 : decode cX1_characterAt 24 = .ok (.arraylength, 1) := by decide +kernel
theorem dX1_characterAt_25 : decode cX1_characterAt 25 = .ok (.if_icmp .ge 50, 3) := by decide +kernel
theorem dX1_characterAt_28 : decode cX1_characterAt 28 = .ok (.aload_n 0, 1) := by decide +kernel
theorem dX1_characterAt_29 : decode cX1_characterAt 29 = .ok (.getfield 44, 3) := by decide +kernel
theorem dX1_characterAt_32 : decode cX1_characterAt 32 = .ok (.iload_n 3, 1) := by decide +kernel
theorem dX1_characterAt_33 : decode cX1_characterAt 33 = .ok (.iaload, 1) := by decide +kernel
theorem dX1_characterAt_34 : decode cX1_characterAt 34 = .ok (.aload_n 0, 1) := by decide +kernel
theorem dX1_characterAt_35 : decode cX1_characterAt 35 = .ok (.getfield 38, 3) := by decide +kernel
theorem dX1_characterAt_38 : decode cX1_characterAt 38 = .ok (.iload_n 3, 1) := by decide +kernel
theorem dX1_characterAt_39 : decode cX1_characterAt 39 = .ok (.iaload, 1) := by decide +kernel
theorem dX1_characterAt_40 : decode cX1_characterAt 40 = .ok (.invokestatic 98, 3) := by decide +kernel
theorem dX1_characterAt_43 : decode cX1_characterAt 43 = .ok (.imul, 1) := by decide +kernel
theorem dX1_characterAt_44 : decode cX1_characterAt 44 = .ok (.istore 4, 2) := by decide +kernel
theorem dX1_characterAt_46 : decode cX1_characterAt 46 = .ok (.iload_n 2, 1) := by decide +kernel
theorem dX1_characterAt_47 : decode cX1_characterAt 47 = .ok (.iload 4, 2) := by decide +kernel
theorem dX1_characterAt_49 : decode cX1_characterAt 49 = .ok (.if_icmp .ge 15, 3) := by decide +kernel
theorem dX1_characterAt_52 : decode cX1_characterAt 52 = .ok (.aload_n 0, 1) := by decide +kernel
theorem dX1_characterAt_53 : decode cX1_characterAt 53 = .ok (.aload_n 0, 1) := by decide +kernel
theorem dX1_characterAt_54 : decode cX1_characterAt 54 = .ok (.getfield 38, 3) := by decide +kernel
theorem dX1_characterAt_57 : decode cX1_characterAt 57 = .ok (.iload_n 3, 1) := by decide +kernel
theorem dX1_characterAt_58 : decode cX1_characterAt 58 = .ok (.iaload, 1) := by decide +kernel
theorem dX1_characterAt_59 : decode cX1_characterAt 59 = .ok (.iload_n 2, 1) := by decide +kernel
theorem dX1_characterAt_60 : decode cX1_characterAt 60 = .ok (.invokevirtual 101, 3) := by decide +kernel
theorem dX1_characterAt_63 : decode cX1_characterAt 63 = .ok (.ireturn, 1) := by decide +kernel
theorem dX1_characterAt_64 : decode cX1_characterAt 64 = .ok (.iload_n 2, 1) := by decide +kernel
theorem dX1_characterAt_65 : decode cX1_characterAt 65 = .ok (.iload 4, 2) := by decide +kernel
theorem dX1_characterAt_67 : decode cX1_characterAt 67 = .ok (.isub, 1) := by decide +kernel
theorem dX1_characterAt_68 : decode cX1_characterAt 68 = .ok (.istore_n 2, 1) := by decide +kernel
theorem dX1_characterAt_69 : decode cX1_characterAt 69 = .ok (.iinc 3 1, 3) := by decide +kernel
theorem dX1_characterAt_72 : decode cX1_characterAt 72 = .ok (.goto (-62), 3) := by decide +kernel
theorem dX1_characterAt_75 : decode cX1_characterAt 75 = .ok (.iconst (-1), 1) := by decide +kernel
theorem dX1_characterAt_76 : decode cX1_characterAt 76 = .ok (.ireturn, 1) := by decide +kernel
theorem dX1_letterOf_0 : decode cX1_letterOf 0 = .ok (.iload_n 1, 1) := by decide +kernel
theorem dX1_letterOf_1 : decode cX1_letterOf 1 = .ok (.lookupswitch 68 #[(36, 35), (67, 40), (68, 54)], 35) := by decide +kernel
theorem dX1_letterOf_36 : decode cX1_letterOf 36 = .ok (.aload_n 0, 1) := by decide +kernel
theorem dX1_letterOf_37 : decode cX1_letterOf 37 = .ok (.getfield 49, 3) := by decide +kernel
theorem dX1_letterOf_40 : decode cX1_letterOf 40 = .ok (.ireturn, 1) := by decide +kernel
theorem dX1_letterOf_41 : decode cX1_letterOf 41 = .ok (.iload_n 2, 1) := by decide +kernel
theorem dX1_letterOf_42 : decode cX1_letterOf 42 = .ok (.iconst 2, 1) := by decide +kernel
theorem dX1_letterOf_43 : decode cX1_letterOf 43 = .ok (.irem, 1) := by decide +kernel
theorem dX1_letterOf_44 : decode cX1_letterOf 44 = .ok (.ifCond .ne 8, 3) := by decide +kernel
theorem dX1_letterOf_47 : decode cX1_letterOf 47 = .ok (.bipush 67, 2) := by decide +kernel
theorem dX1_letterOf_49 : decode cX1_letterOf 49 = .ok (.goto 5, 3) := by decide +kernel
theorem dX1_letterOf_52 : decode cX1_letterOf 52 = .ok (.bipush 82, 2) := by decide +kernel
theorem dX1_letterOf_54 : decode cX1_letterOf 54 = .ok (.ireturn, 1) := by decide +kernel
theorem dX1_letterOf_55 : decode cX1_letterOf 55 = .ok (.iload_n 2, 1) := by decide +kernel
theorem dX1_letterOf_56 : decode cX1_letterOf 56 = .ok (.iconst 2, 1) := by decide +kernel
theorem dX1_letterOf_57 : decode cX1_letterOf 57 = .ok (.irem, 1) := by decide +kernel
theorem dX1_letterOf_58 : decode cX1_letterOf 58 = .ok (.ifCond .ne 8, 3) := by decide +kernel
theorem dX1_letterOf_61 : decode cX1_letterOf 61 = .ok (.bipush 68, 2) := by decide +kernel
theorem dX1_letterOf_63 : decode cX1_letterOf 63 = .ok (.goto 5, 3) := by decide +kernel
theorem dX1_letterOf_66 : decode cX1_letterOf 66 = .ok (.bipush 66, 2) := by decide +kernel
theorem dX1_letterOf_68 : decode cX1_letterOf 68 = .ok (.ireturn, 1) := by decide +kernel
theorem dX1_letterOf_69 : decode cX1_letterOf 69 = .ok (.iload_n 1, 1) := by decide +kernel
theorem dX1_letterOf_70 : decode cX1_letterOf 70 = .ok (.ireturn, 1) := by decide +kernel
set_option maxRecDepth 20000 in
theorem ggX1_insertionsOf_X1_countOf : GoodIn wsX1_insertionsOf wsX1_countOf := goodIn_r _ [5, 6, 7, 13, 14, 15, 16, 17, 18, 19, 20, 21, 22] (by decide +kernel) (by decide +kernel)
set_option maxRecDepth 20000 in
theorem gX1_insertionsOf_X1_countOf : GoodIn wsX1_insertionsOf (wsV RX1 104 RX1 yX1_countOf wsX1_countOf) := goodIn_app (goodIn_of _ (by decide +kernel)) ggX1_insertionsOf_X1_countOf
set_option maxRecDepth 20000 in
theorem ggX1_insertionsOf_X1_countOfKind : GoodIn wsX1_insertionsOf wsX1_countOfKind := goodIn_r _ [11, 12, 7, 13, 14, 15, 16, 17, 18, 19, 20, 21, 22] (by decide +kernel) (by decide +kernel)
set_option maxRecDepth 20000 in
theorem gX1_insertionsOf_X1_countOfKind : GoodIn wsX1_insertionsOf (wsV RX1 105 RX1 yX1_countOfKind wsX1_countOfKind) := goodIn_app (goodIn_of _ (by decide +kernel)) ggX1_insertionsOf_X1_countOfKind
theorem dX1_insertionsOf_0 : decode cX1_insertionsOf 0 = .ok (.iload_n 1, 1) := by decide +kernel
theorem dX1_insertionsOf_1 : decode cX1_insertionsOf 1 = .ok (.tableswitch 96 0 6 #[43, 50, 57, 64, 71, 78, 90], 43) := by decide +kernel
theorem dX1_insertionsOf_44 : decode cX1_insertionsOf 44 = .ok (.aload_n 0, 1) := by decide +kernel
theorem dX1_insertionsOf_45 : decode cX1_insertionsOf 45 = .ok (.bipush 66, 2) := by decide +kernel
theorem dX1_insertionsOf_47 : decode cX1_insertionsOf 47 = .ok (.invokevirtual 104, 3) := by decide +kernel
theorem dX1_insertionsOf_50 : decode cX1_insertionsOf 50 = .ok (.ireturn, 1) := by decide +kernel
theorem dX1_insertionsOf_51 : decode cX1_insertionsOf 51 = .ok (.aload_n 0, 1) := by decide +kernel
theorem dX1_insertionsOf_52 : decode cX1_insertionsOf 52 = .ok (.bipush 48, 2) := by decide +kernel
theorem dX1_insertionsOf_54 : decode cX1_insertionsOf 54 = .ok (.invokevirtual 104, 3) := by decide +kernel
theorem dX1_insertionsOf_57 : decode cX1_insertionsOf 57 = .ok (.ireturn, 1) := by decide +kernel
theorem dX1_insertionsOf_58 : decode cX1_insertionsOf 58 = .ok (.aload_n 0, 1) := by decide +kernel
theorem dX1_insertionsOf_59 : decode cX1_insertionsOf 59 = .ok (.bipush 47, 2) := by decide +kernel
theorem dX1_insertionsOf_61 : decode cX1_insertionsOf 61 = .ok (.invokevirtual 104, 3) := by decide +kernel
theorem dX1_insertionsOf_64 : decode cX1_insertionsOf 64 = .ok (.ireturn, 1) := by decide +kernel
theorem dX1_insertionsOf_65 : decode cX1_insertionsOf 65 = .ok (.aload_n 0, 1) := by decide +kernel
theorem dX1_insertionsOf_66 : decode cX1_insertionsOf 66 = .ok (.bipush 44, 2) := by decide +kernel
theorem dX1_insertionsOf_68 : decode cX1_insertionsOf 68 = .ok (.invokevirtual 104, 3) := by decide +kernel
theorem dX1_insertionsOf_71 : decode cX1_insertionsOf 71 = .ok (.ireturn, 1) := by decide +kernel
theorem dX1_insertionsOf_72 : decode cX1_insertionsOf 72 = .ok (.aload_n 0, 1) := by decide +kernel
theorem dX1_insertionsOf_73 : decode cX1_insertionsOf 73 = .ok (.bipush 46, 2) := by decide +kernel
theorem dX1_insertionsOf_75 : decode cX1_insertionsOf 75 = .ok (.invokevirtual 104, 3) := by decide +kernel
theorem dX1_insertionsOf_78 : decode cX1_insertionsOf 78 = .ok (.ireturn, 1) := by decide +kernel
theorem dX1_insertionsOf_79 : decode cX1_insertionsOf 79 = .ok (.aload_n 0, 1) := by decide +kernel
theorem dX1_insertionsOf_80 : decode cX1_insertionsOf 80 = .ok (.iconst 3, 1) := by decide +kernel
theorem dX1_insertionsOf_81 : decode cX1_insertionsOf 81 = .ok (.invokevirtual 105, 3) := by decide +kernel
theorem dX1_insertionsOf_84 : decode cX1_insertionsOf 84 = .ok (.aload_n 0, 1) := by decide +kernel
theorem dX1_insertionsOf_85 : decode cX1_insertionsOf 85 = .ok (.iconst 4, 1) := by decide +kernel
theorem dX1_insertionsOf_86 : decode cX1_insertionsOf 86 = .ok (.invokevirtual 105, 3) := by decide +kernel
theorem dX1_insertionsOf_89 : decode cX1_insertionsOf 89 = .ok (.iadd, 1) := by decide +kernel
theorem dX1_insertionsOf_90 : decode cX1_insertionsOf 90 = .ok (.ireturn, 1) := by decide +kernel
theorem dX1_insertionsOf_91 : decode cX1_insertionsOf 91 = .ok (.aload_n 0, 1) := by decide +kernel
theorem dX1_insertionsOf_92 : decode cX1_insertionsOf 92 = .ok (.iconst 5, 1) := by decide +kernel
theorem dX1_insertionsOf_93 : decode cX1_insertionsOf 93 = .ok (.invokevirtual 105, 3) := by decide +kernel
theorem dX1_insertionsOf_96 : decode cX1_insertionsOf 96 = .ok (.ireturn, 1) := by decide +kernel
theorem dX1_insertionsOf_97 : decode cX1_insertionsOf 97 = .ok (.iconst (-1), 1) := by decide +kernel
theorem dX1_insertionsOf_98 : decode cX1_insertionsOf 98 = .ok (.ireturn, 1) := by decide +kernel
theorem dX1_countOf_0 : decode cX1_countOf 0 = .ok (.iconst 0, 1) := by decide +kernel
theorem dX1_countOf_1 : decode cX1_countOf 1 = .ok (.istore_n 2, 1) := by decide +kernel
theorem dX1_countOf_2 : decode cX1_countOf 2 = .ok (.iconst 0, 1) := by decide +kernel
theorem dX1_countOf_3 : decode cX1_countOf 3 = .ok (.istore_n 3, 1) := by decide +kernel
theorem dX1_countOf_4 : decode cX1_countOf 4 = .ok (.iload_n 3, 1) := by decide +kernel
theorem dX1_countOf_5 : decode cX1_countOf 5 = .ok (.aload_n 0, 1) := by decide +kernel
theorem dX1_countOf_6 : decode cX1_countOf 6 = .ok (.getfield 38, 3) := by decide +kernel
theorem dX1_countOf_9 : decode cX1_countOf 9 = .ok (.arraylength, 1) := by decide +kernel
theorem dX1_countOf_10 : decode cX1_countOf 10 = .ok (.if_icmp .ge 41, 3) := by decide +kernel
theorem dX1_countOf_13 : decode cX1_countOf 13 = .ok (.iload_n 3, 1) := by decide +kernel
theorem dX1_countOf_14 : decode cX1_countOf 14 = .ok (.aload_n 0, 1) := by decide +kernel
theorem dX1_countOf_15 : decode cX1_countOf 15 = .ok (.getfield 44, 3) := by decide +kernel
theorem dX1_countOf_18 : decode cX1_countOf 18 = .ok (.arraylength, 1) := by decide +kernel
theorem dX1_countOf_19 : decode cX1_countOf 19 = .ok (.if_icmp .ge 32, 3) := by decide +kernel
theorem dX1_countOf_22 : decode cX1_countOf 22 = .ok (.iload_n 2, 1) := by decide +kernel
theorem dX1_countOf_23 : decode cX1_countOf 23 = .ok (.aload_n 0, 1) := by decide +kernel
theorem dX1_countOf_24 : decode cX1_countOf 24 = .ok (.getfield 38, 3) := by decide +kernel
theorem dX1_countOf_27 : decode cX1_countOf 27 = .ok (.iload_n 3, 1) := by decide +kernel
theorem dX1_countOf_28 : decode cX1_countOf 28 = .ok (.iaload, 1) := by decide +kernel
theorem dX1_countOf_29 : decode cX1_countOf 29 = .ok (.iload_n 1, 1) := by decide +kernel
theorem dX1_countOf_30 : decode cX1_countOf 30 = .ok (.if_icmp .ne 12, 3) := by decide +kernel
theorem dX1_countOf_33 : decode cX1_countOf 33 = .ok (.aload_n 0, 1) := by decide +kernel
theorem dX1_countOf_34 : decode cX1_countOf 34 = .ok (.getfield 44, 3) := by decide +kernel
theorem dX1_countOf_37 : decode cX1_countOf 37 = .ok (.iload_n 3, 1) := by decide +kernel
theorem dX1_countOf_38 : decode cX1_countOf 38 = .ok (.iaload, 1) := by decide +kernel
theorem dX1_countOf_39 : decode cX1_countOf 39 = .ok (.goto 4, 3) := by decide +kernel
theorem dX1_countOf_42 : decode cX1_countOf 42 = .ok (.iconst 0, 1) := by decide +kernel
theorem dX1_countOf_43 : decode cX1_countOf 43 = .ok (.iadd, 1) := by decide +kernel
theorem dX1_countOf_44 : decode cX1_countOf 44 = .ok (.istore_n 2, 1) := by decide +kernel
theorem dX1_countOf_45 : decode cX1_countOf 45 = .ok (.iinc 3 1, 3) := by decide +kernel
theorem dX1_countOf_48 : decode cX1_countOf 48 = .ok (.goto (-44), 3) := by decide +kernel
theorem dX1_countOf_51 : decode cX1_countOf 51 = .ok (.iload_n 2, 1) := by decide +kernel
theorem dX1_countOf_52 : decode cX1_countOf 52 = .ok (.ireturn, 1) := by decide +kernel
theorem dX1_countOfKind_0 : decode cX1_countOfKind 0 = .ok (.iconst 0, 1) := by decide +kernel
theorem dX1_countOfKind_1 : decode cX1_countOfKind 1 = .ok (.istore_n 2, 1) := by decide +kernel
theorem dX1_countOfKind_2 : decode cX1_countOfKind 2 = .ok (.iconst 0, 1) := by decide +kernel
theorem dX1_countOfKind_3 : decode cX1_countOfKind 3 = .ok (.istore_n 3, 1) := by decide +kernel
theorem dX1_countOfKind_4 : decode cX1_countOfKind 4 = .ok (.iload_n 3, 1) := by decide +kernel
theorem dX1_countOfKind_5 : decode cX1_countOfKind 5 = .ok (.aload_n 0, 1) := by decide +kernel
theorem dX1_countOfKind_6 : decode cX1_countOfKind 6 = .ok (.getfield 48, 3) := by decide +kernel
theorem dX1_countOfKind_9 : decode cX1_countOfKind 9 = .ok (.arraylength, 1) := by decide +kernel
theorem dX1_countOfKind_10 : decode cX1_countOfKind 10 = .ok (.if_icmp .ge 41, 3) := by decide +kernel
theorem dX1_countOfKind_13 : decode cX1_countOfKind 13 = .ok (.iload_n 3, 1) := by decide +kernel
theorem dX1_countOfKind_14 : decode cX1_countOfKind 14 = .ok (.aload_n 0, 1) := by decide +kernel
theorem dX1_countOfKind_15 : decode cX1_countOfKind 15 = .ok (.getfield 44, 3) := by decide +kernel
theorem dX1_countOfKind_18 : decode cX1_countOfKind 18 = .ok (.arraylength, 1) := by decide +kernel
theorem dX1_countOfKind_19 : decode cX1_countOfKind 19 = .ok (.if_icmp .ge 32, 3) := by decide +kernel
theorem dX1_countOfKind_22 : decode cX1_countOfKind 22 = .ok (.iload_n 2, 1) := by decide +kernel
theorem dX1_countOfKind_23 : decode cX1_countOfKind 23 = .ok (.aload_n 0, 1) := by decide +kernel
theorem dX1_countOfKind_24 : decode cX1_countOfKind 24 = .ok (.getfield 48, 3) := by decide +kernel
theorem dX1_countOfKind_27 : decode cX1_countOfKind 27 = .ok (.iload_n 3, 1) := by decide +kernel
theorem dX1_countOfKind_28 : decode cX1_countOfKind 28 = .ok (.iaload, 1) := by decide +kernel
theorem dX1_countOfKind_29 : decode cX1_countOfKind 29 = .ok (.iload_n 1, 1) := by decide +kernel
theorem dX1_countOfKind_30 : decode cX1_countOfKind 30 = .ok (.if_icmp .ne 12, 3) := by decide +kernel
theorem dX1_countOfKind_33 : decode cX1_countOfKind 33 = .ok (.aload_n 0, 1) := by decide +kernel
theorem dX1_countOfKind_34 : decode cX1_countOfKind 34 = .ok (.getfield 44, 3) := by decide +kernel
theorem dX1_countOfKind_37 : decode cX1_countOfKind 37 = .ok (.iload_n 3, 1) := by decide +kernel
theorem dX1_countOfKind_38 : decode cX1_countOfKind 38 = .ok (.iaload, 1) := by decide +kernel
theorem dX1_countOfKind_39 : decode cX1_countOfKind 39 = .ok (.goto 4, 3) := by decide +kernel
theorem dX1_countOfKind_42 : decode cX1_countOfKind 42 = .ok (.iconst 0, 1) := by decide +kernel
theorem dX1_countOfKind_43 : decode cX1_countOfKind 43 = .ok (.iadd, 1) := by decide +kernel
theorem dX1_countOfKind_44 : decode cX1_countOfKind 44 = .ok (.istore_n 2, 1) := by decide +kernel
theorem dX1_countOfKind_45 : decode cX1_countOfKind 45 = .ok (.iinc 3 1, 3) := by decide +kernel
theorem dX1_countOfKind_48 : decode cX1_countOfKind 48 = .ok (.goto (-44), 3) := by decide +kernel
theorem dX1_countOfKind_51 : decode cX1_countOfKind 51 = .ok (.iload_n 2, 1) := by decide +kernel
theorem dX1_countOfKind_52 : decode cX1_countOfKind 52 = .ok (.ireturn, 1) := by decide +kernel
