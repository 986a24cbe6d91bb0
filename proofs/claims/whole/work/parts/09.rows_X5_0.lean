theorem dX5_init_0 : decode cX5_init 0 = .ok (.aload_n 0, 1) := by decide +kernel
theorem dX5_init_1 : decode cX5_init 1 = .ok (.invokespecial 1, 3) := by decide +kernel
theorem dX5_init_4 : decode cX5_init 4 = .ok (.aload_n 0, 1) := by decide +kernel
theorem dX5_init_5 : decode cX5_init 5 = .ok (.bipush 80, 2) := by decide +kernel
theorem dX5_init_7 : decode cX5_init 7 = .ok (.newarray .int, 2) := by decide +kernel
theorem dX5_init_9 : decode cX5_init 9 = .ok (.putfield 7, 3) := by decide +kernel
theorem dX5_init_12 : decode cX5_init 12 = .ok (.aload_n 0, 1) := by decide +kernel
theorem dX5_init_13 : decode cX5_init 13 = .ok (.bipush 36, 2) := by decide +kernel
theorem dX5_init_15 : decode cX5_init 15 = .ok (.putfield 13, 3) := by decide +kernel
theorem dX5_init_18 : decode cX5_init 18 = .ok (.aload_n 0, 1) := by decide +kernel
theorem dX5_init_19 : decode cX5_init 19 = .ok (.sipush 10200, 3) := by decide +kernel
theorem dX5_init_22 : decode cX5_init 22 = .ok (.newarray .int, 2) := by decide +kernel
theorem dX5_init_24 : decode cX5_init 24 = .ok (.putfield 17, 3) := by decide +kernel
theorem dX5_init_27 : decode cX5_init 27 = .ok (.aload_n 0, 1) := by decide +kernel
theorem dX5_init_28 : decode cX5_init 28 = .ok (.sipush 10200, 3) := by decide +kernel
theorem dX5_init_31 : decode cX5_init 31 = .ok (.newarray .int, 2) := by decide +kernel
theorem dX5_init_33 : decode cX5_init 33 = .ok (.putfield 20, 3) := by decide +kernel
theorem dX5_init_36 : decode cX5_init 36 = .ok (.aload_n 0, 1) := by decide +kernel
theorem dX5_init_37 : decode cX5_init 37 = .ok (.sipush 10200, 3) := by decide +kernel
theorem dX5_init_40 : decode cX5_init 40 = .ok (.newarray .int, 2) := by decide +kernel
theorem dX5_init_42 : decode cX5_init 42 = .ok (.putfield 23, 3) := by decide +kernel
theorem dX5_init_45 : decode cX5_init 45 = .ok (.aload_n 0, 1) := by decide +kernel
theorem dX5_init_46 : decode cX5_init 46 = .ok (.sipush 10200, 3) := by decide +kernel
theorem dX5_init_49 : decode cX5_init 49 = .ok (.newarray .int, 2) := by decide +kernel
theorem dX5_init_51 : decode cX5_init 51 = .ok (.putfield 26, 3) := by decide +kernel
theorem dX5_init_54 : decode cX5_init 54 = .ok (.aload_n 0, 1) := by decide +kernel
theorem dX5_init_55 : decode cX5_init 55 = .ok (.sipush 10200, 3) := by decide +kernel
theorem dX5_init_58 : decode cX5_init 58 = .ok (.newarray .int, 2) := by decide +kernel
theorem dX5_init_60 : decode cX5_init 60 = .ok (.putfield 29, 3) := by decide +kernel
theorem dX5_init_63 : decode cX5_init 63 = .ok (.aload_n 0, 1) := by decide +kernel
theorem dX5_init_64 : decode cX5_init 64 = .ok (.sipush 10200, 3) := by decide +kernel
theorem dX5_init_67 : decode cX5_init 67 = .ok (.newarray .int, 2) := by decide +kernel
theorem dX5_init_69 : decode cX5_init 69 = .ok (.putfield 32, 3) := by decide +kernel
theorem dX5_init_72 : decode cX5_init 72 = .ok (.aload_n 0, 1) := by decide +kernel
theorem dX5_init_73 : decode cX5_init 73 = .ok (.iconst (-1), 1) := by decide +kernel
theorem dX5_init_74 : decode cX5_init 74 = .ok (.putfield 35, 3) := by decide +kernel
theorem dX5_init_77 : decode cX5_init 77 = .ok (.aload_n 0, 1) := by decide +kernel
theorem dX5_init_78 : decode cX5_init 78 = .ok (.ldc 38, 2) := by decide +kernel
theorem dX5_init_80 : decode cX5_init 80 = .ok (.newarray .int, 2) := by decide +kernel
theorem dX5_init_82 : decode cX5_init 82 = .ok (.putfield 39, 3) := by decide +kernel
theorem dX5_init_85 : decode cX5_init 85 = .ok (.aload_n 0, 1) := by decide +kernel
theorem dX5_init_86 : decode cX5_init 86 = .ok (.ldc 38, 2) := by decide +kernel
theorem dX5_init_88 : decode cX5_init 88 = .ok (.newarray .int, 2) := by decide +kernel
theorem dX5_init_90 : decode cX5_init 90 = .ok (.putfield 42, 3) := by decide +kernel
theorem dX5_init_93 : decode cX5_init 93 = .ok (.aload_n 0, 1) := by decide +kernel
theorem dX5_init_94 : decode cX5_init 94 = .ok (.bipush 40, 2) := by decide +kernel
theorem dX5_init_96 : decode cX5_init 96 = .ok (.newarray .int, 2) := by decide +kernel
theorem dX5_init_98 : decode cX5_init 98 = .ok (.putfield 45, 3) := by decide +kernel
theorem dX5_init_101 : decode cX5_init 101 = .ok (.aload_n 0, 1) := by decide +kernel
theorem dX5_init_102 : decode cX5_init 102 = .ok (.bipush 19, 2) := by decide +kernel
theorem dX5_init_104 : decode cX5_init 104 = .ok (.newarray .int, 2) := by decide +kernel
theorem dX5_init_106 : decode cX5_init 106 = .ok (.dup, 1) := by decide +kernel
theorem dX5_init_107 : decode cX5_init 107 = .ok (.iconst 0, 1) := by decide +kernel
theorem dX5_init_108 : decode cX5_init 108 = .ok (.ldc 48, 2) := by decide +kernel
theorem dX5_init_110 : decode cX5_init 110 = .ok (.iastore, 1) := by decide +kernel
theorem dX5_init_111 : decode cX5_init 111 = .ok (.dup, 1) := by decide +kernel
theorem dX5_init_112 : decode cX5_init 112 = .ok (.iconst 1, 1) := by decide +kernel
theorem dX5_init_113 : decode cX5_init 113 = .ok (.ldc 49, 2) := by decide +kernel
theorem dX5_init_115 : decode cX5_init 115 = .ok (.iastore, 1) := by decide +kernel
theorem dX5_init_116 : decode cX5_init 116 = .ok (.dup, 1) := by decide +kernel
theorem dX5_init_117 : decode cX5_init 117 = .ok (.iconst 2, 1) := by decide +kernel
theorem dX5_init_118 : decode cX5_init 118 = .ok (.sipush 6803, 3) := by decide +kernel
theorem dX5_init_121 : decode cX5_init 121 = .ok (.iastore, 1) := by decide +kernel
theorem dX5_init_122 : decode cX5_init 122 = .ok (.dup, 1) := by decide +kernel
theorem dX5_init_123 : decode cX5_init 123 = .ok (.iconst 3, 1) := by decide +kernel
theorem dX5_init_124 : decode cX5_init 124 = .ok (.ldc 50, 2) := by decide +kernel
theorem dX5_init_126 : decode cX5_init 126 = .ok (.iastore, 1) := by decide +kernel
theorem dX5_init_127 : decode cX5_init 127 = .ok (.dup, 1) := by decide +kernel
theorem dX5_init_128 : decode cX5_init 128 = .ok (.iconst 4, 1) := by decide +kernel
theorem dX5_init_129 : decode cX5_init 129 = .ok (.iconst 0, 1) := by decide +kernel
theorem dX5_init_130 : decode cX5_init 130 = .ok (.iastore, 1) := by decide +kernel
theorem dX5_init_131 : decode cX5_init 131 = .ok (.dup, 1) := by decide +kernel
theorem dX5_init_132 : decode cX5_init 132 = .ok (.iconst 5, 1) := by decide +kernel
theorem dX5_init_133 : decode cX5_init 133 = .ok (.ldc 51, 2) := by decide +kernel
theorem dX5_init_135 : decode cX5_init 135 = .ok (.iastore, 1) := by decide +kernel
theorem dX5_init_136 : decode cX5_init 136 = .ok (.dup, 1) := by decide +kernel
theorem dX5_init_137 : decode cX5_init 137 = .ok (.bipush 6, 2) := by decide +kernel
theorem dX5_init_139 : decode cX5_init 139 = .ok (.ldc 52, 2) := by decide +kernel
theorem dX5_init_141 : decode cX5_init 141 = .ok (.iastore, 1) := by decide +kernel
theorem dX5_init_142 : decode cX5_init 142 = .ok (.dup, 1) := by decide +kernel
theorem dX5_init_143 : decode cX5_init 143 = .ok (.bipush 7, 2) := by decide +kernel
theorem dX5_init_145 : decode cX5_init 145 = .ok (.sipush 147, 3) := by decide +kernel
theorem dX5_init_148 : decode cX5_init 148 = .ok (.iastore, 1) := by decide +kernel
theorem dX5_init_149 : decode cX5_init 149 = .ok (.dup, 1) := by decide +kernel
theorem dX5_init_150 : decode cX5_init 150 = .ok (.bipush 8, 2) := by decide +kernel
theorem dX5_init_152 : decode cX5_init 152 = .ok (.ldc 53, 2) := by decide +kernel
theorem dX5_init_154 : decode cX5_init 154 = .ok (.iastore, 1) := by decide +kernel
theorem dX5_init_155 : decode cX5_init 155 = .ok (.dup, 1) := by decide +kernel
theorem dX5_init_156 : decode cX5_init 156 = .ok (.bipush 9, 2) := by decide +kernel
theorem dX5_init_158 : decode cX5_init 158 = .ok (.sipush 515, 3) := by decide +kernel
theorem dX5_init_161 : decode cX5_init 161 = .ok (.iastore, 1) := by decide +kernel
theorem dX5_init_162 : decode cX5_init 162 = .ok (.dup, 1) := by decide +kernel
theorem dX5_init_163 : decode cX5_init 163 = .ok (.bipush 10, 2) := by decide +kernel
theorem dX5_init_165 : decode cX5_init 165 = .ok (.ldc 54, 2) := by decide +kernel
theorem dX5_init_167 : decode cX5_init 167 = .ok (.iastore, 1) := by decide +kernel
theorem dX5_init_168 : decode cX5_init 168 = .ok (.dup, 1) := by decide +kernel
theorem dX5_init_169 : decode cX5_init 169 = .ok (.bipush 11, 2) := by decide +kernel
theorem dX5_init_171 : decode cX5_init 171 = .ok (.sipush 2067, 3) := by decide +kernel
theorem dX5_init_174 : decode cX5_init 174 = .ok (.iastore, 1) := by decide +kernel
theorem dX5_init_175 : decode cX5_init 175 = .ok (.dup, 1) := by decide +kernel
theorem dX5_init_176 : decode cX5_init 176 = .ok (.bipush 12, 2) := by decide +kernel
theorem dX5_init_178 : decode cX5_init 178 = .ok (.ldc 55, 2) := by decide +kernel
theorem dX5_init_180 : decode cX5_init 180 = .ok (.iastore, 1) := by decide +kernel
theorem dX5_init_181 : decode cX5_init 181 = .ok (.dup, 1) := by decide +kernel
theorem dX5_init_182 : decode cX5_init 182 = .ok (.bipush 13, 2) := by decide +kernel
theorem dX5_init_184 : decode cX5_init 184 = .ok (.sipush 12289, 3) := by decide +kernel
theorem dX5_init_187 : decode cX5_init 187 = .ok (.iastore, 1) := by decide +kernel
theorem dX5_init_188 : decode cX5_init 188 = .ok (.dup, 1) := by decide +kernel
theorem dX5_init_189 : decode cX5_init 189 = .ok (.bipush 14, 2) := by decide +kernel
theorem dX5_init_191 : decode cX5_init 191 = .ok (.ldc 56, 2) := by decide +kernel
theorem dX5_init_193 : decode cX5_init 193 = .ok (.iastore, 1) := by decide +kernel
theorem dX5_init_194 : decode cX5_init 194 = .ok (.dup, 1) := by decide +kernel
theorem dX5_init_195 : decode cX5_init 195 = .ok (.bipush 15, 2) := by decide +kernel
theorem dX5_init_197 : decode cX5_init 197 = .ok (.ldc 57, 2) := by decide +kernel
theorem dX5_init_199 : decode cX5_init 199 = .ok (.iastore, 1) := by decide +kernel
theorem dX5_init_200 : decode cX5_init 200 = .ok (.dup, 1) := by decide +kernel
theorem dX5_init_201 : decode cX5_init 201 = .ok (.bipush 16, 2) := by decide +kernel
theorem dX5_init_203 : decode cX5_init 203 = .ok (.ldc 57, 2) := by decide +kernel
theorem dX5_init_205 : decode cX5_init 205 = .ok (.iastore, 1) := by decide +kernel
theorem dX5_init_206 : decode cX5_init 206 = .ok (.dup, 1) := by decide +kernel
theorem dX5_init_207 : decode cX5_init 207 = .ok (.bipush 17, 2) := by decide +kernel
theorem dX5_init_209 : decode cX5_init 209 = .ok (.ldc 58, 2) := by decide +kernel
theorem dX5_init_211 : decode cX5_init 211 = .ok (.iastore, 1) := by decide +kernel
theorem dX5_init_212 : decode cX5_init 212 = .ok (.dup, 1) := by decide +kernel
theorem dX5_init_213 : decode cX5_init 213 = .ok (.bipush 18, 2) := by decide +kernel
theorem dX5_init_215 : decode cX5_init 215 = .ok (.ldc 59, 2) := by decide +kernel
theorem dX5_init_217 : decode cX5_init 217 = .ok (.iastore, 1) := by decide +kernel
theorem dX5_init_218 : decode cX5_init 218 = .ok (.putfield 60, 3) := by decide +kernel
theorem dX5_init_221 : decode cX5_init 221 = .ok (.aload_n 0, 1) := by decide +kernel
theorem dX5_init_222 : decode cX5_init 222 = .ok (.sipush 10200, 3) := by decide +kernel
theorem dX5_init_225 : decode cX5_init 225 = .ok (.newarray .int, 2) := by decide +kernel
theorem dX5_init_227 : decode cX5_init 227 = .ok (.putfield 63, 3) := by decide +kernel
theorem dX5_init_230 : decode cX5_init 230 = .ok (.aload_n 0, 1) := by decide +kernel
theorem dX5_init_231 : decode cX5_init 231 = .ok (.sipush 10200, 3) := by decide +kernel
theorem dX5_init_234 : decode cX5_init 234 = .ok (.newarray .int, 2) := by decide +kernel
theorem dX5_init_236 : decode cX5_init 236 = .ok (.putfield 66, 3) := by decide +kernel
theorem dX5_init_239 : decode cX5_init 239 = .ok (.return_, 1) := by decide +kernel
theorem dX5_thrown_0 : decode cX5_thrown 0 = .ok (.aload_n 0, 1) := by decide +kernel
theorem dX5_thrown_1 : decode cX5_thrown 1 = .ok (.getfield 69, 3) := by decide +kernel
theorem dX5_thrown_4 : decode cX5_thrown 4 = .ok (.ireturn, 1) := by decide +kernel
theorem dX5_sign_0 : decode cX5_sign 0 = .ok (.aload_n 0, 1) := by decide +kernel
theorem dX5_sign_1 : decode cX5_sign 1 = .ok (.iconst 0, 1) := by decide +kernel
theorem dX5_sign_2 : decode cX5_sign 2 = .ok (.putfield 69, 3) := by decide +kernel
theorem dX5_sign_5 : decode cX5_sign 5 = .ok (.aload_n 0, 1) := by decide +kernel
theorem dX5_sign_6 : decode cX5_sign 6 = .ok (.getfield 72, 3) := by decide +kernel
theorem dX5_sign_9 : decode cX5_sign 9 = .ok (.bipush 80, 2) := by decide +kernel
theorem dX5_sign_11 : decode cX5_sign 11 = .ok (.if_icmp .ne 4, 3) := by decide +kernel
theorem dX5_sign_14 : decode cX5_sign 14 = .ok (.return_, 1) := by decide +kernel
theorem dX5_sign_15 : decode cX5_sign 15 = .ok (.aload_n 0, 1) := by decide +kernel
theorem dX5_sign_16 : decode cX5_sign 16 = .ok (.getfield 7, 3) := by decide +kernel
theorem dX5_sign_19 : decode cX5_sign 19 = .ok (.aload_n 0, 1) := by decide +kernel
theorem dX5_sign_20 : decode cX5_sign 20 = .ok (.getfield 72, 3) := by decide +kernel
theorem dX5_sign_23 : decode cX5_sign 23 = .ok (.iload_n 1, 1) := by decide +kernel
theorem dX5_sign_24 : decode cX5_sign 24 = .ok (.iastore, 1) := by decide +kernel
theorem dX5_sign_25 : decode cX5_sign 25 = .ok (.aload_n 0, 1) := by decide +kernel
theorem dX5_sign_26 : decode cX5_sign 26 = .ok (.dup, 1) := by decide +kernel
theorem dX5_sign_27 : decode cX5_sign 27 = .ok (.getfield 72, 3) := by decide +kernel
theorem dX5_sign_30 : decode cX5_sign 30 = .ok (.iconst 1, 1) := by decide +kernel
theorem dX5_sign_31 : decode cX5_sign 31 = .ok (.iadd, 1) := by decide +kernel
theorem dX5_sign_32 : decode cX5_sign 32 = .ok (.putfield 72, 3) := by decide +kernel
theorem dX5_sign_35 : decode cX5_sign 35 = .ok (.return_, 1) := by decide +kernel
theorem dX5_at0_0 : decode cX5_at0 0 = .ok (.iload_n 1, 1) := by decide +kernel
theorem dX5_at0_1 : decode cX5_at0 1 = .ok (.aload_n 0, 1) := by decide +kernel
theorem dX5_at0_2 : decode cX5_at0 2 = .ok (.getfield 72, 3) := by decide +kernel
theorem dX5_at0_5 : decode cX5_at0 5 = .ok (.if_icmp .ge 12, 3) := by decide +kernel
theorem dX5_at0_8 : decode cX5_at0 8 = .ok (.aload_n 0, 1) := by decide +kernel
theorem dX5_at0_9 : decode cX5_at0 9 = .ok (.getfield 7, 3) := by decide +kernel
theorem dX5_at0_12 : decode cX5_at0 12 = .ok (.iload_n 1, 1) := by decide +kernel
theorem dX5_at0_13 : decode cX5_at0 13 = .ok (.iaload, 1) := by decide +kernel
theorem dX5_at0_14 : decode cX5_at0 14 = .ok (.goto 4, 3) := by decide +kernel
theorem dX5_at0_17 : decode cX5_at0 17 = .ok (.iconst (-1), 1) := by decide +kernel
theorem dX5_at0_18 : decode cX5_at0 18 = .ok (.ireturn, 1) := by decide +kernel
theorem dX5_great_0 : decode cX5_great 0 = .ok (.iload_n 0, 1) := by decide +kernel
theorem dX5_great_1 : decode cX5_great 1 = .ok (.bipush 97, 2) := by decide +kernel
theorem dX5_great_3 : decode cX5_great 3 = .ok (.if_icmp .lt 16, 3) := by decide +kernel
theorem dX5_great_6 : decode cX5_great 6 = .ok (.iload_n 0, 1) := by decide +kernel
theorem dX5_great_7 : decode cX5_great 7 = .ok (.bipush 122, 2) := by decide +kernel
theorem dX5_great_9 : decode cX5_great 9 = .ok (.if_icmp .gt 10, 3) := by decide +kernel
theorem dX5_great_12 : decode cX5_great 12 = .ok (.iload_n 0, 1) := by decide +kernel
theorem dX5_great_13 : decode cX5_great 13 = .ok (.bipush 32, 2) := by decide +kernel
theorem dX5_great_15 : decode cX5_great 15 = .ok (.isub, 1) := by decide +kernel
theorem dX5_great_16 : decode cX5_great 16 = .ok (.goto 4, 3) := by decide +kernel
theorem dX5_great_19 : decode cX5_great 19 = .ok (.iload_n 0, 1) := by decide +kernel
theorem dX5_great_20 : decode cX5_great 20 = .ok (.ireturn, 1) := by decide +kernel
set_option maxRecDepth 20000 in
theorem ggX5_signAt_X5_at0 : GoodIn wsX5_signAt wsX5_at0 := goodIn_r _ [6, 7, 8, 12, 13, 14, 15, 16, 17, 18, 19, 20, 21, 22, 23, 24, 25, 26, 27, 28, 29, 30, 31, 32, 33, 34, 35] (by decide +kernel) (by decide +kernel)
set_option maxRecDepth 20000 in
theorem gX5_signAt_X5_at0 : GoodIn wsX5_signAt (wsV RX5 75 RX5 yX5_at0 wsX5_at0) := goodIn_app (goodIn_of _ (by decide +kernel)) ggX5_signAt_X5_at0
set_option maxRecDepth 20000 in
theorem ggX5_signAt_X5_great : GoodIn wsX5_signAt wsX5_great := goodIn_r _ [11] (by decide +kernel) (by decide +kernel)
set_option maxRecDepth 20000 in
theorem gX5_signAt_X5_great : GoodIn wsX5_signAt (va_wsS RX5 79 yX5_great wsX5_great) := goodIn_app (goodIn_of _ (by decide +kernel)) ggX5_signAt_X5_great
theorem dX5_signAt_0 : decode cX5_signAt 0 = .ok (.aload_n 0, 1) := by decide +kernel
theorem dX5_signAt_1 : decode cX5_signAt 1 = .ok (.iload_n 1, 1) := by decide +kernel
theorem dX5_signAt_2 : decode cX5_signAt 2 = .ok (.invokevirtual 75, 3) := by decide +kernel
theorem dX5_signAt_5 : decode cX5_signAt 5 = .ok (.istore_n 2, 1) := by decide +kernel
theorem dX5_signAt_6 : decode cX5_signAt 6 = .ok (.iload_n 2, 1) := by decide +kernel
theorem dX5_signAt_7 : decode cX5_signAt 7 = .ok (.aload_n 0, 1) := by decide +kernel
theorem dX5_signAt_8 : decode cX5_signAt 8 = .ok (.getfield 13, 3) := by decide +kernel
theorem dX5_signAt_11 : decode cX5_signAt 11 = .ok (.if_icmp .ne 7, 3) := by decide +kernel
theorem dX5_signAt_14 : decode cX5_signAt 14 = .ok (.sipush 202, 3) := by decide +kernel
theorem dX5_signAt_17 : decode cX5_signAt 17 = .ok (.ireturn, 1) := by decide +kernel
theorem dX5_signAt_18 : decode cX5_signAt 18 = .ok (.iload_n 2, 1) := by decide +kernel
theorem dX5_signAt_19 : decode cX5_signAt 19 = .ok (.invokestatic 79, 3) := by decide +kernel
theorem dX5_signAt_22 : decode cX5_signAt 22 = .ok (.istore_n 3, 1) := by decide +kernel
theorem dX5_signAt_23 : decode cX5_signAt 23 = .ok (.iload_n 3, 1) := by decide +kernel
theorem dX5_signAt_24 : decode cX5_signAt 24 = .ok (.bipush 67, 2) := by decide +kernel
theorem dX5_signAt_26 : decode cX5_signAt 26 = .ok (.if_icmp .ne 26, 3) := by decide +kernel
theorem dX5_signAt_29 : decode cX5_signAt 29 = .ok (.aload_n 0, 1) := by decide +kernel
theorem dX5_signAt_30 : decode cX5_signAt 30 = .ok (.iload_n 1, 1) := by decide +kernel
theorem dX5_signAt_31 : decode cX5_signAt 31 = .ok (.iconst 1, 1) := by decide +kernel
theorem dX5_signAt_32 : decode cX5_signAt 32 = .ok (.iadd, 1) := by decide +kernel
theorem dX5_signAt_33 : decode cX5_signAt 33 = .ok (.invokevirtual 75, 3) := by decide +kernel
theorem dX5_signAt_36 : decode cX5_signAt 36 = .ok (.invokestatic 79, 3) := by decide +kernel
theorem dX5_signAt_39 : decode cX5_signAt 39 = .ok (.bipush 82, 2) := by decide +kernel
theorem dX5_signAt_41 : decode cX5_signAt 41 = .ok (.if_icmp .ne 9, 3) := by decide +kernel
theorem dX5_signAt_44 : decode cX5_signAt 44 = .ok (.sipush 200, 3) := by decide +kernel
theorem dX5_signAt_47 : decode cX5_signAt 47 = .ok (.goto 4, 3) := by decide +kernel
theorem dX5_signAt_50 : decode cX5_signAt 50 = .ok (.iconst (-1), 1) := by decide +kernel
theorem dX5_signAt_51 : decode cX5_signAt 51 = .ok (.ireturn, 1) := by decide +kernel
theorem dX5_signAt_52 : decode cX5_signAt 52 = .ok (.iload_n 3, 1) := by decide +kernel
theorem dX5_signAt_53 : decode cX5_signAt 53 = .ok (.bipush 68, 2) := by decide +kernel
theorem dX5_signAt_55 : decode cX5_signAt 55 = .ok (.if_icmp .ne 26, 3) := by decide +kernel
theorem dX5_signAt_58 : decode cX5_signAt 58 = .ok (.aload_n 0, 1) := by decide +kernel
theorem dX5_signAt_59 : decode cX5_signAt 59 = .ok (.iload_n 1, 1) := by decide +kernel
theorem dX5_signAt_60 : decode cX5_signAt 60 = .ok (.iconst 1, 1) := by decide +kernel
theorem dX5_signAt_61 : decode cX5_signAt 61 = .ok (.iadd, 1) := by decide +kernel
theorem dX5_signAt_62 : decode cX5_signAt 62 = .ok (.invokevirtual 75, 3) := by decide +kernel
theorem dX5_signAt_65 : decode cX5_signAt 65 = .ok (.invokestatic 79, 3) := by decide +kernel
theorem dX5_signAt_68 : decode cX5_signAt 68 = .ok (.bipush 66, 2) := by decide +kernel
theorem dX5_signAt_70 : decode cX5_signAt 70 = .ok (.if_icmp .ne 9, 3) := by decide +kernel
theorem dX5_signAt_73 : decode cX5_signAt 73 = .ok (.sipush 201, 3) := by decide +kernel
theorem dX5_signAt_76 : decode cX5_signAt 76 = .ok (.goto 4, 3) := by decide +kernel
theorem dX5_signAt_79 : decode cX5_signAt 79 = .ok (.iconst (-1), 1) := by decide +kernel
theorem dX5_signAt_80 : decode cX5_signAt 80 = .ok (.ireturn, 1) := by decide +kernel
theorem dX5_signAt_81 : decode cX5_signAt 81 = .ok (.iload_n 3, 1) := by decide +kernel
theorem dX5_signAt_82 : decode cX5_signAt 82 = .ok (.bipush 65, 2) := by decide +kernel
theorem dX5_signAt_84 : decode cX5_signAt 84 = .ok (.if_icmp .eq 93, 3) := by decide +kernel
theorem dX5_signAt_87 : decode cX5_signAt 87 = .ok (.iload_n 3, 1) := by decide +kernel
theorem dX5_signAt_88 : decode cX5_signAt 88 = .ok (.bipush 88, 2) := by decide +kernel
theorem dX5_signAt_90 : decode cX5_signAt 90 = .ok (.if_icmp .eq 87, 3) := by decide +kernel
theorem dX5_signAt_93 : decode cX5_signAt 93 = .ok (.iload_n 3, 1) := by decide +kernel
theorem dX5_signAt_94 : decode cX5_signAt 94 = .ok (.bipush 57, 2) := by decide +kernel
theorem dX5_signAt_96 : decode cX5_signAt 96 = .ok (.if_icmp .eq 81, 3) := by decide +kernel
theorem dX5_signAt_99 : decode cX5_signAt 99 = .ok (.iload_n 3, 1) := by decide +kernel
theorem dX5_signAt_100 : decode cX5_signAt 100 = .ok (.bipush 90, 2) := by decide +kernel
theorem dX5_signAt_102 : decode cX5_signAt 102 = .ok (.if_icmp .eq 75, 3) := by decide +kernel
theorem dX5_signAt_105 : decode cX5_signAt 105 = .ok (.iload_n 3, 1) := by decide +kernel
theorem dX5_signAt_106 : decode cX5_signAt 106 = .ok (.bipush 42, 2) := by decide +kernel
theorem dX5_signAt_108 : decode cX5_signAt 108 = .ok (.if_icmp .eq 69, 3) := by decide +kernel
theorem dX5_signAt_111 : decode cX5_signAt 111 = .ok (.iload_n 3, 1) := by decide +kernel
theorem dX5_signAt_112 : decode cX5_signAt 112 = .ok (.bipush 66, 2) := by decide +kernel
theorem dX5_signAt_114 : decode cX5_signAt 114 = .ok (.if_icmp .eq 63, 3) := by decide +kernel
theorem dX5_signAt_117 : decode cX5_signAt 117 = .ok (.iload_n 3, 1) := by decide +kernel
theorem dX5_signAt_118 : decode cX5_signAt 118 = .ok (.bipush 48, 2) := by decide +kernel
theorem dX5_signAt_120 : decode cX5_signAt 120 = .ok (.if_icmp .eq 57, 3) := by decide +kernel
theorem dX5_signAt_123 : decode cX5_signAt 123 = .ok (.iload_n 3, 1) := by decide +kernel
theorem dX5_signAt_124 : decode cX5_signAt 124 = .ok (.bipush 47, 2) := by decide +kernel
theorem dX5_signAt_126 : decode cX5_signAt 126 = .ok (.if_icmp .eq 51, 3) := by decide +kernel
theorem dX5_signAt_129 : decode cX5_signAt 129 = .ok (.iload_n 3, 1) := by decide +kernel
theorem dX5_signAt_130 : decode cX5_signAt 130 = .ok (.bipush 44, 2) := by decide +kernel
theorem dX5_signAt_132 : decode cX5_signAt 132 = .ok (.if_icmp .eq 45, 3) := by decide +kernel
theorem dX5_signAt_135 : decode cX5_signAt 135 = .ok (.iload_n 3, 1) := by decide +kernel
theorem dX5_signAt_136 : decode cX5_signAt 136 = .ok (.bipush 46, 2) := by decide +kernel
theorem dX5_signAt_138 : decode cX5_signAt 138 = .ok (.if_icmp .eq 39, 3) := by decide +kernel
theorem dX5_signAt_141 : decode cX5_signAt 141 = .ok (.iload_n 3, 1) := by decide +kernel
theorem dX5_signAt_142 : decode cX5_signAt 142 = .ok (.bipush 43, 2) := by decide +kernel
theorem dX5_signAt_144 : decode cX5_signAt 144 = .ok (.if_icmp .eq 33, 3) := by decide +kernel
theorem dX5_signAt_147 : decode cX5_signAt 147 = .ok (.iload_n 3, 1) := by decide +kernel
theorem dX5_signAt_148 : decode cX5_signAt 148 = .ok (.bipush 45, 2) := by decide +kernel
theorem dX5_signAt_150 : decode cX5_signAt 150 = .ok (.if_icmp .eq 27, 3) := by decide +kernel
theorem dX5_signAt_153 : decode cX5_signAt 153 = .ok (.iload_n 3, 1) := by decide +kernel
theorem dX5_signAt_154 : decode cX5_signAt 154 = .ok (.bipush 83, 2) := by decide +kernel
theorem dX5_signAt_156 : decode cX5_signAt 156 = .ok (.if_icmp .eq 21, 3) := by decide +kernel
theorem dX5_signAt_159 : decode cX5_signAt 159 = .ok (.iload_n 3, 1) := by decide +kernel
theorem dX5_signAt_160 : decode cX5_signAt 160 = .ok (.bipush 86, 2) := by decide +kernel
theorem dX5_signAt_162 : decode cX5_signAt 162 = .ok (.if_icmp .eq 15, 3) := by decide +kernel
theorem dX5_signAt_165 : decode cX5_signAt 165 = .ok (.iload_n 3, 1) := by decide +kernel
theorem dX5_signAt_166 : decode cX5_signAt 166 = .ok (.bipush 80, 2) := by decide +kernel
theorem dX5_signAt_168 : decode cX5_signAt 168 = .ok (.if_icmp .eq 9, 3) := by decide +kernel
theorem dX5_signAt_171 : decode cX5_signAt 171 = .ok (.iload_n 3, 1) := by decide +kernel
theorem dX5_signAt_172 : decode cX5_signAt 172 = .ok (.bipush 78, 2) := by decide +kernel
theorem dX5_signAt_174 : decode cX5_signAt 174 = .ok (.if_icmp .ne 7, 3) := by decide +kernel
theorem dX5_signAt_177 : decode cX5_signAt 177 = .ok (.iconst 1, 1) := by decide +kernel
theorem dX5_signAt_178 : decode cX5_signAt 178 = .ok (.goto 4, 3) := by decide +kernel
theorem dX5_signAt_181 : decode cX5_signAt 181 = .ok (.iconst 0, 1) := by decide +kernel
theorem dX5_signAt_182 : decode cX5_signAt 182 = .ok (.istore 4, 2) := by decide +kernel
theorem dX5_signAt_184 : decode cX5_signAt 184 = .ok (.iload 4, 2) := by decide +kernel
theorem dX5_signAt_186 : decode cX5_signAt 186 = .ok (.ifCond .eq 7, 3) := by decide +kernel
theorem dX5_signAt_189 : decode cX5_signAt 189 = .ok (.iload_n 3, 1) := by decide +kernel
theorem dX5_signAt_190 : decode cX5_signAt 190 = .ok (.goto 4, 3) := by decide +kernel
theorem dX5_signAt_193 : decode cX5_signAt 193 = .ok (.iconst (-1), 1) := by decide +kernel
theorem dX5_signAt_194 : decode cX5_signAt 194 = .ok (.ireturn, 1) := by decide +kernel
set_option maxRecDepth 20000 in
theorem ggX5_behindCount_X5_at0 : GoodIn wsX5_behindCount wsX5_at0 := goodIn_r _ [5, 6, 7, 12, 13, 14, 15, 16, 17, 18, 19, 20, 21, 22, 23, 24, 25, 26, 27, 28, 29, 30, 31, 32, 33, 34, 35] (by decide +kernel) (by decide +kernel)
set_option maxRecDepth 20000 in
theorem gX5_behindCount_X5_at0 : GoodIn wsX5_behindCount (wsV RX5 75 RX5 yX5_at0 wsX5_at0) := goodIn_app (goodIn_of _ (by decide +kernel)) ggX5_behindCount_X5_at0
set_option maxRecDepth 20000 in
theorem ggX5_behindCount_X5_counted : GoodIn wsX5_behindCount wsX5_counted := goodIn_r _ [11, 1, 2, 3, 4, 5, 6, 7, 12, 13, 14, 15, 16, 17, 18, 19, 20, 21, 22, 23, 24, 25, 26, 27, 28, 29, 30, 31, 32, 33, 34, 35] (by decide +kernel) (by decide +kernel)
set_option maxRecDepth 20000 in
theorem gX5_behindCount_X5_counted : GoodIn wsX5_behindCount (wsV RX5 82 RX5 yX5_counted wsX5_counted) := goodIn_app (goodIn_of _ (by decide +kernel)) ggX5_behindCount_X5_counted
theorem dX5_behindCount_0 : decode cX5_behindCount 0 = .ok (.iload_n 1, 1) := by decide +kernel
theorem dX5_behindCount_1 : decode cX5_behindCount 1 = .ok (.iconst 1, 1) := by decide +kernel
theorem dX5_behindCount_2 : decode cX5_behindCount 2 = .ok (.iadd, 1) := by decide +kernel
theorem dX5_behindCount_3 : decode cX5_behindCount 3 = .ok (.istore_n 2, 1) := by decide +kernel
theorem dX5_behindCount_4 : decode cX5_behindCount 4 = .ok (.iload_n 2, 1) := by decide +kernel
theorem dX5_behindCount_5 : decode cX5_behindCount 5 = .ok (.iload_n 1, 1) := by decide +kernel
theorem dX5_behindCount_6 : decode cX5_behindCount 6 = .ok (.isub, 1) := by decide +kernel
theorem dX5_behindCount_7 : decode cX5_behindCount 7 = .ok (.bipush 6, 2) := by decide +kernel
theorem dX5_behindCount_9 : decode cX5_behindCount 9 = .ok (.if_icmp .ge 29, 3) := by decide +kernel
theorem dX5_behindCount_12 : decode cX5_behindCount 12 = .ok (.aload_n 0, 1) := by decide +kernel
theorem dX5_behindCount_13 : decode cX5_behindCount 13 = .ok (.iload_n 2, 1) := by decide +kernel
theorem dX5_behindCount_14 : decode cX5_behindCount 14 = .ok (.invokevirtual 75, 3) := by decide +kernel
theorem dX5_behindCount_17 : decode cX5_behindCount 17 = .ok (.bipush 48, 2) := by decide +kernel
theorem dX5_behindCount_19 : decode cX5_behindCount 19 = .ok (.if_icmp .lt 19, 3) := by decide +kernel
theorem dX5_behindCount_22 : decode cX5_behindCount 22 = .ok (.aload_n 0, 1) := by decide +kernel
theorem dX5_behindCount_23 : decode cX5_behindCount 23 = .ok (.iload_n 2, 1) := by decide +kernel
theorem dX5_behindCount_24 : decode cX5_behindCount 24 = .ok (.invokevirtual 75, 3) := by decide +kernel
theorem dX5_behindCount_27 : decode cX5_behindCount 27 = .ok (.bipush 57, 2) := by decide +kernel
theorem dX5_behindCount_29 : decode cX5_behindCount 29 = .ok (.if_icmp .gt 9, 3) := by decide +kernel
theorem dX5_behindCount_32 : decode cX5_behindCount 32 = .ok (.iinc 2 1, 3) := by decide +kernel
theorem dX5_behindCount_35 : decode cX5_behindCount 35 = .ok (.goto (-31), 3) := by decide +kernel
theorem dX5_behindCount_38 : decode cX5_behindCount 38 = .ok (.iload_n 2, 1) := by decide +kernel
theorem dX5_behindCount_39 : decode cX5_behindCount 39 = .ok (.iload_n 1, 1) := by decide +kernel
theorem dX5_behindCount_40 : decode cX5_behindCount 40 = .ok (.iconst 1, 1) := by decide +kernel
theorem dX5_behindCount_41 : decode cX5_behindCount 41 = .ok (.iadd, 1) := by decide +kernel
theorem dX5_behindCount_42 : decode cX5_behindCount 42 = .ok (.if_icmp .le 33, 3) := by decide +kernel
theorem dX5_behindCount_45 : decode cX5_behindCount 45 = .ok (.iload_n 2, 1) := by decide +kernel
theorem dX5_behindCount_46 : decode cX5_behindCount 46 = .ok (.iload_n 1, 1) := by decide +kernel
theorem dX5_behindCount_47 : decode cX5_behindCount 47 = .ok (.isub, 1) := by decide +kernel
theorem dX5_behindCount_48 : decode cX5_behindCount 48 = .ok (.bipush 6, 2) := by decide +kernel
theorem dX5_behindCount_50 : decode cX5_behindCount 50 = .ok (.if_icmp .ge 25, 3) := by decide +kernel
theorem dX5_behindCount_53 : decode cX5_behindCount 53 = .ok (.aload_n 0, 1) := by decide +kernel
theorem dX5_behindCount_54 : decode cX5_behindCount 54 = .ok (.iload_n 2, 1) := by decide +kernel
theorem dX5_behindCount_55 : decode cX5_behindCount 55 = .ok (.invokevirtual 75, 3) := by decide +kernel
theorem dX5_behindCount_58 : decode cX5_behindCount 58 = .ok (.bipush 41, 2) := by decide +kernel
theorem dX5_behindCount_60 : decode cX5_behindCount 60 = .ok (.if_icmp .ne 15, 3) := by decide +kernel
theorem dX5_behindCount_63 : decode cX5_behindCount 63 = .ok (.aload_n 0, 1) := by decide +kernel
theorem dX5_behindCount_64 : decode cX5_behindCount 64 = .ok (.iload_n 1, 1) := by decide +kernel
theorem dX5_behindCount_65 : decode cX5_behindCount 65 = .ok (.invokevirtual 82, 3) := by decide +kernel
theorem dX5_behindCount_68 : decode cX5_behindCount 68 = .ok (.ifCond .le 7, 3) := by decide +kernel
theorem dX5_behindCount_71 : decode cX5_behindCount 71 = .ok (.iconst 1, 1) := by decide +kernel
theorem dX5_behindCount_72 : decode cX5_behindCount 72 = .ok (.goto 4, 3) := by decide +kernel
theorem dX5_behindCount_75 : decode cX5_behindCount 75 = .ok (.iconst 0, 1) := by decide +kernel
theorem dX5_behindCount_76 : decode cX5_behindCount 76 = .ok (.istore_n 3, 1) := by decide +kernel
theorem dX5_behindCount_77 : decode cX5_behindCount 77 = .ok (.iload_n 3, 1) := by decide +kernel
theorem dX5_behindCount_78 : decode cX5_behindCount 78 = .ok (.ifCond .eq 9, 3) := by decide +kernel
theorem dX5_behindCount_81 : decode cX5_behindCount 81 = .ok (.iload_n 2, 1) := by decide +kernel
theorem dX5_behindCount_82 : decode cX5_behindCount 82 = .ok (.iconst 1, 1) := by decide +kernel
theorem dX5_behindCount_83 : decode cX5_behindCount 83 = .ok (.iadd, 1) := by decide +kernel
theorem dX5_behindCount_84 : decode cX5_behindCount 84 = .ok (.goto 4, 3) := by decide +kernel
theorem dX5_behindCount_87 : decode cX5_behindCount 87 = .ok (.iconst (-1), 1) := by decide +kernel
theorem dX5_behindCount_88 : decode cX5_behindCount 88 = .ok (.ireturn, 1) := by decide +kernel
set_option maxRecDepth 20000 in
theorem ggX5_counted_X5_at0 : GoodIn wsX5_counted wsX5_at0 := goodIn_r _ [5, 6, 7, 8, 9, 10, 11, 12, 13, 14, 15, 16, 17, 18, 19, 20, 21, 22, 23, 24, 25, 26, 27, 28, 29, 30, 31] (by decide +kernel) (by decide +kernel)
set_option maxRecDepth 20000 in
theorem gX5_counted_X5_at0 : GoodIn wsX5_counted (wsV RX5 75 RX5 yX5_at0 wsX5_at0) := goodIn_app (goodIn_of _ (by decide +kernel)) ggX5_counted_X5_at0
theorem dX5_counted_0 : decode cX5_counted 0 = .ok (.iconst 0, 1) := by decide +kernel
theorem dX5_counted_1 : decode cX5_counted 1 = .ok (.istore_n 2, 1) := by decide +kernel
theorem dX5_counted_2 : decode cX5_counted 2 = .ok (.iload_n 1, 1) := by decide +kernel
theorem dX5_counted_3 : decode cX5_counted 3 = .ok (.iconst 1, 1) := by decide +kernel
theorem dX5_counted_4 : decode cX5_counted 4 = .ok (.iadd, 1) := by decide +kernel
theorem dX5_counted_5 : decode cX5_counted 5 = .ok (.istore_n 3, 1) := by decide +kernel
theorem dX5_counted_6 : decode cX5_counted 6 = .ok (.iload_n 3, 1) := by decide +kernel
theorem dX5_counted_7 : decode cX5_counted 7 = .ok (.iload_n 1, 1) := by decide +kernel
theorem dX5_counted_8 : decode cX5_counted 8 = .ok (.iconst 5, 1) := by decide +kernel
theorem dX5_counted_9 : decode cX5_counted 9 = .ok (.iadd, 1) := by decide +kernel
theorem dX5_counted_10 : decode cX5_counted 10 = .ok (.if_icmp .ge 43, 3) := by decide +kernel
theorem dX5_counted_13 : decode cX5_counted 13 = .ok (.aload_n 0, 1) := by decide +kernel
theorem dX5_counted_14 : decode cX5_counted 14 = .ok (.iload_n 3, 1) := by decide +kernel
theorem dX5_counted_15 : decode cX5_counted 15 = .ok (.invokevirtual 75, 3) := by decide +kernel
theorem dX5_counted_18 : decode cX5_counted 18 = .ok (.bipush 48, 2) := by decide +kernel
theorem dX5_counted_20 : decode cX5_counted 20 = .ok (.if_icmp .lt 33, 3) := by decide +kernel
theorem dX5_counted_23 : decode cX5_counted 23 = .ok (.aload_n 0, 1) := by decide +kernel
theorem dX5_counted_24 : decode cX5_counted 24 = .ok (.iload_n 3, 1) := by decide +kernel
theorem dX5_counted_25 : decode cX5_counted 25 = .ok (.invokevirtual 75, 3) := by decide +kernel
theorem dX5_counted_28 : decode cX5_counted 28 = .ok (.bipush 57, 2) := by decide +kernel
theorem dX5_counted_30 : decode cX5_counted 30 = .ok (.if_icmp .gt 23, 3) := by decide +kernel
theorem dX5_counted_33 : decode cX5_counted 33 = .ok (.bipush 10, 2) := by decide +kernel
theorem dX5_counted_35 : decode cX5_counted 35 = .ok (.iload_n 2, 1) := by decide +kernel
theorem dX5_counted_36 : decode cX5_counted 36 = .ok (.imul, 1) := by decide +kernel
theorem dX5_counted_37 : decode cX5_counted 37 = .ok (.aload_n 0, 1) := by decide +kernel
theorem dX5_counted_38 : decode cX5_counted 38 = .ok (.iload_n 3, 1) := by decide +kernel
theorem dX5_counted_39 : decode cX5_counted 39 = .ok (.invokevirtual 75, 3) := by decide +kernel
theorem dX5_counted_42 : decode cX5_counted 42 = .ok (.iadd, 1) := by decide +kernel
theorem dX5_counted_43 : decode cX5_counted 43 = .ok (.bipush 48, 2) := by decide +kernel
theorem dX5_counted_45 : decode cX5_counted 45 = .ok (.isub, 1) := by decide +kernel
theorem dX5_counted_46 : decode cX5_counted 46 = .ok (.istore_n 2, 1) := by decide +kernel
theorem dX5_counted_47 : decode cX5_counted 47 = .ok (.iinc 3 1, 3) := by decide +kernel
theorem dX5_counted_50 : decode cX5_counted 50 = .ok (.goto (-44), 3) := by decide +kernel
theorem dX5_counted_53 : decode cX5_counted 53 = .ok (.iload_n 2, 1) := by decide +kernel
theorem dX5_counted_54 : decode cX5_counted 54 = .ok (.ireturn, 1) := by decide +kernel
set_option maxRecDepth 20000 in
theorem ggX5_scan_X5_signAt : GoodIn wsX5_scan wsX5_signAt := goodIn_r _ [12, 13, 14, 15, 16, 11, 17, 5, 18, 19, 20, 21, 30, 31, 32, 33, 34, 35, 36, 37, 38, 39, 40, 41, 42, 43, 44, 45, 46, 47, 48, 49, 50, 51, 52, 53] (by decide +kernel) (by decide +kernel)
set_option maxRecDepth 20000 in
theorem gX5_scan_X5_signAt : GoodIn wsX5_scan (wsV RX5 97 RX5 yX5_signAt wsX5_signAt) := goodIn_app (goodIn_of _ (by decide +kernel)) ggX5_scan_X5_signAt
set_option maxRecDepth 20000 in
theorem ggX5_scan_X5_at0 : GoodIn wsX5_scan wsX5_at0 := goodIn_r _ [17, 5, 18, 30, 31, 32, 33, 34, 35, 36, 37, 38, 39, 40, 41, 42, 43, 44, 45, 46, 47, 48, 49, 50, 51, 52, 53] (by decide +kernel) (by decide +kernel)
set_option maxRecDepth 20000 in
theorem gX5_scan_X5_at0 : GoodIn wsX5_scan (wsV RX5 75 RX5 yX5_at0 wsX5_at0) := goodIn_app (goodIn_of _ (by decide +kernel)) ggX5_scan_X5_at0
set_option maxRecDepth 20000 in
theorem ggX5_scan_X5_behindCount : GoodIn wsX5_scan wsX5_behindCount := goodIn_r _ [25, 14, 15, 16, 11, 17, 5, 18, 26, 27, 28, 29, 30, 31, 32, 33, 34, 35, 36, 37, 38, 39, 40, 41, 42, 43, 44, 45, 46, 47, 48, 49, 50, 51, 52, 53] (by decide +kernel) (by decide +kernel)
set_option maxRecDepth 20000 in
theorem gX5_scan_X5_behindCount : GoodIn wsX5_scan (wsV RX5 100 RX5 yX5_behindCount wsX5_behindCount) := goodIn_app (goodIn_of _ (by decide +kernel)) ggX5_scan_X5_behindCount
set_option maxRecDepth 20000 in
theorem ggX5_scan_X5_counted : GoodIn wsX5_scan wsX5_counted := goodIn_r _ [29, 14, 15, 16, 11, 17, 5, 18, 30, 31, 32, 33, 34, 35, 36, 37, 38, 39, 40, 41, 42, 43, 44, 45, 46, 47, 48, 49, 50, 51, 52, 53] (by decide +kernel) (by decide +kernel)
set_option maxRecDepth 20000 in
theorem gX5_scan_X5_counted : GoodIn wsX5_scan (wsV RX5 82 RX5 yX5_counted wsX5_counted) := goodIn_app (goodIn_of _ (by decide +kernel)) ggX5_scan_X5_counted
theorem dX5_scan_0 : decode cX5_scan 0 = .ok (.aload_n 0, 1) := by decide +kernel
theorem dX5_scan_1 : decode cX5_scan 1 = .ok (.iconst 0, 1) := by decide +kernel
theorem dX5_scan_2 : decode cX5_scan 2 = .ok (.putfield 85, 3) := by decide +kernel
theorem dX5_scan_5 : decode cX5_scan 5 = .ok (.aload_n 0, 1) := by decide +kernel
theorem dX5_scan_6 : decode cX5_scan 6 = .ok (.iconst 0, 1) := by decide +kernel
theorem dX5_scan_7 : decode cX5_scan 7 = .ok (.putfield 88, 3) := by decide +kernel
theorem dX5_scan_10 : decode cX5_scan 10 = .ok (.aload_n 0, 1) := by decide +kernel
theorem dX5_scan_11 : decode cX5_scan 11 = .ok (.iconst 0, 1) := by decide +kernel
theorem dX5_scan_12 : decode cX5_scan 12 = .ok (.putfield 91, 3) := by decide +kernel
theorem dX5_scan_15 : decode cX5_scan 15 = .ok (.aload_n 0, 1) := by decide +kernel
theorem dX5_scan_16 : decode cX5_scan 16 = .ok (.iconst 0, 1) := by decide +kernel
theorem dX5_scan_17 : decode cX5_scan 17 = .ok (.putfield 94, 3) := by decide +kernel
theorem dX5_scan_20 : decode cX5_scan 20 = .ok (.iconst 0, 1) := by decide +kernel
theorem dX5_scan_21 : decode cX5_scan 21 = .ok (.istore_n 1, 1) := by decide +kernel
theorem dX5_scan_22 : decode cX5_scan 22 = .ok (.iload_n 1, 1) := by decide +kernel
theorem dX5_scan_23 : decode cX5_scan 23 = .ok (.aload_n 0, 1) := by decide +kernel
theorem dX5_scan_24 : decode cX5_scan 24 = .ok (.getfield 72, 3) := by decide +kernel
theorem dX5_scan_27 : decode cX5_scan 27 = .ok (.if_icmp .ge 200, 3) := by decide +kernel
theorem dX5_scan_30 : decode cX5_scan 30 = .ok (.aload_n 0, 1) := by decide +kernel
theorem dX5_scan_31 : decode cX5_scan 31 = .ok (.iload_n 1, 1) := by decide +kernel
theorem dX5_scan_32 : decode cX5_scan 32 = .ok (.invokevirtual 97, 3) := by decide +kernel
theorem dX5_scan_35 : decode cX5_scan 35 = .ok (.istore_n 2, 1) := by decide +kernel
theorem dX5_scan_36 : decode cX5_scan 36 = .ok (.iload_n 2, 1) := by decide +kernel
theorem dX5_scan_37 : decode cX5_scan 37 = .ok (.iconst (-1), 1) := by decide +kernel
theorem dX5_scan_38 : decode cX5_scan 38 = .ok (.if_icmp .ne 5, 3) := by decide +kernel
theorem dX5_scan_41 : decode cX5_scan 41 = .ok (.iload_n 1, 1) := by decide +kernel
theorem dX5_scan_42 : decode cX5_scan 42 = .ok (.ireturn, 1) := by decide +kernel
theorem dX5_scan_43 : decode cX5_scan 43 = .ok (.iload_n 1, 1) := by decide +kernel
theorem dX5_scan_44 : decode cX5_scan 44 = .ok (.istore_n 3, 1) := by decide +kernel
theorem dX5_scan_45 : decode cX5_scan 45 = .ok (.iload_n 1, 1) := by decide +kernel
theorem dX5_scan_46 : decode cX5_scan 46 = .ok (.iload_n 2, 1) := by decide +kernel
theorem dX5_scan_47 : decode cX5_scan 47 = .ok (.sipush 200, 3) := by decide +kernel
theorem dX5_scan_50 : decode cX5_scan 50 = .ok (.if_icmp .eq 10, 3) := by decide +kernel
theorem dX5_scan_53 : decode cX5_scan 53 = .ok (.iload_n 2, 1) := by decide +kernel
theorem dX5_scan_54 : decode cX5_scan 54 = .ok (.sipush 201, 3) := by decide +kernel
theorem dX5_scan_57 : decode cX5_scan 57 = .ok (.if_icmp .ne 7, 3) := by decide +kernel
theorem dX5_scan_60 : decode cX5_scan 60 = .ok (.iconst 2, 1) := by decide +kernel
theorem dX5_scan_61 : decode cX5_scan 61 = .ok (.goto 4, 3) := by decide +kernel
theorem dX5_scan_64 : decode cX5_scan 64 = .ok (.iconst 1, 1) := by decide +kernel
theorem dX5_scan_65 : decode cX5_scan 65 = .ok (.iadd, 1) := by decide +kernel
theorem dX5_scan_66 : decode cX5_scan 66 = .ok (.istore_n 1, 1) := by decide +kernel
theorem dX5_scan_67 : decode cX5_scan 67 = .ok (.iconst 1, 1) := by decide +kernel
theorem dX5_scan_68 : decode cX5_scan 68 = .ok (.istore 4, 2) := by decide +kernel
theorem dX5_scan_70 : decode cX5_scan 70 = .ok (.aload_n 0, 1) := by decide +kernel
theorem dX5_scan_71 : decode cX5_scan 71 = .ok (.iload_n 1, 1) := by decide +kernel
theorem dX5_scan_72 : decode cX5_scan 72 = .ok (.invokevirtual 75, 3) := by decide +kernel
theorem dX5_scan_75 : decode cX5_scan 75 = .ok (.bipush 40, 2) := by decide +kernel
theorem dX5_scan_77 : decode cX5_scan 77 = .ok (.if_icmp .ne 27, 3) := by decide +kernel
theorem dX5_scan_80 : decode cX5_scan 80 = .ok (.aload_n 0, 1) := by decide +kernel
theorem dX5_scan_81 : decode cX5_scan 81 = .ok (.iload_n 1, 1) := by decide +kernel
theorem dX5_scan_82 : decode cX5_scan 82 = .ok (.invokevirtual 100, 3) := by decide +kernel
theorem dX5_scan_85 : decode cX5_scan 85 = .ok (.iconst (-1), 1) := by decide +kernel
theorem dX5_scan_86 : decode cX5_scan 86 = .ok (.if_icmp .ne 5, 3) := by decide +kernel
theorem dX5_scan_89 : decode cX5_scan 89 = .ok (.iload_n 1, 1) := by decide +kernel
theorem dX5_scan_90 : decode cX5_scan 90 = .ok (.ireturn, 1) := by decide +kernel
theorem dX5_scan_91 : decode cX5_scan 91 = .ok (.aload_n 0, 1) := by decide +kernel
theorem dX5_scan_92 : decode cX5_scan 92 = .ok (.iload_n 1, 1) := by decide +kernel
theorem dX5_scan_93 : decode cX5_scan 93 = .ok (.invokevirtual 82, 3) := by decide +kernel
theorem dX5_scan_96 : decode cX5_scan 96 = .ok (.istore 4, 2) := by decide +kernel
theorem dX5_scan_98 : decode cX5_scan 98 = .ok (.aload_n 0, 1) := by decide +kernel
theorem dX5_scan_99 : decode cX5_scan 99 = .ok (.iload_n 1, 1) := by decide +kernel
theorem dX5_scan_100 : decode cX5_scan 100 = .ok (.invokevirtual 100, 3) := by decide +kernel
theorem dX5_scan_103 : decode cX5_scan 103 = .ok (.istore_n 1, 1) := by decide +kernel
theorem dX5_scan_104 : decode cX5_scan 104 = .ok (.aload_n 0, 1) := by decide +kernel
theorem dX5_scan_105 : decode cX5_scan 105 = .ok (.dup, 1) := by decide +kernel
theorem dX5_scan_106 : decode cX5_scan 106 = .ok (.getfield 88, 3) := by decide +kernel
theorem dX5_scan_109 : decode cX5_scan 109 = .ok (.iload_n 2, 1) := by decide +kernel
theorem dX5_scan_110 : decode cX5_scan 110 = .ok (.bipush 43, 2) := by decide +kernel
theorem dX5_scan_112 : decode cX5_scan 112 = .ok (.if_icmp .ne 8, 3) := by decide +kernel
theorem dX5_scan_115 : decode cX5_scan 115 = .ok (.iload 4, 2) := by decide +kernel
theorem dX5_scan_117 : decode cX5_scan 117 = .ok (.goto 4, 3) := by decide +kernel
theorem dX5_scan_120 : decode cX5_scan 120 = .ok (.iconst 0, 1) := by decide +kernel
theorem dX5_scan_121 : decode cX5_scan 121 = .ok (.iadd, 1) := by decide +kernel
theorem dX5_scan_122 : decode cX5_scan 122 = .ok (.putfield 88, 3) := by decide +kernel
theorem dX5_scan_125 : decode cX5_scan 125 = .ok (.aload_n 0, 1) := by decide +kernel
theorem dX5_scan_126 : decode cX5_scan 126 = .ok (.dup, 1) := by decide +kernel
theorem dX5_scan_127 : decode cX5_scan 127 = .ok (.getfield 91, 3) := by decide +kernel
theorem dX5_scan_130 : decode cX5_scan 130 = .ok (.iload_n 2, 1) := by decide +kernel
theorem dX5_scan_131 : decode cX5_scan 131 = .ok (.bipush 45, 2) := by decide +kernel
theorem dX5_scan_133 : decode cX5_scan 133 = .ok (.if_icmp .ne 8, 3) := by decide +kernel
theorem dX5_scan_136 : decode cX5_scan 136 = .ok (.iload 4, 2) := by decide +kernel
theorem dX5_scan_138 : decode cX5_scan 138 = .ok (.goto 4, 3) := by decide +kernel
theorem dX5_scan_141 : decode cX5_scan 141 = .ok (.iconst 0, 1) := by decide +kernel
theorem dX5_scan_142 : decode cX5_scan 142 = .ok (.iadd, 1) := by decide +kernel
theorem dX5_scan_143 : decode cX5_scan 143 = .ok (.putfield 91, 3) := by decide +kernel
theorem dX5_scan_146 : decode cX5_scan 146 = .ok (.aload_n 0, 1) := by decide +kernel
theorem dX5_scan_147 : decode cX5_scan 147 = .ok (.dup, 1) := by decide +kernel
theorem dX5_scan_148 : decode cX5_scan 148 = .ok (.getfield 94, 3) := by decide +kernel
theorem dX5_scan_151 : decode cX5_scan 151 = .ok (.iload_n 2, 1) := by decide +kernel
theorem dX5_scan_152 : decode cX5_scan 152 = .ok (.sipush 202, 3) := by decide +kernel
theorem dX5_scan_155 : decode cX5_scan 155 = .ok (.if_icmp .ne 8, 3) := by decide +kernel
theorem dX5_scan_158 : decode cX5_scan 158 = .ok (.iload 4, 2) := by decide +kernel
theorem dX5_scan_160 : decode cX5_scan 160 = .ok (.goto 4, 3) := by decide +kernel
theorem dX5_scan_163 : decode cX5_scan 163 = .ok (.iconst 0, 1) := by decide +kernel
theorem dX5_scan_164 : decode cX5_scan 164 = .ok (.iadd, 1) := by decide +kernel
theorem dX5_scan_165 : decode cX5_scan 165 = .ok (.putfield 94, 3) := by decide +kernel
theorem dX5_scan_168 : decode cX5_scan 168 = .ok (.iconst 0, 1) := by decide +kernel
theorem dX5_scan_169 : decode cX5_scan 169 = .ok (.istore 5, 2) := by decide +kernel
theorem dX5_scan_171 : decode cX5_scan 171 = .ok (.iload 5, 2) := by decide +kernel
theorem dX5_scan_173 : decode cX5_scan 173 = .ok (.iload 4, 2) := by decide +kernel
theorem dX5_scan_175 : decode cX5_scan 175 = .ok (.if_icmp .ge 49, 3) := by decide +kernel
theorem dX5_scan_178 : decode cX5_scan 178 = .ok (.aload_n 0, 1) := by decide +kernel
theorem dX5_scan_179 : decode cX5_scan 179 = .ok (.getfield 85, 3) := by decide +kernel
theorem dX5_scan_182 : decode cX5_scan 182 = .ok (.sipush 10200, 3) := by decide +kernel
theorem dX5_scan_185 : decode cX5_scan 185 = .ok (.if_icmp .ge 39, 3) := by decide +kernel
theorem dX5_scan_188 : decode cX5_scan 188 = .ok (.aload_n 0, 1) := by decide +kernel
theorem dX5_scan_189 : decode cX5_scan 189 = .ok (.getfield 17, 3) := by decide +kernel
theorem dX5_scan_192 : decode cX5_scan 192 = .ok (.aload_n 0, 1) := by decide +kernel
theorem dX5_scan_193 : decode cX5_scan 193 = .ok (.getfield 85, 3) := by decide +kernel
theorem dX5_scan_196 : decode cX5_scan 196 = .ok (.iload_n 2, 1) := by decide +kernel
theorem dX5_scan_197 : decode cX5_scan 197 = .ok (.iastore, 1) := by decide +kernel
theorem dX5_scan_198 : decode cX5_scan 198 = .ok (.aload_n 0, 1) := by decide +kernel
theorem dX5_scan_199 : decode cX5_scan 199 = .ok (.getfield 20, 3) := by decide +kernel
theorem dX5_scan_202 : decode cX5_scan 202 = .ok (.aload_n 0, 1) := by decide +kernel
theorem dX5_scan_203 : decode cX5_scan 203 = .ok (.getfield 85, 3) := by decide +kernel
theorem dX5_scan_206 : decode cX5_scan 206 = .ok (.iload_n 3, 1) := by decide +kernel
theorem dX5_scan_207 : decode cX5_scan 207 = .ok (.iastore, 1) := by decide +kernel
theorem dX5_scan_208 : decode cX5_scan 208 = .ok (.aload_n 0, 1) := by decide +kernel
theorem dX5_scan_209 : decode cX5_scan 209 = .ok (.dup, 1) := by decide +kernel
theorem dX5_scan_210 : decode cX5_scan 210 = .ok (.getfield 85, 3) := by decide +kernel
theorem dX5_scan_213 : decode cX5_scan 213 = .ok (.iconst 1, 1) := by decide +kernel
theorem dX5_scan_214 : decode cX5_scan 214 = .ok (.iadd, 1) := by decide +kernel
theorem dX5_scan_215 : decode cX5_scan 215 = .ok (.putfield 85, 3) := by decide +kernel
theorem dX5_scan_218 : decode cX5_scan 218 = .ok (.iinc 5 1, 3) := by decide +kernel
theorem dX5_scan_221 : decode cX5_scan 221 = .ok (.goto (-50), 3) := by decide +kernel
theorem dX5_scan_224 : decode cX5_scan 224 = .ok (.goto (-202), 3) := by decide +kernel
theorem dX5_scan_227 : decode cX5_scan 227 = .ok (.iconst (-1), 1) := by decide +kernel
theorem dX5_scan_228 : decode cX5_scan 228 = .ok (.ireturn, 1) := by decide +kernel
theorem dX5_sorts_0 : decode cX5_sorts 0 = .ok (.aload_n 0, 1) := by decide +kernel
theorem dX5_sorts_1 : decode cX5_sorts 1 = .ok (.getfield 88, 3) := by decide +kernel
theorem dX5_sorts_4 : decode cX5_sorts 4 = .ok (.iconst 1, 1) := by decide +kernel
theorem dX5_sorts_5 : decode cX5_sorts 5 = .ok (.if_icmp .le 7, 3) := by decide +kernel
theorem dX5_sorts_8 : decode cX5_sorts 8 = .ok (.iconst 1, 1) := by decide +kernel
theorem dX5_sorts_9 : decode cX5_sorts 9 = .ok (.goto 4, 3) := by decide +kernel
theorem dX5_sorts_12 : decode cX5_sorts 12 = .ok (.iconst 0, 1) := by decide +kernel
theorem dX5_sorts_13 : decode cX5_sorts 13 = .ok (.istore_n 1, 1) := by decide +kernel
theorem dX5_sorts_14 : decode cX5_sorts 14 = .ok (.aload_n 0, 1) := by decide +kernel
theorem dX5_sorts_15 : decode cX5_sorts 15 = .ok (.getfield 91, 3) := by decide +kernel
theorem dX5_sorts_18 : decode cX5_sorts 18 = .ok (.iconst 1, 1) := by decide +kernel
theorem dX5_sorts_19 : decode cX5_sorts 19 = .ok (.if_icmp .le 7, 3) := by decide +kernel
theorem dX5_sorts_22 : decode cX5_sorts 22 = .ok (.iconst 1, 1) := by decide +kernel
theorem dX5_sorts_23 : decode cX5_sorts 23 = .ok (.goto 4, 3) := by decide +kernel
theorem dX5_sorts_26 : decode cX5_sorts 26 = .ok (.iconst 0, 1) := by decide +kernel
theorem dX5_sorts_27 : decode cX5_sorts 27 = .ok (.istore_n 2, 1) := by decide +kernel
theorem dX5_sorts_28 : decode cX5_sorts 28 = .ok (.aload_n 0, 1) := by decide +kernel
theorem dX5_sorts_29 : decode cX5_sorts 29 = .ok (.getfield 94, 3) := by decide +kernel
theorem dX5_sorts_32 : decode cX5_sorts 32 = .ok (.iconst 1, 1) := by decide +kernel
theorem dX5_sorts_33 : decode cX5_sorts 33 = .ok (.if_icmp .le 7, 3) := by decide +kernel
theorem dX5_sorts_36 : decode cX5_sorts 36 = .ok (.iconst 1, 1) := by decide +kernel
theorem dX5_sorts_37 : decode cX5_sorts 37 = .ok (.goto 4, 3) := by decide +kernel
theorem dX5_sorts_40 : decode cX5_sorts 40 = .ok (.iconst 0, 1) := by decide +kernel
theorem dX5_sorts_41 : decode cX5_sorts 41 = .ok (.istore_n 3, 1) := by decide +kernel
theorem dX5_sorts_42 : decode cX5_sorts 42 = .ok (.iconst 0, 1) := by decide +kernel
theorem dX5_sorts_43 : decode cX5_sorts 43 = .ok (.istore 4, 2) := by decide +kernel
theorem dX5_sorts_45 : decode cX5_sorts 45 = .ok (.iconst 1, 1) := by decide +kernel
theorem dX5_sorts_46 : decode cX5_sorts 46 = .ok (.istore 5, 2) := by decide +kernel
theorem dX5_sorts_48 : decode cX5_sorts 48 = .ok (.iconst 0, 1) := by decide +kernel
theorem dX5_sorts_49 : decode cX5_sorts 49 = .ok (.istore 6, 2) := by decide +kernel
theorem dX5_sorts_51 : decode cX5_sorts 51 = .ok (.iload 6, 2) := by decide +kernel
theorem dX5_sorts_53 : decode cX5_sorts 53 = .ok (.aload_n 0, 1) := by decide +kernel
theorem dX5_sorts_54 : decode cX5_sorts 54 = .ok (.getfield 85, 3) := by decide +kernel
theorem dX5_sorts_57 : decode cX5_sorts 57 = .ok (.if_icmp .ge 354, 3) := by decide +kernel
theorem dX5_sorts_60 : decode cX5_sorts 60 = .ok (.aload_n 0, 1) := by decide +kernel
theorem dX5_sorts_61 : decode cX5_sorts 61 = .ok (.getfield 17, 3) := by decide +kernel
theorem dX5_sorts_64 : decode cX5_sorts 64 = .ok (.iload 6, 2) := by decide +kernel
theorem dX5_sorts_66 : decode cX5_sorts 66 = .ok (.iaload, 1) := by decide +kernel
theorem dX5_sorts_67 : decode cX5_sorts 67 = .ok (.istore 7, 2) := by decide +kernel
theorem dX5_sorts_69 : decode cX5_sorts 69 = .ok (.iload 4, 2) := by decide +kernel
theorem dX5_sorts_71 : decode cX5_sorts 71 = .ok (.ifCond .eq 7, 3) := by decide +kernel
theorem dX5_sorts_74 : decode cX5_sorts 74 = .ok (.iconst 1, 1) := by decide +kernel
theorem dX5_sorts_75 : decode cX5_sorts 75 = .ok (.goto 4, 3) := by decide +kernel
theorem dX5_sorts_78 : decode cX5_sorts 78 = .ok (.iconst 0, 1) := by decide +kernel
theorem dX5_sorts_79 : decode cX5_sorts 79 = .ok (.istore 8, 2) := by decide +kernel
theorem dX5_sorts_81 : decode cX5_sorts 81 = .ok (.bipush 18, 2) := by decide +kernel
theorem dX5_sorts_83 : decode cX5_sorts 83 = .ok (.istore 9, 2) := by decide +kernel
theorem dX5_sorts_85 : decode cX5_sorts 85 = .ok (.iload 7, 2) := by decide +kernel
theorem dX5_sorts_87 : decode cX5_sorts 87 = .ok (.bipush 66, 2) := by decide +kernel
theorem dX5_sorts_89 : decode cX5_sorts 89 = .ok (.if_icmp .eq 17, 3) := by decide +kernel
theorem dX5_sorts_92 : decode cX5_sorts 92 = .ok (.iload 7, 2) := by decide +kernel
theorem dX5_sorts_94 : decode cX5_sorts 94 = .ok (.bipush 48, 2) := by decide +kernel
theorem dX5_sorts_96 : decode cX5_sorts 96 = .ok (.if_icmp .eq 10, 3) := by decide +kernel
theorem dX5_sorts_99 : decode cX5_sorts 99 = .ok (.iload 7, 2) := by decide +kernel
theorem dX5_sorts_101 : decode cX5_sorts 101 = .ok (.bipush 47, 2) := by decide +kernel
theorem dX5_sorts_103 : decode cX5_sorts 103 = .ok (.if_icmp .ne 6, 3) := by decide +kernel
theorem dX5_sorts_106 : decode cX5_sorts 106 = .ok (.iconst 0, 1) := by decide +kernel
theorem dX5_sorts_107 : decode cX5_sorts 107 = .ok (.istore 9, 2) := by decide +kernel
theorem dX5_sorts_109 : decode cX5_sorts 109 = .ok (.iload 7, 2) := by decide +kernel
theorem dX5_sorts_111 : decode cX5_sorts 111 = .ok (.bipush 44, 2) := by decide +kernel
theorem dX5_sorts_113 : decode cX5_sorts 113 = .ok (.if_icmp .ne 6, 3) := by decide +kernel
theorem dX5_sorts_116 : decode cX5_sorts 116 = .ok (.iconst 1, 1) := by decide +kernel
theorem dX5_sorts_117 : decode cX5_sorts 117 = .ok (.istore 9, 2) := by decide +kernel
theorem dX5_sorts_119 : decode cX5_sorts 119 = .ok (.iload 7, 2) := by decide +kernel
theorem dX5_sorts_121 : decode cX5_sorts 121 = .ok (.bipush 46, 2) := by decide +kernel
theorem dX5_sorts_123 : decode cX5_sorts 123 = .ok (.if_icmp .ne 6, 3) := by decide +kernel
theorem dX5_sorts_126 : decode cX5_sorts 126 = .ok (.iconst 2, 1) := by decide +kernel
theorem dX5_sorts_127 : decode cX5_sorts 127 = .ok (.istore 9, 2) := by decide +kernel
theorem dX5_sorts_129 : decode cX5_sorts 129 = .ok (.iload 7, 2) := by decide +kernel
theorem dX5_sorts_131 : decode cX5_sorts 131 = .ok (.bipush 43, 2) := by decide +kernel
theorem dX5_sorts_133 : decode cX5_sorts 133 = .ok (.if_icmp .ne 27, 3) := by decide +kernel
theorem dX5_sorts_136 : decode cX5_sorts 136 = .ok (.iload_n 1, 1) := by decide +kernel
theorem dX5_sorts_137 : decode cX5_sorts 137 = .ok (.ifCond .eq 11, 3) := by decide +kernel
theorem dX5_sorts_140 : decode cX5_sorts 140 = .ok (.bipush 8, 2) := by decide +kernel
theorem dX5_sorts_142 : decode cX5_sorts 142 = .ok (.iload 8, 2) := by decide +kernel
theorem dX5_sorts_144 : decode cX5_sorts 144 = .ok (.iadd, 1) := by decide +kernel
theorem dX5_sorts_145 : decode cX5_sorts 145 = .ok (.goto 13, 3) := by decide +kernel
theorem dX5_sorts_148 : decode cX5_sorts 148 = .ok (.iload 6, 2) := by decide +kernel
theorem dX5_sorts_150 : decode cX5_sorts 150 = .ok (.ifCond .ne 7, 3) := by decide +kernel
theorem dX5_sorts_153 : decode cX5_sorts 153 = .ok (.iconst 3, 1) := by decide +kernel
theorem dX5_sorts_154 : decode cX5_sorts 154 = .ok (.goto 4, 3) := by decide +kernel
theorem dX5_sorts_157 : decode cX5_sorts 157 = .ok (.iconst 4, 1) := by decide +kernel
theorem dX5_sorts_158 : decode cX5_sorts 158 = .ok (.istore 9, 2) := by decide +kernel
theorem dX5_sorts_160 : decode cX5_sorts 160 = .ok (.iload 7, 2) := by decide +kernel
theorem dX5_sorts_162 : decode cX5_sorts 162 = .ok (.bipush 45, 2) := by decide +kernel
theorem dX5_sorts_164 : decode cX5_sorts 164 = .ok (.if_icmp .ne 27, 3) := by decide +kernel
theorem dX5_sorts_167 : decode cX5_sorts 167 = .ok (.iload_n 2, 1) := by decide +kernel
theorem dX5_sorts_168 : decode cX5_sorts 168 = .ok (.ifCond .eq 11, 3) := by decide +kernel
theorem dX5_sorts_171 : decode cX5_sorts 171 = .ok (.bipush 8, 2) := by decide +kernel
theorem dX5_sorts_173 : decode cX5_sorts 173 = .ok (.iload 8, 2) := by decide +kernel
theorem dX5_sorts_175 : decode cX5_sorts 175 = .ok (.iadd, 1) := by decide +kernel
theorem dX5_sorts_176 : decode cX5_sorts 176 = .ok (.goto 13, 3) := by decide +kernel
theorem dX5_sorts_179 : decode cX5_sorts 179 = .ok (.iload 6, 2) := by decide +kernel
theorem dX5_sorts_181 : decode cX5_sorts 181 = .ok (.ifCond .ne 7, 3) := by decide +kernel
theorem dX5_sorts_184 : decode cX5_sorts 184 = .ok (.iconst 3, 1) := by decide +kernel
theorem dX5_sorts_185 : decode cX5_sorts 185 = .ok (.goto 4, 3) := by decide +kernel
theorem dX5_sorts_188 : decode cX5_sorts 188 = .ok (.iconst 4, 1) := by decide +kernel
theorem dX5_sorts_189 : decode cX5_sorts 189 = .ok (.istore 9, 2) := by decide +kernel
theorem dX5_sorts_191 : decode cX5_sorts 191 = .ok (.iload 7, 2) := by decide +kernel
theorem dX5_sorts_193 : decode cX5_sorts 193 = .ok (.sipush 200, 3) := by decide +kernel
theorem dX5_sorts_196 : decode cX5_sorts 196 = .ok (.if_icmp .eq 11, 3) := by decide +kernel
theorem dX5_sorts_199 : decode cX5_sorts 199 = .ok (.iload 7, 2) := by decide +kernel
theorem dX5_sorts_201 : decode cX5_sorts 201 = .ok (.sipush 201, 3) := by decide +kernel
theorem dX5_sorts_204 : decode cX5_sorts 204 = .ok (.if_icmp .ne 6, 3) := by decide +kernel
theorem dX5_sorts_207 : decode cX5_sorts 207 = .ok (.iconst 4, 1) := by decide +kernel
theorem dX5_sorts_208 : decode cX5_sorts 208 = .ok (.istore 9, 2) := by decide +kernel
theorem dX5_sorts_210 : decode cX5_sorts 210 = .ok (.iload 7, 2) := by decide +kernel
theorem dX5_sorts_212 : decode cX5_sorts 212 = .ok (.sipush 202, 3) := by decide +kernel
theorem dX5_sorts_215 : decode cX5_sorts 215 = .ok (.if_icmp .ne 18, 3) := by decide +kernel
theorem dX5_sorts_218 : decode cX5_sorts 218 = .ok (.iload_n 3, 1) := by decide +kernel
theorem dX5_sorts_219 : decode cX5_sorts 219 = .ok (.ifCond .eq 11, 3) := by decide +kernel
theorem dX5_sorts_222 : decode cX5_sorts 222 = .ok (.bipush 10, 2) := by decide +kernel
theorem dX5_sorts_224 : decode cX5_sorts 224 = .ok (.iload 8, 2) := by decide +kernel
theorem dX5_sorts_226 : decode cX5_sorts 226 = .ok (.iadd, 1) := by decide +kernel
theorem dX5_sorts_227 : decode cX5_sorts 227 = .ok (.goto 4, 3) := by decide +kernel
theorem dX5_sorts_230 : decode cX5_sorts 230 = .ok (.iconst 5, 1) := by decide +kernel
theorem dX5_sorts_231 : decode cX5_sorts 231 = .ok (.istore 9, 2) := by decide +kernel
theorem dX5_sorts_233 : decode cX5_sorts 233 = .ok (.iload 7, 2) := by decide +kernel
theorem dX5_sorts_235 : decode cX5_sorts 235 = .ok (.bipush 90, 2) := by decide +kernel
theorem dX5_sorts_237 : decode cX5_sorts 237 = .ok (.if_icmp .eq 10, 3) := by decide +kernel
theorem dX5_sorts_240 : decode cX5_sorts 240 = .ok (.iload 7, 2) := by decide +kernel
theorem dX5_sorts_242 : decode cX5_sorts 242 = .ok (.bipush 42, 2) := by decide +kernel
theorem dX5_sorts_244 : decode cX5_sorts 244 = .ok (.if_icmp .ne 10, 3) := by decide +kernel
theorem dX5_sorts_247 : decode cX5_sorts 247 = .ok (.bipush 6, 2) := by decide +kernel
theorem dX5_sorts_249 : decode cX5_sorts 249 = .ok (.iload 8, 2) := by decide +kernel
theorem dX5_sorts_251 : decode cX5_sorts 251 = .ok (.iadd, 1) := by decide +kernel
theorem dX5_sorts_252 : decode cX5_sorts 252 = .ok (.istore 9, 2) := by decide +kernel
theorem dX5_sorts_254 : decode cX5_sorts 254 = .ok (.iload 7, 2) := by decide +kernel
theorem dX5_sorts_256 : decode cX5_sorts 256 = .ok (.bipush 57, 2) := by decide +kernel
theorem dX5_sorts_258 : decode cX5_sorts 258 = .ok (.if_icmp .ne 7, 3) := by decide +kernel
theorem dX5_sorts_261 : decode cX5_sorts 261 = .ok (.bipush 12, 2) := by decide +kernel
theorem dX5_sorts_263 : decode cX5_sorts 263 = .ok (.istore 9, 2) := by decide +kernel
theorem dX5_sorts_265 : decode cX5_sorts 265 = .ok (.iload 7, 2) := by decide +kernel
theorem dX5_sorts_267 : decode cX5_sorts 267 = .ok (.bipush 65, 2) := by decide +kernel
theorem dX5_sorts_269 : decode cX5_sorts 269 = .ok (.if_icmp .eq 10, 3) := by decide +kernel
theorem dX5_sorts_272 : decode cX5_sorts 272 = .ok (.iload 7, 2) := by decide +kernel
theorem dX5_sorts_274 : decode cX5_sorts 274 = .ok (.bipush 88, 2) := by decide +kernel
theorem dX5_sorts_276 : decode cX5_sorts 276 = .ok (.if_icmp .ne 7, 3) := by decide +kernel
theorem dX5_sorts_279 : decode cX5_sorts 279 = .ok (.bipush 13, 2) := by decide +kernel
theorem dX5_sorts_281 : decode cX5_sorts 281 = .ok (.istore 9, 2) := by decide +kernel
theorem dX5_sorts_283 : decode cX5_sorts 283 = .ok (.iload 7, 2) := by decide +kernel
theorem dX5_sorts_285 : decode cX5_sorts 285 = .ok (.bipush 83, 2) := by decide +kernel
theorem dX5_sorts_287 : decode cX5_sorts 287 = .ok (.if_icmp .ne 7, 3) := by decide +kernel
theorem dX5_sorts_290 : decode cX5_sorts 290 = .ok (.bipush 14, 2) := by decide +kernel
theorem dX5_sorts_292 : decode cX5_sorts 292 = .ok (.istore 9, 2) := by decide +kernel
theorem dX5_sorts_294 : decode cX5_sorts 294 = .ok (.iload 7, 2) := by decide +kernel
theorem dX5_sorts_296 : decode cX5_sorts 296 = .ok (.bipush 86, 2) := by decide +kernel
theorem dX5_sorts_298 : decode cX5_sorts 298 = .ok (.if_icmp .ne 7, 3) := by decide +kernel
theorem dX5_sorts_301 : decode cX5_sorts 301 = .ok (.bipush 15, 2) := by decide +kernel
theorem dX5_sorts_303 : decode cX5_sorts 303 = .ok (.istore 9, 2) := by decide +kernel
theorem dX5_sorts_305 : decode cX5_sorts 305 = .ok (.iload 7, 2) := by decide +kernel
theorem dX5_sorts_307 : decode cX5_sorts 307 = .ok (.bipush 80, 2) := by decide +kernel
theorem dX5_sorts_309 : decode cX5_sorts 309 = .ok (.if_icmp .ne 17, 3) := by decide +kernel
theorem dX5_sorts_312 : decode cX5_sorts 312 = .ok (.iload 5, 2) := by decide +kernel
theorem dX5_sorts_314 : decode cX5_sorts 314 = .ok (.ifCond .eq 8, 3) := by decide +kernel
theorem dX5_sorts_317 : decode cX5_sorts 317 = .ok (.bipush 16, 2) := by decide +kernel
theorem dX5_sorts_319 : decode cX5_sorts 319 = .ok (.goto 5, 3) := by decide +kernel
theorem dX5_sorts_322 : decode cX5_sorts 322 = .ok (.bipush 17, 2) := by decide +kernel
theorem dX5_sorts_324 : decode cX5_sorts 324 = .ok (.istore 9, 2) := by decide +kernel
theorem dX5_sorts_326 : decode cX5_sorts 326 = .ok (.aload_n 0, 1) := by decide +kernel
theorem dX5_sorts_327 : decode cX5_sorts 327 = .ok (.getfield 23, 3) := by decide +kernel
theorem dX5_sorts_330 : decode cX5_sorts 330 = .ok (.iload 6, 2) := by decide +kernel
theorem dX5_sorts_332 : decode cX5_sorts 332 = .ok (.iload 9, 2) := by decide +kernel
theorem dX5_sorts_334 : decode cX5_sorts 334 = .ok (.iastore, 1) := by decide +kernel
theorem dX5_sorts_335 : decode cX5_sorts 335 = .ok (.iload 4, 2) := by decide +kernel
theorem dX5_sorts_337 : decode cX5_sorts 337 = .ok (.ifCond .ne 23, 3) := by decide +kernel
theorem dX5_sorts_340 : decode cX5_sorts 340 = .ok (.iload 9, 2) := by decide +kernel
theorem dX5_sorts_342 : decode cX5_sorts 342 = .ok (.iconst 2, 1) := by decide +kernel
theorem dX5_sorts_343 : decode cX5_sorts 343 = .ok (.if_icmp .eq 17, 3) := by decide +kernel
theorem dX5_sorts_346 : decode cX5_sorts 346 = .ok (.iload 9, 2) := by decide +kernel
theorem dX5_sorts_348 : decode cX5_sorts 348 = .ok (.bipush 15, 2) := by decide +kernel
theorem dX5_sorts_350 : decode cX5_sorts 350 = .ok (.if_icmp .eq 10, 3) := by decide +kernel
theorem dX5_sorts_353 : decode cX5_sorts 353 = .ok (.iload 9, 2) := by decide +kernel
theorem dX5_sorts_355 : decode cX5_sorts 355 = .ok (.bipush 16, 2) := by decide +kernel
theorem dX5_sorts_357 : decode cX5_sorts 357 = .ok (.if_icmp .ne 7, 3) := by decide +kernel
theorem dX5_sorts_360 : decode cX5_sorts 360 = .ok (.iconst 1, 1) := by decide +kernel
theorem dX5_sorts_361 : decode cX5_sorts 361 = .ok (.goto 4, 3) := by decide +kernel
theorem dX5_sorts_364 : decode cX5_sorts 364 = .ok (.iconst 0, 1) := by decide +kernel
theorem dX5_sorts_365 : decode cX5_sorts 365 = .ok (.istore 4, 2) := by decide +kernel
theorem dX5_sorts_367 : decode cX5_sorts 367 = .ok (.iload 5, 2) := by decide +kernel
theorem dX5_sorts_369 : decode cX5_sorts 369 = .ok (.ifCond .eq 33, 3) := by decide +kernel
theorem dX5_sorts_372 : decode cX5_sorts 372 = .ok (.iload 9, 2) := by decide +kernel
theorem dX5_sorts_374 : decode cX5_sorts 374 = .ok (.iconst 3, 1) := by decide +kernel
theorem dX5_sorts_375 : decode cX5_sorts 375 = .ok (.if_icmp .eq 23, 3) := by decide +kernel
theorem dX5_sorts_378 : decode cX5_sorts 378 = .ok (.iload 9, 2) := by decide +kernel
theorem dX5_sorts_380 : decode cX5_sorts 380 = .ok (.iconst 5, 1) := by decide +kernel
theorem dX5_sorts_381 : decode cX5_sorts 381 = .ok (.if_icmp .eq 17, 3) := by decide +kernel
theorem dX5_sorts_384 : decode cX5_sorts 384 = .ok (.iload 9, 2) := by decide +kernel
theorem dX5_sorts_386 : decode cX5_sorts 386 = .ok (.bipush 13, 2) := by decide +kernel
theorem dX5_sorts_388 : decode cX5_sorts 388 = .ok (.if_icmp .le 14, 3) := by decide +kernel
theorem dX5_sorts_391 : decode cX5_sorts 391 = .ok (.iload 9, 2) := by decide +kernel
theorem dX5_sorts_393 : decode cX5_sorts 393 = .ok (.bipush 17, 2) := by decide +kernel
theorem dX5_sorts_395 : decode cX5_sorts 395 = .ok (.if_icmp .ge 7, 3) := by decide +kernel
theorem dX5_sorts_398 : decode cX5_sorts 398 = .ok (.iconst 1, 1) := by decide +kernel
theorem dX5_sorts_399 : decode cX5_sorts 399 = .ok (.goto 4, 3) := by decide +kernel
theorem dX5_sorts_402 : decode cX5_sorts 402 = .ok (.iconst 0, 1) := by decide +kernel
theorem dX5_sorts_403 : decode cX5_sorts 403 = .ok (.istore 5, 2) := by decide +kernel
theorem dX5_sorts_405 : decode cX5_sorts 405 = .ok (.iinc 6 1, 3) := by decide +kernel
theorem dX5_sorts_408 : decode cX5_sorts 408 = .ok (.goto (-357), 3) := by decide +kernel
theorem dX5_sorts_411 : decode cX5_sorts 411 = .ok (.return_, 1) := by decide +kernel
theorem dX5_isDigit_0 : decode cX5_isDigit 0 = .ok (.aload_n 0, 1) := by decide +kernel
theorem dX5_isDigit_1 : decode cX5_isDigit 1 = .ok (.getfield 23, 3) := by decide +kernel
theorem dX5_isDigit_4 : decode cX5_isDigit 4 = .ok (.iload_n 1, 1) := by decide +kernel
theorem dX5_isDigit_5 : decode cX5_isDigit 5 = .ok (.iaload, 1) := by decide +kernel
theorem dX5_isDigit_6 : decode cX5_isDigit 6 = .ok (.istore_n 2, 1) := by decide +kernel
theorem dX5_isDigit_7 : decode cX5_isDigit 7 = .ok (.iload_n 2, 1) := by decide +kernel
theorem dX5_isDigit_8 : decode cX5_isDigit 8 = .ok (.bipush 12, 2) := by decide +kernel
theorem dX5_isDigit_10 : decode cX5_isDigit 10 = .ok (.if_icmp .eq 27, 3) := by decide +kernel
theorem dX5_isDigit_13 : decode cX5_isDigit 13 = .ok (.iload_n 2, 1) := by decide +kernel
theorem dX5_isDigit_14 : decode cX5_isDigit 14 = .ok (.bipush 6, 2) := by decide +kernel
theorem dX5_isDigit_16 : decode cX5_isDigit 16 = .ok (.if_icmp .eq 21, 3) := by decide +kernel
theorem dX5_isDigit_19 : decode cX5_isDigit 19 = .ok (.iload_n 2, 1) := by decide +kernel
theorem dX5_isDigit_20 : decode cX5_isDigit 20 = .ok (.bipush 7, 2) := by decide +kernel
theorem dX5_isDigit_22 : decode cX5_isDigit 22 = .ok (.if_icmp .eq 15, 3) := by decide +kernel
theorem dX5_isDigit_25 : decode cX5_isDigit 25 = .ok (.iload_n 2, 1) := by decide +kernel
theorem dX5_isDigit_26 : decode cX5_isDigit 26 = .ok (.bipush 16, 2) := by decide +kernel
theorem dX5_isDigit_28 : decode cX5_isDigit 28 = .ok (.if_icmp .eq 9, 3) := by decide +kernel
theorem dX5_isDigit_31 : decode cX5_isDigit 31 = .ok (.iload_n 2, 1) := by decide +kernel
theorem dX5_isDigit_32 : decode cX5_isDigit 32 = .ok (.bipush 17, 2) := by decide +kernel
theorem dX5_isDigit_34 : decode cX5_isDigit 34 = .ok (.if_icmp .ne 5, 3) := by decide +kernel
theorem dX5_isDigit_37 : decode cX5_isDigit 37 = .ok (.iconst 1, 1) := by decide +kernel
theorem dX5_isDigit_38 : decode cX5_isDigit 38 = .ok (.ireturn, 1) := by decide +kernel
theorem dX5_isDigit_39 : decode cX5_isDigit 39 = .ok (.iload_n 2, 1) := by decide +kernel
theorem dX5_isDigit_40 : decode cX5_isDigit 40 = .ok (.bipush 8, 2) := by decide +kernel
theorem dX5_isDigit_42 : decode cX5_isDigit 42 = .ok (.if_icmp .lt 9, 3) := by decide +kernel
theorem dX5_isDigit_45 : decode cX5_isDigit 45 = .ok (.iload_n 2, 1) := by decide +kernel
theorem dX5_isDigit_46 : decode cX5_isDigit 46 = .ok (.bipush 11, 2) := by decide +kernel
theorem dX5_isDigit_48 : decode cX5_isDigit 48 = .ok (.if_icmp .le 5, 3) := by decide +kernel
theorem dX5_isDigit_51 : decode cX5_isDigit 51 = .ok (.iconst 0, 1) := by decide +kernel
theorem dX5_isDigit_52 : decode cX5_isDigit 52 = .ok (.ireturn, 1) := by decide +kernel
theorem dX5_isDigit_53 : decode cX5_isDigit 53 = .ok (.iconst 1, 1) := by decide +kernel
theorem dX5_isDigit_54 : decode cX5_isDigit 54 = .ok (.istore_n 3, 1) := by decide +kernel
theorem dX5_isDigit_55 : decode cX5_isDigit 55 = .ok (.iconst 0, 1) := by decide +kernel
theorem dX5_isDigit_56 : decode cX5_isDigit 56 = .ok (.istore 4, 2) := by decide +kernel
theorem dX5_isDigit_58 : decode cX5_isDigit 58 = .ok (.iload 4, 2) := by decide +kernel
theorem dX5_isDigit_60 : decode cX5_isDigit 60 = .ok (.iload_n 1, 1) := by decide +kernel
theorem dX5_isDigit_61 : decode cX5_isDigit 61 = .ok (.if_icmp .ge 35, 3) := by decide +kernel
theorem dX5_isDigit_64 : decode cX5_isDigit 64 = .ok (.iload_n 3, 1) := by decide +kernel
theorem dX5_isDigit_65 : decode cX5_isDigit 65 = .ok (.ifCond .eq 23, 3) := by decide +kernel
theorem dX5_isDigit_68 : decode cX5_isDigit 68 = .ok (.aload_n 0, 1) := by decide +kernel
theorem dX5_isDigit_69 : decode cX5_isDigit 69 = .ok (.getfield 17, 3) := by decide +kernel
theorem dX5_isDigit_72 : decode cX5_isDigit 72 = .ok (.iload 4, 2) := by decide +kernel
theorem dX5_isDigit_74 : decode cX5_isDigit 74 = .ok (.iaload, 1) := by decide +kernel
theorem dX5_isDigit_75 : decode cX5_isDigit 75 = .ok (.aload_n 0, 1) := by decide +kernel
theorem dX5_isDigit_76 : decode cX5_isDigit 76 = .ok (.getfield 17, 3) := by decide +kernel
theorem dX5_isDigit_79 : decode cX5_isDigit 79 = .ok (.iload_n 1, 1) := by decide +kernel
theorem dX5_isDigit_80 : decode cX5_isDigit 80 = .ok (.iaload, 1) := by decide +kernel
theorem dX5_isDigit_81 : decode cX5_isDigit 81 = .ok (.if_icmp .eq 7, 3) := by decide +kernel
theorem dX5_isDigit_84 : decode cX5_isDigit 84 = .ok (.iconst 1, 1) := by decide +kernel
theorem dX5_isDigit_85 : decode cX5_isDigit 85 = .ok (.goto 4, 3) := by decide +kernel
theorem dX5_isDigit_88 : decode cX5_isDigit 88 = .ok (.iconst 0, 1) := by decide +kernel
theorem dX5_isDigit_89 : decode cX5_isDigit 89 = .ok (.istore_n 3, 1) := by decide +kernel
theorem dX5_isDigit_90 : decode cX5_isDigit 90 = .ok (.iinc 4 1, 3) := by decide +kernel
theorem dX5_isDigit_93 : decode cX5_isDigit 93 = .ok (.goto (-35), 3) := by decide +kernel
theorem dX5_isDigit_96 : decode cX5_isDigit 96 = .ok (.iload_n 3, 1) := by decide +kernel
theorem dX5_isDigit_97 : decode cX5_isDigit 97 = .ok (.ifCond .ne 7, 3) := by decide +kernel
theorem dX5_isDigit_100 : decode cX5_isDigit 100 = .ok (.iconst 1, 1) := by decide +kernel
theorem dX5_isDigit_101 : decode cX5_isDigit 101 = .ok (.goto 4, 3) := by decide +kernel
theorem dX5_isDigit_104 : decode cX5_isDigit 104 = .ok (.iconst 0, 1) := by decide +kernel
theorem dX5_isDigit_105 : decode cX5_isDigit 105 = .ok (.ireturn, 1) := by decide +kernel
theorem dX5_width_0 : decode cX5_width 0 = .ok (.iload_n 0, 1) := by decide +kernel
theorem dX5_width_1 : decode cX5_width 1 = .ok (.sipush 200, 3) := by decide +kernel
theorem dX5_width_4 : decode cX5_width 4 = .ok (.if_icmp .eq 10, 3) := by decide +kernel
theorem dX5_width_7 : decode cX5_width 7 = .ok (.iload_n 0, 1) := by decide +kernel
theorem dX5_width_8 : decode cX5_width 8 = .ok (.sipush 201, 3) := by decide +kernel
theorem dX5_width_11 : decode cX5_width 11 = .ok (.if_icmp .ne 7, 3) := by decide +kernel
theorem dX5_width_14 : decode cX5_width 14 = .ok (.iconst 2, 1) := by decide +kernel
theorem dX5_width_15 : decode cX5_width 15 = .ok (.goto 26, 3) := by decide +kernel
theorem dX5_width_18 : decode cX5_width 18 = .ok (.iload_n 0, 1) := by decide +kernel
theorem dX5_width_19 : decode cX5_width 19 = .ok (.bipush 83, 2) := by decide +kernel
theorem dX5_width_21 : decode cX5_width 21 = .ok (.if_icmp .eq 15, 3) := by decide +kernel
theorem dX5_width_24 : decode cX5_width 24 = .ok (.iload_n 0, 1) := by decide +kernel
theorem dX5_width_25 : decode cX5_width 25 = .ok (.bipush 86, 2) := by decide +kernel
theorem dX5_width_27 : decode cX5_width 27 = .ok (.if_icmp .eq 9, 3) := by decide +kernel
theorem dX5_width_30 : decode cX5_width 30 = .ok (.iload_n 0, 1) := by decide +kernel
theorem dX5_width_31 : decode cX5_width 31 = .ok (.bipush 80, 2) := by decide +kernel
theorem dX5_width_33 : decode cX5_width 33 = .ok (.if_icmp .ne 7, 3) := by decide +kernel
theorem dX5_width_36 : decode cX5_width 36 = .ok (.iconst 0, 1) := by decide +kernel
theorem dX5_width_37 : decode cX5_width 37 = .ok (.goto 4, 3) := by decide +kernel
theorem dX5_width_40 : decode cX5_width 40 = .ok (.iconst 1, 1) := by decide +kernel
theorem dX5_width_41 : decode cX5_width 41 = .ok (.ireturn, 1) := by decide +kernel
theorem dX5_isWrong_0 : decode cX5_isWrong 0 = .ok (.iconst 0, 1) := by decide +kernel
theorem dX5_isWrong_1 : decode cX5_isWrong 1 = .ok (.istore_n 2, 1) := by decide +kernel
theorem dX5_isWrong_2 : decode cX5_isWrong 2 = .ok (.iconst 0, 1) := by decide +kernel
theorem dX5_isWrong_3 : decode cX5_isWrong 3 = .ok (.istore_n 3, 1) := by decide +kernel
theorem dX5_isWrong_4 : decode cX5_isWrong 4 = .ok (.iconst 0, 1) := by decide +kernel
theorem dX5_isWrong_5 : decode cX5_isWrong 5 = .ok (.istore 4, 2) := by decide +kernel
theorem dX5_isWrong_7 : decode cX5_isWrong 7 = .ok (.iconst 0, 1) := by decide +kernel
theorem dX5_isWrong_8 : decode cX5_isWrong 8 = .ok (.istore 5, 2) := by decide +kernel
theorem dX5_isWrong_10 : decode cX5_isWrong 10 = .ok (.iconst 0, 1) := by decide +kernel
theorem dX5_isWrong_11 : decode cX5_isWrong 11 = .ok (.istore 6, 2) := by decide +kernel
theorem dX5_isWrong_13 : decode cX5_isWrong 13 = .ok (.iconst 0, 1) := by decide +kernel
theorem dX5_isWrong_14 : decode cX5_isWrong 14 = .ok (.istore 7, 2) := by decide +kernel
theorem dX5_isWrong_16 : decode cX5_isWrong 16 = .ok (.iload 7, 2) := by decide +kernel
theorem dX5_isWrong_18 : decode cX5_isWrong 18 = .ok (.iload_n 1, 1) := by decide +kernel
theorem dX5_isWrong_19 : decode cX5_isWrong 19 = .ok (.if_icmp .ge 135, 3) := by decide +kernel
theorem dX5_isWrong_22 : decode cX5_isWrong 22 = .ok (.iload_n 2, 1) := by decide +kernel
theorem dX5_isWrong_23 : decode cX5_isWrong 23 = .ok (.aload_n 0, 1) := by decide +kernel
theorem dX5_isWrong_24 : decode cX5_isWrong 24 = .ok (.getfield 60, 3) := by decide +kernel
theorem dX5_isWrong_27 : decode cX5_isWrong 27 = .ok (.aload_n 0, 1) := by decide +kernel
theorem dX5_isWrong_28 : decode cX5_isWrong 28 = .ok (.getfield 23, 3) := by decide +kernel
theorem dX5_isWrong_31 : decode cX5_isWrong 31 = .ok (.iload 7, 2) := by decide +kernel
theorem dX5_isWrong_33 : decode cX5_isWrong 33 = .ok (.iaload, 1) := by decide +kernel
theorem dX5_isWrong_34 : decode cX5_isWrong 34 = .ok (.iaload, 1) := by decide +kernel
theorem dX5_isWrong_35 : decode cX5_isWrong 35 = .ok (.aload_n 0, 1) := by decide +kernel
theorem dX5_isWrong_36 : decode cX5_isWrong 36 = .ok (.getfield 23, 3) := by decide +kernel
theorem dX5_isWrong_39 : decode cX5_isWrong 39 = .ok (.iload_n 1, 1) := by decide +kernel
theorem dX5_isWrong_40 : decode cX5_isWrong 40 = .ok (.iaload, 1) := by decide +kernel
theorem dX5_isWrong_41 : decode cX5_isWrong 41 = .ok (.ishr, 1) := by decide +kernel
theorem dX5_isWrong_42 : decode cX5_isWrong 42 = .ok (.iconst 1, 1) := by decide +kernel
theorem dX5_isWrong_43 : decode cX5_isWrong 43 = .ok (.iand, 1) := by decide +kernel
theorem dX5_isWrong_44 : decode cX5_isWrong 44 = .ok (.ifCond .ne 7, 3) := by decide +kernel
theorem dX5_isWrong_47 : decode cX5_isWrong 47 = .ok (.iconst 1, 1) := by decide +kernel
theorem dX5_isWrong_48 : decode cX5_isWrong 48 = .ok (.goto 4, 3) := by decide +kernel
theorem dX5_isWrong_51 : decode cX5_isWrong 51 = .ok (.iconst 0, 1) := by decide +kernel
theorem dX5_isWrong_52 : decode cX5_isWrong 52 = .ok (.ior, 1) := by decide +kernel
theorem dX5_isWrong_53 : decode cX5_isWrong 53 = .ok (.istore_n 2, 1) := by decide +kernel
theorem dX5_isWrong_54 : decode cX5_isWrong 54 = .ok (.iload_n 3, 1) := by decide +kernel
theorem dX5_isWrong_55 : decode cX5_isWrong 55 = .ok (.ifCond .ne 15, 3) := by decide +kernel
theorem dX5_isWrong_58 : decode cX5_isWrong 58 = .ok (.aload_n 0, 1) := by decide +kernel
theorem dX5_isWrong_59 : decode cX5_isWrong 59 = .ok (.getfield 17, 3) := by decide +kernel
theorem dX5_isWrong_62 : decode cX5_isWrong 62 = .ok (.iload 7, 2) := by decide +kernel
theorem dX5_isWrong_64 : decode cX5_isWrong 64 = .ok (.iaload, 1) := by decide +kernel
theorem dX5_isWrong_65 : decode cX5_isWrong 65 = .ok (.bipush 90, 2) := by decide +kernel
theorem dX5_isWrong_67 : decode cX5_isWrong 67 = .ok (.if_icmp .ne 7, 3) := by decide +kernel
theorem dX5_isWrong_70 : decode cX5_isWrong 70 = .ok (.iconst 1, 1) := by decide +kernel
theorem dX5_isWrong_71 : decode cX5_isWrong 71 = .ok (.goto 4, 3) := by decide +kernel
theorem dX5_isWrong_74 : decode cX5_isWrong 74 = .ok (.iconst 0, 1) := by decide +kernel
theorem dX5_isWrong_75 : decode cX5_isWrong 75 = .ok (.istore_n 3, 1) := by decide +kernel
theorem dX5_isWrong_76 : decode cX5_isWrong 76 = .ok (.iload 4, 2) := by decide +kernel
theorem dX5_isWrong_78 : decode cX5_isWrong 78 = .ok (.ifCond .ne 15, 3) := by decide +kernel
theorem dX5_isWrong_81 : decode cX5_isWrong 81 = .ok (.aload_n 0, 1) := by decide +kernel
theorem dX5_isWrong_82 : decode cX5_isWrong 82 = .ok (.getfield 17, 3) := by decide +kernel
theorem dX5_isWrong_85 : decode cX5_isWrong 85 = .ok (.iload 7, 2) := by decide +kernel
theorem dX5_isWrong_87 : decode cX5_isWrong 87 = .ok (.iaload, 1) := by decide +kernel
theorem dX5_isWrong_88 : decode cX5_isWrong 88 = .ok (.bipush 42, 2) := by decide +kernel
theorem dX5_isWrong_90 : decode cX5_isWrong 90 = .ok (.if_icmp .ne 7, 3) := by decide +kernel
theorem dX5_isWrong_93 : decode cX5_isWrong 93 = .ok (.iconst 1, 1) := by decide +kernel
theorem dX5_isWrong_94 : decode cX5_isWrong 94 = .ok (.goto 4, 3) := by decide +kernel
theorem dX5_isWrong_97 : decode cX5_isWrong 97 = .ok (.iconst 0, 1) := by decide +kernel
theorem dX5_isWrong_98 : decode cX5_isWrong 98 = .ok (.istore 4, 2) := by decide +kernel
theorem dX5_isWrong_100 : decode cX5_isWrong 100 = .ok (.iload 5, 2) := by decide +kernel
theorem dX5_isWrong_102 : decode cX5_isWrong 102 = .ok (.ifCond .ne 15, 3) := by decide +kernel
theorem dX5_isWrong_105 : decode cX5_isWrong 105 = .ok (.aload_n 0, 1) := by decide +kernel
theorem dX5_isWrong_106 : decode cX5_isWrong 106 = .ok (.getfield 17, 3) := by decide +kernel
theorem dX5_isWrong_109 : decode cX5_isWrong 109 = .ok (.iload 7, 2) := by decide +kernel
theorem dX5_isWrong_111 : decode cX5_isWrong 111 = .ok (.iaload, 1) := by decide +kernel
theorem dX5_isWrong_112 : decode cX5_isWrong 112 = .ok (.bipush 43, 2) := by decide +kernel
theorem dX5_isWrong_114 : decode cX5_isWrong 114 = .ok (.if_icmp .ne 7, 3) := by decide +kernel
theorem dX5_isWrong_117 : decode cX5_isWrong 117 = .ok (.iconst 1, 1) := by decide +kernel
theorem dX5_isWrong_118 : decode cX5_isWrong 118 = .ok (.goto 4, 3) := by decide +kernel
theorem dX5_isWrong_121 : decode cX5_isWrong 121 = .ok (.iconst 0, 1) := by decide +kernel
theorem dX5_isWrong_122 : decode cX5_isWrong 122 = .ok (.istore 5, 2) := by decide +kernel
theorem dX5_isWrong_124 : decode cX5_isWrong 124 = .ok (.iload 6, 2) := by decide +kernel
theorem dX5_isWrong_126 : decode cX5_isWrong 126 = .ok (.ifCond .ne 15, 3) := by decide +kernel
theorem dX5_isWrong_129 : decode cX5_isWrong 129 = .ok (.aload_n 0, 1) := by decide +kernel
theorem dX5_isWrong_130 : decode cX5_isWrong 130 = .ok (.getfield 17, 3) := by decide +kernel
theorem dX5_isWrong_133 : decode cX5_isWrong 133 = .ok (.iload 7, 2) := by decide +kernel
theorem dX5_isWrong_135 : decode cX5_isWrong 135 = .ok (.iaload, 1) := by decide +kernel
theorem dX5_isWrong_136 : decode cX5_isWrong 136 = .ok (.bipush 45, 2) := by decide +kernel
theorem dX5_isWrong_138 : decode cX5_isWrong 138 = .ok (.if_icmp .ne 7, 3) := by decide +kernel
theorem dX5_isWrong_141 : decode cX5_isWrong 141 = .ok (.iconst 1, 1) := by decide +kernel
theorem dX5_isWrong_142 : decode cX5_isWrong 142 = .ok (.goto 4, 3) := by decide +kernel
theorem dX5_isWrong_145 : decode cX5_isWrong 145 = .ok (.iconst 0, 1) := by decide +kernel
theorem dX5_isWrong_146 : decode cX5_isWrong 146 = .ok (.istore 6, 2) := by decide +kernel
theorem dX5_isWrong_148 : decode cX5_isWrong 148 = .ok (.iinc 7 1, 3) := by decide +kernel
theorem dX5_isWrong_151 : decode cX5_isWrong 151 = .ok (.goto (-135), 3) := by decide +kernel
theorem dX5_isWrong_154 : decode cX5_isWrong 154 = .ok (.aload_n 0, 1) := by decide +kernel
theorem dX5_isWrong_155 : decode cX5_isWrong 155 = .ok (.getfield 23, 3) := by decide +kernel
theorem dX5_isWrong_158 : decode cX5_isWrong 158 = .ok (.iload_n 1, 1) := by decide +kernel
theorem dX5_isWrong_159 : decode cX5_isWrong 159 = .ok (.iaload, 1) := by decide +kernel
theorem dX5_isWrong_160 : decode cX5_isWrong 160 = .ok (.bipush 8, 2) := by decide +kernel
theorem dX5_isWrong_162 : decode cX5_isWrong 162 = .ok (.if_icmp .eq 14, 3) := by decide +kernel
theorem dX5_isWrong_165 : decode cX5_isWrong 165 = .ok (.aload_n 0, 1) := by decide +kernel
theorem dX5_isWrong_166 : decode cX5_isWrong 166 = .ok (.getfield 23, 3) := by decide +kernel
theorem dX5_isWrong_169 : decode cX5_isWrong 169 = .ok (.iload_n 1, 1) := by decide +kernel
theorem dX5_isWrong_170 : decode cX5_isWrong 170 = .ok (.iaload, 1) := by decide +kernel
theorem dX5_isWrong_171 : decode cX5_isWrong 171 = .ok (.bipush 9, 2) := by decide +kernel
theorem dX5_isWrong_173 : decode cX5_isWrong 173 = .ok (.if_icmp .ne 7, 3) := by decide +kernel
theorem dX5_isWrong_176 : decode cX5_isWrong 176 = .ok (.iconst 1, 1) := by decide +kernel
theorem dX5_isWrong_177 : decode cX5_isWrong 177 = .ok (.goto 4, 3) := by decide +kernel
theorem dX5_isWrong_180 : decode cX5_isWrong 180 = .ok (.iconst 0, 1) := by decide +kernel
theorem dX5_isWrong_181 : decode cX5_isWrong 181 = .ok (.istore 7, 2) := by decide +kernel
theorem dX5_isWrong_183 : decode cX5_isWrong 183 = .ok (.iload_n 2, 1) := by decide +kernel
theorem dX5_isWrong_184 : decode cX5_isWrong 184 = .ok (.ifCond .gt 63, 3) := by decide +kernel
theorem dX5_isWrong_187 : decode cX5_isWrong 187 = .ok (.aload_n 0, 1) := by decide +kernel
theorem dX5_isWrong_188 : decode cX5_isWrong 188 = .ok (.getfield 17, 3) := by decide +kernel
theorem dX5_isWrong_191 : decode cX5_isWrong 191 = .ok (.iload_n 1, 1) := by decide +kernel
theorem dX5_isWrong_192 : decode cX5_isWrong 192 = .ok (.iaload, 1) := by decide +kernel
theorem dX5_isWrong_193 : decode cX5_isWrong 193 = .ok (.bipush 90, 2) := by decide +kernel
theorem dX5_isWrong_195 : decode cX5_isWrong 195 = .ok (.if_icmp .ne 8, 3) := by decide +kernel
theorem dX5_isWrong_198 : decode cX5_isWrong 198 = .ok (.iload 4, 2) := by decide +kernel
theorem dX5_isWrong_200 : decode cX5_isWrong 200 = .ok (.ifCond .ne 47, 3) := by decide +kernel
theorem dX5_isWrong_203 : decode cX5_isWrong 203 = .ok (.aload_n 0, 1) := by decide +kernel
theorem dX5_isWrong_204 : decode cX5_isWrong 204 = .ok (.getfield 17, 3) := by decide +kernel
theorem dX5_isWrong_207 : decode cX5_isWrong 207 = .ok (.iload_n 1, 1) := by decide +kernel
theorem dX5_isWrong_208 : decode cX5_isWrong 208 = .ok (.iaload, 1) := by decide +kernel
theorem dX5_isWrong_209 : decode cX5_isWrong 209 = .ok (.bipush 42, 2) := by decide +kernel
theorem dX5_isWrong_211 : decode cX5_isWrong 211 = .ok (.if_icmp .ne 7, 3) := by decide +kernel
theorem dX5_isWrong_214 : decode cX5_isWrong 214 = .ok (.iload_n 3, 1) := by decide +kernel
theorem dX5_isWrong_215 : decode cX5_isWrong 215 = .ok (.ifCond .ne 32, 3) := by decide +kernel
theorem dX5_isWrong_218 : decode cX5_isWrong 218 = .ok (.iload 7, 2) := by decide +kernel
theorem dX5_isWrong_220 : decode cX5_isWrong 220 = .ok (.ifCond .eq 31, 3) := by decide +kernel
theorem dX5_isWrong_223 : decode cX5_isWrong 223 = .ok (.aload_n 0, 1) := by decide +kernel
theorem dX5_isWrong_224 : decode cX5_isWrong 224 = .ok (.getfield 17, 3) := by decide +kernel
theorem dX5_isWrong_227 : decode cX5_isWrong 227 = .ok (.iload_n 1, 1) := by decide +kernel
theorem dX5_isWrong_228 : decode cX5_isWrong 228 = .ok (.iaload, 1) := by decide +kernel
theorem dX5_isWrong_229 : decode cX5_isWrong 229 = .ok (.bipush 43, 2) := by decide +kernel
theorem dX5_isWrong_231 : decode cX5_isWrong 231 = .ok (.if_icmp .ne 11, 3) := by decide +kernel
theorem dX5_isWrong_234 : decode cX5_isWrong 234 = .ok (.iload 6, 2) := by decide +kernel
theorem dX5_isWrong_236 : decode cX5_isWrong 236 = .ok (.ifCond .eq 15, 3) := by decide +kernel
theorem dX5_isWrong_239 : decode cX5_isWrong 239 = .ok (.goto 8, 3) := by decide +kernel
theorem dX5_isWrong_242 : decode cX5_isWrong 242 = .ok (.iload 5, 2) := by decide +kernel
theorem dX5_isWrong_244 : decode cX5_isWrong 244 = .ok (.ifCond .eq 7, 3) := by decide +kernel
theorem dX5_isWrong_247 : decode cX5_isWrong 247 = .ok (.iconst 1, 1) := by decide +kernel
theorem dX5_isWrong_248 : decode cX5_isWrong 248 = .ok (.goto 4, 3) := by decide +kernel
theorem dX5_isWrong_251 : decode cX5_isWrong 251 = .ok (.iconst 0, 1) := by decide +kernel
theorem dX5_isWrong_252 : decode cX5_isWrong 252 = .ok (.ireturn, 1) := by decide +kernel
set_option maxRecDepth 20000 in
theorem ggX5_wrong_X5_isWrong : GoodIn wsX5_wrong wsX5_isWrong := goodIn_r _ [9, 10, 11, 3, 27, 28, 29, 30, 31, 32, 33, 34, 35, 36, 37, 38, 39, 40, 41, 42, 43, 44, 45, 46, 47, 48, 49, 50] (by decide +kernel) (by decide +kernel)
set_option maxRecDepth 20000 in
theorem gX5_wrong_X5_isWrong : GoodIn wsX5_wrong (wsV RX5 103 RX5 yX5_isWrong wsX5_isWrong) := goodIn_app (goodIn_of _ (by decide +kernel)) ggX5_wrong_X5_isWrong
set_option maxRecDepth 20000 in
theorem ggX5_wrong_X5_isDigitFast : GoodIn wsX5_wrong wsX5_isDigitFast := goodIn_r _ [15, 3, 11, 16, 17, 18, 8, 19, 27, 28, 29, 30, 31, 32, 33, 34, 35, 36, 37, 38, 39, 40, 41, 42, 43, 44, 45, 46, 47, 48, 49, 50] (by decide +kernel) (by decide +kernel)
set_option maxRecDepth 20000 in
theorem gX5_wrong_X5_isDigitFast : GoodIn wsX5_wrong (wsV RX5 107 RX5 yX5_isDigitFast wsX5_isDigitFast) := goodIn_app (goodIn_of _ (by decide +kernel)) ggX5_wrong_X5_isDigitFast
set_option maxRecDepth 20000 in
theorem ggX5_wrong_X5_width : GoodIn wsX5_wrong wsX5_width := goodIn_r _ [22] (by decide +kernel) (by decide +kernel)
set_option maxRecDepth 20000 in
theorem gX5_wrong_X5_width : GoodIn wsX5_wrong (va_wsS RX5 110 yX5_width wsX5_width) := goodIn_app (goodIn_of _ (by decide +kernel)) ggX5_wrong_X5_width
set_option maxRecDepth 20000 in
theorem ggX5_wrong_X5_hasMain : GoodIn wsX5_wrong wsX5_hasMain := goodIn_r _ [26, 1, 11, 27, 28, 29, 30, 31, 32, 33, 34, 35, 36, 37, 38, 39, 40, 41, 42, 43, 44, 45, 46, 47, 48, 49, 50] (by decide +kernel) (by decide +kernel)
set_option maxRecDepth 20000 in
theorem gX5_wrong_X5_hasMain : GoodIn wsX5_wrong (wsV RX5 113 RX5 yX5_hasMain wsX5_hasMain) := goodIn_app (goodIn_of _ (by decide +kernel)) ggX5_wrong_X5_hasMain
theorem dX5_wrong_0 : decode cX5_wrong 0 = .ok (.iconst 0, 1) := by decide +kernel
theorem dX5_wrong_1 : decode cX5_wrong 1 = .ok (.istore_n 1, 1) := by decide +kernel
theorem dX5_wrong_2 : decode cX5_wrong 2 = .ok (.iconst 0, 1) := by decide +kernel
theorem dX5_wrong_3 : decode cX5_wrong 3 = .ok (.istore_n 2, 1) := by decide +kernel
theorem dX5_wrong_4 : decode cX5_wrong 4 = .ok (.iconst (-1), 1) := by decide +kernel
theorem dX5_wrong_5 : decode cX5_wrong 5 = .ok (.istore_n 3, 1) := by decide +kernel
theorem dX5_wrong_6 : decode cX5_wrong 6 = .ok (.iconst 0, 1) := by decide +kernel
theorem dX5_wrong_7 : decode cX5_wrong 7 = .ok (.istore 4, 2) := by decide +kernel
theorem dX5_wrong_9 : decode cX5_wrong 9 = .ok (.iload 4, 2) := by decide +kernel
theorem dX5_wrong_11 : decode cX5_wrong 11 = .ok (.aload_n 0, 1) := by decide +kernel
theorem dX5_wrong_12 : decode cX5_wrong 12 = .ok (.getfield 85, 3) := by decide +kernel
theorem dX5_wrong_15 : decode cX5_wrong 15 = .ok (.if_icmp .ge 136, 3) := by decide +kernel
theorem dX5_wrong_18 : decode cX5_wrong 18 = .ok (.iload 4, 2) := by decide +kernel
theorem dX5_wrong_20 : decode cX5_wrong 20 = .ok (.iconst 1, 1) := by decide +kernel
theorem dX5_wrong_21 : decode cX5_wrong 21 = .ok (.if_icmp .le 45, 3) := by decide +kernel
theorem dX5_wrong_24 : decode cX5_wrong 24 = .ok (.aload_n 0, 1) := by decide +kernel
theorem dX5_wrong_25 : decode cX5_wrong 25 = .ok (.getfield 20, 3) := by decide +kernel
theorem dX5_wrong_28 : decode cX5_wrong 28 = .ok (.iload 4, 2) := by decide +kernel
theorem dX5_wrong_30 : decode cX5_wrong 30 = .ok (.iaload, 1) := by decide +kernel
theorem dX5_wrong_31 : decode cX5_wrong 31 = .ok (.aload_n 0, 1) := by decide +kernel
theorem dX5_wrong_32 : decode cX5_wrong 32 = .ok (.getfield 20, 3) := by decide +kernel
theorem dX5_wrong_35 : decode cX5_wrong 35 = .ok (.iload 4, 2) := by decide +kernel
theorem dX5_wrong_37 : decode cX5_wrong 37 = .ok (.iconst 1, 1) := by decide +kernel
theorem dX5_wrong_38 : decode cX5_wrong 38 = .ok (.isub, 1) := by decide +kernel
theorem dX5_wrong_39 : decode cX5_wrong 39 = .ok (.iaload, 1) := by decide +kernel
theorem dX5_wrong_40 : decode cX5_wrong 40 = .ok (.if_icmp .ne 26, 3) := by decide +kernel
theorem dX5_wrong_43 : decode cX5_wrong 43 = .ok (.aload_n 0, 1) := by decide +kernel
theorem dX5_wrong_44 : decode cX5_wrong 44 = .ok (.getfield 20, 3) := by decide +kernel
theorem dX5_wrong_47 : decode cX5_wrong 47 = .ok (.iload 4, 2) := by decide +kernel
theorem dX5_wrong_49 : decode cX5_wrong 49 = .ok (.iaload, 1) := by decide +kernel
theorem dX5_wrong_50 : decode cX5_wrong 50 = .ok (.aload_n 0, 1) := by decide +kernel
theorem dX5_wrong_51 : decode cX5_wrong 51 = .ok (.getfield 20, 3) := by decide +kernel
theorem dX5_wrong_54 : decode cX5_wrong 54 = .ok (.iload 4, 2) := by decide +kernel
theorem dX5_wrong_56 : decode cX5_wrong 56 = .ok (.iconst 2, 1) := by decide +kernel
theorem dX5_wrong_57 : decode cX5_wrong 57 = .ok (.isub, 1) := by decide +kernel
theorem dX5_wrong_58 : decode cX5_wrong 58 = .ok (.iaload, 1) := by decide +kernel
theorem dX5_wrong_59 : decode cX5_wrong 59 = .ok (.if_icmp .ne 7, 3) := by decide +kernel
theorem dX5_wrong_62 : decode cX5_wrong 62 = .ok (.iconst 1, 1) := by decide +kernel
theorem dX5_wrong_63 : decode cX5_wrong 63 = .ok (.goto 4, 3) := by decide +kernel
theorem dX5_wrong_66 : decode cX5_wrong 66 = .ok (.iconst 0, 1) := by decide +kernel
theorem dX5_wrong_67 : decode cX5_wrong 67 = .ok (.istore 5, 2) := by decide +kernel
theorem dX5_wrong_69 : decode cX5_wrong 69 = .ok (.iload 5, 2) := by decide +kernel
theorem dX5_wrong_71 : decode cX5_wrong 71 = .ok (.ifCond .ne 20, 3) := by decide +kernel
theorem dX5_wrong_74 : decode cX5_wrong 74 = .ok (.aload_n 0, 1) := by decide +kernel
theorem dX5_wrong_75 : decode cX5_wrong 75 = .ok (.iload 4, 2) := by decide +kernel
theorem dX5_wrong_77 : decode cX5_wrong 77 = .ok (.invokevirtual 103, 3) := by decide +kernel
theorem dX5_wrong_80 : decode cX5_wrong 80 = .ok (.ifCond .eq 11, 3) := by decide +kernel
theorem dX5_wrong_83 : decode cX5_wrong 83 = .ok (.aload_n 0, 1) := by decide +kernel
theorem dX5_wrong_84 : decode cX5_wrong 84 = .ok (.getfield 20, 3) := by decide +kernel
theorem dX5_wrong_87 : decode cX5_wrong 87 = .ok (.iload 4, 2) := by decide +kernel
theorem dX5_wrong_89 : decode cX5_wrong 89 = .ok (.iaload, 1) := by decide +kernel
theorem dX5_wrong_90 : decode cX5_wrong 90 = .ok (.ireturn, 1) := by decide +kernel
theorem dX5_wrong_91 : decode cX5_wrong 91 = .ok (.iload_n 1, 1) := by decide +kernel
theorem dX5_wrong_92 : decode cX5_wrong 92 = .ok (.aload_n 0, 1) := by decide +kernel
theorem dX5_wrong_93 : decode cX5_wrong 93 = .ok (.iload 4, 2) := by decide +kernel
theorem dX5_wrong_95 : decode cX5_wrong 95 = .ok (.invokevirtual 107, 3) := by decide +kernel
theorem dX5_wrong_98 : decode cX5_wrong 98 = .ok (.ifCond .eq 7, 3) := by decide +kernel
theorem dX5_wrong_101 : decode cX5_wrong 101 = .ok (.iconst 1, 1) := by decide +kernel
theorem dX5_wrong_102 : decode cX5_wrong 102 = .ok (.goto 4, 3) := by decide +kernel
theorem dX5_wrong_105 : decode cX5_wrong 105 = .ok (.iconst 0, 1) := by decide +kernel
theorem dX5_wrong_106 : decode cX5_wrong 106 = .ok (.iadd, 1) := by decide +kernel
theorem dX5_wrong_107 : decode cX5_wrong 107 = .ok (.istore_n 1, 1) := by decide +kernel
theorem dX5_wrong_108 : decode cX5_wrong 108 = .ok (.iload_n 2, 1) := by decide +kernel
theorem dX5_wrong_109 : decode cX5_wrong 109 = .ok (.aload_n 0, 1) := by decide +kernel
theorem dX5_wrong_110 : decode cX5_wrong 110 = .ok (.getfield 17, 3) := by decide +kernel
theorem dX5_wrong_113 : decode cX5_wrong 113 = .ok (.iload 4, 2) := by decide +kernel
theorem dX5_wrong_115 : decode cX5_wrong 115 = .ok (.iaload, 1) := by decide +kernel
theorem dX5_wrong_116 : decode cX5_wrong 116 = .ok (.invokestatic 110, 3) := by decide +kernel
theorem dX5_wrong_119 : decode cX5_wrong 119 = .ok (.iadd, 1) := by decide +kernel
theorem dX5_wrong_120 : decode cX5_wrong 120 = .ok (.istore_n 2, 1) := by decide +kernel
theorem dX5_wrong_121 : decode cX5_wrong 121 = .ok (.iload_n 1, 1) := by decide +kernel
theorem dX5_wrong_122 : decode cX5_wrong 122 = .ok (.bipush 31, 2) := by decide +kernel
theorem dX5_wrong_124 : decode cX5_wrong 124 = .ok (.if_icmp .gt 10, 3) := by decide +kernel
theorem dX5_wrong_127 : decode cX5_wrong 127 = .ok (.iload_n 2, 1) := by decide +kernel
theorem dX5_wrong_128 : decode cX5_wrong 128 = .ok (.sipush 9999, 3) := by decide +kernel
theorem dX5_wrong_131 : decode cX5_wrong 131 = .ok (.if_icmp .le 11, 3) := by decide +kernel
theorem dX5_wrong_134 : decode cX5_wrong 134 = .ok (.aload_n 0, 1) := by decide +kernel
theorem dX5_wrong_135 : decode cX5_wrong 135 = .ok (.getfield 20, 3) := by decide +kernel
theorem dX5_wrong_138 : decode cX5_wrong 138 = .ok (.iload 4, 2) := by decide +kernel
theorem dX5_wrong_140 : decode cX5_wrong 140 = .ok (.iaload, 1) := by decide +kernel
theorem dX5_wrong_141 : decode cX5_wrong 141 = .ok (.ireturn, 1) := by decide +kernel
theorem dX5_wrong_142 : decode cX5_wrong 142 = .ok (.iload 4, 2) := by decide +kernel
theorem dX5_wrong_144 : decode cX5_wrong 144 = .ok (.istore_n 3, 1) := by decide +kernel
theorem dX5_wrong_145 : decode cX5_wrong 145 = .ok (.iinc 4 1, 3) := by decide +kernel
theorem dX5_wrong_148 : decode cX5_wrong 148 = .ok (.goto (-139), 3) := by decide +kernel
theorem dX5_wrong_151 : decode cX5_wrong 151 = .ok (.iload_n 3, 1) := by decide +kernel
theorem dX5_wrong_152 : decode cX5_wrong 152 = .ok (.iconst (-1), 1) := by decide +kernel
theorem dX5_wrong_153 : decode cX5_wrong 153 = .ok (.if_icmp .eq 10, 3) := by decide +kernel
theorem dX5_wrong_156 : decode cX5_wrong 156 = .ok (.aload_n 0, 1) := by decide +kernel
theorem dX5_wrong_157 : decode cX5_wrong 157 = .ok (.invokevirtual 113, 3) := by decide +kernel
theorem dX5_wrong_160 : decode cX5_wrong 160 = .ok (.ifCond .ne 10, 3) := by decide +kernel
theorem dX5_wrong_163 : decode cX5_wrong 163 = .ok (.aload_n 0, 1) := by decide +kernel
theorem dX5_wrong_164 : decode cX5_wrong 164 = .ok (.getfield 72, 3) := by decide +kernel
theorem dX5_wrong_167 : decode cX5_wrong 167 = .ok (.goto 4, 3) := by decide +kernel
theorem dX5_wrong_170 : decode cX5_wrong 170 = .ok (.iconst (-1), 1) := by decide +kernel
theorem dX5_wrong_171 : decode cX5_wrong 171 = .ok (.ireturn, 1) := by decide +kernel
set_option maxRecDepth 20000 in
theorem ggX5_isDigitFast_X5_isDigit : GoodIn wsX5_isDigitFast wsX5_isDigit := goodIn_r _ [7, 2, 1, 8, 9, 10, 11, 12, 13, 14, 15, 16, 17, 18, 19, 20, 21, 22, 23, 24, 25, 26, 27, 28, 29, 30, 31] (by decide +kernel) (by decide +kernel)
set_option maxRecDepth 20000 in
theorem gX5_isDigitFast_X5_isDigit : GoodIn wsX5_isDigitFast (wsV RX5 117 RX5 yX5_isDigit wsX5_isDigit) := goodIn_app (goodIn_of _ (by decide +kernel)) ggX5_isDigitFast_X5_isDigit
theorem dX5_isDigitFast_0 : decode cX5_isDigitFast 0 = .ok (.iload_n 1, 1) := by decide +kernel
theorem dX5_isDigitFast_1 : decode cX5_isDigitFast 1 = .ok (.ifCond .le 24, 3) := by decide +kernel
theorem dX5_isDigitFast_4 : decode cX5_isDigitFast 4 = .ok (.aload_n 0, 1) := by decide +kernel
theorem dX5_isDigitFast_5 : decode cX5_isDigitFast 5 = .ok (.getfield 17, 3) := by decide +kernel
theorem dX5_isDigitFast_8 : decode cX5_isDigitFast 8 = .ok (.iload_n 1, 1) := by decide +kernel
theorem dX5_isDigitFast_9 : decode cX5_isDigitFast 9 = .ok (.iaload, 1) := by decide +kernel
theorem dX5_isDigitFast_10 : decode cX5_isDigitFast 10 = .ok (.aload_n 0, 1) := by decide +kernel
theorem dX5_isDigitFast_11 : decode cX5_isDigitFast 11 = .ok (.getfield 17, 3) := by decide +kernel
theorem dX5_isDigitFast_14 : decode cX5_isDigitFast 14 = .ok (.iload_n 1, 1) := by decide +kernel
theorem dX5_isDigitFast_15 : decode cX5_isDigitFast 15 = .ok (.iconst 1, 1) := by decide +kernel
theorem dX5_isDigitFast_16 : decode cX5_isDigitFast 16 = .ok (.isub, 1) := by decide +kernel
theorem dX5_isDigitFast_17 : decode cX5_isDigitFast 17 = .ok (.iaload, 1) := by decide +kernel
theorem dX5_isDigitFast_18 : decode cX5_isDigitFast 18 = .ok (.if_icmp .ne 7, 3) := by decide +kernel
theorem dX5_isDigitFast_21 : decode cX5_isDigitFast 21 = .ok (.iconst 1, 1) := by decide +kernel
theorem dX5_isDigitFast_22 : decode cX5_isDigitFast 22 = .ok (.goto 4, 3) := by decide +kernel
theorem dX5_isDigitFast_25 : decode cX5_isDigitFast 25 = .ok (.iconst 0, 1) := by decide +kernel
theorem dX5_isDigitFast_26 : decode cX5_isDigitFast 26 = .ok (.istore_n 2, 1) := by decide +kernel
theorem dX5_isDigitFast_27 : decode cX5_isDigitFast 27 = .ok (.aload_n 0, 1) := by decide +kernel
theorem dX5_isDigitFast_28 : decode cX5_isDigitFast 28 = .ok (.getfield 23, 3) := by decide +kernel
theorem dX5_isDigitFast_31 : decode cX5_isDigitFast 31 = .ok (.iload_n 1, 1) := by decide +kernel
theorem dX5_isDigitFast_32 : decode cX5_isDigitFast 32 = .ok (.iaload, 1) := by decide +kernel
theorem dX5_isDigitFast_33 : decode cX5_isDigitFast 33 = .ok (.istore_n 3, 1) := by decide +kernel
theorem dX5_isDigitFast_34 : decode cX5_isDigitFast 34 = .ok (.iload_n 2, 1) := by decide +kernel
theorem dX5_isDigitFast_35 : decode cX5_isDigitFast 35 = .ok (.ifCond .eq 40, 3) := by decide +kernel
theorem dX5_isDigitFast_38 : decode cX5_isDigitFast 38 = .ok (.iload_n 3, 1) := by decide +kernel
theorem dX5_isDigitFast_39 : decode cX5_isDigitFast 39 = .ok (.bipush 12, 2) := by decide +kernel
theorem dX5_isDigitFast_41 : decode cX5_isDigitFast 41 = .ok (.if_icmp .eq 26, 3) := by decide +kernel
theorem dX5_isDigitFast_44 : decode cX5_isDigitFast 44 = .ok (.iload_n 3, 1) := by decide +kernel
theorem dX5_isDigitFast_45 : decode cX5_isDigitFast 45 = .ok (.iconst 5, 1) := by decide +kernel
theorem dX5_isDigitFast_46 : decode cX5_isDigitFast 46 = .ok (.if_icmp .le 9, 3) := by decide +kernel
