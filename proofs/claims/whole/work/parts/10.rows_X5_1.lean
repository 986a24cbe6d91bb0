theorem dX5_isDigitFast_49 : decode cX5_isDigitFast 49 = .ok (.iload_n 3, 1) := by decide +kernel
theorem dX5_isDigitFast_50 : decode cX5_isDigitFast 50 = .ok (.bipush 12, 2) := by decide +kernel
theorem dX5_isDigitFast_52 : decode cX5_isDigitFast 52 = .ok (.if_icmp .lt 15, 3) := by decide +kernel
theorem dX5_isDigitFast_55 : decode cX5_isDigitFast 55 = .ok (.iload_n 3, 1) := by decide +kernel
theorem dX5_isDigitFast_56 : decode cX5_isDigitFast 56 = .ok (.bipush 16, 2) := by decide +kernel
theorem dX5_isDigitFast_58 : decode cX5_isDigitFast 58 = .ok (.if_icmp .eq 9, 3) := by decide +kernel
theorem dX5_isDigitFast_61 : decode cX5_isDigitFast 61 = .ok (.iload_n 3, 1) := by decide +kernel
theorem dX5_isDigitFast_62 : decode cX5_isDigitFast 62 = .ok (.bipush 17, 2) := by decide +kernel
theorem dX5_isDigitFast_64 : decode cX5_isDigitFast 64 = .ok (.if_icmp .ne 7, 3) := by decide +kernel
theorem dX5_isDigitFast_67 : decode cX5_isDigitFast 67 = .ok (.iconst 1, 1) := by decide +kernel
theorem dX5_isDigitFast_68 : decode cX5_isDigitFast 68 = .ok (.goto 12, 3) := by decide +kernel
theorem dX5_isDigitFast_71 : decode cX5_isDigitFast 71 = .ok (.iconst 0, 1) := by decide +kernel
theorem dX5_isDigitFast_72 : decode cX5_isDigitFast 72 = .ok (.goto 8, 3) := by decide +kernel
theorem dX5_isDigitFast_75 : decode cX5_isDigitFast 75 = .ok (.aload_n 0, 1) := by decide +kernel
theorem dX5_isDigitFast_76 : decode cX5_isDigitFast 76 = .ok (.iload_n 1, 1) := by decide +kernel
theorem dX5_isDigitFast_77 : decode cX5_isDigitFast 77 = .ok (.invokevirtual 117, 3) := by decide +kernel
theorem dX5_isDigitFast_80 : decode cX5_isDigitFast 80 = .ok (.ireturn, 1) := by decide +kernel
theorem dX5_hasMain_0 : decode cX5_hasMain 0 = .ok (.iconst 0, 1) := by decide +kernel
theorem dX5_hasMain_1 : decode cX5_hasMain 1 = .ok (.istore_n 1, 1) := by decide +kernel
theorem dX5_hasMain_2 : decode cX5_hasMain 2 = .ok (.iconst 0, 1) := by decide +kernel
theorem dX5_hasMain_3 : decode cX5_hasMain 3 = .ok (.istore_n 2, 1) := by decide +kernel
theorem dX5_hasMain_4 : decode cX5_hasMain 4 = .ok (.iload_n 2, 1) := by decide +kernel
theorem dX5_hasMain_5 : decode cX5_hasMain 5 = .ok (.aload_n 0, 1) := by decide +kernel
theorem dX5_hasMain_6 : decode cX5_hasMain 6 = .ok (.getfield 85, 3) := by decide +kernel
theorem dX5_hasMain_9 : decode cX5_hasMain 9 = .ok (.if_icmp .ge 51, 3) := by decide +kernel
theorem dX5_hasMain_12 : decode cX5_hasMain 12 = .ok (.iload_n 1, 1) := by decide +kernel
theorem dX5_hasMain_13 : decode cX5_hasMain 13 = .ok (.ifCond .ne 35, 3) := by decide +kernel
theorem dX5_hasMain_16 : decode cX5_hasMain 16 = .ok (.aload_n 0, 1) := by decide +kernel
theorem dX5_hasMain_17 : decode cX5_hasMain 17 = .ok (.getfield 23, 3) := by decide +kernel
theorem dX5_hasMain_20 : decode cX5_hasMain 20 = .ok (.iload_n 2, 1) := by decide +kernel
theorem dX5_hasMain_21 : decode cX5_hasMain 21 = .ok (.iaload, 1) := by decide +kernel
theorem dX5_hasMain_22 : decode cX5_hasMain 22 = .ok (.iconst 5, 1) := by decide +kernel
theorem dX5_hasMain_23 : decode cX5_hasMain 23 = .ok (.if_icmp .le 14, 3) := by decide +kernel
theorem dX5_hasMain_26 : decode cX5_hasMain 26 = .ok (.aload_n 0, 1) := by decide +kernel
theorem dX5_hasMain_27 : decode cX5_hasMain 27 = .ok (.getfield 23, 3) := by decide +kernel
theorem dX5_hasMain_30 : decode cX5_hasMain 30 = .ok (.iload_n 2, 1) := by decide +kernel
theorem dX5_hasMain_31 : decode cX5_hasMain 31 = .ok (.iaload, 1) := by decide +kernel
theorem dX5_hasMain_32 : decode cX5_hasMain 32 = .ok (.bipush 14, 2) := by decide +kernel
theorem dX5_hasMain_34 : decode cX5_hasMain 34 = .ok (.if_icmp .lt 14, 3) := by decide +kernel
theorem dX5_hasMain_37 : decode cX5_hasMain 37 = .ok (.aload_n 0, 1) := by decide +kernel
theorem dX5_hasMain_38 : decode cX5_hasMain 38 = .ok (.getfield 23, 3) := by decide +kernel
theorem dX5_hasMain_41 : decode cX5_hasMain 41 = .ok (.iload_n 2, 1) := by decide +kernel
theorem dX5_hasMain_42 : decode cX5_hasMain 42 = .ok (.iaload, 1) := by decide +kernel
theorem dX5_hasMain_43 : decode cX5_hasMain 43 = .ok (.bipush 18, 2) := by decide +kernel
theorem dX5_hasMain_45 : decode cX5_hasMain 45 = .ok (.if_icmp .ne 7, 3) := by decide +kernel
theorem dX5_hasMain_48 : decode cX5_hasMain 48 = .ok (.iconst 1, 1) := by decide +kernel
theorem dX5_hasMain_49 : decode cX5_hasMain 49 = .ok (.goto 4, 3) := by decide +kernel
theorem dX5_hasMain_52 : decode cX5_hasMain 52 = .ok (.iconst 0, 1) := by decide +kernel
theorem dX5_hasMain_53 : decode cX5_hasMain 53 = .ok (.istore_n 1, 1) := by decide +kernel
theorem dX5_hasMain_54 : decode cX5_hasMain 54 = .ok (.iinc 2 1, 3) := by decide +kernel
theorem dX5_hasMain_57 : decode cX5_hasMain 57 = .ok (.goto (-53), 3) := by decide +kernel
theorem dX5_hasMain_60 : decode cX5_hasMain 60 = .ok (.iload_n 1, 1) := by decide +kernel
theorem dX5_hasMain_61 : decode cX5_hasMain 61 = .ok (.ireturn, 1) := by decide +kernel
set_option maxRecDepth 20000 in
theorem ggX5_read_X5_scan : GoodIn wsX5_read wsX5_scan := goodIn_r _ [18, 3, 19, 20, 21, 2, 8, 22, 23, 24, 25, 17, 26, 5, 27, 28, 29, 30, 31, 32, 33, 34, 35, 36, 37, 38, 39, 40, 41, 42, 78, 79, 80, 81, 82, 83, 84, 85, 86, 87, 88, 89, 90, 91, 92, 93, 94, 95, 96, 97, 98, 99, 100, 101] (by decide +kernel) (by decide +kernel)
set_option maxRecDepth 20000 in
theorem gX5_read_X5_scan : GoodIn wsX5_read (wsV RX5 120 RX5 yX5_scan wsX5_scan) := goodIn_app (goodIn_of _ (by decide +kernel)) ggX5_read_X5_scan
set_option maxRecDepth 20000 in
theorem ggX5_read_X5_sorts : GoodIn wsX5_read wsX5_sorts := goodIn_r _ [46, 19, 20, 21, 3, 8, 10, 78, 79, 80, 81, 82, 83, 84, 85, 86, 87, 88, 89, 90, 91, 92, 93, 94, 95, 96, 97, 98, 99, 100, 101] (by decide +kernel) (by decide +kernel)
set_option maxRecDepth 20000 in
theorem gX5_read_X5_sorts : GoodIn wsX5_read (wsV RX5 124 RX5 yX5_sorts wsX5_sorts) := goodIn_app (goodIn_of _ (by decide +kernel)) ggX5_read_X5_sorts
set_option maxRecDepth 20000 in
theorem ggX5_read_X5_wrong : GoodIn wsX5_read wsX5_wrong := goodIn_r _ [50, 3, 22, 8, 2, 51, 52, 53, 17, 54, 55, 10, 56, 57, 58, 59, 60, 61, 62, 63, 64, 65, 66, 67, 68, 69, 70, 78, 79, 80, 81, 82, 83, 84, 85, 86, 87, 88, 89, 90, 91, 92, 93, 94, 95, 96, 97, 98, 99, 100, 101] (by decide +kernel) (by decide +kernel)
set_option maxRecDepth 20000 in
theorem gX5_read_X5_wrong : GoodIn wsX5_read (wsV RX5 127 RX5 yX5_wrong wsX5_wrong) := goodIn_app (goodIn_of _ (by decide +kernel)) ggX5_read_X5_wrong
set_option maxRecDepth 20000 in
theorem ggX5_read_X5_width : GoodIn wsX5_read wsX5_width := goodIn_r _ [66] (by decide +kernel) (by decide +kernel)
set_option maxRecDepth 20000 in
theorem gX5_read_X5_width : GoodIn wsX5_read (va_wsS RX5 110 yX5_width wsX5_width) := goodIn_app (goodIn_of _ (by decide +kernel)) ggX5_read_X5_width
set_option maxRecDepth 20000 in
theorem ggX5_read_X5_keep : GoodIn wsX5_read wsX5_keep := goodIn_r _ [74, 75, 13, 3, 76, 8, 77, 10, 78, 79, 80, 81, 82, 83, 84, 85, 86, 87, 88, 89, 90, 91, 92, 93, 94, 95, 96, 97, 98, 99, 100, 101] (by decide +kernel) (by decide +kernel)
set_option maxRecDepth 20000 in
theorem gX5_read_X5_keep : GoodIn wsX5_read (wsV RX5 139 RX5 yX5_keep wsX5_keep) := goodIn_app (goodIn_of _ (by decide +kernel)) ggX5_read_X5_keep
theorem dX5_read_0 : decode cX5_read 0 = .ok (.aload_n 0, 1) := by decide +kernel
theorem dX5_read_1 : decode cX5_read 1 = .ok (.iconst 0, 1) := by decide +kernel
theorem dX5_read_2 : decode cX5_read 2 = .ok (.putfield 69, 3) := by decide +kernel
theorem dX5_read_5 : decode cX5_read 5 = .ok (.aload_n 0, 1) := by decide +kernel
theorem dX5_read_6 : decode cX5_read 6 = .ok (.invokevirtual 120, 3) := by decide +kernel
theorem dX5_read_9 : decode cX5_read 9 = .ok (.istore_n 1, 1) := by decide +kernel
theorem dX5_read_10 : decode cX5_read 10 = .ok (.iload_n 1, 1) := by decide +kernel
theorem dX5_read_11 : decode cX5_read 11 = .ok (.iconst (-1), 1) := by decide +kernel
theorem dX5_read_12 : decode cX5_read 12 = .ok (.if_icmp .ne 7, 3) := by decide +kernel
theorem dX5_read_15 : decode cX5_read 15 = .ok (.aload_n 0, 1) := by decide +kernel
theorem dX5_read_16 : decode cX5_read 16 = .ok (.invokevirtual 124, 3) := by decide +kernel
theorem dX5_read_19 : decode cX5_read 19 = .ok (.iload_n 1, 1) := by decide +kernel
theorem dX5_read_20 : decode cX5_read 20 = .ok (.iconst (-1), 1) := by decide +kernel
theorem dX5_read_21 : decode cX5_read 21 = .ok (.if_icmp .ne 8, 3) := by decide +kernel
theorem dX5_read_24 : decode cX5_read 24 = .ok (.aload_n 0, 1) := by decide +kernel
theorem dX5_read_25 : decode cX5_read 25 = .ok (.invokevirtual 127, 3) := by decide +kernel
theorem dX5_read_28 : decode cX5_read 28 = .ok (.istore_n 1, 1) := by decide +kernel
theorem dX5_read_29 : decode cX5_read 29 = .ok (.aload_n 0, 1) := by decide +kernel
theorem dX5_read_30 : decode cX5_read 30 = .ok (.iconst 0, 1) := by decide +kernel
theorem dX5_read_31 : decode cX5_read 31 = .ok (.putfield 72, 3) := by decide +kernel
theorem dX5_read_34 : decode cX5_read 34 = .ok (.iload_n 1, 1) := by decide +kernel
theorem dX5_read_35 : decode cX5_read 35 = .ok (.iconst (-1), 1) := by decide +kernel
theorem dX5_read_36 : decode cX5_read 36 = .ok (.if_icmp .eq 7, 3) := by decide +kernel
theorem dX5_read_39 : decode cX5_read 39 = .ok (.iconst (-1), 1) := by decide +kernel
theorem dX5_read_40 : decode cX5_read 40 = .ok (.iload_n 1, 1) := by decide +kernel
theorem dX5_read_41 : decode cX5_read 41 = .ok (.isub, 1) := by decide +kernel
theorem dX5_read_42 : decode cX5_read 42 = .ok (.ireturn, 1) := by decide +kernel
theorem dX5_read_43 : decode cX5_read 43 = .ok (.aload_n 0, 1) := by decide +kernel
theorem dX5_read_44 : decode cX5_read 44 = .ok (.aload_n 0, 1) := by decide +kernel
theorem dX5_read_45 : decode cX5_read 45 = .ok (.getfield 85, 3) := by decide +kernel
theorem dX5_read_48 : decode cX5_read 48 = .ok (.putfield 35, 3) := by decide +kernel
theorem dX5_read_51 : decode cX5_read 51 = .ok (.aload_n 0, 1) := by decide +kernel
theorem dX5_read_52 : decode cX5_read 52 = .ok (.aload_n 0, 1) := by decide +kernel
theorem dX5_read_53 : decode cX5_read 53 = .ok (.getfield 13, 3) := by decide +kernel
theorem dX5_read_56 : decode cX5_read 56 = .ok (.putfield 130, 3) := by decide +kernel
theorem dX5_read_59 : decode cX5_read 59 = .ok (.iconst 0, 1) := by decide +kernel
theorem dX5_read_60 : decode cX5_read 60 = .ok (.istore_n 2, 1) := by decide +kernel
theorem dX5_read_61 : decode cX5_read 61 = .ok (.iload_n 2, 1) := by decide +kernel
theorem dX5_read_62 : decode cX5_read 62 = .ok (.aload_n 0, 1) := by decide +kernel
theorem dX5_read_63 : decode cX5_read 63 = .ok (.getfield 85, 3) := by decide +kernel
theorem dX5_read_66 : decode cX5_read 66 = .ok (.if_icmp .ge 33, 3) := by decide +kernel
theorem dX5_read_69 : decode cX5_read 69 = .ok (.aload_n 0, 1) := by decide +kernel
theorem dX5_read_70 : decode cX5_read 70 = .ok (.getfield 26, 3) := by decide +kernel
theorem dX5_read_73 : decode cX5_read 73 = .ok (.iload_n 2, 1) := by decide +kernel
theorem dX5_read_74 : decode cX5_read 74 = .ok (.aload_n 0, 1) := by decide +kernel
theorem dX5_read_75 : decode cX5_read 75 = .ok (.getfield 17, 3) := by decide +kernel
theorem dX5_read_78 : decode cX5_read 78 = .ok (.iload_n 2, 1) := by decide +kernel
theorem dX5_read_79 : decode cX5_read 79 = .ok (.iaload, 1) := by decide +kernel
theorem dX5_read_80 : decode cX5_read 80 = .ok (.iastore, 1) := by decide +kernel
theorem dX5_read_81 : decode cX5_read 81 = .ok (.aload_n 0, 1) := by decide +kernel
theorem dX5_read_82 : decode cX5_read 82 = .ok (.getfield 29, 3) := by decide +kernel
theorem dX5_read_85 : decode cX5_read 85 = .ok (.iload_n 2, 1) := by decide +kernel
theorem dX5_read_86 : decode cX5_read 86 = .ok (.aload_n 0, 1) := by decide +kernel
theorem dX5_read_87 : decode cX5_read 87 = .ok (.getfield 23, 3) := by decide +kernel
theorem dX5_read_90 : decode cX5_read 90 = .ok (.iload_n 2, 1) := by decide +kernel
theorem dX5_read_91 : decode cX5_read 91 = .ok (.iaload, 1) := by decide +kernel
theorem dX5_read_92 : decode cX5_read 92 = .ok (.iastore, 1) := by decide +kernel
theorem dX5_read_93 : decode cX5_read 93 = .ok (.iinc 2 1, 3) := by decide +kernel
theorem dX5_read_96 : decode cX5_read 96 = .ok (.goto (-35), 3) := by decide +kernel
theorem dX5_read_99 : decode cX5_read 99 = .ok (.aload_n 0, 1) := by decide +kernel
theorem dX5_read_100 : decode cX5_read 100 = .ok (.iconst 0, 1) := by decide +kernel
theorem dX5_read_101 : decode cX5_read 101 = .ok (.putfield 133, 3) := by decide +kernel
theorem dX5_read_104 : decode cX5_read 104 = .ok (.iconst 0, 1) := by decide +kernel
theorem dX5_read_105 : decode cX5_read 105 = .ok (.istore_n 2, 1) := by decide +kernel
theorem dX5_read_106 : decode cX5_read 106 = .ok (.iconst 0, 1) := by decide +kernel
theorem dX5_read_107 : decode cX5_read 107 = .ok (.istore_n 3, 1) := by decide +kernel
theorem dX5_read_108 : decode cX5_read 108 = .ok (.iload_n 3, 1) := by decide +kernel
theorem dX5_read_109 : decode cX5_read 109 = .ok (.aload_n 0, 1) := by decide +kernel
theorem dX5_read_110 : decode cX5_read 110 = .ok (.getfield 85, 3) := by decide +kernel
theorem dX5_read_113 : decode cX5_read 113 = .ok (.if_icmp .ge 161, 3) := by decide +kernel
theorem dX5_read_116 : decode cX5_read 116 = .ok (.iload_n 2, 1) := by decide +kernel
theorem dX5_read_117 : decode cX5_read 117 = .ok (.aload_n 0, 1) := by decide +kernel
theorem dX5_read_118 : decode cX5_read 118 = .ok (.getfield 17, 3) := by decide +kernel
theorem dX5_read_121 : decode cX5_read 121 = .ok (.iload_n 3, 1) := by decide +kernel
theorem dX5_read_122 : decode cX5_read 122 = .ok (.iaload, 1) := by decide +kernel
theorem dX5_read_123 : decode cX5_read 123 = .ok (.invokestatic 110, 3) := by decide +kernel
theorem dX5_read_126 : decode cX5_read 126 = .ok (.iadd, 1) := by decide +kernel
theorem dX5_read_127 : decode cX5_read 127 = .ok (.istore_n 2, 1) := by decide +kernel
theorem dX5_read_128 : decode cX5_read 128 = .ok (.aload_n 0, 1) := by decide +kernel
theorem dX5_read_129 : decode cX5_read 129 = .ok (.getfield 32, 3) := by decide +kernel
theorem dX5_read_132 : decode cX5_read 132 = .ok (.aload_n 0, 1) := by decide +kernel
theorem dX5_read_133 : decode cX5_read 133 = .ok (.getfield 133, 3) := by decide +kernel
theorem dX5_read_136 : decode cX5_read 136 = .ok (.aload_n 0, 1) := by decide +kernel
theorem dX5_read_137 : decode cX5_read 137 = .ok (.getfield 17, 3) := by decide +kernel
theorem dX5_read_140 : decode cX5_read 140 = .ok (.iload_n 3, 1) := by decide +kernel
theorem dX5_read_141 : decode cX5_read 141 = .ok (.iaload, 1) := by decide +kernel
theorem dX5_read_142 : decode cX5_read 142 = .ok (.sipush 200, 3) := by decide +kernel
theorem dX5_read_145 : decode cX5_read 145 = .ok (.if_icmp .ne 8, 3) := by decide +kernel
theorem dX5_read_148 : decode cX5_read 148 = .ok (.bipush 67, 2) := by decide +kernel
theorem dX5_read_150 : decode cX5_read 150 = .ok (.goto 45, 3) := by decide +kernel
theorem dX5_read_153 : decode cX5_read 153 = .ok (.aload_n 0, 1) := by decide +kernel
theorem dX5_read_154 : decode cX5_read 154 = .ok (.getfield 17, 3) := by decide +kernel
theorem dX5_read_157 : decode cX5_read 157 = .ok (.iload_n 3, 1) := by decide +kernel
theorem dX5_read_158 : decode cX5_read 158 = .ok (.iaload, 1) := by decide +kernel
theorem dX5_read_159 : decode cX5_read 159 = .ok (.sipush 201, 3) := by decide +kernel
theorem dX5_read_162 : decode cX5_read 162 = .ok (.if_icmp .ne 8, 3) := by decide +kernel
theorem dX5_read_165 : decode cX5_read 165 = .ok (.bipush 68, 2) := by decide +kernel
theorem dX5_read_167 : decode cX5_read 167 = .ok (.goto 28, 3) := by decide +kernel
theorem dX5_read_170 : decode cX5_read 170 = .ok (.aload_n 0, 1) := by decide +kernel
theorem dX5_read_171 : decode cX5_read 171 = .ok (.getfield 17, 3) := by decide +kernel
theorem dX5_read_174 : decode cX5_read 174 = .ok (.iload_n 3, 1) := by decide +kernel
theorem dX5_read_175 : decode cX5_read 175 = .ok (.iaload, 1) := by decide +kernel
theorem dX5_read_176 : decode cX5_read 176 = .ok (.sipush 202, 3) := by decide +kernel
theorem dX5_read_179 : decode cX5_read 179 = .ok (.if_icmp .ne 10, 3) := by decide +kernel
theorem dX5_read_182 : decode cX5_read 182 = .ok (.aload_n 0, 1) := by decide +kernel
theorem dX5_read_183 : decode cX5_read 183 = .ok (.getfield 13, 3) := by decide +kernel
theorem dX5_read_186 : decode cX5_read 186 = .ok (.goto 9, 3) := by decide +kernel
theorem dX5_read_189 : decode cX5_read 189 = .ok (.aload_n 0, 1) := by decide +kernel
theorem dX5_read_190 : decode cX5_read 190 = .ok (.getfield 17, 3) := by decide +kernel
theorem dX5_read_193 : decode cX5_read 193 = .ok (.iload_n 3, 1) := by decide +kernel
theorem dX5_read_194 : decode cX5_read 194 = .ok (.iaload, 1) := by decide +kernel
theorem dX5_read_195 : decode cX5_read 195 = .ok (.iastore, 1) := by decide +kernel
theorem dX5_read_196 : decode cX5_read 196 = .ok (.aload_n 0, 1) := by decide +kernel
theorem dX5_read_197 : decode cX5_read 197 = .ok (.getfield 17, 3) := by decide +kernel
theorem dX5_read_200 : decode cX5_read 200 = .ok (.iload_n 3, 1) := by decide +kernel
theorem dX5_read_201 : decode cX5_read 201 = .ok (.iaload, 1) := by decide +kernel
theorem dX5_read_202 : decode cX5_read 202 = .ok (.sipush 200, 3) := by decide +kernel
theorem dX5_read_205 : decode cX5_read 205 = .ok (.if_icmp .eq 15, 3) := by decide +kernel
theorem dX5_read_208 : decode cX5_read 208 = .ok (.aload_n 0, 1) := by decide +kernel
theorem dX5_read_209 : decode cX5_read 209 = .ok (.getfield 17, 3) := by decide +kernel
theorem dX5_read_212 : decode cX5_read 212 = .ok (.iload_n 3, 1) := by decide +kernel
theorem dX5_read_213 : decode cX5_read 213 = .ok (.iaload, 1) := by decide +kernel
theorem dX5_read_214 : decode cX5_read 214 = .ok (.sipush 201, 3) := by decide +kernel
theorem dX5_read_217 : decode cX5_read 217 = .ok (.if_icmp .ne 41, 3) := by decide +kernel
theorem dX5_read_220 : decode cX5_read 220 = .ok (.aload_n 0, 1) := by decide +kernel
theorem dX5_read_221 : decode cX5_read 221 = .ok (.dup, 1) := by decide +kernel
theorem dX5_read_222 : decode cX5_read 222 = .ok (.getfield 133, 3) := by decide +kernel
theorem dX5_read_225 : decode cX5_read 225 = .ok (.iconst 1, 1) := by decide +kernel
theorem dX5_read_226 : decode cX5_read 226 = .ok (.iadd, 1) := by decide +kernel
theorem dX5_read_227 : decode cX5_read 227 = .ok (.putfield 133, 3) := by decide +kernel
theorem dX5_read_230 : decode cX5_read 230 = .ok (.aload_n 0, 1) := by decide +kernel
theorem dX5_read_231 : decode cX5_read 231 = .ok (.getfield 32, 3) := by decide +kernel
theorem dX5_read_234 : decode cX5_read 234 = .ok (.aload_n 0, 1) := by decide +kernel
theorem dX5_read_235 : decode cX5_read 235 = .ok (.getfield 133, 3) := by decide +kernel
theorem dX5_read_238 : decode cX5_read 238 = .ok (.aload_n 0, 1) := by decide +kernel
theorem dX5_read_239 : decode cX5_read 239 = .ok (.getfield 17, 3) := by decide +kernel
theorem dX5_read_242 : decode cX5_read 242 = .ok (.iload_n 3, 1) := by decide +kernel
theorem dX5_read_243 : decode cX5_read 243 = .ok (.iaload, 1) := by decide +kernel
theorem dX5_read_244 : decode cX5_read 244 = .ok (.sipush 200, 3) := by decide +kernel
theorem dX5_read_247 : decode cX5_read 247 = .ok (.if_icmp .ne 8, 3) := by decide +kernel
theorem dX5_read_250 : decode cX5_read 250 = .ok (.bipush 82, 2) := by decide +kernel
theorem dX5_read_252 : decode cX5_read 252 = .ok (.goto 5, 3) := by decide +kernel
theorem dX5_read_255 : decode cX5_read 255 = .ok (.bipush 66, 2) := by decide +kernel
theorem dX5_read_257 : decode cX5_read 257 = .ok (.iastore, 1) := by decide +kernel
theorem dX5_read_258 : decode cX5_read 258 = .ok (.aload_n 0, 1) := by decide +kernel
theorem dX5_read_259 : decode cX5_read 259 = .ok (.dup, 1) := by decide +kernel
theorem dX5_read_260 : decode cX5_read 260 = .ok (.getfield 133, 3) := by decide +kernel
theorem dX5_read_263 : decode cX5_read 263 = .ok (.iconst 1, 1) := by decide +kernel
theorem dX5_read_264 : decode cX5_read 264 = .ok (.iadd, 1) := by decide +kernel
theorem dX5_read_265 : decode cX5_read 265 = .ok (.putfield 133, 3) := by decide +kernel
theorem dX5_read_268 : decode cX5_read 268 = .ok (.iinc 3 1, 3) := by decide +kernel
theorem dX5_read_271 : decode cX5_read 271 = .ok (.goto (-163), 3) := by decide +kernel
theorem dX5_read_274 : decode cX5_read 274 = .ok (.aload_n 0, 1) := by decide +kernel
theorem dX5_read_275 : decode cX5_read 275 = .ok (.getfield 136, 3) := by decide +kernel
theorem dX5_read_278 : decode cX5_read 278 = .ok (.bipush 40, 2) := by decide +kernel
theorem dX5_read_280 : decode cX5_read 280 = .ok (.if_icmp .ge 7, 3) := by decide +kernel
theorem dX5_read_283 : decode cX5_read 283 = .ok (.aload_n 0, 1) := by decide +kernel
theorem dX5_read_284 : decode cX5_read 284 = .ok (.invokevirtual 139, 3) := by decide +kernel
theorem dX5_read_287 : decode cX5_read 287 = .ok (.iload_n 2, 1) := by decide +kernel
theorem dX5_read_288 : decode cX5_read 288 = .ok (.ireturn, 1) := by decide +kernel
theorem dX5_keep_0 : decode cX5_keep 0 = .ok (.aload_n 0, 1) := by decide +kernel
theorem dX5_keep_1 : decode cX5_keep 1 = .ok (.getfield 45, 3) := by decide +kernel
theorem dX5_keep_4 : decode cX5_keep 4 = .ok (.aload_n 0, 1) := by decide +kernel
theorem dX5_keep_5 : decode cX5_keep 5 = .ok (.getfield 136, 3) := by decide +kernel
theorem dX5_keep_8 : decode cX5_keep 8 = .ok (.aload_n 0, 1) := by decide +kernel
theorem dX5_keep_9 : decode cX5_keep 9 = .ok (.getfield 85, 3) := by decide +kernel
theorem dX5_keep_12 : decode cX5_keep 12 = .ok (.iastore, 1) := by decide +kernel
theorem dX5_keep_13 : decode cX5_keep 13 = .ok (.iconst 0, 1) := by decide +kernel
theorem dX5_keep_14 : decode cX5_keep 14 = .ok (.istore_n 1, 1) := by decide +kernel
theorem dX5_keep_15 : decode cX5_keep 15 = .ok (.iload_n 1, 1) := by decide +kernel
theorem dX5_keep_16 : decode cX5_keep 16 = .ok (.aload_n 0, 1) := by decide +kernel
theorem dX5_keep_17 : decode cX5_keep 17 = .ok (.getfield 85, 3) := by decide +kernel
theorem dX5_keep_20 : decode cX5_keep 20 = .ok (.if_icmp .ge 51, 3) := by decide +kernel
theorem dX5_keep_23 : decode cX5_keep 23 = .ok (.aload_n 0, 1) := by decide +kernel
theorem dX5_keep_24 : decode cX5_keep 24 = .ok (.getfield 39, 3) := by decide +kernel
theorem dX5_keep_27 : decode cX5_keep 27 = .ok (.sipush 10200, 3) := by decide +kernel
theorem dX5_keep_30 : decode cX5_keep 30 = .ok (.aload_n 0, 1) := by decide +kernel
theorem dX5_keep_31 : decode cX5_keep 31 = .ok (.getfield 136, 3) := by decide +kernel
theorem dX5_keep_34 : decode cX5_keep 34 = .ok (.imul, 1) := by decide +kernel
theorem dX5_keep_35 : decode cX5_keep 35 = .ok (.iload_n 1, 1) := by decide +kernel
theorem dX5_keep_36 : decode cX5_keep 36 = .ok (.iadd, 1) := by decide +kernel
theorem dX5_keep_37 : decode cX5_keep 37 = .ok (.aload_n 0, 1) := by decide +kernel
theorem dX5_keep_38 : decode cX5_keep 38 = .ok (.getfield 17, 3) := by decide +kernel
theorem dX5_keep_41 : decode cX5_keep 41 = .ok (.iload_n 1, 1) := by decide +kernel
theorem dX5_keep_42 : decode cX5_keep 42 = .ok (.iaload, 1) := by decide +kernel
theorem dX5_keep_43 : decode cX5_keep 43 = .ok (.iastore, 1) := by decide +kernel
theorem dX5_keep_44 : decode cX5_keep 44 = .ok (.aload_n 0, 1) := by decide +kernel
theorem dX5_keep_45 : decode cX5_keep 45 = .ok (.getfield 42, 3) := by decide +kernel
theorem dX5_keep_48 : decode cX5_keep 48 = .ok (.sipush 10200, 3) := by decide +kernel
theorem dX5_keep_51 : decode cX5_keep 51 = .ok (.aload_n 0, 1) := by decide +kernel
theorem dX5_keep_52 : decode cX5_keep 52 = .ok (.getfield 136, 3) := by decide +kernel
theorem dX5_keep_55 : decode cX5_keep 55 = .ok (.imul, 1) := by decide +kernel
theorem dX5_keep_56 : decode cX5_keep 56 = .ok (.iload_n 1, 1) := by decide +kernel
theorem dX5_keep_57 : decode cX5_keep 57 = .ok (.iadd, 1) := by decide +kernel
theorem dX5_keep_58 : decode cX5_keep 58 = .ok (.aload_n 0, 1) := by decide +kernel
theorem dX5_keep_59 : decode cX5_keep 59 = .ok (.getfield 23, 3) := by decide +kernel
theorem dX5_keep_62 : decode cX5_keep 62 = .ok (.iload_n 1, 1) := by decide +kernel
theorem dX5_keep_63 : decode cX5_keep 63 = .ok (.iaload, 1) := by decide +kernel
theorem dX5_keep_64 : decode cX5_keep 64 = .ok (.iastore, 1) := by decide +kernel
theorem dX5_keep_65 : decode cX5_keep 65 = .ok (.iinc 1 1, 3) := by decide +kernel
theorem dX5_keep_68 : decode cX5_keep 68 = .ok (.goto (-53), 3) := by decide +kernel
theorem dX5_keep_71 : decode cX5_keep 71 = .ok (.aload_n 0, 1) := by decide +kernel
theorem dX5_keep_72 : decode cX5_keep 72 = .ok (.dup, 1) := by decide +kernel
theorem dX5_keep_73 : decode cX5_keep 73 = .ok (.getfield 136, 3) := by decide +kernel
theorem dX5_keep_76 : decode cX5_keep 76 = .ok (.iconst 1, 1) := by decide +kernel
theorem dX5_keep_77 : decode cX5_keep 77 = .ok (.iadd, 1) := by decide +kernel
theorem dX5_keep_78 : decode cX5_keep 78 = .ok (.putfield 136, 3) := by decide +kernel
theorem dX5_keep_81 : decode cX5_keep 81 = .ok (.return_, 1) := by decide +kernel
theorem dX5_ofKind_0 : decode cX5_ofKind 0 = .ok (.iconst 0, 1) := by decide +kernel
theorem dX5_ofKind_1 : decode cX5_ofKind 1 = .ok (.istore_n 2, 1) := by decide +kernel
theorem dX5_ofKind_2 : decode cX5_ofKind 2 = .ok (.iconst 0, 1) := by decide +kernel
theorem dX5_ofKind_3 : decode cX5_ofKind 3 = .ok (.istore_n 3, 1) := by decide +kernel
theorem dX5_ofKind_4 : decode cX5_ofKind 4 = .ok (.iload_n 3, 1) := by decide +kernel
theorem dX5_ofKind_5 : decode cX5_ofKind 5 = .ok (.aload_n 0, 1) := by decide +kernel
theorem dX5_ofKind_6 : decode cX5_ofKind 6 = .ok (.getfield 35, 3) := by decide +kernel
theorem dX5_ofKind_9 : decode cX5_ofKind 9 = .ok (.if_icmp .ge 27, 3) := by decide +kernel
theorem dX5_ofKind_12 : decode cX5_ofKind 12 = .ok (.iload_n 2, 1) := by decide +kernel
theorem dX5_ofKind_13 : decode cX5_ofKind 13 = .ok (.aload_n 0, 1) := by decide +kernel
theorem dX5_ofKind_14 : decode cX5_ofKind 14 = .ok (.getfield 29, 3) := by decide +kernel
theorem dX5_ofKind_17 : decode cX5_ofKind 17 = .ok (.iload_n 3, 1) := by decide +kernel
theorem dX5_ofKind_18 : decode cX5_ofKind 18 = .ok (.iaload, 1) := by decide +kernel
theorem dX5_ofKind_19 : decode cX5_ofKind 19 = .ok (.iload_n 1, 1) := by decide +kernel
theorem dX5_ofKind_20 : decode cX5_ofKind 20 = .ok (.if_icmp .ne 7, 3) := by decide +kernel
theorem dX5_ofKind_23 : decode cX5_ofKind 23 = .ok (.iconst 1, 1) := by decide +kernel
theorem dX5_ofKind_24 : decode cX5_ofKind 24 = .ok (.goto 4, 3) := by decide +kernel
theorem dX5_ofKind_27 : decode cX5_ofKind 27 = .ok (.iconst 0, 1) := by decide +kernel
theorem dX5_ofKind_28 : decode cX5_ofKind 28 = .ok (.iadd, 1) := by decide +kernel
theorem dX5_ofKind_29 : decode cX5_ofKind 29 = .ok (.istore_n 2, 1) := by decide +kernel
theorem dX5_ofKind_30 : decode cX5_ofKind 30 = .ok (.iinc 3 1, 3) := by decide +kernel
theorem dX5_ofKind_33 : decode cX5_ofKind 33 = .ok (.goto (-29), 3) := by decide +kernel
theorem dX5_ofKind_36 : decode cX5_ofKind 36 = .ok (.iload_n 2, 1) := by decide +kernel
theorem dX5_ofKind_37 : decode cX5_ofKind 37 = .ok (.ireturn, 1) := by decide +kernel
theorem dX5_ofSign_0 : decode cX5_ofSign 0 = .ok (.iconst 0, 1) := by decide +kernel
theorem dX5_ofSign_1 : decode cX5_ofSign 1 = .ok (.istore_n 2, 1) := by decide +kernel
theorem dX5_ofSign_2 : decode cX5_ofSign 2 = .ok (.iconst 0, 1) := by decide +kernel
theorem dX5_ofSign_3 : decode cX5_ofSign 3 = .ok (.istore_n 3, 1) := by decide +kernel
theorem dX5_ofSign_4 : decode cX5_ofSign 4 = .ok (.iload_n 3, 1) := by decide +kernel
theorem dX5_ofSign_5 : decode cX5_ofSign 5 = .ok (.aload_n 0, 1) := by decide +kernel
theorem dX5_ofSign_6 : decode cX5_ofSign 6 = .ok (.getfield 35, 3) := by decide +kernel
theorem dX5_ofSign_9 : decode cX5_ofSign 9 = .ok (.if_icmp .ge 27, 3) := by decide +kernel
theorem dX5_ofSign_12 : decode cX5_ofSign 12 = .ok (.iload_n 2, 1) := by decide +kernel
theorem dX5_ofSign_13 : decode cX5_ofSign 13 = .ok (.aload_n 0, 1) := by decide +kernel
theorem dX5_ofSign_14 : decode cX5_ofSign 14 = .ok (.getfield 26, 3) := by decide +kernel
theorem dX5_ofSign_17 : decode cX5_ofSign 17 = .ok (.iload_n 3, 1) := by decide +kernel
theorem dX5_ofSign_18 : decode cX5_ofSign 18 = .ok (.iaload, 1) := by decide +kernel
theorem dX5_ofSign_19 : decode cX5_ofSign 19 = .ok (.iload_n 1, 1) := by decide +kernel
theorem dX5_ofSign_20 : decode cX5_ofSign 20 = .ok (.if_icmp .ne 7, 3) := by decide +kernel
theorem dX5_ofSign_23 : decode cX5_ofSign 23 = .ok (.iconst 1, 1) := by decide +kernel
theorem dX5_ofSign_24 : decode cX5_ofSign 24 = .ok (.goto 4, 3) := by decide +kernel
theorem dX5_ofSign_27 : decode cX5_ofSign 27 = .ok (.iconst 0, 1) := by decide +kernel
theorem dX5_ofSign_28 : decode cX5_ofSign 28 = .ok (.iadd, 1) := by decide +kernel
theorem dX5_ofSign_29 : decode cX5_ofSign 29 = .ok (.istore_n 2, 1) := by decide +kernel
theorem dX5_ofSign_30 : decode cX5_ofSign 30 = .ok (.iinc 3 1, 3) := by decide +kernel
theorem dX5_ofSign_33 : decode cX5_ofSign 33 = .ok (.goto (-29), 3) := by decide +kernel
theorem dX5_ofSign_36 : decode cX5_ofSign 36 = .ok (.iload_n 2, 1) := by decide +kernel
theorem dX5_ofSign_37 : decode cX5_ofSign 37 = .ok (.ireturn, 1) := by decide +kernel
set_option maxRecDepth 20000 in
theorem ggX5_sort_X5_ofKind : GoodIn wsX5_sort wsX5_ofKind := goodIn_r _ [6, 1, 7, 13, 14, 15, 16, 17, 18, 19, 20, 21, 22, 23, 24, 25, 26, 27, 28, 29, 30, 31, 32, 33, 34, 35, 36] (by decide +kernel) (by decide +kernel)
set_option maxRecDepth 20000 in
theorem gX5_sort_X5_ofKind : GoodIn wsX5_sort (wsV RX5 142 RX5 yX5_ofKind wsX5_ofKind) := goodIn_app (goodIn_of _ (by decide +kernel)) ggX5_sort_X5_ofKind
set_option maxRecDepth 20000 in
theorem ggX5_sort_X5_ofSign : GoodIn wsX5_sort wsX5_ofSign := goodIn_r _ [11, 1, 12, 13, 14, 15, 16, 17, 18, 19, 20, 21, 22, 23, 24, 25, 26, 27, 28, 29, 30, 31, 32, 33, 34, 35, 36] (by decide +kernel) (by decide +kernel)
set_option maxRecDepth 20000 in
theorem gX5_sort_X5_ofSign : GoodIn wsX5_sort (wsV RX5 145 RX5 yX5_ofSign wsX5_ofSign) := goodIn_app (goodIn_of _ (by decide +kernel)) ggX5_sort_X5_ofSign
theorem dX5_sort_0 : decode cX5_sort 0 = .ok (.aload_n 0, 1) := by decide +kernel
theorem dX5_sort_1 : decode cX5_sort 1 = .ok (.getfield 35, 3) := by decide +kernel
theorem dX5_sort_4 : decode cX5_sort 4 = .ok (.iconst (-1), 1) := by decide +kernel
theorem dX5_sort_5 : decode cX5_sort 5 = .ok (.if_icmp .ne 5, 3) := by decide +kernel
theorem dX5_sort_8 : decode cX5_sort 8 = .ok (.iconst (-1), 1) := by decide +kernel
theorem dX5_sort_9 : decode cX5_sort 9 = .ok (.ireturn, 1) := by decide +kernel
theorem dX5_sort_10 : decode cX5_sort 10 = .ok (.aload_n 0, 1) := by decide +kernel
theorem dX5_sort_11 : decode cX5_sort 11 = .ok (.iconst 0, 1) := by decide +kernel
theorem dX5_sort_12 : decode cX5_sort 12 = .ok (.invokevirtual 142, 3) := by decide +kernel
theorem dX5_sort_15 : decode cX5_sort 15 = .ok (.istore_n 1, 1) := by decide +kernel
theorem dX5_sort_16 : decode cX5_sort 16 = .ok (.aload_n 0, 1) := by decide +kernel
theorem dX5_sort_17 : decode cX5_sort 17 = .ok (.bipush 12, 2) := by decide +kernel
theorem dX5_sort_19 : decode cX5_sort 19 = .ok (.invokevirtual 142, 3) := by decide +kernel
theorem dX5_sort_22 : decode cX5_sort 22 = .ok (.istore_n 2, 1) := by decide +kernel
theorem dX5_sort_23 : decode cX5_sort 23 = .ok (.aload_n 0, 1) := by decide +kernel
theorem dX5_sort_24 : decode cX5_sort 24 = .ok (.bipush 13, 2) := by decide +kernel
theorem dX5_sort_26 : decode cX5_sort 26 = .ok (.invokevirtual 142, 3) := by decide +kernel
theorem dX5_sort_29 : decode cX5_sort 29 = .ok (.istore_n 3, 1) := by decide +kernel
theorem dX5_sort_30 : decode cX5_sort 30 = .ok (.aload_n 0, 1) := by decide +kernel
theorem dX5_sort_31 : decode cX5_sort 31 = .ok (.bipush 18, 2) := by decide +kernel
theorem dX5_sort_33 : decode cX5_sort 33 = .ok (.invokevirtual 142, 3) := by decide +kernel
theorem dX5_sort_36 : decode cX5_sort 36 = .ok (.ifCond .le 14, 3) := by decide +kernel
theorem dX5_sort_39 : decode cX5_sort 39 = .ok (.iload_n 1, 1) := by decide +kernel
theorem dX5_sort_40 : decode cX5_sort 40 = .ok (.ifCond .le 8, 3) := by decide +kernel
theorem dX5_sort_43 : decode cX5_sort 43 = .ok (.bipush 6, 2) := by decide +kernel
theorem dX5_sort_45 : decode cX5_sort 45 = .ok (.goto 4, 3) := by decide +kernel
theorem dX5_sort_48 : decode cX5_sort 48 = .ok (.iconst 5, 1) := by decide +kernel
theorem dX5_sort_49 : decode cX5_sort 49 = .ok (.ireturn, 1) := by decide +kernel
theorem dX5_sort_50 : decode cX5_sort 50 = .ok (.iload_n 3, 1) := by decide +kernel
theorem dX5_sort_51 : decode cX5_sort 51 = .ok (.ifCond .le 30, 3) := by decide +kernel
theorem dX5_sort_54 : decode cX5_sort 54 = .ok (.iload_n 1, 1) := by decide +kernel
theorem dX5_sort_55 : decode cX5_sort 55 = .ok (.ifCond .le 7, 3) := by decide +kernel
theorem dX5_sort_58 : decode cX5_sort 58 = .ok (.iconst 2, 1) := by decide +kernel
theorem dX5_sort_59 : decode cX5_sort 59 = .ok (.goto 21, 3) := by decide +kernel
theorem dX5_sort_62 : decode cX5_sort 62 = .ok (.aload_n 0, 1) := by decide +kernel
theorem dX5_sort_63 : decode cX5_sort 63 = .ok (.bipush 65, 2) := by decide +kernel
theorem dX5_sort_65 : decode cX5_sort 65 = .ok (.invokevirtual 145, 3) := by decide +kernel
theorem dX5_sort_68 : decode cX5_sort 68 = .ok (.aload_n 0, 1) := by decide +kernel
theorem dX5_sort_69 : decode cX5_sort 69 = .ok (.getfield 35, 3) := by decide +kernel
theorem dX5_sort_72 : decode cX5_sort 72 = .ok (.if_icmp .ne 7, 3) := by decide +kernel
theorem dX5_sort_75 : decode cX5_sort 75 = .ok (.iconst 0, 1) := by decide +kernel
theorem dX5_sort_76 : decode cX5_sort 76 = .ok (.goto 4, 3) := by decide +kernel
theorem dX5_sort_79 : decode cX5_sort 79 = .ok (.iconst 1, 1) := by decide +kernel
theorem dX5_sort_80 : decode cX5_sort 80 = .ok (.ireturn, 1) := by decide +kernel
theorem dX5_sort_81 : decode cX5_sort 81 = .ok (.iload_n 2, 1) := by decide +kernel
theorem dX5_sort_82 : decode cX5_sort 82 = .ok (.aload_n 0, 1) := by decide +kernel
theorem dX5_sort_83 : decode cX5_sort 83 = .ok (.bipush 14, 2) := by decide +kernel
theorem dX5_sort_85 : decode cX5_sort 85 = .ok (.invokevirtual 142, 3) := by decide +kernel
theorem dX5_sort_88 : decode cX5_sort 88 = .ok (.iadd, 1) := by decide +kernel
theorem dX5_sort_89 : decode cX5_sort 89 = .ok (.aload_n 0, 1) := by decide +kernel
theorem dX5_sort_90 : decode cX5_sort 90 = .ok (.bipush 15, 2) := by decide +kernel
theorem dX5_sort_92 : decode cX5_sort 92 = .ok (.invokevirtual 142, 3) := by decide +kernel
theorem dX5_sort_95 : decode cX5_sort 95 = .ok (.iadd, 1) := by decide +kernel
theorem dX5_sort_96 : decode cX5_sort 96 = .ok (.aload_n 0, 1) := by decide +kernel
theorem dX5_sort_97 : decode cX5_sort 97 = .ok (.bipush 16, 2) := by decide +kernel
theorem dX5_sort_99 : decode cX5_sort 99 = .ok (.invokevirtual 142, 3) := by decide +kernel
theorem dX5_sort_102 : decode cX5_sort 102 = .ok (.iadd, 1) := by decide +kernel
theorem dX5_sort_103 : decode cX5_sort 103 = .ok (.aload_n 0, 1) := by decide +kernel
theorem dX5_sort_104 : decode cX5_sort 104 = .ok (.bipush 17, 2) := by decide +kernel
theorem dX5_sort_106 : decode cX5_sort 106 = .ok (.invokevirtual 142, 3) := by decide +kernel
theorem dX5_sort_109 : decode cX5_sort 109 = .ok (.iadd, 1) := by decide +kernel
theorem dX5_sort_110 : decode cX5_sort 110 = .ok (.aload_n 0, 1) := by decide +kernel
theorem dX5_sort_111 : decode cX5_sort 111 = .ok (.getfield 35, 3) := by decide +kernel
theorem dX5_sort_114 : decode cX5_sort 114 = .ok (.if_icmp .ne 7, 3) := by decide +kernel
theorem dX5_sort_117 : decode cX5_sort 117 = .ok (.iconst 3, 1) := by decide +kernel
theorem dX5_sort_118 : decode cX5_sort 118 = .ok (.goto 4, 3) := by decide +kernel
theorem dX5_sort_121 : decode cX5_sort 121 = .ok (.iconst 4, 1) := by decide +kernel
theorem dX5_sort_122 : decode cX5_sort 122 = .ok (.ireturn, 1) := by decide +kernel
set_option maxRecDepth 20000 in
theorem ggX5_category_X5_sort : GoodIn wsX5_category wsX5_sort := goodIn_r _ [6, 7, 8, 9, 10, 5, 11, 12, 13, 14, 15, 16, 17, 18, 19, 20, 21, 22, 23, 24, 25, 26, 27, 28, 29, 30, 31, 32, 33, 34, 35, 36, 37, 38, 39, 40, 41] (by decide +kernel) (by decide +kernel)
set_option maxRecDepth 20000 in
theorem gX5_category_X5_sort : GoodIn wsX5_category (wsV RX5 148 RX5 yX5_sort wsX5_sort) := goodIn_app (goodIn_of _ (by decide +kernel)) ggX5_category_X5_sort
theorem dX5_category_0 : decode cX5_category 0 = .ok (.aload_n 0, 1) := by decide +kernel
theorem dX5_category_1 : decode cX5_category 1 = .ok (.iconst 0, 1) := by decide +kernel
theorem dX5_category_2 : decode cX5_category 2 = .ok (.putfield 69, 3) := by decide +kernel
theorem dX5_category_5 : decode cX5_category 5 = .ok (.aload_n 0, 1) := by decide +kernel
theorem dX5_category_6 : decode cX5_category 6 = .ok (.invokevirtual 148, 3) := by decide +kernel
theorem dX5_category_9 : decode cX5_category 9 = .ok (.ireturn, 1) := by decide +kernel
theorem dX5_isDigitOf_0 : decode cX5_isDigitOf 0 = .ok (.aload_n 0, 1) := by decide +kernel
theorem dX5_isDigitOf_1 : decode cX5_isDigitOf 1 = .ok (.getfield 29, 3) := by decide +kernel
theorem dX5_isDigitOf_4 : decode cX5_isDigitOf 4 = .ok (.iload_n 1, 1) := by decide +kernel
theorem dX5_isDigitOf_5 : decode cX5_isDigitOf 5 = .ok (.iaload, 1) := by decide +kernel
theorem dX5_isDigitOf_6 : decode cX5_isDigitOf 6 = .ok (.istore_n 2, 1) := by decide +kernel
theorem dX5_isDigitOf_7 : decode cX5_isDigitOf 7 = .ok (.iload_n 2, 1) := by decide +kernel
theorem dX5_isDigitOf_8 : decode cX5_isDigitOf 8 = .ok (.bipush 12, 2) := by decide +kernel
theorem dX5_isDigitOf_10 : decode cX5_isDigitOf 10 = .ok (.if_icmp .eq 27, 3) := by decide +kernel
theorem dX5_isDigitOf_13 : decode cX5_isDigitOf 13 = .ok (.iload_n 2, 1) := by decide +kernel
theorem dX5_isDigitOf_14 : decode cX5_isDigitOf 14 = .ok (.bipush 6, 2) := by decide +kernel
theorem dX5_isDigitOf_16 : decode cX5_isDigitOf 16 = .ok (.if_icmp .eq 21, 3) := by decide +kernel
theorem dX5_isDigitOf_19 : decode cX5_isDigitOf 19 = .ok (.iload_n 2, 1) := by decide +kernel
theorem dX5_isDigitOf_20 : decode cX5_isDigitOf 20 = .ok (.bipush 7, 2) := by decide +kernel
theorem dX5_isDigitOf_22 : decode cX5_isDigitOf 22 = .ok (.if_icmp .eq 15, 3) := by decide +kernel
theorem dX5_isDigitOf_25 : decode cX5_isDigitOf 25 = .ok (.iload_n 2, 1) := by decide +kernel
theorem dX5_isDigitOf_26 : decode cX5_isDigitOf 26 = .ok (.bipush 16, 2) := by decide +kernel
theorem dX5_isDigitOf_28 : decode cX5_isDigitOf 28 = .ok (.if_icmp .eq 9, 3) := by decide +kernel
theorem dX5_isDigitOf_31 : decode cX5_isDigitOf 31 = .ok (.iload_n 2, 1) := by decide +kernel
theorem dX5_isDigitOf_32 : decode cX5_isDigitOf 32 = .ok (.bipush 17, 2) := by decide +kernel
theorem dX5_isDigitOf_34 : decode cX5_isDigitOf 34 = .ok (.if_icmp .ne 5, 3) := by decide +kernel
theorem dX5_isDigitOf_37 : decode cX5_isDigitOf 37 = .ok (.iconst 1, 1) := by decide +kernel
theorem dX5_isDigitOf_38 : decode cX5_isDigitOf 38 = .ok (.ireturn, 1) := by decide +kernel
theorem dX5_isDigitOf_39 : decode cX5_isDigitOf 39 = .ok (.iconst 1, 1) := by decide +kernel
theorem dX5_isDigitOf_40 : decode cX5_isDigitOf 40 = .ok (.istore_n 3, 1) := by decide +kernel
theorem dX5_isDigitOf_41 : decode cX5_isDigitOf 41 = .ok (.iconst 0, 1) := by decide +kernel
theorem dX5_isDigitOf_42 : decode cX5_isDigitOf 42 = .ok (.istore 4, 2) := by decide +kernel
theorem dX5_isDigitOf_44 : decode cX5_isDigitOf 44 = .ok (.iload 4, 2) := by decide +kernel
theorem dX5_isDigitOf_46 : decode cX5_isDigitOf 46 = .ok (.iload_n 1, 1) := by decide +kernel
theorem dX5_isDigitOf_47 : decode cX5_isDigitOf 47 = .ok (.if_icmp .ge 35, 3) := by decide +kernel
theorem dX5_isDigitOf_50 : decode cX5_isDigitOf 50 = .ok (.iload_n 3, 1) := by decide +kernel
theorem dX5_isDigitOf_51 : decode cX5_isDigitOf 51 = .ok (.ifCond .eq 31, 3) := by decide +kernel
theorem dX5_isDigitOf_54 : decode cX5_isDigitOf 54 = .ok (.aload_n 0, 1) := by decide +kernel
theorem dX5_isDigitOf_55 : decode cX5_isDigitOf 55 = .ok (.getfield 26, 3) := by decide +kernel
theorem dX5_isDigitOf_58 : decode cX5_isDigitOf 58 = .ok (.iload 4, 2) := by decide +kernel
theorem dX5_isDigitOf_60 : decode cX5_isDigitOf 60 = .ok (.iaload, 1) := by decide +kernel
theorem dX5_isDigitOf_61 : decode cX5_isDigitOf 61 = .ok (.aload_n 0, 1) := by decide +kernel
theorem dX5_isDigitOf_62 : decode cX5_isDigitOf 62 = .ok (.getfield 26, 3) := by decide +kernel
theorem dX5_isDigitOf_65 : decode cX5_isDigitOf 65 = .ok (.iload_n 1, 1) := by decide +kernel
theorem dX5_isDigitOf_66 : decode cX5_isDigitOf 66 = .ok (.iaload, 1) := by decide +kernel
theorem dX5_isDigitOf_67 : decode cX5_isDigitOf 67 = .ok (.if_icmp .eq 7, 3) := by decide +kernel
theorem dX5_isDigitOf_70 : decode cX5_isDigitOf 70 = .ok (.iconst 1, 1) := by decide +kernel
theorem dX5_isDigitOf_71 : decode cX5_isDigitOf 71 = .ok (.goto 4, 3) := by decide +kernel
theorem dX5_isDigitOf_74 : decode cX5_isDigitOf 74 = .ok (.iconst 0, 1) := by decide +kernel
theorem dX5_isDigitOf_75 : decode cX5_isDigitOf 75 = .ok (.istore_n 3, 1) := by decide +kernel
theorem dX5_isDigitOf_76 : decode cX5_isDigitOf 76 = .ok (.iinc 4 1, 3) := by decide +kernel
theorem dX5_isDigitOf_79 : decode cX5_isDigitOf 79 = .ok (.goto (-35), 3) := by decide +kernel
theorem dX5_isDigitOf_82 : decode cX5_isDigitOf 82 = .ok (.iload_n 2, 1) := by decide +kernel
theorem dX5_isDigitOf_83 : decode cX5_isDigitOf 83 = .ok (.bipush 7, 2) := by decide +kernel
theorem dX5_isDigitOf_85 : decode cX5_isDigitOf 85 = .ok (.if_icmp .le 17, 3) := by decide +kernel
theorem dX5_isDigitOf_88 : decode cX5_isDigitOf 88 = .ok (.iload_n 2, 1) := by decide +kernel
theorem dX5_isDigitOf_89 : decode cX5_isDigitOf 89 = .ok (.bipush 12, 2) := by decide +kernel
theorem dX5_isDigitOf_91 : decode cX5_isDigitOf 91 = .ok (.if_icmp .ge 11, 3) := by decide +kernel
theorem dX5_isDigitOf_94 : decode cX5_isDigitOf 94 = .ok (.iload_n 3, 1) := by decide +kernel
theorem dX5_isDigitOf_95 : decode cX5_isDigitOf 95 = .ok (.ifCond .ne 7, 3) := by decide +kernel
theorem dX5_isDigitOf_98 : decode cX5_isDigitOf 98 = .ok (.iconst 1, 1) := by decide +kernel
theorem dX5_isDigitOf_99 : decode cX5_isDigitOf 99 = .ok (.goto 4, 3) := by decide +kernel
theorem dX5_isDigitOf_102 : decode cX5_isDigitOf 102 = .ok (.iconst 0, 1) := by decide +kernel
theorem dX5_isDigitOf_103 : decode cX5_isDigitOf 103 = .ok (.ireturn, 1) := by decide +kernel
theorem dX5_point_0 : decode cX5_point 0 = .ok (.iconst 0, 1) := by decide +kernel
theorem dX5_point_1 : decode cX5_point 1 = .ok (.istore_n 1, 1) := by decide +kernel
theorem dX5_point_2 : decode cX5_point 2 = .ok (.iload_n 1, 1) := by decide +kernel
theorem dX5_point_3 : decode cX5_point 3 = .ok (.aload_n 0, 1) := by decide +kernel
theorem dX5_point_4 : decode cX5_point 4 = .ok (.getfield 35, 3) := by decide +kernel
theorem dX5_point_7 : decode cX5_point 7 = .ok (.if_icmp .ge 32, 3) := by decide +kernel
theorem dX5_point_10 : decode cX5_point 10 = .ok (.aload_n 0, 1) := by decide +kernel
theorem dX5_point_11 : decode cX5_point 11 = .ok (.getfield 29, 3) := by decide +kernel
theorem dX5_point_14 : decode cX5_point 14 = .ok (.iload_n 1, 1) := by decide +kernel
theorem dX5_point_15 : decode cX5_point 15 = .ok (.iaload, 1) := by decide +kernel
theorem dX5_point_16 : decode cX5_point 16 = .ok (.iconst 2, 1) := by decide +kernel
theorem dX5_point_17 : decode cX5_point 17 = .ok (.if_icmp .eq 14, 3) := by decide +kernel
theorem dX5_point_20 : decode cX5_point 20 = .ok (.aload_n 0, 1) := by decide +kernel
theorem dX5_point_21 : decode cX5_point 21 = .ok (.getfield 29, 3) := by decide +kernel
theorem dX5_point_24 : decode cX5_point 24 = .ok (.iload_n 1, 1) := by decide +kernel
theorem dX5_point_25 : decode cX5_point 25 = .ok (.iaload, 1) := by decide +kernel
theorem dX5_point_26 : decode cX5_point 26 = .ok (.bipush 15, 2) := by decide +kernel
theorem dX5_point_28 : decode cX5_point 28 = .ok (.if_icmp .ne 5, 3) := by decide +kernel
theorem dX5_point_31 : decode cX5_point 31 = .ok (.iload_n 1, 1) := by decide +kernel
theorem dX5_point_32 : decode cX5_point 32 = .ok (.ireturn, 1) := by decide +kernel
theorem dX5_point_33 : decode cX5_point 33 = .ok (.iinc 1 1, 3) := by decide +kernel
theorem dX5_point_36 : decode cX5_point 36 = .ok (.goto (-34), 3) := by decide +kernel
theorem dX5_point_39 : decode cX5_point 39 = .ok (.iconst 0, 1) := by decide +kernel
theorem dX5_point_40 : decode cX5_point 40 = .ok (.istore_n 1, 1) := by decide +kernel
theorem dX5_point_41 : decode cX5_point 41 = .ok (.iload_n 1, 1) := by decide +kernel
theorem dX5_point_42 : decode cX5_point 42 = .ok (.aload_n 0, 1) := by decide +kernel
theorem dX5_point_43 : decode cX5_point 43 = .ok (.getfield 35, 3) := by decide +kernel
theorem dX5_point_46 : decode cX5_point 46 = .ok (.if_icmp .ge 22, 3) := by decide +kernel
theorem dX5_point_49 : decode cX5_point 49 = .ok (.aload_n 0, 1) := by decide +kernel
theorem dX5_point_50 : decode cX5_point 50 = .ok (.getfield 29, 3) := by decide +kernel
theorem dX5_point_53 : decode cX5_point 53 = .ok (.iload_n 1, 1) := by decide +kernel
theorem dX5_point_54 : decode cX5_point 54 = .ok (.iaload, 1) := by decide +kernel
theorem dX5_point_55 : decode cX5_point 55 = .ok (.bipush 16, 2) := by decide +kernel
theorem dX5_point_57 : decode cX5_point 57 = .ok (.if_icmp .ne 5, 3) := by decide +kernel
theorem dX5_point_60 : decode cX5_point 60 = .ok (.iload_n 1, 1) := by decide +kernel
theorem dX5_point_61 : decode cX5_point 61 = .ok (.ireturn, 1) := by decide +kernel
theorem dX5_point_62 : decode cX5_point 62 = .ok (.iinc 1 1, 3) := by decide +kernel
theorem dX5_point_65 : decode cX5_point 65 = .ok (.goto (-24), 3) := by decide +kernel
theorem dX5_point_68 : decode cX5_point 68 = .ok (.aload_n 0, 1) := by decide +kernel
theorem dX5_point_69 : decode cX5_point 69 = .ok (.getfield 35, 3) := by decide +kernel
theorem dX5_point_72 : decode cX5_point 72 = .ok (.ireturn, 1) := by decide +kernel
set_option maxRecDepth 20000 in
theorem ggX5_digitsOf_X5_point : GoodIn wsX5_digitsOf wsX5_point := goodIn_r _ [6, 1, 7, 13, 14, 15, 16, 17, 18, 19, 20, 21, 22, 23, 24, 25, 26, 27, 28, 29, 30, 31, 32, 33, 34, 35, 36] (by decide +kernel) (by decide +kernel)
set_option maxRecDepth 20000 in
theorem gX5_digitsOf_X5_point : GoodIn wsX5_digitsOf (wsV RX5 151 RX5 yX5_point wsX5_point) := goodIn_app (goodIn_of _ (by decide +kernel)) ggX5_digitsOf_X5_point
set_option maxRecDepth 20000 in
theorem ggX5_digitsOf_X5_isDigitOf : GoodIn wsX5_digitsOf wsX5_isDigitOf := goodIn_r _ [11, 7, 12, 13, 14, 15, 16, 17, 18, 19, 20, 21, 22, 23, 24, 25, 26, 27, 28, 29, 30, 31, 32, 33, 34, 35, 36] (by decide +kernel) (by decide +kernel)
set_option maxRecDepth 20000 in
theorem gX5_digitsOf_X5_isDigitOf : GoodIn wsX5_digitsOf (wsV RX5 154 RX5 yX5_isDigitOf wsX5_isDigitOf) := goodIn_app (goodIn_of _ (by decide +kernel)) ggX5_digitsOf_X5_isDigitOf
theorem dX5_digitsOf_0 : decode cX5_digitsOf 0 = .ok (.aload_n 0, 1) := by decide +kernel
theorem dX5_digitsOf_1 : decode cX5_digitsOf 1 = .ok (.invokevirtual 151, 3) := by decide +kernel
theorem dX5_digitsOf_4 : decode cX5_digitsOf 4 = .ok (.istore_n 2, 1) := by decide +kernel
theorem dX5_digitsOf_5 : decode cX5_digitsOf 5 = .ok (.iconst 0, 1) := by decide +kernel
theorem dX5_digitsOf_6 : decode cX5_digitsOf 6 = .ok (.istore_n 3, 1) := by decide +kernel
theorem dX5_digitsOf_7 : decode cX5_digitsOf 7 = .ok (.iload_n 1, 1) := by decide +kernel
theorem dX5_digitsOf_8 : decode cX5_digitsOf 8 = .ok (.ifCond .ne 7, 3) := by decide +kernel
theorem dX5_digitsOf_11 : decode cX5_digitsOf 11 = .ok (.iconst 0, 1) := by decide +kernel
theorem dX5_digitsOf_12 : decode cX5_digitsOf 12 = .ok (.goto 4, 3) := by decide +kernel
theorem dX5_digitsOf_15 : decode cX5_digitsOf 15 = .ok (.iload_n 2, 1) := by decide +kernel
theorem dX5_digitsOf_16 : decode cX5_digitsOf 16 = .ok (.istore 4, 2) := by decide +kernel
theorem dX5_digitsOf_18 : decode cX5_digitsOf 18 = .ok (.iload 4, 2) := by decide +kernel
theorem dX5_digitsOf_20 : decode cX5_digitsOf 20 = .ok (.iload_n 1, 1) := by decide +kernel
theorem dX5_digitsOf_21 : decode cX5_digitsOf 21 = .ok (.ifCond .ne 7, 3) := by decide +kernel
theorem dX5_digitsOf_24 : decode cX5_digitsOf 24 = .ok (.iload_n 2, 1) := by decide +kernel
theorem dX5_digitsOf_25 : decode cX5_digitsOf 25 = .ok (.goto 7, 3) := by decide +kernel
theorem dX5_digitsOf_28 : decode cX5_digitsOf 28 = .ok (.aload_n 0, 1) := by decide +kernel
theorem dX5_digitsOf_29 : decode cX5_digitsOf 29 = .ok (.getfield 35, 3) := by decide +kernel
theorem dX5_digitsOf_32 : decode cX5_digitsOf 32 = .ok (.if_icmp .ge 26, 3) := by decide +kernel
theorem dX5_digitsOf_35 : decode cX5_digitsOf 35 = .ok (.iload_n 3, 1) := by decide +kernel
theorem dX5_digitsOf_36 : decode cX5_digitsOf 36 = .ok (.aload_n 0, 1) := by decide +kernel
theorem dX5_digitsOf_37 : decode cX5_digitsOf 37 = .ok (.iload 4, 2) := by decide +kernel
theorem dX5_digitsOf_39 : decode cX5_digitsOf 39 = .ok (.invokevirtual 154, 3) := by decide +kernel
theorem dX5_digitsOf_42 : decode cX5_digitsOf 42 = .ok (.ifCond .eq 7, 3) := by decide +kernel
theorem dX5_digitsOf_45 : decode cX5_digitsOf 45 = .ok (.iconst 1, 1) := by decide +kernel
theorem dX5_digitsOf_46 : decode cX5_digitsOf 46 = .ok (.goto 4, 3) := by decide +kernel
theorem dX5_digitsOf_49 : decode cX5_digitsOf 49 = .ok (.iconst 0, 1) := by decide +kernel
theorem dX5_digitsOf_50 : decode cX5_digitsOf 50 = .ok (.iadd, 1) := by decide +kernel
theorem dX5_digitsOf_51 : decode cX5_digitsOf 51 = .ok (.istore_n 3, 1) := by decide +kernel
theorem dX5_digitsOf_52 : decode cX5_digitsOf 52 = .ok (.iinc 4 1, 3) := by decide +kernel
theorem dX5_digitsOf_55 : decode cX5_digitsOf 55 = .ok (.goto (-37), 3) := by decide +kernel
theorem dX5_digitsOf_58 : decode cX5_digitsOf 58 = .ok (.iload_n 3, 1) := by decide +kernel
theorem dX5_digitsOf_59 : decode cX5_digitsOf 59 = .ok (.ireturn, 1) := by decide +kernel
set_option maxRecDepth 20000 in
theorem ggX5_isNumber_X5_sort : GoodIn wsX5_isNumber wsX5_sort := goodIn_r _ [6, 1, 7, 8, 9, 5, 10, 11, 12, 13, 14, 15, 16, 17, 18, 19, 20, 21, 22, 23, 24, 25, 26, 27, 28, 29, 30, 31, 32, 33, 34, 35, 36, 37, 38, 39, 40] (by decide +kernel) (by decide +kernel)
set_option maxRecDepth 20000 in
theorem gX5_isNumber_X5_sort : GoodIn wsX5_isNumber (wsV RX5 148 RX5 yX5_sort wsX5_sort) := goodIn_app (goodIn_of _ (by decide +kernel)) ggX5_isNumber_X5_sort
theorem dX5_isNumber_0 : decode cX5_isNumber 0 = .ok (.aload_n 0, 1) := by decide +kernel
theorem dX5_isNumber_1 : decode cX5_isNumber 1 = .ok (.getfield 35, 3) := by decide +kernel
theorem dX5_isNumber_4 : decode cX5_isNumber 4 = .ok (.iconst (-1), 1) := by decide +kernel
theorem dX5_isNumber_5 : decode cX5_isNumber 5 = .ok (.if_icmp .eq 23, 3) := by decide +kernel
theorem dX5_isNumber_8 : decode cX5_isNumber 8 = .ok (.aload_n 0, 1) := by decide +kernel
theorem dX5_isNumber_9 : decode cX5_isNumber 9 = .ok (.invokevirtual 148, 3) := by decide +kernel
theorem dX5_isNumber_12 : decode cX5_isNumber 12 = .ok (.iconst 3, 1) := by decide +kernel
theorem dX5_isNumber_13 : decode cX5_isNumber 13 = .ok (.if_icmp .eq 11, 3) := by decide +kernel
theorem dX5_isNumber_16 : decode cX5_isNumber 16 = .ok (.aload_n 0, 1) := by decide +kernel
theorem dX5_isNumber_17 : decode cX5_isNumber 17 = .ok (.invokevirtual 148, 3) := by decide +kernel
theorem dX5_isNumber_20 : decode cX5_isNumber 20 = .ok (.iconst 4, 1) := by decide +kernel
theorem dX5_isNumber_21 : decode cX5_isNumber 21 = .ok (.if_icmp .ne 7, 3) := by decide +kernel
theorem dX5_isNumber_24 : decode cX5_isNumber 24 = .ok (.iconst 1, 1) := by decide +kernel
theorem dX5_isNumber_25 : decode cX5_isNumber 25 = .ok (.goto 4, 3) := by decide +kernel
theorem dX5_isNumber_28 : decode cX5_isNumber 28 = .ok (.iconst 0, 1) := by decide +kernel
theorem dX5_isNumber_29 : decode cX5_isNumber 29 = .ok (.ireturn, 1) := by decide +kernel
set_option maxRecDepth 20000 in
theorem ggX5_digits_X5_isNumber : GoodIn wsX5_digits wsX5_isNumber := goodIn_r _ [6, 7, 8, 9, 10, 5, 11, 12, 13, 14, 15, 16, 17, 18, 19, 20, 21, 34, 35, 36, 37, 38, 39, 40, 41, 42, 43, 44, 45, 46, 47, 48, 49, 50, 51, 52, 53, 54, 55, 56, 57] (by decide +kernel) (by decide +kernel)
set_option maxRecDepth 20000 in
theorem gX5_digits_X5_isNumber : GoodIn wsX5_digits (wsV RX5 157 RX5 yX5_isNumber wsX5_isNumber) := goodIn_app (goodIn_of _ (by decide +kernel)) ggX5_digits_X5_isNumber
set_option maxRecDepth 20000 in
theorem ggX5_digits_X5_digitsOf : GoodIn wsX5_digits wsX5_digitsOf := goodIn_r _ [25, 7, 26, 27, 28, 5, 29, 16, 30, 31, 32, 33, 21, 34, 35, 36, 37, 38, 39, 40, 41, 42, 43, 44, 45, 46, 47, 48, 49, 50, 51, 52, 53, 54, 55, 56, 57] (by decide +kernel) (by decide +kernel)
set_option maxRecDepth 20000 in
theorem gX5_digits_X5_digitsOf : GoodIn wsX5_digits (wsV RX5 160 RX5 yX5_digitsOf wsX5_digitsOf) := goodIn_app (goodIn_of _ (by decide +kernel)) ggX5_digits_X5_digitsOf
theorem dX5_digits_0 : decode cX5_digits 0 = .ok (.aload_n 0, 1) := by decide +kernel
theorem dX5_digits_1 : decode cX5_digits 1 = .ok (.iconst 0, 1) := by decide +kernel
theorem dX5_digits_2 : decode cX5_digits 2 = .ok (.putfield 69, 3) := by decide +kernel
theorem dX5_digits_5 : decode cX5_digits 5 = .ok (.iload_n 1, 1) := by decide +kernel
theorem dX5_digits_6 : decode cX5_digits 6 = .ok (.ifCond .eq 8, 3) := by decide +kernel
theorem dX5_digits_9 : decode cX5_digits 9 = .ok (.iload_n 1, 1) := by decide +kernel
theorem dX5_digits_10 : decode cX5_digits 10 = .ok (.iconst 1, 1) := by decide +kernel
theorem dX5_digits_11 : decode cX5_digits 11 = .ok (.if_icmp .ne 10, 3) := by decide +kernel
theorem dX5_digits_14 : decode cX5_digits 14 = .ok (.aload_n 0, 1) := by decide +kernel
theorem dX5_digits_15 : decode cX5_digits 15 = .ok (.invokevirtual 157, 3) := by decide +kernel
theorem dX5_digits_18 : decode cX5_digits 18 = .ok (.ifCond .ne 7, 3) := by decide +kernel
theorem dX5_digits_21 : decode cX5_digits 21 = .ok (.iconst (-1), 1) := by decide +kernel
theorem dX5_digits_22 : decode cX5_digits 22 = .ok (.goto 8, 3) := by decide +kernel
theorem dX5_digits_25 : decode cX5_digits 25 = .ok (.aload_n 0, 1) := by decide +kernel
theorem dX5_digits_26 : decode cX5_digits 26 = .ok (.iload_n 1, 1) := by decide +kernel
theorem dX5_digits_27 : decode cX5_digits 27 = .ok (.invokevirtual 160, 3) := by decide +kernel
theorem dX5_digits_30 : decode cX5_digits 30 = .ok (.ireturn, 1) := by decide +kernel
set_option maxRecDepth 20000 in
theorem ggX5_scale_X5_isNumber : GoodIn wsX5_scale wsX5_isNumber := goodIn_r _ [6, 7, 8, 9, 10, 5, 11, 12, 13, 14, 15, 16, 17, 18, 19, 20, 21, 34, 35, 36, 37, 38, 39, 40, 41, 42, 43, 44, 45, 46, 47, 48, 49, 50, 51, 52, 53, 54, 55, 56, 57] (by decide +kernel) (by decide +kernel)
set_option maxRecDepth 20000 in
theorem gX5_scale_X5_isNumber : GoodIn wsX5_scale (wsV RX5 157 RX5 yX5_isNumber wsX5_isNumber) := goodIn_app (goodIn_of _ (by decide +kernel)) ggX5_scale_X5_isNumber
set_option maxRecDepth 20000 in
theorem ggX5_scale_X5_ofKind : GoodIn wsX5_scale wsX5_ofKind := goodIn_r _ [15, 7, 16, 34, 35, 36, 37, 38, 39, 40, 41, 42, 43, 44, 45, 46, 47, 48, 49, 50, 51, 52, 53, 54, 55, 56, 57] (by decide +kernel) (by decide +kernel)
set_option maxRecDepth 20000 in
theorem gX5_scale_X5_ofKind : GoodIn wsX5_scale (wsV RX5 142 RX5 yX5_ofKind wsX5_ofKind) := goodIn_app (goodIn_of _ (by decide +kernel)) ggX5_scale_X5_ofKind
set_option maxRecDepth 20000 in
theorem ggX5_scale_X5_digitsOf : GoodIn wsX5_scale wsX5_digitsOf := goodIn_r _ [25, 7, 26, 27, 28, 5, 29, 16, 30, 31, 32, 33, 21, 34, 35, 36, 37, 38, 39, 40, 41, 42, 43, 44, 45, 46, 47, 48, 49, 50, 51, 52, 53, 54, 55, 56, 57] (by decide +kernel) (by decide +kernel)
set_option maxRecDepth 20000 in
theorem gX5_scale_X5_digitsOf : GoodIn wsX5_scale (wsV RX5 160 RX5 yX5_digitsOf wsX5_digitsOf) := goodIn_app (goodIn_of _ (by decide +kernel)) ggX5_scale_X5_digitsOf
theorem dX5_scale_0 : decode cX5_scale 0 = .ok (.aload_n 0, 1) := by decide +kernel
theorem dX5_scale_1 : decode cX5_scale 1 = .ok (.iconst 0, 1) := by decide +kernel
theorem dX5_scale_2 : decode cX5_scale 2 = .ok (.putfield 69, 3) := by decide +kernel
theorem dX5_scale_5 : decode cX5_scale 5 = .ok (.aload_n 0, 1) := by decide +kernel
theorem dX5_scale_6 : decode cX5_scale 6 = .ok (.invokevirtual 157, 3) := by decide +kernel
theorem dX5_scale_9 : decode cX5_scale 9 = .ok (.ifCond .ne 5, 3) := by decide +kernel
theorem dX5_scale_12 : decode cX5_scale 12 = .ok (.iconst 0, 1) := by decide +kernel
theorem dX5_scale_13 : decode cX5_scale 13 = .ok (.ireturn, 1) := by decide +kernel
theorem dX5_scale_14 : decode cX5_scale 14 = .ok (.aload_n 0, 1) := by decide +kernel
theorem dX5_scale_15 : decode cX5_scale 15 = .ok (.bipush 17, 2) := by decide +kernel
theorem dX5_scale_17 : decode cX5_scale 17 = .ok (.invokevirtual 142, 3) := by decide +kernel
theorem dX5_scale_20 : decode cX5_scale 20 = .ok (.ifCond .le 14, 3) := by decide +kernel
theorem dX5_scale_23 : decode cX5_scale 23 = .ok (.iconst 0, 1) := by decide +kernel
theorem dX5_scale_24 : decode cX5_scale 24 = .ok (.aload_n 0, 1) := by decide +kernel
theorem dX5_scale_25 : decode cX5_scale 25 = .ok (.bipush 17, 2) := by decide +kernel
theorem dX5_scale_27 : decode cX5_scale 27 = .ok (.invokevirtual 142, 3) := by decide +kernel
theorem dX5_scale_30 : decode cX5_scale 30 = .ok (.isub, 1) := by decide +kernel
theorem dX5_scale_31 : decode cX5_scale 31 = .ok (.goto 8, 3) := by decide +kernel
theorem dX5_scale_34 : decode cX5_scale 34 = .ok (.aload_n 0, 1) := by decide +kernel
theorem dX5_scale_35 : decode cX5_scale 35 = .ok (.iconst 1, 1) := by decide +kernel
theorem dX5_scale_36 : decode cX5_scale 36 = .ok (.invokevirtual 160, 3) := by decide +kernel
theorem dX5_scale_39 : decode cX5_scale 39 = .ok (.ireturn, 1) := by decide +kernel
theorem dX5_follows_0 : decode cX5_follows 0 = .ok (.iload_n 1, 1) := by decide +kernel
theorem dX5_follows_1 : decode cX5_follows 1 = .ok (.ifCond .lt 23, 3) := by decide +kernel
theorem dX5_follows_4 : decode cX5_follows 4 = .ok (.iload_n 1, 1) := by decide +kernel
theorem dX5_follows_5 : decode cX5_follows 5 = .ok (.bipush 19, 2) := by decide +kernel
theorem dX5_follows_7 : decode cX5_follows 7 = .ok (.if_icmp .ge 17, 3) := by decide +kernel
theorem dX5_follows_10 : decode cX5_follows 10 = .ok (.iload_n 2, 1) := by decide +kernel
theorem dX5_follows_11 : decode cX5_follows 11 = .ok (.ifCond .lt 13, 3) := by decide +kernel
theorem dX5_follows_14 : decode cX5_follows 14 = .ok (.iload_n 2, 1) := by decide +kernel
theorem dX5_follows_15 : decode cX5_follows 15 = .ok (.bipush 19, 2) := by decide +kernel
theorem dX5_follows_17 : decode cX5_follows 17 = .ok (.if_icmp .ge 7, 3) := by decide +kernel
theorem dX5_follows_20 : decode cX5_follows 20 = .ok (.iconst 1, 1) := by decide +kernel
theorem dX5_follows_21 : decode cX5_follows 21 = .ok (.goto 4, 3) := by decide +kernel
theorem dX5_follows_24 : decode cX5_follows 24 = .ok (.iconst 0, 1) := by decide +kernel
theorem dX5_follows_25 : decode cX5_follows 25 = .ok (.istore_n 3, 1) := by decide +kernel
theorem dX5_follows_26 : decode cX5_follows 26 = .ok (.aload_n 0, 1) := by decide +kernel
theorem dX5_follows_27 : decode cX5_follows 27 = .ok (.iload_n 3, 1) := by decide +kernel
theorem dX5_follows_28 : decode cX5_follows 28 = .ok (.ifCond .eq 7, 3) := by decide +kernel
theorem dX5_follows_31 : decode cX5_follows 31 = .ok (.iconst 0, 1) := by decide +kernel
theorem dX5_follows_32 : decode cX5_follows 32 = .ok (.goto 4, 3) := by decide +kernel
theorem dX5_follows_35 : decode cX5_follows 35 = .ok (.iconst 1, 1) := by decide +kernel
theorem dX5_follows_36 : decode cX5_follows 36 = .ok (.putfield 69, 3) := by decide +kernel
theorem dX5_follows_39 : decode cX5_follows 39 = .ok (.iload_n 3, 1) := by decide +kernel
theorem dX5_follows_40 : decode cX5_follows 40 = .ok (.ifCond .eq 21, 3) := by decide +kernel
theorem dX5_follows_43 : decode cX5_follows 43 = .ok (.aload_n 0, 1) := by decide +kernel
theorem dX5_follows_44 : decode cX5_follows 44 = .ok (.getfield 60, 3) := by decide +kernel
theorem dX5_follows_47 : decode cX5_follows 47 = .ok (.iload_n 1, 1) := by decide +kernel
theorem dX5_follows_48 : decode cX5_follows 48 = .ok (.iaload, 1) := by decide +kernel
theorem dX5_follows_49 : decode cX5_follows 49 = .ok (.iload_n 2, 1) := by decide +kernel
theorem dX5_follows_50 : decode cX5_follows 50 = .ok (.ishr, 1) := by decide +kernel
theorem dX5_follows_51 : decode cX5_follows 51 = .ok (.iconst 1, 1) := by decide +kernel
theorem dX5_follows_52 : decode cX5_follows 52 = .ok (.iand, 1) := by decide +kernel
theorem dX5_follows_53 : decode cX5_follows 53 = .ok (.iconst 1, 1) := by decide +kernel
theorem dX5_follows_54 : decode cX5_follows 54 = .ok (.if_icmp .ne 7, 3) := by decide +kernel
theorem dX5_follows_57 : decode cX5_follows 57 = .ok (.iconst 1, 1) := by decide +kernel
theorem dX5_follows_58 : decode cX5_follows 58 = .ok (.goto 4, 3) := by decide +kernel
theorem dX5_follows_61 : decode cX5_follows 61 = .ok (.iconst 0, 1) := by decide +kernel
theorem dX5_follows_62 : decode cX5_follows 62 = .ok (.ireturn, 1) := by decide +kernel
set_option maxRecDepth 20000 in
theorem ggX5_currency_X5_great : GoodIn wsX5_currency wsX5_great := goodIn_r _ [6] (by decide +kernel) (by decide +kernel)
set_option maxRecDepth 20000 in
theorem gX5_currency_X5_great : GoodIn wsX5_currency (va_wsS RX5 79 yX5_great wsX5_great) := goodIn_app (goodIn_of _ (by decide +kernel)) ggX5_currency_X5_great
theorem dX5_currency_0 : decode cX5_currency 0 = .ok (.aload_n 0, 1) := by decide +kernel
theorem dX5_currency_1 : decode cX5_currency 1 = .ok (.iconst 0, 1) := by decide +kernel
theorem dX5_currency_2 : decode cX5_currency 2 = .ok (.putfield 69, 3) := by decide +kernel
theorem dX5_currency_5 : decode cX5_currency 5 = .ok (.iload_n 1, 1) := by decide +kernel
theorem dX5_currency_6 : decode cX5_currency 6 = .ok (.invokestatic 79, 3) := by decide +kernel
theorem dX5_currency_9 : decode cX5_currency 9 = .ok (.istore_n 2, 1) := by decide +kernel
theorem dX5_currency_10 : decode cX5_currency 10 = .ok (.iload_n 2, 1) := by decide +kernel
theorem dX5_currency_11 : decode cX5_currency 11 = .ok (.bipush 65, 2) := by decide +kernel
theorem dX5_currency_13 : decode cX5_currency 13 = .ok (.if_icmp .eq 69, 3) := by decide +kernel
theorem dX5_currency_16 : decode cX5_currency 16 = .ok (.iload_n 2, 1) := by decide +kernel
theorem dX5_currency_17 : decode cX5_currency 17 = .ok (.bipush 88, 2) := by decide +kernel
theorem dX5_currency_19 : decode cX5_currency 19 = .ok (.if_icmp .eq 63, 3) := by decide +kernel
theorem dX5_currency_22 : decode cX5_currency 22 = .ok (.iload_n 2, 1) := by decide +kernel
theorem dX5_currency_23 : decode cX5_currency 23 = .ok (.bipush 90, 2) := by decide +kernel
theorem dX5_currency_25 : decode cX5_currency 25 = .ok (.if_icmp .eq 57, 3) := by decide +kernel
theorem dX5_currency_28 : decode cX5_currency 28 = .ok (.iload_n 2, 1) := by decide +kernel
theorem dX5_currency_29 : decode cX5_currency 29 = .ok (.bipush 66, 2) := by decide +kernel
theorem dX5_currency_31 : decode cX5_currency 31 = .ok (.if_icmp .eq 51, 3) := by decide +kernel
theorem dX5_currency_34 : decode cX5_currency 34 = .ok (.iload_n 2, 1) := by decide +kernel
theorem dX5_currency_35 : decode cX5_currency 35 = .ok (.bipush 83, 2) := by decide +kernel
theorem dX5_currency_37 : decode cX5_currency 37 = .ok (.if_icmp .eq 45, 3) := by decide +kernel
theorem dX5_currency_40 : decode cX5_currency 40 = .ok (.iload_n 2, 1) := by decide +kernel
theorem dX5_currency_41 : decode cX5_currency 41 = .ok (.bipush 86, 2) := by decide +kernel
theorem dX5_currency_43 : decode cX5_currency 43 = .ok (.if_icmp .eq 39, 3) := by decide +kernel
theorem dX5_currency_46 : decode cX5_currency 46 = .ok (.iload_n 2, 1) := by decide +kernel
theorem dX5_currency_47 : decode cX5_currency 47 = .ok (.bipush 80, 2) := by decide +kernel
theorem dX5_currency_49 : decode cX5_currency 49 = .ok (.if_icmp .eq 33, 3) := by decide +kernel
theorem dX5_currency_52 : decode cX5_currency 52 = .ok (.iload_n 2, 1) := by decide +kernel
theorem dX5_currency_53 : decode cX5_currency 53 = .ok (.bipush 78, 2) := by decide +kernel
theorem dX5_currency_55 : decode cX5_currency 55 = .ok (.if_icmp .eq 27, 3) := by decide +kernel
theorem dX5_currency_58 : decode cX5_currency 58 = .ok (.iload_n 2, 1) := by decide +kernel
theorem dX5_currency_59 : decode cX5_currency 59 = .ok (.bipush 67, 2) := by decide +kernel
theorem dX5_currency_61 : decode cX5_currency 61 = .ok (.if_icmp .eq 21, 3) := by decide +kernel
theorem dX5_currency_64 : decode cX5_currency 64 = .ok (.iload_n 2, 1) := by decide +kernel
theorem dX5_currency_65 : decode cX5_currency 65 = .ok (.bipush 68, 2) := by decide +kernel
theorem dX5_currency_67 : decode cX5_currency 67 = .ok (.if_icmp .eq 15, 3) := by decide +kernel
theorem dX5_currency_70 : decode cX5_currency 70 = .ok (.iload_n 2, 1) := by decide +kernel
theorem dX5_currency_71 : decode cX5_currency 71 = .ok (.bipush 69, 2) := by decide +kernel
theorem dX5_currency_73 : decode cX5_currency 73 = .ok (.if_icmp .eq 9, 3) := by decide +kernel
theorem dX5_currency_76 : decode cX5_currency 76 = .ok (.iload_n 2, 1) := by decide +kernel
theorem dX5_currency_77 : decode cX5_currency 77 = .ok (.bipush 82, 2) := by decide +kernel
theorem dX5_currency_79 : decode cX5_currency 79 = .ok (.if_icmp .ne 7, 3) := by decide +kernel
theorem dX5_currency_82 : decode cX5_currency 82 = .ok (.iconst 1, 1) := by decide +kernel
theorem dX5_currency_83 : decode cX5_currency 83 = .ok (.goto 4, 3) := by decide +kernel
theorem dX5_currency_86 : decode cX5_currency 86 = .ok (.iconst 0, 1) := by decide +kernel
theorem dX5_currency_87 : decode cX5_currency 87 = .ok (.istore_n 3, 1) := by decide +kernel
theorem dX5_currency_88 : decode cX5_currency 88 = .ok (.iload_n 1, 1) := by decide +kernel
theorem dX5_currency_89 : decode cX5_currency 89 = .ok (.bipush 42, 2) := by decide +kernel
theorem dX5_currency_91 : decode cX5_currency 91 = .ok (.if_icmp .eq 69, 3) := by decide +kernel
theorem dX5_currency_94 : decode cX5_currency 94 = .ok (.iload_n 1, 1) := by decide +kernel
theorem dX5_currency_95 : decode cX5_currency 95 = .ok (.bipush 43, 2) := by decide +kernel
theorem dX5_currency_97 : decode cX5_currency 97 = .ok (.if_icmp .eq 63, 3) := by decide +kernel
theorem dX5_currency_100 : decode cX5_currency 100 = .ok (.iload_n 1, 1) := by decide +kernel
theorem dX5_currency_101 : decode cX5_currency 101 = .ok (.bipush 45, 2) := by decide +kernel
theorem dX5_currency_103 : decode cX5_currency 103 = .ok (.if_icmp .eq 57, 3) := by decide +kernel
theorem dX5_currency_106 : decode cX5_currency 106 = .ok (.iload_n 1, 1) := by decide +kernel
theorem dX5_currency_107 : decode cX5_currency 107 = .ok (.bipush 44, 2) := by decide +kernel
theorem dX5_currency_109 : decode cX5_currency 109 = .ok (.if_icmp .eq 51, 3) := by decide +kernel
theorem dX5_currency_112 : decode cX5_currency 112 = .ok (.iload_n 1, 1) := by decide +kernel
theorem dX5_currency_113 : decode cX5_currency 113 = .ok (.bipush 46, 2) := by decide +kernel
theorem dX5_currency_115 : decode cX5_currency 115 = .ok (.if_icmp .eq 45, 3) := by decide +kernel
theorem dX5_currency_118 : decode cX5_currency 118 = .ok (.iload_n 1, 1) := by decide +kernel
theorem dX5_currency_119 : decode cX5_currency 119 = .ok (.bipush 47, 2) := by decide +kernel
theorem dX5_currency_121 : decode cX5_currency 121 = .ok (.if_icmp .eq 39, 3) := by decide +kernel
theorem dX5_currency_124 : decode cX5_currency 124 = .ok (.iload_n 1, 1) := by decide +kernel
theorem dX5_currency_125 : decode cX5_currency 125 = .ok (.bipush 59, 2) := by decide +kernel
theorem dX5_currency_127 : decode cX5_currency 127 = .ok (.if_icmp .eq 33, 3) := by decide +kernel
theorem dX5_currency_130 : decode cX5_currency 130 = .ok (.iload_n 1, 1) := by decide +kernel
theorem dX5_currency_131 : decode cX5_currency 131 = .ok (.bipush 40, 2) := by decide +kernel
theorem dX5_currency_133 : decode cX5_currency 133 = .ok (.if_icmp .eq 27, 3) := by decide +kernel
theorem dX5_currency_136 : decode cX5_currency 136 = .ok (.iload_n 1, 1) := by decide +kernel
theorem dX5_currency_137 : decode cX5_currency 137 = .ok (.bipush 41, 2) := by decide +kernel
theorem dX5_currency_139 : decode cX5_currency 139 = .ok (.if_icmp .eq 21, 3) := by decide +kernel
theorem dX5_currency_142 : decode cX5_currency 142 = .ok (.iload_n 1, 1) := by decide +kernel
theorem dX5_currency_143 : decode cX5_currency 143 = .ok (.bipush 61, 2) := by decide +kernel
theorem dX5_currency_145 : decode cX5_currency 145 = .ok (.if_icmp .eq 15, 3) := by decide +kernel
theorem dX5_currency_148 : decode cX5_currency 148 = .ok (.iload_n 1, 1) := by decide +kernel
theorem dX5_currency_149 : decode cX5_currency 149 = .ok (.bipush 39, 2) := by decide +kernel
theorem dX5_currency_151 : decode cX5_currency 151 = .ok (.if_icmp .eq 9, 3) := by decide +kernel
theorem dX5_currency_154 : decode cX5_currency 154 = .ok (.iload_n 1, 1) := by decide +kernel
theorem dX5_currency_155 : decode cX5_currency 155 = .ok (.bipush 34, 2) := by decide +kernel
theorem dX5_currency_157 : decode cX5_currency 157 = .ok (.if_icmp .ne 7, 3) := by decide +kernel
theorem dX5_currency_160 : decode cX5_currency 160 = .ok (.iconst 1, 1) := by decide +kernel
theorem dX5_currency_161 : decode cX5_currency 161 = .ok (.goto 4, 3) := by decide +kernel
theorem dX5_currency_164 : decode cX5_currency 164 = .ok (.iconst 0, 1) := by decide +kernel
theorem dX5_currency_165 : decode cX5_currency 165 = .ok (.istore 4, 2) := by decide +kernel
theorem dX5_currency_167 : decode cX5_currency 167 = .ok (.iload_n 1, 1) := by decide +kernel
theorem dX5_currency_168 : decode cX5_currency 168 = .ok (.bipush 33, 2) := by decide +kernel
theorem dX5_currency_170 : decode cX5_currency 170 = .ok (.if_icmp .lt 30, 3) := by decide +kernel
theorem dX5_currency_173 : decode cX5_currency 173 = .ok (.iload_n 1, 1) := by decide +kernel
theorem dX5_currency_174 : decode cX5_currency 174 = .ok (.bipush 126, 2) := by decide +kernel
theorem dX5_currency_176 : decode cX5_currency 176 = .ok (.if_icmp .gt 24, 3) := by decide +kernel
theorem dX5_currency_179 : decode cX5_currency 179 = .ok (.iload_n 1, 1) := by decide +kernel
theorem dX5_currency_180 : decode cX5_currency 180 = .ok (.bipush 48, 2) := by decide +kernel
theorem dX5_currency_182 : decode cX5_currency 182 = .ok (.if_icmp .lt 9, 3) := by decide +kernel
theorem dX5_currency_185 : decode cX5_currency 185 = .ok (.iload_n 1, 1) := by decide +kernel
theorem dX5_currency_186 : decode cX5_currency 186 = .ok (.bipush 57, 2) := by decide +kernel
theorem dX5_currency_188 : decode cX5_currency 188 = .ok (.if_icmp .le 12, 3) := by decide +kernel
theorem dX5_currency_191 : decode cX5_currency 191 = .ok (.iload_n 3, 1) := by decide +kernel
theorem dX5_currency_192 : decode cX5_currency 192 = .ok (.ifCond .ne 8, 3) := by decide +kernel
theorem dX5_currency_195 : decode cX5_currency 195 = .ok (.iload 4, 2) := by decide +kernel
theorem dX5_currency_197 : decode cX5_currency 197 = .ok (.ifCond .eq 5, 3) := by decide +kernel
theorem dX5_currency_200 : decode cX5_currency 200 = .ok (.iconst (-1), 1) := by decide +kernel
theorem dX5_currency_201 : decode cX5_currency 201 = .ok (.ireturn, 1) := by decide +kernel
theorem dX5_currency_202 : decode cX5_currency 202 = .ok (.aload_n 0, 1) := by decide +kernel
theorem dX5_currency_203 : decode cX5_currency 203 = .ok (.getfield 13, 3) := by decide +kernel
theorem dX5_currency_206 : decode cX5_currency 206 = .ok (.istore 5, 2) := by decide +kernel
theorem dX5_currency_208 : decode cX5_currency 208 = .ok (.aload_n 0, 1) := by decide +kernel
theorem dX5_currency_209 : decode cX5_currency 209 = .ok (.iload_n 1, 1) := by decide +kernel
theorem dX5_currency_210 : decode cX5_currency 210 = .ok (.putfield 13, 3) := by decide +kernel
theorem dX5_currency_213 : decode cX5_currency 213 = .ok (.iload 5, 2) := by decide +kernel
theorem dX5_currency_215 : decode cX5_currency 215 = .ok (.ireturn, 1) := by decide +kernel
theorem dX5_at_0 : decode cX5_at 0 = .ok (.aload_n 0, 1) := by decide +kernel
theorem dX5_at_1 : decode cX5_at 1 = .ok (.iconst 0, 1) := by decide +kernel
theorem dX5_at_2 : decode cX5_at 2 = .ok (.putfield 69, 3) := by decide +kernel
theorem dX5_at_5 : decode cX5_at 5 = .ok (.aload_n 0, 1) := by decide +kernel
theorem dX5_at_6 : decode cX5_at 6 = .ok (.getfield 35, 3) := by decide +kernel
theorem dX5_at_9 : decode cX5_at 9 = .ok (.iconst (-1), 1) := by decide +kernel
theorem dX5_at_10 : decode cX5_at 10 = .ok (.if_icmp .eq 15, 3) := by decide +kernel
theorem dX5_at_13 : decode cX5_at 13 = .ok (.iload_n 1, 1) := by decide +kernel
theorem dX5_at_14 : decode cX5_at 14 = .ok (.ifCond .lt 11, 3) := by decide +kernel
theorem dX5_at_17 : decode cX5_at 17 = .ok (.iload_n 1, 1) := by decide +kernel
theorem dX5_at_18 : decode cX5_at 18 = .ok (.aload_n 0, 1) := by decide +kernel
theorem dX5_at_19 : decode cX5_at 19 = .ok (.getfield 133, 3) := by decide +kernel
theorem dX5_at_22 : decode cX5_at 22 = .ok (.if_icmp .lt 7, 3) := by decide +kernel
theorem dX5_at_25 : decode cX5_at 25 = .ok (.iconst (-1), 1) := by decide +kernel
theorem dX5_at_26 : decode cX5_at 26 = .ok (.goto 9, 3) := by decide +kernel
theorem dX5_at_29 : decode cX5_at 29 = .ok (.aload_n 0, 1) := by decide +kernel
theorem dX5_at_30 : decode cX5_at 30 = .ok (.getfield 32, 3) := by decide +kernel
theorem dX5_at_33 : decode cX5_at 33 = .ok (.iload_n 1, 1) := by decide +kernel
theorem dX5_at_34 : decode cX5_at 34 = .ok (.iaload, 1) := by decide +kernel
theorem dX5_at_35 : decode cX5_at 35 = .ok (.ireturn, 1) := by decide +kernel
set_option maxRecDepth 20000 in
theorem ggX5_bare_X5_isIdle : GoodIn wsX5_bare wsX5_isIdle := goodIn_r _ [4] (by decide +kernel) (by decide +kernel)
set_option maxRecDepth 20000 in
theorem gX5_bare_X5_isIdle : GoodIn wsX5_bare (va_wsS RX5 163 yX5_isIdle wsX5_isIdle) := goodIn_app (goodIn_of _ (by decide +kernel)) ggX5_bare_X5_isIdle
theorem dX5_bare_0 : decode cX5_bare 0 = .ok (.iconst 0, 1) := by decide +kernel
theorem dX5_bare_1 : decode cX5_bare 1 = .ok (.istore 5, 2) := by decide +kernel
theorem dX5_bare_3 : decode cX5_bare 3 = .ok (.iconst 0, 1) := by decide +kernel
theorem dX5_bare_4 : decode cX5_bare 4 = .ok (.istore 6, 2) := by decide +kernel
theorem dX5_bare_6 : decode cX5_bare 6 = .ok (.iload 6, 2) := by decide +kernel
theorem dX5_bare_8 : decode cX5_bare 8 = .ok (.iload_n 3, 1) := by decide +kernel
theorem dX5_bare_9 : decode cX5_bare 9 = .ok (.if_icmp .ge 60, 3) := by decide +kernel
theorem dX5_bare_12 : decode cX5_bare 12 = .ok (.aload_n 1, 1) := by decide +kernel
theorem dX5_bare_13 : decode cX5_bare 13 = .ok (.iload_n 2, 1) := by decide +kernel
theorem dX5_bare_14 : decode cX5_bare 14 = .ok (.iload 6, 2) := by decide +kernel
theorem dX5_bare_16 : decode cX5_bare 16 = .ok (.iadd, 1) := by decide +kernel
theorem dX5_bare_17 : decode cX5_bare 17 = .ok (.iaload, 1) := by decide +kernel
theorem dX5_bare_18 : decode cX5_bare 18 = .ok (.bipush 15, 2) := by decide +kernel
theorem dX5_bare_20 : decode cX5_bare 20 = .ok (.if_icmp .ne 18, 3) := by decide +kernel
theorem dX5_bare_23 : decode cX5_bare 23 = .ok (.aload_n 1, 1) := by decide +kernel
theorem dX5_bare_24 : decode cX5_bare 24 = .ok (.iload_n 2, 1) := by decide +kernel
theorem dX5_bare_25 : decode cX5_bare 25 = .ok (.iload 6, 2) := by decide +kernel
theorem dX5_bare_27 : decode cX5_bare 27 = .ok (.iload_n 3, 1) := by decide +kernel
theorem dX5_bare_28 : decode cX5_bare 28 = .ok (.invokestatic 163, 3) := by decide +kernel
theorem dX5_bare_31 : decode cX5_bare 31 = .ok (.ifCond .eq 7, 3) := by decide +kernel
theorem dX5_bare_34 : decode cX5_bare 34 = .ok (.iconst 1, 1) := by decide +kernel
theorem dX5_bare_35 : decode cX5_bare 35 = .ok (.goto 4, 3) := by decide +kernel
theorem dX5_bare_38 : decode cX5_bare 38 = .ok (.iconst 0, 1) := by decide +kernel
theorem dX5_bare_39 : decode cX5_bare 39 = .ok (.istore 7, 2) := by decide +kernel
theorem dX5_bare_41 : decode cX5_bare 41 = .ok (.iload 7, 2) := by decide +kernel
theorem dX5_bare_43 : decode cX5_bare 43 = .ok (.ifCond .eq 6, 3) := by decide +kernel
theorem dX5_bare_46 : decode cX5_bare 46 = .ok (.goto 17, 3) := by decide +kernel
theorem dX5_bare_49 : decode cX5_bare 49 = .ok (.aload 4, 2) := by decide +kernel
theorem dX5_bare_51 : decode cX5_bare 51 = .ok (.iload 5, 2) := by decide +kernel
theorem dX5_bare_53 : decode cX5_bare 53 = .ok (.aload_n 0, 1) := by decide +kernel
theorem dX5_bare_54 : decode cX5_bare 54 = .ok (.iload_n 2, 1) := by decide +kernel
theorem dX5_bare_55 : decode cX5_bare 55 = .ok (.iload 6, 2) := by decide +kernel
theorem dX5_bare_57 : decode cX5_bare 57 = .ok (.iadd, 1) := by decide +kernel
theorem dX5_bare_58 : decode cX5_bare 58 = .ok (.iaload, 1) := by decide +kernel
theorem dX5_bare_59 : decode cX5_bare 59 = .ok (.iastore, 1) := by decide +kernel
theorem dX5_bare_60 : decode cX5_bare 60 = .ok (.iinc 5 1, 3) := by decide +kernel
theorem dX5_bare_63 : decode cX5_bare 63 = .ok (.iinc 6 1, 3) := by decide +kernel
theorem dX5_bare_66 : decode cX5_bare 66 = .ok (.goto (-60), 3) := by decide +kernel
theorem dX5_bare_69 : decode cX5_bare 69 = .ok (.iload 5, 2) := by decide +kernel
theorem dX5_bare_71 : decode cX5_bare 71 = .ok (.ireturn, 1) := by decide +kernel
theorem dX5_isIdle_0 : decode cX5_isIdle 0 = .ok (.iconst 0, 1) := by decide +kernel
theorem dX5_isIdle_1 : decode cX5_isIdle 1 = .ok (.istore 4, 2) := by decide +kernel
theorem dX5_isIdle_3 : decode cX5_isIdle 3 = .ok (.iconst 0, 1) := by decide +kernel
theorem dX5_isIdle_4 : decode cX5_isIdle 4 = .ok (.istore 5, 2) := by decide +kernel
theorem dX5_isIdle_6 : decode cX5_isIdle 6 = .ok (.iconst 0, 1) := by decide +kernel
theorem dX5_isIdle_7 : decode cX5_isIdle 7 = .ok (.istore 6, 2) := by decide +kernel
theorem dX5_isIdle_9 : decode cX5_isIdle 9 = .ok (.iload 6, 2) := by decide +kernel
theorem dX5_isIdle_11 : decode cX5_isIdle 11 = .ok (.iload_n 3, 1) := by decide +kernel
theorem dX5_isIdle_12 : decode cX5_isIdle 12 = .ok (.if_icmp .ge 100, 3) := by decide +kernel
theorem dX5_isIdle_15 : decode cX5_isIdle 15 = .ok (.aload_n 0, 1) := by decide +kernel
theorem dX5_isIdle_16 : decode cX5_isIdle 16 = .ok (.iload_n 1, 1) := by decide +kernel
theorem dX5_isIdle_17 : decode cX5_isIdle 17 = .ok (.iload 6, 2) := by decide +kernel
theorem dX5_isIdle_19 : decode cX5_isIdle 19 = .ok (.iadd, 1) := by decide +kernel
theorem dX5_isIdle_20 : decode cX5_isIdle 20 = .ok (.iaload, 1) := by decide +kernel
theorem dX5_isIdle_21 : decode cX5_isIdle 21 = .ok (.istore 7, 2) := by decide +kernel
theorem dX5_isIdle_23 : decode cX5_isIdle 23 = .ok (.iload 4, 2) := by decide +kernel
theorem dX5_isIdle_25 : decode cX5_isIdle 25 = .ok (.ifCond .ne 36, 3) := by decide +kernel
theorem dX5_isIdle_28 : decode cX5_isIdle 28 = .ok (.iload 6, 2) := by decide +kernel
theorem dX5_isIdle_30 : decode cX5_isIdle 30 = .ok (.iload_n 2, 1) := by decide +kernel
theorem dX5_isIdle_31 : decode cX5_isIdle 31 = .ok (.if_icmp .le 34, 3) := by decide +kernel
theorem dX5_isIdle_34 : decode cX5_isIdle 34 = .ok (.iload 7, 2) := by decide +kernel
theorem dX5_isIdle_36 : decode cX5_isIdle 36 = .ok (.iconst 5, 1) := by decide +kernel
theorem dX5_isIdle_37 : decode cX5_isIdle 37 = .ok (.if_icmp .le 10, 3) := by decide +kernel
theorem dX5_isIdle_40 : decode cX5_isIdle 40 = .ok (.iload 7, 2) := by decide +kernel
theorem dX5_isIdle_42 : decode cX5_isIdle 42 = .ok (.bipush 13, 2) := by decide +kernel
theorem dX5_isIdle_44 : decode cX5_isIdle 44 = .ok (.if_icmp .lt 17, 3) := by decide +kernel
theorem dX5_isIdle_47 : decode cX5_isIdle 47 = .ok (.iload 7, 2) := by decide +kernel
theorem dX5_isIdle_49 : decode cX5_isIdle 49 = .ok (.bipush 16, 2) := by decide +kernel
theorem dX5_isIdle_51 : decode cX5_isIdle 51 = .ok (.if_icmp .eq 10, 3) := by decide +kernel
theorem dX5_isIdle_54 : decode cX5_isIdle 54 = .ok (.iload 7, 2) := by decide +kernel
theorem dX5_isIdle_56 : decode cX5_isIdle 56 = .ok (.bipush 17, 2) := by decide +kernel
theorem dX5_isIdle_58 : decode cX5_isIdle 58 = .ok (.if_icmp .ne 7, 3) := by decide +kernel
theorem dX5_isIdle_61 : decode cX5_isIdle 61 = .ok (.iconst 1, 1) := by decide +kernel
theorem dX5_isIdle_62 : decode cX5_isIdle 62 = .ok (.goto 4, 3) := by decide +kernel
theorem dX5_isIdle_65 : decode cX5_isIdle 65 = .ok (.iconst 0, 1) := by decide +kernel
theorem dX5_isIdle_66 : decode cX5_isIdle 66 = .ok (.istore 4, 2) := by decide +kernel
theorem dX5_isIdle_68 : decode cX5_isIdle 68 = .ok (.iload 5, 2) := by decide +kernel
theorem dX5_isIdle_70 : decode cX5_isIdle 70 = .ok (.ifCond .ne 29, 3) := by decide +kernel
theorem dX5_isIdle_73 : decode cX5_isIdle 73 = .ok (.iload 6, 2) := by decide +kernel
theorem dX5_isIdle_75 : decode cX5_isIdle 75 = .ok (.iload_n 2, 1) := by decide +kernel
theorem dX5_isIdle_76 : decode cX5_isIdle 76 = .ok (.if_icmp .ge 10, 3) := by decide +kernel
theorem dX5_isIdle_79 : decode cX5_isIdle 79 = .ok (.iload 7, 2) := by decide +kernel
theorem dX5_isIdle_81 : decode cX5_isIdle 81 = .ok (.bipush 17, 2) := by decide +kernel
theorem dX5_isIdle_83 : decode cX5_isIdle 83 = .ok (.if_icmp .eq 16, 3) := by decide +kernel
theorem dX5_isIdle_86 : decode cX5_isIdle 86 = .ok (.iload 6, 2) := by decide +kernel
theorem dX5_isIdle_88 : decode cX5_isIdle 88 = .ok (.iload_n 2, 1) := by decide +kernel
theorem dX5_isIdle_89 : decode cX5_isIdle 89 = .ok (.if_icmp .le 14, 3) := by decide +kernel
theorem dX5_isIdle_92 : decode cX5_isIdle 92 = .ok (.iload 7, 2) := by decide +kernel
theorem dX5_isIdle_94 : decode cX5_isIdle 94 = .ok (.bipush 16, 2) := by decide +kernel
theorem dX5_isIdle_96 : decode cX5_isIdle 96 = .ok (.if_icmp .ne 7, 3) := by decide +kernel
theorem dX5_isIdle_99 : decode cX5_isIdle 99 = .ok (.iconst 1, 1) := by decide +kernel
theorem dX5_isIdle_100 : decode cX5_isIdle 100 = .ok (.goto 4, 3) := by decide +kernel
theorem dX5_isIdle_103 : decode cX5_isIdle 103 = .ok (.iconst 0, 1) := by decide +kernel
theorem dX5_isIdle_104 : decode cX5_isIdle 104 = .ok (.istore 5, 2) := by decide +kernel
theorem dX5_isIdle_106 : decode cX5_isIdle 106 = .ok (.iinc 6 1, 3) := by decide +kernel
theorem dX5_isIdle_109 : decode cX5_isIdle 109 = .ok (.goto (-100), 3) := by decide +kernel
theorem dX5_isIdle_112 : decode cX5_isIdle 112 = .ok (.iload 4, 2) := by decide +kernel
theorem dX5_isIdle_114 : decode cX5_isIdle 114 = .ok (.ifCond .eq 8, 3) := by decide +kernel
theorem dX5_isIdle_117 : decode cX5_isIdle 117 = .ok (.iload 5, 2) := by decide +kernel
theorem dX5_isIdle_119 : decode cX5_isIdle 119 = .ok (.ifCond .eq 7, 3) := by decide +kernel
theorem dX5_isIdle_122 : decode cX5_isIdle 122 = .ok (.iconst 1, 1) := by decide +kernel
theorem dX5_isIdle_123 : decode cX5_isIdle 123 = .ok (.goto 4, 3) := by decide +kernel
theorem dX5_isIdle_126 : decode cX5_isIdle 126 = .ok (.iconst 0, 1) := by decide +kernel
theorem dX5_isIdle_127 : decode cX5_isIdle 127 = .ok (.ireturn, 1) := by decide +kernel
set_option maxRecDepth 20000 in
theorem ggX5_same_X5_bare : GoodIn wsX5_same wsX5_bare := goodIn_r _ [14, 15, 16, 13, 17] (by decide +kernel) (by decide +kernel)
set_option maxRecDepth 20000 in
theorem gX5_same_X5_bare : GoodIn wsX5_same (va_wsS RX5 167 yX5_bare wsX5_bare) := goodIn_app (goodIn_of _ (by decide +kernel)) ggX5_same_X5_bare
theorem dX5_same_0 : decode cX5_same 0 = .ok (.aload_n 0, 1) := by decide +kernel
theorem dX5_same_1 : decode cX5_same 1 = .ok (.iconst 0, 1) := by decide +kernel
theorem dX5_same_2 : decode cX5_same 2 = .ok (.putfield 69, 3) := by decide +kernel
theorem dX5_same_5 : decode cX5_same 5 = .ok (.aload_n 0, 1) := by decide +kernel
theorem dX5_same_6 : decode cX5_same 6 = .ok (.getfield 35, 3) := by decide +kernel
theorem dX5_same_9 : decode cX5_same 9 = .ok (.iconst (-1), 1) := by decide +kernel
theorem dX5_same_10 : decode cX5_same 10 = .ok (.if_icmp .eq 15, 3) := by decide +kernel
theorem dX5_same_13 : decode cX5_same 13 = .ok (.iload_n 1, 1) := by decide +kernel
theorem dX5_same_14 : decode cX5_same 14 = .ok (.ifCond .lt 11, 3) := by decide +kernel
theorem dX5_same_17 : decode cX5_same 17 = .ok (.iload_n 1, 1) := by decide +kernel
theorem dX5_same_18 : decode cX5_same 18 = .ok (.aload_n 0, 1) := by decide +kernel
theorem dX5_same_19 : decode cX5_same 19 = .ok (.getfield 136, 3) := by decide +kernel
theorem dX5_same_22 : decode cX5_same 22 = .ok (.if_icmp .lt 5, 3) := by decide +kernel
theorem dX5_same_25 : decode cX5_same 25 = .ok (.iconst 0, 1) := by decide +kernel
theorem dX5_same_26 : decode cX5_same 26 = .ok (.ireturn, 1) := by decide +kernel
theorem dX5_same_27 : decode cX5_same 27 = .ok (.aload_n 0, 1) := by decide +kernel
theorem dX5_same_28 : decode cX5_same 28 = .ok (.getfield 26, 3) := by decide +kernel
theorem dX5_same_31 : decode cX5_same 31 = .ok (.aload_n 0, 1) := by decide +kernel
theorem dX5_same_32 : decode cX5_same 32 = .ok (.getfield 29, 3) := by decide +kernel
theorem dX5_same_35 : decode cX5_same 35 = .ok (.iconst 0, 1) := by decide +kernel
theorem dX5_same_36 : decode cX5_same 36 = .ok (.aload_n 0, 1) := by decide +kernel
theorem dX5_same_37 : decode cX5_same 37 = .ok (.getfield 35, 3) := by decide +kernel
theorem dX5_same_40 : decode cX5_same 40 = .ok (.aload_n 0, 1) := by decide +kernel
theorem dX5_same_41 : decode cX5_same 41 = .ok (.getfield 63, 3) := by decide +kernel
theorem dX5_same_44 : decode cX5_same 44 = .ok (.invokestatic 167, 3) := by decide +kernel
theorem dX5_same_47 : decode cX5_same 47 = .ok (.istore_n 2, 1) := by decide +kernel
theorem dX5_same_48 : decode cX5_same 48 = .ok (.aload_n 0, 1) := by decide +kernel
theorem dX5_same_49 : decode cX5_same 49 = .ok (.getfield 39, 3) := by decide +kernel
theorem dX5_same_52 : decode cX5_same 52 = .ok (.aload_n 0, 1) := by decide +kernel
theorem dX5_same_53 : decode cX5_same 53 = .ok (.getfield 42, 3) := by decide +kernel
theorem dX5_same_56 : decode cX5_same 56 = .ok (.sipush 10200, 3) := by decide +kernel
theorem dX5_same_59 : decode cX5_same 59 = .ok (.iload_n 1, 1) := by decide +kernel
theorem dX5_same_60 : decode cX5_same 60 = .ok (.imul, 1) := by decide +kernel
theorem dX5_same_61 : decode cX5_same 61 = .ok (.aload_n 0, 1) := by decide +kernel
theorem dX5_same_62 : decode cX5_same 62 = .ok (.getfield 45, 3) := by decide +kernel
theorem dX5_same_65 : decode cX5_same 65 = .ok (.iload_n 1, 1) := by decide +kernel
theorem dX5_same_66 : decode cX5_same 66 = .ok (.iaload, 1) := by decide +kernel
theorem dX5_same_67 : decode cX5_same 67 = .ok (.aload_n 0, 1) := by decide +kernel
theorem dX5_same_68 : decode cX5_same 68 = .ok (.getfield 66, 3) := by decide +kernel
theorem dX5_same_71 : decode cX5_same 71 = .ok (.invokestatic 167, 3) := by decide +kernel
theorem dX5_same_74 : decode cX5_same 74 = .ok (.iload_n 2, 1) := by decide +kernel
theorem dX5_same_75 : decode cX5_same 75 = .ok (.if_icmp .eq 5, 3) := by decide +kernel
theorem dX5_same_78 : decode cX5_same 78 = .ok (.iconst 0, 1) := by decide +kernel
theorem dX5_same_79 : decode cX5_same 79 = .ok (.ireturn, 1) := by decide +kernel
theorem dX5_same_80 : decode cX5_same 80 = .ok (.iconst 1, 1) := by decide +kernel
theorem dX5_same_81 : decode cX5_same 81 = .ok (.istore_n 3, 1) := by decide +kernel
theorem dX5_same_82 : decode cX5_same 82 = .ok (.iconst 0, 1) := by decide +kernel
theorem dX5_same_83 : decode cX5_same 83 = .ok (.istore 4, 2) := by decide +kernel
theorem dX5_same_85 : decode cX5_same 85 = .ok (.iload 4, 2) := by decide +kernel
theorem dX5_same_87 : decode cX5_same 87 = .ok (.iload_n 2, 1) := by decide +kernel
theorem dX5_same_88 : decode cX5_same 88 = .ok (.if_icmp .ge 36, 3) := by decide +kernel
theorem dX5_same_91 : decode cX5_same 91 = .ok (.iload_n 3, 1) := by decide +kernel
theorem dX5_same_92 : decode cX5_same 92 = .ok (.ifCond .eq 24, 3) := by decide +kernel
theorem dX5_same_95 : decode cX5_same 95 = .ok (.aload_n 0, 1) := by decide +kernel
theorem dX5_same_96 : decode cX5_same 96 = .ok (.getfield 63, 3) := by decide +kernel
theorem dX5_same_99 : decode cX5_same 99 = .ok (.iload 4, 2) := by decide +kernel
theorem dX5_same_101 : decode cX5_same 101 = .ok (.iaload, 1) := by decide +kernel
theorem dX5_same_102 : decode cX5_same 102 = .ok (.aload_n 0, 1) := by decide +kernel
theorem dX5_same_103 : decode cX5_same 103 = .ok (.getfield 66, 3) := by decide +kernel
theorem dX5_same_106 : decode cX5_same 106 = .ok (.iload 4, 2) := by decide +kernel
theorem dX5_same_108 : decode cX5_same 108 = .ok (.iaload, 1) := by decide +kernel
theorem dX5_same_109 : decode cX5_same 109 = .ok (.if_icmp .ne 7, 3) := by decide +kernel
theorem dX5_same_112 : decode cX5_same 112 = .ok (.iconst 1, 1) := by decide +kernel
theorem dX5_same_113 : decode cX5_same 113 = .ok (.goto 4, 3) := by decide +kernel
theorem dX5_same_116 : decode cX5_same 116 = .ok (.iconst 0, 1) := by decide +kernel
theorem dX5_same_117 : decode cX5_same 117 = .ok (.istore_n 3, 1) := by decide +kernel
theorem dX5_same_118 : decode cX5_same 118 = .ok (.iinc 4 1, 3) := by decide +kernel
theorem dX5_same_121 : decode cX5_same 121 = .ok (.goto (-36), 3) := by decide +kernel
theorem dX5_same_124 : decode cX5_same 124 = .ok (.iload_n 3, 1) := by decide +kernel
theorem dX5_same_125 : decode cX5_same 125 = .ok (.ireturn, 1) := by decide +kernel
set_option maxRecDepth 20000 in
theorem ggX5_insertion_X5_ofSign : GoodIn wsX5_insertion wsX5_ofSign := goodIn_r _ [7, 2, 8, 14, 15, 16, 17, 18, 19, 20, 21, 22, 23, 24, 25, 26, 27, 28, 29, 30, 31, 32, 33, 34, 35, 36, 37] (by decide +kernel) (by decide +kernel)
set_option maxRecDepth 20000 in
theorem gX5_insertion_X5_ofSign : GoodIn wsX5_insertion (wsV RX5 145 RX5 yX5_ofSign wsX5_ofSign) := goodIn_app (goodIn_of _ (by decide +kernel)) ggX5_insertion_X5_ofSign
set_option maxRecDepth 20000 in
theorem ggX5_insertion_X5_ofKind : GoodIn wsX5_insertion wsX5_ofKind := goodIn_r _ [12, 2, 13, 14, 15, 16, 17, 18, 19, 20, 21, 22, 23, 24, 25, 26, 27, 28, 29, 30, 31, 32, 33, 34, 35, 36, 37] (by decide +kernel) (by decide +kernel)
set_option maxRecDepth 20000 in
theorem gX5_insertion_X5_ofKind : GoodIn wsX5_insertion (wsV RX5 142 RX5 yX5_ofKind wsX5_ofKind) := goodIn_app (goodIn_of _ (by decide +kernel)) ggX5_insertion_X5_ofKind
theorem dX5_insertion_0 : decode cX5_insertion 0 = .ok (.aload_n 0, 1) := by decide +kernel
theorem dX5_insertion_1 : decode cX5_insertion 1 = .ok (.iconst 0, 1) := by decide +kernel
theorem dX5_insertion_2 : decode cX5_insertion 2 = .ok (.putfield 69, 3) := by decide +kernel
theorem dX5_insertion_5 : decode cX5_insertion 5 = .ok (.aload_n 0, 1) := by decide +kernel
theorem dX5_insertion_6 : decode cX5_insertion 6 = .ok (.getfield 35, 3) := by decide +kernel
theorem dX5_insertion_9 : decode cX5_insertion 9 = .ok (.iconst (-1), 1) := by decide +kernel
theorem dX5_insertion_10 : decode cX5_insertion 10 = .ok (.if_icmp .eq 13, 3) := by decide +kernel
theorem dX5_insertion_13 : decode cX5_insertion 13 = .ok (.iload_n 1, 1) := by decide +kernel
theorem dX5_insertion_14 : decode cX5_insertion 14 = .ok (.ifCond .lt 9, 3) := by decide +kernel
theorem dX5_insertion_17 : decode cX5_insertion 17 = .ok (.iload_n 1, 1) := by decide +kernel
theorem dX5_insertion_18 : decode cX5_insertion 18 = .ok (.bipush 6, 2) := by decide +kernel
theorem dX5_insertion_20 : decode cX5_insertion 20 = .ok (.if_icmp .le 5, 3) := by decide +kernel
theorem dX5_insertion_23 : decode cX5_insertion 23 = .ok (.iconst (-1), 1) := by decide +kernel
theorem dX5_insertion_24 : decode cX5_insertion 24 = .ok (.ireturn, 1) := by decide +kernel
theorem dX5_insertion_25 : decode cX5_insertion 25 = .ok (.iload_n 1, 1) := by decide +kernel
theorem dX5_insertion_26 : decode cX5_insertion 26 = .ok (.tableswitch 83 0 5 #[38, 45, 52, 59, 65, 71], 38) := by decide +kernel
theorem dX5_insertion_64 : decode cX5_insertion 64 = .ok (.aload_n 0, 1) := by decide +kernel
theorem dX5_insertion_65 : decode cX5_insertion 65 = .ok (.bipush 66, 2) := by decide +kernel
theorem dX5_insertion_67 : decode cX5_insertion 67 = .ok (.invokevirtual 145, 3) := by decide +kernel
theorem dX5_insertion_70 : decode cX5_insertion 70 = .ok (.ireturn, 1) := by decide +kernel
theorem dX5_insertion_71 : decode cX5_insertion 71 = .ok (.aload_n 0, 1) := by decide +kernel
theorem dX5_insertion_72 : decode cX5_insertion 72 = .ok (.bipush 48, 2) := by decide +kernel
theorem dX5_insertion_74 : decode cX5_insertion 74 = .ok (.invokevirtual 145, 3) := by decide +kernel
theorem dX5_insertion_77 : decode cX5_insertion 77 = .ok (.ireturn, 1) := by decide +kernel
theorem dX5_insertion_78 : decode cX5_insertion 78 = .ok (.aload_n 0, 1) := by decide +kernel
theorem dX5_insertion_79 : decode cX5_insertion 79 = .ok (.bipush 47, 2) := by decide +kernel
theorem dX5_insertion_81 : decode cX5_insertion 81 = .ok (.invokevirtual 145, 3) := by decide +kernel
theorem dX5_insertion_84 : decode cX5_insertion 84 = .ok (.ireturn, 1) := by decide +kernel
theorem dX5_insertion_85 : decode cX5_insertion 85 = .ok (.aload_n 0, 1) := by decide +kernel
theorem dX5_insertion_86 : decode cX5_insertion 86 = .ok (.iconst 1, 1) := by decide +kernel
theorem dX5_insertion_87 : decode cX5_insertion 87 = .ok (.invokevirtual 142, 3) := by decide +kernel
theorem dX5_insertion_90 : decode cX5_insertion 90 = .ok (.ireturn, 1) := by decide +kernel
theorem dX5_insertion_91 : decode cX5_insertion 91 = .ok (.aload_n 0, 1) := by decide +kernel
theorem dX5_insertion_92 : decode cX5_insertion 92 = .ok (.iconst 2, 1) := by decide +kernel
theorem dX5_insertion_93 : decode cX5_insertion 93 = .ok (.invokevirtual 142, 3) := by decide +kernel
theorem dX5_insertion_96 : decode cX5_insertion 96 = .ok (.ireturn, 1) := by decide +kernel
theorem dX5_insertion_97 : decode cX5_insertion 97 = .ok (.aload_n 0, 1) := by decide +kernel
theorem dX5_insertion_98 : decode cX5_insertion 98 = .ok (.iconst 3, 1) := by decide +kernel
theorem dX5_insertion_99 : decode cX5_insertion 99 = .ok (.invokevirtual 142, 3) := by decide +kernel
theorem dX5_insertion_102 : decode cX5_insertion 102 = .ok (.aload_n 0, 1) := by decide +kernel
theorem dX5_insertion_103 : decode cX5_insertion 103 = .ok (.iconst 4, 1) := by decide +kernel
theorem dX5_insertion_104 : decode cX5_insertion 104 = .ok (.invokevirtual 142, 3) := by decide +kernel
theorem dX5_insertion_107 : decode cX5_insertion 107 = .ok (.iadd, 1) := by decide +kernel
theorem dX5_insertion_108 : decode cX5_insertion 108 = .ok (.ireturn, 1) := by decide +kernel
theorem dX5_insertion_109 : decode cX5_insertion 109 = .ok (.aload_n 0, 1) := by decide +kernel
theorem dX5_insertion_110 : decode cX5_insertion 110 = .ok (.iconst 5, 1) := by decide +kernel
theorem dX5_insertion_111 : decode cX5_insertion 111 = .ok (.invokevirtual 142, 3) := by decide +kernel
theorem dX5_insertion_114 : decode cX5_insertion 114 = .ok (.ireturn, 1) := by decide +kernel
