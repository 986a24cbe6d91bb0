theorem dX2_init_0 : decode cX2_init 0 = .ok (.aload_n 0, 1) := by decide +kernel
theorem dX2_init_1 : decode cX2_init 1 = .ok (.invokespecial 3, 3) := by decide +kernel
theorem dX2_init_4 : decode cX2_init 4 = .ok (.aload_n 0, 1) := by decide +kernel
theorem dX2_init_5 : decode cX2_init 5 = .ok (.bipush 80, 2) := by decide +kernel
theorem dX2_init_7 : decode cX2_init 7 = .ok (.newarray .int, 2) := by decide +kernel
theorem dX2_init_9 : decode cX2_init 9 = .ok (.putfield 9, 3) := by decide +kernel
theorem dX2_init_12 : decode cX2_init 12 = .ok (.aload_n 0, 1) := by decide +kernel
theorem dX2_init_13 : decode cX2_init 13 = .ok (.bipush 80, 2) := by decide +kernel
theorem dX2_init_15 : decode cX2_init 15 = .ok (.newarray .int, 2) := by decide +kernel
theorem dX2_init_17 : decode cX2_init 17 = .ok (.putfield 15, 3) := by decide +kernel
theorem dX2_init_20 : decode cX2_init 20 = .ok (.aload_n 0, 1) := by decide +kernel
theorem dX2_init_21 : decode cX2_init 21 = .ok (.bipush 80, 2) := by decide +kernel
theorem dX2_init_23 : decode cX2_init 23 = .ok (.newarray .int, 2) := by decide +kernel
theorem dX2_init_25 : decode cX2_init 25 = .ok (.putfield 18, 3) := by decide +kernel
theorem dX2_init_28 : decode cX2_init 28 = .ok (.aload_n 0, 1) := by decide +kernel
theorem dX2_init_29 : decode cX2_init 29 = .ok (.bipush 80, 2) := by decide +kernel
theorem dX2_init_31 : decode cX2_init 31 = .ok (.newarray .int, 2) := by decide +kernel
theorem dX2_init_33 : decode cX2_init 33 = .ok (.putfield 21, 3) := by decide +kernel
theorem dX2_init_36 : decode cX2_init 36 = .ok (.aload_n 0, 1) := by decide +kernel
theorem dX2_init_37 : decode cX2_init 37 = .ok (.bipush 80, 2) := by decide +kernel
theorem dX2_init_39 : decode cX2_init 39 = .ok (.newarray .int, 2) := by decide +kernel
theorem dX2_init_41 : decode cX2_init 41 = .ok (.putfield 24, 3) := by decide +kernel
theorem dX2_init_44 : decode cX2_init 44 = .ok (.aload_n 0, 1) := by decide +kernel
theorem dX2_init_45 : decode cX2_init 45 = .ok (.iconst 0, 1) := by decide +kernel
theorem dX2_init_46 : decode cX2_init 46 = .ok (.putfield 27, 3) := by decide +kernel
theorem dX2_init_49 : decode cX2_init 49 = .ok (.return_, 1) := by decide +kernel
set_option maxRecDepth 20000 in
theorem ggX2_take_X3_signAt : GoodIn wsX2_take wsX3_signAt := goodIn_r _ [6, 7, 8, 9, 5, 10, 11, 12, 13, 14, 15, 16, 17, 18, 19, 20, 21, 22, 23, 24, 25, 26, 27, 28, 29, 30, 31, 32, 33, 34, 35, 36, 37, 38, 39, 40, 41, 42, 43, 44, 45, 46, 47, 48, 49, 50, 51, 52, 53, 54, 55, 56, 57, 58, 59, 60, 61, 62, 63, 64, 65, 66, 67, 68, 69, 70, 71, 72, 73, 74, 75, 76, 77, 78, 79, 80, 81, 82, 83, 84, 85, 86, 87, 88, 89, 90, 91, 92, 93, 94, 95, 96, 97, 98, 99, 100, 101, 102, 103, 104, 130, 131] (by decide +kernel) (by decide +kernel)
set_option maxRecDepth 20000 in
theorem gX2_take_X3_signAt : GoodIn wsX2_take (wsV RX2 36 RX3 yX3_signAt wsX3_signAt) := goodIn_app (goodIn_of _ (by decide +kernel)) ggX2_take_X3_signAt
set_option maxRecDepth 20000 in
theorem ggX2_take_X4_widthOf : GoodIn wsX2_take wsX4_widthOf := goodIn_r _ [106] (by decide +kernel) (by decide +kernel)
set_option maxRecDepth 20000 in
theorem gX2_take_X4_widthOf_n40 : GoodIn wsX2_take (wsX4_widthOf) := ggX2_take_X4_widthOf
set_option maxRecDepth 20000 in
theorem ggX2_take_X3_characterAt : GoodIn wsX2_take wsX3_characterAt := goodIn_r _ [10, 11, 12, 130, 131] (by decide +kernel) (by decide +kernel)
set_option maxRecDepth 20000 in
theorem gX2_take_X3_characterAt : GoodIn wsX2_take (wsV RX2 44 RX3 yX3_characterAt wsX3_characterAt) := goodIn_app (goodIn_of _ (by decide +kernel)) ggX2_take_X3_characterAt
set_option maxRecDepth 20000 in
theorem ggX2_take_X3_closeOf : GoodIn wsX2_take wsX3_closeOf := goodIn_r _ [111, 7, 8, 9, 5, 10, 11, 12, 130, 131] (by decide +kernel) (by decide +kernel)
set_option maxRecDepth 20000 in
theorem gX2_take_X3_closeOf : GoodIn wsX2_take (wsV RX2 47 RX3 yX3_closeOf wsX3_closeOf) := goodIn_app (goodIn_of _ (by decide +kernel)) ggX2_take_X3_closeOf
set_option maxRecDepth 20000 in
theorem ggX2_take_X3_numberBetween : GoodIn wsX2_take wsX3_numberBetween := goodIn_r _ [115, 7, 8, 9, 5, 10, 11, 12, 130, 131] (by decide +kernel) (by decide +kernel)
set_option maxRecDepth 20000 in
theorem gX2_take_X3_numberBetween : GoodIn wsX2_take (wsV RX2 50 RX3 yX3_numberBetween wsX3_numberBetween) := goodIn_app (goodIn_of _ (by decide +kernel)) ggX2_take_X3_numberBetween
set_option maxRecDepth 20000 in
theorem ggX2_take_X2_add : GoodIn wsX2_take wsX2_add := goodIn_r _ [120, 1, 121, 122, 123, 124, 125, 126, 127, 128, 129] (by decide +kernel) (by decide +kernel)
set_option maxRecDepth 20000 in
theorem gX2_take_X2_add : GoodIn wsX2_take (wsV RX2 53 RX2 yX2_add wsX2_add) := goodIn_app (goodIn_of _ (by decide +kernel)) ggX2_take_X2_add
theorem dX2_take_0 : decode cX2_take 0 = .ok (.aload_n 0, 1) := by decide +kernel
theorem dX2_take_1 : decode cX2_take 1 = .ok (.iconst 0, 1) := by decide +kernel
theorem dX2_take_2 : decode cX2_take 2 = .ok (.putfield 27, 3) := by decide +kernel
theorem dX2_take_5 : decode cX2_take 5 = .ok (.iconst 0, 1) := by decide +kernel
theorem dX2_take_6 : decode cX2_take 6 = .ok (.istore_n 3, 1) := by decide +kernel
theorem dX2_take_7 : decode cX2_take 7 = .ok (.iconst 0, 1) := by decide +kernel
theorem dX2_take_8 : decode cX2_take 8 = .ok (.istore 4, 2) := by decide +kernel
theorem dX2_take_10 : decode cX2_take 10 = .ok (.iload 4, 2) := by decide +kernel
theorem dX2_take_12 : decode cX2_take 12 = .ok (.bipush 80, 2) := by decide +kernel
theorem dX2_take_14 : decode cX2_take 14 = .ok (.if_icmp .ge 101, 3) := by decide +kernel
theorem dX2_take_17 : decode cX2_take 17 = .ok (.iload_n 3, 1) := by decide +kernel
theorem dX2_take_18 : decode cX2_take 18 = .ok (.aload_n 1, 1) := by decide +kernel
theorem dX2_take_19 : decode cX2_take 19 = .ok (.getfield 31, 3) := by decide +kernel
theorem dX2_take_22 : decode cX2_take 22 = .ok (.if_icmp .ge 93, 3) := by decide +kernel
theorem dX2_take_25 : decode cX2_take 25 = .ok (.aload_n 1, 1) := by decide +kernel
theorem dX2_take_26 : decode cX2_take 26 = .ok (.iload_n 3, 1) := by decide +kernel
theorem dX2_take_27 : decode cX2_take 27 = .ok (.iload_n 2, 1) := by decide +kernel
theorem dX2_take_28 : decode cX2_take 28 = .ok (.invokevirtual 36, 3) := by decide +kernel
theorem dX2_take_31 : decode cX2_take 31 = .ok (.istore 5, 2) := by decide +kernel
theorem dX2_take_33 : decode cX2_take 33 = .ok (.iload 5, 2) := by decide +kernel
theorem dX2_take_35 : decode cX2_take 35 = .ok (.iconst (-1), 1) := by decide +kernel
theorem dX2_take_36 : decode cX2_take 36 = .ok (.if_icmp .ne 5, 3) := by decide +kernel
theorem dX2_take_39 : decode cX2_take 39 = .ok (.iload_n 3, 1) := by decide +kernel
theorem dX2_take_40 : decode cX2_take 40 = .ok (.ireturn, 1) := by decide +kernel
theorem dX2_take_41 : decode cX2_take 41 = .ok (.iload_n 3, 1) := by decide +kernel
theorem dX2_take_42 : decode cX2_take 42 = .ok (.iload 5, 2) := by decide +kernel
theorem dX2_take_44 : decode cX2_take 44 = .ok (.invokestatic 40, 3) := by decide +kernel
theorem dX2_take_47 : decode cX2_take 47 = .ok (.iadd, 1) := by decide +kernel
theorem dX2_take_48 : decode cX2_take 48 = .ok (.istore 6, 2) := by decide +kernel
theorem dX2_take_50 : decode cX2_take 50 = .ok (.iconst 1, 1) := by decide +kernel
theorem dX2_take_51 : decode cX2_take 51 = .ok (.istore 7, 2) := by decide +kernel
theorem dX2_take_53 : decode cX2_take 53 = .ok (.aload_n 1, 1) := by decide +kernel
theorem dX2_take_54 : decode cX2_take 54 = .ok (.iload 6, 2) := by decide +kernel
theorem dX2_take_56 : decode cX2_take 56 = .ok (.invokevirtual 44, 3) := by decide +kernel
theorem dX2_take_59 : decode cX2_take 59 = .ok (.bipush 40, 2) := by decide +kernel
theorem dX2_take_61 : decode cX2_take 61 = .ok (.if_icmp .ne 36, 3) := by decide +kernel
theorem dX2_take_64 : decode cX2_take 64 = .ok (.aload_n 1, 1) := by decide +kernel
theorem dX2_take_65 : decode cX2_take 65 = .ok (.iload 6, 2) := by decide +kernel
theorem dX2_take_67 : decode cX2_take 67 = .ok (.invokevirtual 47, 3) := by decide +kernel
theorem dX2_take_70 : decode cX2_take 70 = .ok (.istore 8, 2) := by decide +kernel
theorem dX2_take_72 : decode cX2_take 72 = .ok (.aload_n 1, 1) := by decide +kernel
theorem dX2_take_73 : decode cX2_take 73 = .ok (.iload 6, 2) := by decide +kernel
theorem dX2_take_75 : decode cX2_take 75 = .ok (.iload 8, 2) := by decide +kernel
theorem dX2_take_77 : decode cX2_take 77 = .ok (.invokevirtual 50, 3) := by decide +kernel
theorem dX2_take_80 : decode cX2_take 80 = .ok (.istore 7, 2) := by decide +kernel
theorem dX2_take_82 : decode cX2_take 82 = .ok (.iload 7, 2) := by decide +kernel
theorem dX2_take_84 : decode cX2_take 84 = .ok (.iconst 1, 1) := by decide +kernel
theorem dX2_take_85 : decode cX2_take 85 = .ok (.if_icmp .ge 6, 3) := by decide +kernel
theorem dX2_take_88 : decode cX2_take 88 = .ok (.iload 6, 2) := by decide +kernel
theorem dX2_take_90 : decode cX2_take 90 = .ok (.ireturn, 1) := by decide +kernel
theorem dX2_take_91 : decode cX2_take 91 = .ok (.iload 8, 2) := by decide +kernel
theorem dX2_take_93 : decode cX2_take 93 = .ok (.iconst 1, 1) := by decide +kernel
theorem dX2_take_94 : decode cX2_take 94 = .ok (.iadd, 1) := by decide +kernel
theorem dX2_take_95 : decode cX2_take 95 = .ok (.istore 6, 2) := by decide +kernel
theorem dX2_take_97 : decode cX2_take 97 = .ok (.aload_n 0, 1) := by decide +kernel
theorem dX2_take_98 : decode cX2_take 98 = .ok (.iload 5, 2) := by decide +kernel
theorem dX2_take_100 : decode cX2_take 100 = .ok (.iload 7, 2) := by decide +kernel
theorem dX2_take_102 : decode cX2_take 102 = .ok (.iload_n 3, 1) := by decide +kernel
theorem dX2_take_103 : decode cX2_take 103 = .ok (.invokevirtual 53, 3) := by decide +kernel
theorem dX2_take_106 : decode cX2_take 106 = .ok (.iload 6, 2) := by decide +kernel
theorem dX2_take_108 : decode cX2_take 108 = .ok (.istore_n 3, 1) := by decide +kernel
theorem dX2_take_109 : decode cX2_take 109 = .ok (.iinc 4 1, 3) := by decide +kernel
theorem dX2_take_112 : decode cX2_take 112 = .ok (.goto (-102), 3) := by decide +kernel
theorem dX2_take_115 : decode cX2_take 115 = .ok (.iconst (-1), 1) := by decide +kernel
theorem dX2_take_116 : decode cX2_take 116 = .ok (.ireturn, 1) := by decide +kernel
theorem dX2_add_0 : decode cX2_add 0 = .ok (.aload_n 0, 1) := by decide +kernel
theorem dX2_add_1 : decode cX2_add 1 = .ok (.getfield 27, 3) := by decide +kernel
theorem dX2_add_4 : decode cX2_add 4 = .ok (.ifCond .lt 12, 3) := by decide +kernel
theorem dX2_add_7 : decode cX2_add 7 = .ok (.aload_n 0, 1) := by decide +kernel
theorem dX2_add_8 : decode cX2_add 8 = .ok (.getfield 27, 3) := by decide +kernel
theorem dX2_add_11 : decode cX2_add 11 = .ok (.bipush 80, 2) := by decide +kernel
theorem dX2_add_13 : decode cX2_add 13 = .ok (.if_icmp .lt 4, 3) := by decide +kernel
theorem dX2_add_16 : decode cX2_add 16 = .ok (.return_, 1) := by decide +kernel
theorem dX2_add_17 : decode cX2_add 17 = .ok (.aload_n 0, 1) := by decide +kernel
theorem dX2_add_18 : decode cX2_add 18 = .ok (.getfield 9, 3) := by decide +kernel
theorem dX2_add_21 : decode cX2_add 21 = .ok (.aload_n 0, 1) := by decide +kernel
theorem dX2_add_22 : decode cX2_add 22 = .ok (.getfield 27, 3) := by decide +kernel
theorem dX2_add_25 : decode cX2_add 25 = .ok (.iload_n 1, 1) := by decide +kernel
theorem dX2_add_26 : decode cX2_add 26 = .ok (.iastore, 1) := by decide +kernel
theorem dX2_add_27 : decode cX2_add 27 = .ok (.aload_n 0, 1) := by decide +kernel
theorem dX2_add_28 : decode cX2_add 28 = .ok (.getfield 15, 3) := by decide +kernel
theorem dX2_add_31 : decode cX2_add 31 = .ok (.aload_n 0, 1) := by decide +kernel
theorem dX2_add_32 : decode cX2_add 32 = .ok (.getfield 27, 3) := by decide +kernel
theorem dX2_add_35 : decode cX2_add 35 = .ok (.iload_n 2, 1) := by decide +kernel
theorem dX2_add_36 : decode cX2_add 36 = .ok (.iastore, 1) := by decide +kernel
theorem dX2_add_37 : decode cX2_add 37 = .ok (.aload_n 0, 1) := by decide +kernel
theorem dX2_add_38 : decode cX2_add 38 = .ok (.getfield 18, 3) := by decide +kernel
theorem dX2_add_41 : decode cX2_add 41 = .ok (.aload_n 0, 1) := by decide +kernel
theorem dX2_add_42 : decode cX2_add 42 = .ok (.getfield 27, 3) := by decide +kernel
theorem dX2_add_45 : decode cX2_add 45 = .ok (.iload_n 3, 1) := by decide +kernel
theorem dX2_add_46 : decode cX2_add 46 = .ok (.iastore, 1) := by decide +kernel
theorem dX2_add_47 : decode cX2_add 47 = .ok (.aload_n 0, 1) := by decide +kernel
theorem dX2_add_48 : decode cX2_add 48 = .ok (.dup, 1) := by decide +kernel
theorem dX2_add_49 : decode cX2_add 49 = .ok (.getfield 27, 3) := by decide +kernel
theorem dX2_add_52 : decode cX2_add 52 = .ok (.iconst 1, 1) := by decide +kernel
theorem dX2_add_53 : decode cX2_add 53 = .ok (.iadd, 1) := by decide +kernel
theorem dX2_add_54 : decode cX2_add 54 = .ok (.putfield 27, 3) := by decide +kernel
theorem dX2_add_57 : decode cX2_add 57 = .ok (.return_, 1) := by decide +kernel
set_option maxRecDepth 20000 in
theorem ggX2_findKinds_X2_countOf : GoodIn wsX2_findKinds wsX2_countOf := goodIn_r _ [8, 1, 2, 9, 15, 16, 17, 18, 19, 20] (by decide +kernel) (by decide +kernel)
set_option maxRecDepth 20000 in
theorem gX2_findKinds_X2_countOf : GoodIn wsX2_findKinds (wsV RX2 57 RX2 yX2_countOf wsX2_countOf) := goodIn_app (goodIn_of _ (by decide +kernel)) ggX2_findKinds_X2_countOf
set_option maxRecDepth 20000 in
theorem ggX2_findKinds_X2_kindOf : GoodIn wsX2_findKinds wsX2_kindOf := goodIn_r _ [12, 13, 14] (by decide +kernel) (by decide +kernel)
set_option maxRecDepth 20000 in
theorem gX2_findKinds_X2_kindOf : GoodIn wsX2_findKinds (va_wsS RX2 60 yX2_kindOf wsX2_kindOf) := goodIn_app (goodIn_of _ (by decide +kernel)) ggX2_findKinds_X2_kindOf
theorem dX2_findKinds_0 : decode cX2_findKinds 0 = .ok (.aload_n 0, 1) := by decide +kernel
theorem dX2_findKinds_1 : decode cX2_findKinds 1 = .ok (.bipush 43, 2) := by decide +kernel
theorem dX2_findKinds_3 : decode cX2_findKinds 3 = .ok (.invokevirtual 57, 3) := by decide +kernel
theorem dX2_findKinds_6 : decode cX2_findKinds 6 = .ok (.iconst 1, 1) := by decide +kernel
theorem dX2_findKinds_7 : decode cX2_findKinds 7 = .ok (.if_icmp .ne 7, 3) := by decide +kernel
theorem dX2_findKinds_10 : decode cX2_findKinds 10 = .ok (.iconst 1, 1) := by decide +kernel
theorem dX2_findKinds_11 : decode cX2_findKinds 11 = .ok (.goto 4, 3) := by decide +kernel
theorem dX2_findKinds_14 : decode cX2_findKinds 14 = .ok (.iconst 0, 1) := by decide +kernel
theorem dX2_findKinds_15 : decode cX2_findKinds 15 = .ok (.istore_n 1, 1) := by decide +kernel
theorem dX2_findKinds_16 : decode cX2_findKinds 16 = .ok (.aload_n 0, 1) := by decide +kernel
theorem dX2_findKinds_17 : decode cX2_findKinds 17 = .ok (.bipush 45, 2) := by decide +kernel
theorem dX2_findKinds_19 : decode cX2_findKinds 19 = .ok (.invokevirtual 57, 3) := by decide +kernel
theorem dX2_findKinds_22 : decode cX2_findKinds 22 = .ok (.iconst 1, 1) := by decide +kernel
theorem dX2_findKinds_23 : decode cX2_findKinds 23 = .ok (.if_icmp .ne 7, 3) := by decide +kernel
theorem dX2_findKinds_26 : decode cX2_findKinds 26 = .ok (.iconst 1, 1) := by decide +kernel
theorem dX2_findKinds_27 : decode cX2_findKinds 27 = .ok (.goto 4, 3) := by decide +kernel
theorem dX2_findKinds_30 : decode cX2_findKinds 30 = .ok (.iconst 0, 1) := by decide +kernel
theorem dX2_findKinds_31 : decode cX2_findKinds 31 = .ok (.istore_n 2, 1) := by decide +kernel
theorem dX2_findKinds_32 : decode cX2_findKinds 32 = .ok (.aload_n 0, 1) := by decide +kernel
theorem dX2_findKinds_33 : decode cX2_findKinds 33 = .ok (.bipush 36, 2) := by decide +kernel
theorem dX2_findKinds_35 : decode cX2_findKinds 35 = .ok (.invokevirtual 57, 3) := by decide +kernel
theorem dX2_findKinds_38 : decode cX2_findKinds 38 = .ok (.iconst 1, 1) := by decide +kernel
theorem dX2_findKinds_39 : decode cX2_findKinds 39 = .ok (.if_icmp .ne 7, 3) := by decide +kernel
theorem dX2_findKinds_42 : decode cX2_findKinds 42 = .ok (.iconst 1, 1) := by decide +kernel
theorem dX2_findKinds_43 : decode cX2_findKinds 43 = .ok (.goto 4, 3) := by decide +kernel
theorem dX2_findKinds_46 : decode cX2_findKinds 46 = .ok (.iconst 0, 1) := by decide +kernel
theorem dX2_findKinds_47 : decode cX2_findKinds 47 = .ok (.istore_n 3, 1) := by decide +kernel
theorem dX2_findKinds_48 : decode cX2_findKinds 48 = .ok (.iconst 0, 1) := by decide +kernel
theorem dX2_findKinds_49 : decode cX2_findKinds 49 = .ok (.istore 4, 2) := by decide +kernel
theorem dX2_findKinds_51 : decode cX2_findKinds 51 = .ok (.iconst 0, 1) := by decide +kernel
theorem dX2_findKinds_52 : decode cX2_findKinds 52 = .ok (.istore 5, 2) := by decide +kernel
theorem dX2_findKinds_54 : decode cX2_findKinds 54 = .ok (.iload 5, 2) := by decide +kernel
theorem dX2_findKinds_56 : decode cX2_findKinds 56 = .ok (.aload_n 0, 1) := by decide +kernel
theorem dX2_findKinds_57 : decode cX2_findKinds 57 = .ok (.getfield 27, 3) := by decide +kernel
theorem dX2_findKinds_60 : decode cX2_findKinds 60 = .ok (.if_icmp .ge 80, 3) := by decide +kernel
theorem dX2_findKinds_63 : decode cX2_findKinds 63 = .ok (.iload 5, 2) := by decide +kernel
theorem dX2_findKinds_65 : decode cX2_findKinds 65 = .ok (.bipush 80, 2) := by decide +kernel
theorem dX2_findKinds_67 : decode cX2_findKinds 67 = .ok (.if_icmp .ge 73, 3) := by decide +kernel
theorem dX2_findKinds_70 : decode cX2_findKinds 70 = .ok (.aload_n 0, 1) := by decide +kernel
theorem dX2_findKinds_71 : decode cX2_findKinds 71 = .ok (.getfield 9, 3) := by decide +kernel
theorem dX2_findKinds_74 : decode cX2_findKinds 74 = .ok (.iload 5, 2) := by decide +kernel
theorem dX2_findKinds_76 : decode cX2_findKinds 76 = .ok (.iaload, 1) := by decide +kernel
theorem dX2_findKinds_77 : decode cX2_findKinds 77 = .ok (.istore 6, 2) := by decide +kernel
theorem dX2_findKinds_79 : decode cX2_findKinds 79 = .ok (.iload 6, 2) := by decide +kernel
theorem dX2_findKinds_81 : decode cX2_findKinds 81 = .ok (.bipush 43, 2) := by decide +kernel
theorem dX2_findKinds_83 : decode cX2_findKinds 83 = .ok (.if_icmp .ne 7, 3) := by decide +kernel
theorem dX2_findKinds_86 : decode cX2_findKinds 86 = .ok (.iload_n 1, 1) := by decide +kernel
theorem dX2_findKinds_87 : decode cX2_findKinds 87 = .ok (.goto 15, 3) := by decide +kernel
theorem dX2_findKinds_90 : decode cX2_findKinds 90 = .ok (.iload 6, 2) := by decide +kernel
theorem dX2_findKinds_92 : decode cX2_findKinds 92 = .ok (.bipush 45, 2) := by decide +kernel
theorem dX2_findKinds_94 : decode cX2_findKinds 94 = .ok (.if_icmp .ne 7, 3) := by decide +kernel
theorem dX2_findKinds_97 : decode cX2_findKinds 97 = .ok (.iload_n 2, 1) := by decide +kernel
theorem dX2_findKinds_98 : decode cX2_findKinds 98 = .ok (.goto 4, 3) := by decide +kernel
theorem dX2_findKinds_101 : decode cX2_findKinds 101 = .ok (.iload_n 3, 1) := by decide +kernel
theorem dX2_findKinds_102 : decode cX2_findKinds 102 = .ok (.istore 7, 2) := by decide +kernel
theorem dX2_findKinds_104 : decode cX2_findKinds 104 = .ok (.aload_n 0, 1) := by decide +kernel
theorem dX2_findKinds_105 : decode cX2_findKinds 105 = .ok (.getfield 21, 3) := by decide +kernel
theorem dX2_findKinds_108 : decode cX2_findKinds 108 = .ok (.iload 5, 2) := by decide +kernel
theorem dX2_findKinds_110 : decode cX2_findKinds 110 = .ok (.iload 6, 2) := by decide +kernel
theorem dX2_findKinds_112 : decode cX2_findKinds 112 = .ok (.iload 7, 2) := by decide +kernel
theorem dX2_findKinds_114 : decode cX2_findKinds 114 = .ok (.iload 4, 2) := by decide +kernel
theorem dX2_findKinds_116 : decode cX2_findKinds 116 = .ok (.invokestatic 60, 3) := by decide +kernel
theorem dX2_findKinds_119 : decode cX2_findKinds 119 = .ok (.iastore, 1) := by decide +kernel
theorem dX2_findKinds_120 : decode cX2_findKinds 120 = .ok (.iload 4, 2) := by decide +kernel
theorem dX2_findKinds_122 : decode cX2_findKinds 122 = .ok (.iconst 1, 1) := by decide +kernel
theorem dX2_findKinds_123 : decode cX2_findKinds 123 = .ok (.aload_n 0, 1) := by decide +kernel
theorem dX2_findKinds_124 : decode cX2_findKinds 124 = .ok (.getfield 21, 3) := by decide +kernel
theorem dX2_findKinds_127 : decode cX2_findKinds 127 = .ok (.iload 5, 2) := by decide +kernel
theorem dX2_findKinds_129 : decode cX2_findKinds 129 = .ok (.iaload, 1) := by decide +kernel
theorem dX2_findKinds_130 : decode cX2_findKinds 130 = .ok (.ishl, 1) := by decide +kernel
theorem dX2_findKinds_131 : decode cX2_findKinds 131 = .ok (.ior, 1) := by decide +kernel
theorem dX2_findKinds_132 : decode cX2_findKinds 132 = .ok (.istore 4, 2) := by decide +kernel
theorem dX2_findKinds_134 : decode cX2_findKinds 134 = .ok (.iinc 5 1, 3) := by decide +kernel
theorem dX2_findKinds_137 : decode cX2_findKinds 137 = .ok (.goto (-83), 3) := by decide +kernel
theorem dX2_findKinds_140 : decode cX2_findKinds 140 = .ok (.return_, 1) := by decide +kernel
theorem dX2_countOf_0 : decode cX2_countOf 0 = .ok (.iconst 0, 1) := by decide +kernel
theorem dX2_countOf_1 : decode cX2_countOf 1 = .ok (.istore_n 2, 1) := by decide +kernel
theorem dX2_countOf_2 : decode cX2_countOf 2 = .ok (.iconst 0, 1) := by decide +kernel
theorem dX2_countOf_3 : decode cX2_countOf 3 = .ok (.istore_n 3, 1) := by decide +kernel
theorem dX2_countOf_4 : decode cX2_countOf 4 = .ok (.iload_n 3, 1) := by decide +kernel
theorem dX2_countOf_5 : decode cX2_countOf 5 = .ok (.aload_n 0, 1) := by decide +kernel
theorem dX2_countOf_6 : decode cX2_countOf 6 = .ok (.getfield 27, 3) := by decide +kernel
theorem dX2_countOf_9 : decode cX2_countOf 9 = .ok (.if_icmp .ge 34, 3) := by decide +kernel
theorem dX2_countOf_12 : decode cX2_countOf 12 = .ok (.iload_n 3, 1) := by decide +kernel
theorem dX2_countOf_13 : decode cX2_countOf 13 = .ok (.bipush 80, 2) := by decide +kernel
theorem dX2_countOf_15 : decode cX2_countOf 15 = .ok (.if_icmp .ge 28, 3) := by decide +kernel
theorem dX2_countOf_18 : decode cX2_countOf 18 = .ok (.aload_n 0, 1) := by decide +kernel
theorem dX2_countOf_19 : decode cX2_countOf 19 = .ok (.getfield 9, 3) := by decide +kernel
theorem dX2_countOf_22 : decode cX2_countOf 22 = .ok (.iload_n 3, 1) := by decide +kernel
theorem dX2_countOf_23 : decode cX2_countOf 23 = .ok (.iaload, 1) := by decide +kernel
theorem dX2_countOf_24 : decode cX2_countOf 24 = .ok (.iload_n 1, 1) := by decide +kernel
theorem dX2_countOf_25 : decode cX2_countOf 25 = .ok (.if_icmp .ne 12, 3) := by decide +kernel
theorem dX2_countOf_28 : decode cX2_countOf 28 = .ok (.iload_n 2, 1) := by decide +kernel
theorem dX2_countOf_29 : decode cX2_countOf 29 = .ok (.aload_n 0, 1) := by decide +kernel
theorem dX2_countOf_30 : decode cX2_countOf 30 = .ok (.getfield 15, 3) := by decide +kernel
theorem dX2_countOf_33 : decode cX2_countOf 33 = .ok (.iload_n 3, 1) := by decide +kernel
theorem dX2_countOf_34 : decode cX2_countOf 34 = .ok (.iaload, 1) := by decide +kernel
theorem dX2_countOf_35 : decode cX2_countOf 35 = .ok (.iadd, 1) := by decide +kernel
theorem dX2_countOf_36 : decode cX2_countOf 36 = .ok (.istore_n 2, 1) := by decide +kernel
theorem dX2_countOf_37 : decode cX2_countOf 37 = .ok (.iinc 3 1, 3) := by decide +kernel
theorem dX2_countOf_40 : decode cX2_countOf 40 = .ok (.goto (-36), 3) := by decide +kernel
theorem dX2_countOf_43 : decode cX2_countOf 43 = .ok (.iload_n 2, 1) := by decide +kernel
theorem dX2_countOf_44 : decode cX2_countOf 44 = .ok (.ireturn, 1) := by decide +kernel
theorem dX2_kindOf_0 : decode cX2_kindOf 0 = .ok (.iload_n 2, 1) := by decide +kernel
theorem dX2_kindOf_1 : decode cX2_kindOf 1 = .ok (.ldc 64, 2) := by decide +kernel
theorem dX2_kindOf_3 : decode cX2_kindOf 3 = .ok (.iand, 1) := by decide +kernel
theorem dX2_kindOf_4 : decode cX2_kindOf 4 = .ok (.ifCond .ne 7, 3) := by decide +kernel
theorem dX2_kindOf_7 : decode cX2_kindOf 7 = .ok (.iconst 0, 1) := by decide +kernel
theorem dX2_kindOf_8 : decode cX2_kindOf 8 = .ok (.goto 4, 3) := by decide +kernel
theorem dX2_kindOf_11 : decode cX2_kindOf 11 = .ok (.iconst 1, 1) := by decide +kernel
theorem dX2_kindOf_12 : decode cX2_kindOf 12 = .ok (.istore_n 3, 1) := by decide +kernel
theorem dX2_kindOf_13 : decode cX2_kindOf 13 = .ok (.iload_n 0, 1) := by decide +kernel
theorem dX2_kindOf_14 : decode cX2_kindOf 14 = .ok (.tableswitch 307 36 90 #[259, 307, 307, 307, 307, 307, 272, 238, 234, 238, 236, 307, 307, 307, 307, 307, 307, 307, 307, 307, 307, 277, 307, 307, 307, 307, 307, 307, 307, 280, 307, 257, 257, 307, 307, 307, 307, 307, 307, 307, 307, 307, 304, 307, 289, 307, 307, 283, 307, 307, 286, 307, 280, 307, 272], 234) := by decide +kernel
theorem dX2_kindOf_248 : decode cX2_kindOf 248 = .ok (.iconst 1, 1) := by decide +kernel
theorem dX2_kindOf_249 : decode cX2_kindOf 249 = .ok (.ireturn, 1) := by decide +kernel
theorem dX2_kindOf_250 : decode cX2_kindOf 250 = .ok (.iconst 2, 1) := by decide +kernel
theorem dX2_kindOf_251 : decode cX2_kindOf 251 = .ok (.ireturn, 1) := by decide +kernel
theorem dX2_kindOf_252 : decode cX2_kindOf 252 = .ok (.iload_n 1, 1) := by decide +kernel
theorem dX2_kindOf_253 : decode cX2_kindOf 253 = .ok (.ifCond .ne 8, 3) := by decide +kernel
theorem dX2_kindOf_256 : decode cX2_kindOf 256 = .ok (.bipush 8, 2) := by decide +kernel
theorem dX2_kindOf_258 : decode cX2_kindOf 258 = .ok (.iload_n 3, 1) := by decide +kernel
theorem dX2_kindOf_259 : decode cX2_kindOf 259 = .ok (.iadd, 1) := by decide +kernel
theorem dX2_kindOf_260 : decode cX2_kindOf 260 = .ok (.ireturn, 1) := by decide +kernel
theorem dX2_kindOf_261 : decode cX2_kindOf 261 = .ok (.iload_n 2, 1) := by decide +kernel
theorem dX2_kindOf_262 : decode cX2_kindOf 262 = .ok (.ifCond .ne 7, 3) := by decide +kernel
theorem dX2_kindOf_265 : decode cX2_kindOf 265 = .ok (.iconst 3, 1) := by decide +kernel
theorem dX2_kindOf_266 : decode cX2_kindOf 266 = .ok (.goto 4, 3) := by decide +kernel
theorem dX2_kindOf_269 : decode cX2_kindOf 269 = .ok (.iconst 4, 1) := by decide +kernel
theorem dX2_kindOf_270 : decode cX2_kindOf 270 = .ok (.ireturn, 1) := by decide +kernel
theorem dX2_kindOf_271 : decode cX2_kindOf 271 = .ok (.iconst 4, 1) := by decide +kernel
theorem dX2_kindOf_272 : decode cX2_kindOf 272 = .ok (.ireturn, 1) := by decide +kernel
theorem dX2_kindOf_273 : decode cX2_kindOf 273 = .ok (.iload_n 1, 1) := by decide +kernel
theorem dX2_kindOf_274 : decode cX2_kindOf 274 = .ok (.ifCond .eq 7, 3) := by decide +kernel
theorem dX2_kindOf_277 : decode cX2_kindOf 277 = .ok (.iconst 5, 1) := by decide +kernel
theorem dX2_kindOf_278 : decode cX2_kindOf 278 = .ok (.goto 7, 3) := by decide +kernel
theorem dX2_kindOf_281 : decode cX2_kindOf 281 = .ok (.bipush 10, 2) := by decide +kernel
theorem dX2_kindOf_283 : decode cX2_kindOf 283 = .ok (.iload_n 3, 1) := by decide +kernel
theorem dX2_kindOf_284 : decode cX2_kindOf 284 = .ok (.iadd, 1) := by decide +kernel
theorem dX2_kindOf_285 : decode cX2_kindOf 285 = .ok (.ireturn, 1) := by decide +kernel
theorem dX2_kindOf_286 : decode cX2_kindOf 286 = .ok (.bipush 6, 2) := by decide +kernel
theorem dX2_kindOf_288 : decode cX2_kindOf 288 = .ok (.iload_n 3, 1) := by decide +kernel
theorem dX2_kindOf_289 : decode cX2_kindOf 289 = .ok (.iadd, 1) := by decide +kernel
theorem dX2_kindOf_290 : decode cX2_kindOf 290 = .ok (.ireturn, 1) := by decide +kernel
theorem dX2_kindOf_291 : decode cX2_kindOf 291 = .ok (.bipush 12, 2) := by decide +kernel
theorem dX2_kindOf_293 : decode cX2_kindOf 293 = .ok (.ireturn, 1) := by decide +kernel
theorem dX2_kindOf_294 : decode cX2_kindOf 294 = .ok (.bipush 13, 2) := by decide +kernel
theorem dX2_kindOf_296 : decode cX2_kindOf 296 = .ok (.ireturn, 1) := by decide +kernel
theorem dX2_kindOf_297 : decode cX2_kindOf 297 = .ok (.bipush 14, 2) := by decide +kernel
theorem dX2_kindOf_299 : decode cX2_kindOf 299 = .ok (.ireturn, 1) := by decide +kernel
theorem dX2_kindOf_300 : decode cX2_kindOf 300 = .ok (.bipush 15, 2) := by decide +kernel
theorem dX2_kindOf_302 : decode cX2_kindOf 302 = .ok (.ireturn, 1) := by decide +kernel
theorem dX2_kindOf_303 : decode cX2_kindOf 303 = .ok (.iload_n 2, 1) := by decide +kernel
theorem dX2_kindOf_304 : decode cX2_kindOf 304 = .ok (.ldc 65, 2) := by decide +kernel
theorem dX2_kindOf_306 : decode cX2_kindOf 306 = .ok (.iand, 1) := by decide +kernel
theorem dX2_kindOf_307 : decode cX2_kindOf 307 = .ok (.ifCond .ne 8, 3) := by decide +kernel
theorem dX2_kindOf_310 : decode cX2_kindOf 310 = .ok (.bipush 16, 2) := by decide +kernel
theorem dX2_kindOf_312 : decode cX2_kindOf 312 = .ok (.goto 5, 3) := by decide +kernel
theorem dX2_kindOf_315 : decode cX2_kindOf 315 = .ok (.bipush 17, 2) := by decide +kernel
theorem dX2_kindOf_317 : decode cX2_kindOf 317 = .ok (.ireturn, 1) := by decide +kernel
theorem dX2_kindOf_318 : decode cX2_kindOf 318 = .ok (.bipush 18, 2) := by decide +kernel
theorem dX2_kindOf_320 : decode cX2_kindOf 320 = .ok (.ireturn, 1) := by decide +kernel
theorem dX2_kindOf_321 : decode cX2_kindOf 321 = .ok (.iconst 0, 1) := by decide +kernel
theorem dX2_kindOf_322 : decode cX2_kindOf 322 = .ok (.ireturn, 1) := by decide +kernel
set_option maxRecDepth 20000 in
theorem ggX2_findDigits_X4_holds : GoodIn wsX2_findDigits wsX4_holds := goodIn_r _ [9] (by decide +kernel) (by decide +kernel)
set_option maxRecDepth 20000 in
theorem gX2_findDigits_X4_holds_n67 : GoodIn wsX2_findDigits (wsX4_holds) := ggX2_findDigits_X4_holds
set_option maxRecDepth 20000 in
theorem ggX2_findDigits_X2_standsAhead : GoodIn wsX2_findDigits wsX2_standsAhead := goodIn_r _ [14, 5, 15, 16, 17, 18, 19, 20] (by decide +kernel) (by decide +kernel)
set_option maxRecDepth 20000 in
theorem gX2_findDigits_X2_standsAhead : GoodIn wsX2_findDigits (wsV RX2 71 RX2 yX2_standsAhead wsX2_standsAhead) := goodIn_app (goodIn_of _ (by decide +kernel)) ggX2_findDigits_X2_standsAhead
theorem dX2_findDigits_0 : decode cX2_findDigits 0 = .ok (.iconst 0, 1) := by decide +kernel
theorem dX2_findDigits_1 : decode cX2_findDigits 1 = .ok (.istore_n 1, 1) := by decide +kernel
theorem dX2_findDigits_2 : decode cX2_findDigits 2 = .ok (.iload_n 1, 1) := by decide +kernel
theorem dX2_findDigits_3 : decode cX2_findDigits 3 = .ok (.aload_n 0, 1) := by decide +kernel
theorem dX2_findDigits_4 : decode cX2_findDigits 4 = .ok (.getfield 27, 3) := by decide +kernel
theorem dX2_findDigits_7 : decode cX2_findDigits 7 = .ok (.if_icmp .ge 95, 3) := by decide +kernel
theorem dX2_findDigits_10 : decode cX2_findDigits 10 = .ok (.iload_n 1, 1) := by decide +kernel
theorem dX2_findDigits_11 : decode cX2_findDigits 11 = .ok (.bipush 80, 2) := by decide +kernel
theorem dX2_findDigits_13 : decode cX2_findDigits 13 = .ok (.if_icmp .ge 89, 3) := by decide +kernel
theorem dX2_findDigits_16 : decode cX2_findDigits 16 = .ok (.iconst 0, 1) := by decide +kernel
theorem dX2_findDigits_17 : decode cX2_findDigits 17 = .ok (.istore_n 2, 1) := by decide +kernel
theorem dX2_findDigits_18 : decode cX2_findDigits 18 = .ok (.ldc 66, 2) := by decide +kernel
theorem dX2_findDigits_20 : decode cX2_findDigits 20 = .ok (.aload_n 0, 1) := by decide +kernel
theorem dX2_findDigits_21 : decode cX2_findDigits 21 = .ok (.getfield 21, 3) := by decide +kernel
theorem dX2_findDigits_24 : decode cX2_findDigits 24 = .ok (.iload_n 1, 1) := by decide +kernel
theorem dX2_findDigits_25 : decode cX2_findDigits 25 = .ok (.iaload, 1) := by decide +kernel
theorem dX2_findDigits_26 : decode cX2_findDigits 26 = .ok (.invokestatic 67, 3) := by decide +kernel
theorem dX2_findDigits_29 : decode cX2_findDigits 29 = .ok (.ifCond .eq 13, 3) := by decide +kernel
theorem dX2_findDigits_32 : decode cX2_findDigits 32 = .ok (.aload_n 0, 1) := by decide +kernel
theorem dX2_findDigits_33 : decode cX2_findDigits 33 = .ok (.getfield 15, 3) := by decide +kernel
theorem dX2_findDigits_36 : decode cX2_findDigits 36 = .ok (.iload_n 1, 1) := by decide +kernel
theorem dX2_findDigits_37 : decode cX2_findDigits 37 = .ok (.iaload, 1) := by decide +kernel
theorem dX2_findDigits_38 : decode cX2_findDigits 38 = .ok (.istore_n 2, 1) := by decide +kernel
theorem dX2_findDigits_39 : decode cX2_findDigits 39 = .ok (.goto 50, 3) := by decide +kernel
theorem dX2_findDigits_42 : decode cX2_findDigits 42 = .ok (.sipush 3840, 3) := by decide +kernel
theorem dX2_findDigits_45 : decode cX2_findDigits 45 = .ok (.aload_n 0, 1) := by decide +kernel
theorem dX2_findDigits_46 : decode cX2_findDigits 46 = .ok (.getfield 21, 3) := by decide +kernel
theorem dX2_findDigits_49 : decode cX2_findDigits 49 = .ok (.iload_n 1, 1) := by decide +kernel
theorem dX2_findDigits_50 : decode cX2_findDigits 50 = .ok (.iaload, 1) := by decide +kernel
theorem dX2_findDigits_51 : decode cX2_findDigits 51 = .ok (.invokestatic 67, 3) := by decide +kernel
theorem dX2_findDigits_54 : decode cX2_findDigits 54 = .ok (.ifCond .eq 35, 3) := by decide +kernel
theorem dX2_findDigits_57 : decode cX2_findDigits 57 = .ok (.aload_n 0, 1) := by decide +kernel
theorem dX2_findDigits_58 : decode cX2_findDigits 58 = .ok (.aload_n 0, 1) := by decide +kernel
theorem dX2_findDigits_59 : decode cX2_findDigits 59 = .ok (.getfield 9, 3) := by decide +kernel
theorem dX2_findDigits_62 : decode cX2_findDigits 62 = .ok (.iload_n 1, 1) := by decide +kernel
theorem dX2_findDigits_63 : decode cX2_findDigits 63 = .ok (.iaload, 1) := by decide +kernel
theorem dX2_findDigits_64 : decode cX2_findDigits 64 = .ok (.iload_n 1, 1) := by decide +kernel
theorem dX2_findDigits_65 : decode cX2_findDigits 65 = .ok (.invokevirtual 71, 3) := by decide +kernel
theorem dX2_findDigits_68 : decode cX2_findDigits 68 = .ok (.ifCond .eq 12, 3) := by decide +kernel
theorem dX2_findDigits_71 : decode cX2_findDigits 71 = .ok (.aload_n 0, 1) := by decide +kernel
theorem dX2_findDigits_72 : decode cX2_findDigits 72 = .ok (.getfield 15, 3) := by decide +kernel
theorem dX2_findDigits_75 : decode cX2_findDigits 75 = .ok (.iload_n 1, 1) := by decide +kernel
theorem dX2_findDigits_76 : decode cX2_findDigits 76 = .ok (.iaload, 1) := by decide +kernel
theorem dX2_findDigits_77 : decode cX2_findDigits 77 = .ok (.goto 11, 3) := by decide +kernel
theorem dX2_findDigits_80 : decode cX2_findDigits 80 = .ok (.aload_n 0, 1) := by decide +kernel
theorem dX2_findDigits_81 : decode cX2_findDigits 81 = .ok (.getfield 15, 3) := by decide +kernel
theorem dX2_findDigits_84 : decode cX2_findDigits 84 = .ok (.iload_n 1, 1) := by decide +kernel
theorem dX2_findDigits_85 : decode cX2_findDigits 85 = .ok (.iaload, 1) := by decide +kernel
theorem dX2_findDigits_86 : decode cX2_findDigits 86 = .ok (.iconst 1, 1) := by decide +kernel
theorem dX2_findDigits_87 : decode cX2_findDigits 87 = .ok (.isub, 1) := by decide +kernel
theorem dX2_findDigits_88 : decode cX2_findDigits 88 = .ok (.istore_n 2, 1) := by decide +kernel
theorem dX2_findDigits_89 : decode cX2_findDigits 89 = .ok (.aload_n 0, 1) := by decide +kernel
theorem dX2_findDigits_90 : decode cX2_findDigits 90 = .ok (.getfield 24, 3) := by decide +kernel
theorem dX2_findDigits_93 : decode cX2_findDigits 93 = .ok (.iload_n 1, 1) := by decide +kernel
theorem dX2_findDigits_94 : decode cX2_findDigits 94 = .ok (.iload_n 2, 1) := by decide +kernel
theorem dX2_findDigits_95 : decode cX2_findDigits 95 = .ok (.iastore, 1) := by decide +kernel
theorem dX2_findDigits_96 : decode cX2_findDigits 96 = .ok (.iinc 1 1, 3) := by decide +kernel
theorem dX2_findDigits_99 : decode cX2_findDigits 99 = .ok (.goto (-97), 3) := by decide +kernel
theorem dX2_findDigits_102 : decode cX2_findDigits 102 = .ok (.return_, 1) := by decide +kernel
theorem dX2_standsAhead_0 : decode cX2_standsAhead 0 = .ok (.iconst 0, 1) := by decide +kernel
theorem dX2_standsAhead_1 : decode cX2_standsAhead 1 = .ok (.istore_n 3, 1) := by decide +kernel
theorem dX2_standsAhead_2 : decode cX2_standsAhead 2 = .ok (.iload_n 3, 1) := by decide +kernel
theorem dX2_standsAhead_3 : decode cX2_standsAhead 3 = .ok (.iload_n 2, 1) := by decide +kernel
theorem dX2_standsAhead_4 : decode cX2_standsAhead 4 = .ok (.if_icmp .ge 27, 3) := by decide +kernel
theorem dX2_standsAhead_7 : decode cX2_standsAhead 7 = .ok (.iload_n 3, 1) := by decide +kernel
theorem dX2_standsAhead_8 : decode cX2_standsAhead 8 = .ok (.bipush 80, 2) := by decide +kernel
theorem dX2_standsAhead_10 : decode cX2_standsAhead 10 = .ok (.if_icmp .ge 21, 3) := by decide +kernel
theorem dX2_standsAhead_13 : decode cX2_standsAhead 13 = .ok (.aload_n 0, 1) := by decide +kernel
theorem dX2_standsAhead_14 : decode cX2_standsAhead 14 = .ok (.getfield 9, 3) := by decide +kernel
theorem dX2_standsAhead_17 : decode cX2_standsAhead 17 = .ok (.iload_n 3, 1) := by decide +kernel
theorem dX2_standsAhead_18 : decode cX2_standsAhead 18 = .ok (.iaload, 1) := by decide +kernel
theorem dX2_standsAhead_19 : decode cX2_standsAhead 19 = .ok (.iload_n 1, 1) := by decide +kernel
theorem dX2_standsAhead_20 : decode cX2_standsAhead 20 = .ok (.if_icmp .ne 5, 3) := by decide +kernel
theorem dX2_standsAhead_23 : decode cX2_standsAhead 23 = .ok (.iconst 1, 1) := by decide +kernel
theorem dX2_standsAhead_24 : decode cX2_standsAhead 24 = .ok (.ireturn, 1) := by decide +kernel
theorem dX2_standsAhead_25 : decode cX2_standsAhead 25 = .ok (.iinc 3 1, 3) := by decide +kernel
theorem dX2_standsAhead_28 : decode cX2_standsAhead 28 = .ok (.goto (-26), 3) := by decide +kernel
theorem dX2_standsAhead_31 : decode cX2_standsAhead 31 = .ok (.iconst 0, 1) := by decide +kernel
theorem dX2_standsAhead_32 : decode cX2_standsAhead 32 = .ok (.ireturn, 1) := by decide +kernel
set_option maxRecDepth 20000 in
theorem ggX2_firstMisplaced_X4_isKind : GoodIn wsX2_firstMisplaced wsX4_isKind := goodIn_r _ [10] (by decide +kernel) (by decide +kernel)
set_option maxRecDepth 20000 in
theorem gX2_firstMisplaced_X4_isKind_n75 : GoodIn wsX2_firstMisplaced (wsX4_isKind) := ggX2_firstMisplaced_X4_isKind
set_option maxRecDepth 20000 in
theorem ggX2_firstMisplaced_X4_holds : GoodIn wsX2_firstMisplaced wsX4_holds := goodIn_r _ [12] (by decide +kernel) (by decide +kernel)
set_option maxRecDepth 20000 in
theorem gX2_firstMisplaced_X4_holds_n67 : GoodIn wsX2_firstMisplaced (wsX4_holds) := ggX2_firstMisplaced_X4_holds
set_option maxRecDepth 20000 in
theorem ggX2_firstMisplaced_X2_hasRivalAhead : GoodIn wsX2_firstMisplaced wsX2_hasRivalAhead := goodIn_r _ [17, 7, 3, 18, 19, 20, 16, 21, 11, 9, 12, 27, 28, 29, 30, 31, 32] (by decide +kernel) (by decide +kernel)
set_option maxRecDepth 20000 in
theorem gX2_firstMisplaced_X2_hasRivalAhead : GoodIn wsX2_firstMisplaced (wsV RX2 82 RX2 yX2_hasRivalAhead wsX2_hasRivalAhead) := goodIn_app (goodIn_of _ (by decide +kernel)) ggX2_firstMisplaced_X2_hasRivalAhead
set_option maxRecDepth 20000 in
theorem ggX2_firstMisplaced_X4_signsCounted : GoodIn wsX2_firstMisplaced wsX4_signsCounted := goodIn_r _ [23, 24, 25, 9, 26] (by decide +kernel) (by decide +kernel)
set_option maxRecDepth 20000 in
theorem gX2_firstMisplaced_X4_signsCounted_n85 : GoodIn wsX2_firstMisplaced (wsX4_signsCounted) := ggX2_firstMisplaced_X4_signsCounted
theorem dX2_firstMisplaced_0 : decode cX2_firstMisplaced 0 = .ok (.ldc 74, 2) := by decide +kernel
theorem dX2_firstMisplaced_2 : decode cX2_firstMisplaced 2 = .ok (.istore_n 1, 1) := by decide +kernel
theorem dX2_firstMisplaced_3 : decode cX2_firstMisplaced 3 = .ok (.iconst 0, 1) := by decide +kernel
theorem dX2_firstMisplaced_4 : decode cX2_firstMisplaced 4 = .ok (.istore_n 2, 1) := by decide +kernel
theorem dX2_firstMisplaced_5 : decode cX2_firstMisplaced 5 = .ok (.iconst 0, 1) := by decide +kernel
theorem dX2_firstMisplaced_6 : decode cX2_firstMisplaced 6 = .ok (.istore_n 3, 1) := by decide +kernel
theorem dX2_firstMisplaced_7 : decode cX2_firstMisplaced 7 = .ok (.iconst 0, 1) := by decide +kernel
theorem dX2_firstMisplaced_8 : decode cX2_firstMisplaced 8 = .ok (.istore 4, 2) := by decide +kernel
theorem dX2_firstMisplaced_10 : decode cX2_firstMisplaced 10 = .ok (.iload 4, 2) := by decide +kernel
theorem dX2_firstMisplaced_12 : decode cX2_firstMisplaced 12 = .ok (.aload_n 0, 1) := by decide +kernel
theorem dX2_firstMisplaced_13 : decode cX2_firstMisplaced 13 = .ok (.getfield 27, 3) := by decide +kernel
theorem dX2_firstMisplaced_16 : decode cX2_firstMisplaced 16 = .ok (.if_icmp .ge 147, 3) := by decide +kernel
theorem dX2_firstMisplaced_19 : decode cX2_firstMisplaced 19 = .ok (.iload 4, 2) := by decide +kernel
theorem dX2_firstMisplaced_21 : decode cX2_firstMisplaced 21 = .ok (.bipush 80, 2) := by decide +kernel
theorem dX2_firstMisplaced_23 : decode cX2_firstMisplaced 23 = .ok (.if_icmp .ge 140, 3) := by decide +kernel
theorem dX2_firstMisplaced_26 : decode cX2_firstMisplaced 26 = .ok (.aload_n 0, 1) := by decide +kernel
theorem dX2_firstMisplaced_27 : decode cX2_firstMisplaced 27 = .ok (.getfield 21, 3) := by decide +kernel
theorem dX2_firstMisplaced_30 : decode cX2_firstMisplaced 30 = .ok (.iload 4, 2) := by decide +kernel
theorem dX2_firstMisplaced_32 : decode cX2_firstMisplaced 32 = .ok (.iaload, 1) := by decide +kernel
theorem dX2_firstMisplaced_33 : decode cX2_firstMisplaced 33 = .ok (.istore 5, 2) := by decide +kernel
theorem dX2_firstMisplaced_35 : decode cX2_firstMisplaced 35 = .ok (.iload 5, 2) := by decide +kernel
theorem dX2_firstMisplaced_37 : decode cX2_firstMisplaced 37 = .ok (.invokestatic 75, 3) := by decide +kernel
theorem dX2_firstMisplaced_40 : decode cX2_firstMisplaced 40 = .ok (.ifCond .eq 12, 3) := by decide +kernel
theorem dX2_firstMisplaced_43 : decode cX2_firstMisplaced 43 = .ok (.iload_n 1, 1) := by decide +kernel
theorem dX2_firstMisplaced_44 : decode cX2_firstMisplaced 44 = .ok (.iload 5, 2) := by decide +kernel
theorem dX2_firstMisplaced_46 : decode cX2_firstMisplaced 46 = .ok (.invokestatic 67, 3) := by decide +kernel
theorem dX2_firstMisplaced_49 : decode cX2_firstMisplaced 49 = .ok (.ifCond .ne 11, 3) := by decide +kernel
theorem dX2_firstMisplaced_52 : decode cX2_firstMisplaced 52 = .ok (.aload_n 0, 1) := by decide +kernel
theorem dX2_firstMisplaced_53 : decode cX2_firstMisplaced 53 = .ok (.getfield 18, 3) := by decide +kernel
theorem dX2_firstMisplaced_56 : decode cX2_firstMisplaced 56 = .ok (.iload 4, 2) := by decide +kernel
theorem dX2_firstMisplaced_58 : decode cX2_firstMisplaced 58 = .ok (.iaload, 1) := by decide +kernel
theorem dX2_firstMisplaced_59 : decode cX2_firstMisplaced 59 = .ok (.ireturn, 1) := by decide +kernel
theorem dX2_firstMisplaced_60 : decode cX2_firstMisplaced 60 = .ok (.iload_n 1, 1) := by decide +kernel
theorem dX2_firstMisplaced_61 : decode cX2_firstMisplaced 61 = .ok (.getstatic 79, 3) := by decide +kernel
theorem dX2_firstMisplaced_64 : decode cX2_firstMisplaced 64 = .ok (.iload 5, 2) := by decide +kernel
theorem dX2_firstMisplaced_66 : decode cX2_firstMisplaced 66 = .ok (.iaload, 1) := by decide +kernel
theorem dX2_firstMisplaced_67 : decode cX2_firstMisplaced 67 = .ok (.iand, 1) := by decide +kernel
theorem dX2_firstMisplaced_68 : decode cX2_firstMisplaced 68 = .ok (.istore_n 1, 1) := by decide +kernel
theorem dX2_firstMisplaced_69 : decode cX2_firstMisplaced 69 = .ok (.aload_n 0, 1) := by decide +kernel
theorem dX2_firstMisplaced_70 : decode cX2_firstMisplaced 70 = .ok (.getfield 15, 3) := by decide +kernel
theorem dX2_firstMisplaced_73 : decode cX2_firstMisplaced 73 = .ok (.iload 4, 2) := by decide +kernel
theorem dX2_firstMisplaced_75 : decode cX2_firstMisplaced 75 = .ok (.iaload, 1) := by decide +kernel
theorem dX2_firstMisplaced_76 : decode cX2_firstMisplaced 76 = .ok (.iconst 1, 1) := by decide +kernel
theorem dX2_firstMisplaced_77 : decode cX2_firstMisplaced 77 = .ok (.if_icmp .le 12, 3) := by decide +kernel
theorem dX2_firstMisplaced_80 : decode cX2_firstMisplaced 80 = .ok (.iload_n 1, 1) := by decide +kernel
theorem dX2_firstMisplaced_81 : decode cX2_firstMisplaced 81 = .ok (.iload 5, 2) := by decide +kernel
theorem dX2_firstMisplaced_83 : decode cX2_firstMisplaced 83 = .ok (.invokestatic 67, 3) := by decide +kernel
theorem dX2_firstMisplaced_86 : decode cX2_firstMisplaced 86 = .ok (.ifCond .eq 12, 3) := by decide +kernel
theorem dX2_firstMisplaced_89 : decode cX2_firstMisplaced 89 = .ok (.aload_n 0, 1) := by decide +kernel
theorem dX2_firstMisplaced_90 : decode cX2_firstMisplaced 90 = .ok (.iload 4, 2) := by decide +kernel
theorem dX2_firstMisplaced_92 : decode cX2_firstMisplaced 92 = .ok (.invokevirtual 82, 3) := by decide +kernel
theorem dX2_firstMisplaced_95 : decode cX2_firstMisplaced 95 = .ok (.ifCond .eq 11, 3) := by decide +kernel
theorem dX2_firstMisplaced_98 : decode cX2_firstMisplaced 98 = .ok (.aload_n 0, 1) := by decide +kernel
theorem dX2_firstMisplaced_99 : decode cX2_firstMisplaced 99 = .ok (.getfield 18, 3) := by decide +kernel
theorem dX2_firstMisplaced_102 : decode cX2_firstMisplaced 102 = .ok (.iload 4, 2) := by decide +kernel
theorem dX2_firstMisplaced_104 : decode cX2_firstMisplaced 104 = .ok (.iaload, 1) := by decide +kernel
theorem dX2_firstMisplaced_105 : decode cX2_firstMisplaced 105 = .ok (.ireturn, 1) := by decide +kernel
theorem dX2_firstMisplaced_106 : decode cX2_firstMisplaced 106 = .ok (.iload_n 2, 1) := by decide +kernel
theorem dX2_firstMisplaced_107 : decode cX2_firstMisplaced 107 = .ok (.aload_n 0, 1) := by decide +kernel
theorem dX2_firstMisplaced_108 : decode cX2_firstMisplaced 108 = .ok (.getfield 24, 3) := by decide +kernel
theorem dX2_firstMisplaced_111 : decode cX2_firstMisplaced 111 = .ok (.iload 4, 2) := by decide +kernel
theorem dX2_firstMisplaced_113 : decode cX2_firstMisplaced 113 = .ok (.iaload, 1) := by decide +kernel
theorem dX2_firstMisplaced_114 : decode cX2_firstMisplaced 114 = .ok (.iadd, 1) := by decide +kernel
theorem dX2_firstMisplaced_115 : decode cX2_firstMisplaced 115 = .ok (.istore_n 2, 1) := by decide +kernel
theorem dX2_firstMisplaced_116 : decode cX2_firstMisplaced 116 = .ok (.iload_n 3, 1) := by decide +kernel
theorem dX2_firstMisplaced_117 : decode cX2_firstMisplaced 117 = .ok (.aload_n 0, 1) := by decide +kernel
theorem dX2_firstMisplaced_118 : decode cX2_firstMisplaced 118 = .ok (.getfield 9, 3) := by decide +kernel
theorem dX2_firstMisplaced_121 : decode cX2_firstMisplaced 121 = .ok (.iload 4, 2) := by decide +kernel
theorem dX2_firstMisplaced_123 : decode cX2_firstMisplaced 123 = .ok (.iaload, 1) := by decide +kernel
theorem dX2_firstMisplaced_124 : decode cX2_firstMisplaced 124 = .ok (.aload_n 0, 1) := by decide +kernel
theorem dX2_firstMisplaced_125 : decode cX2_firstMisplaced 125 = .ok (.getfield 15, 3) := by decide +kernel
theorem dX2_firstMisplaced_128 : decode cX2_firstMisplaced 128 = .ok (.iload 4, 2) := by decide +kernel
theorem dX2_firstMisplaced_130 : decode cX2_firstMisplaced 130 = .ok (.iaload, 1) := by decide +kernel
theorem dX2_firstMisplaced_131 : decode cX2_firstMisplaced 131 = .ok (.invokestatic 85, 3) := by decide +kernel
theorem dX2_firstMisplaced_134 : decode cX2_firstMisplaced 134 = .ok (.iadd, 1) := by decide +kernel
theorem dX2_firstMisplaced_135 : decode cX2_firstMisplaced 135 = .ok (.istore_n 3, 1) := by decide +kernel
theorem dX2_firstMisplaced_136 : decode cX2_firstMisplaced 136 = .ok (.iload_n 2, 1) := by decide +kernel
theorem dX2_firstMisplaced_137 : decode cX2_firstMisplaced 137 = .ok (.bipush 31, 2) := by decide +kernel
theorem dX2_firstMisplaced_139 : decode cX2_firstMisplaced 139 = .ok (.if_icmp .gt 10, 3) := by decide +kernel
theorem dX2_firstMisplaced_142 : decode cX2_firstMisplaced 142 = .ok (.iload_n 3, 1) := by decide +kernel
theorem dX2_firstMisplaced_143 : decode cX2_firstMisplaced 143 = .ok (.sipush 9999, 3) := by decide +kernel
theorem dX2_firstMisplaced_146 : decode cX2_firstMisplaced 146 = .ok (.if_icmp .le 11, 3) := by decide +kernel
theorem dX2_firstMisplaced_149 : decode cX2_firstMisplaced 149 = .ok (.aload_n 0, 1) := by decide +kernel
theorem dX2_firstMisplaced_150 : decode cX2_firstMisplaced 150 = .ok (.getfield 18, 3) := by decide +kernel
theorem dX2_firstMisplaced_153 : decode cX2_firstMisplaced 153 = .ok (.iload 4, 2) := by decide +kernel
theorem dX2_firstMisplaced_155 : decode cX2_firstMisplaced 155 = .ok (.iaload, 1) := by decide +kernel
theorem dX2_firstMisplaced_156 : decode cX2_firstMisplaced 156 = .ok (.ireturn, 1) := by decide +kernel
theorem dX2_firstMisplaced_157 : decode cX2_firstMisplaced 157 = .ok (.iinc 4 1, 3) := by decide +kernel
theorem dX2_firstMisplaced_160 : decode cX2_firstMisplaced 160 = .ok (.goto (-150), 3) := by decide +kernel
theorem dX2_firstMisplaced_163 : decode cX2_firstMisplaced 163 = .ok (.iconst (-1), 1) := by decide +kernel
theorem dX2_firstMisplaced_164 : decode cX2_firstMisplaced 164 = .ok (.ireturn, 1) := by decide +kernel
set_option maxRecDepth 20000 in
theorem ggX2_hasRivalAhead_X2_standsAhead : GoodIn wsX2_hasRivalAhead wsX2_standsAhead := goodIn_r _ [7, 1, 11, 12, 13, 14, 15, 16] (by decide +kernel) (by decide +kernel)
set_option maxRecDepth 20000 in
theorem gX2_hasRivalAhead_X2_standsAhead : GoodIn wsX2_hasRivalAhead (wsV RX2 71 RX2 yX2_standsAhead wsX2_standsAhead) := goodIn_app (goodIn_of _ (by decide +kernel)) ggX2_hasRivalAhead_X2_standsAhead
set_option maxRecDepth 20000 in
theorem ggX2_hasRivalAhead_X4_holds : GoodIn wsX2_hasRivalAhead wsX4_holds := goodIn_r _ [10] (by decide +kernel) (by decide +kernel)
set_option maxRecDepth 20000 in
theorem gX2_hasRivalAhead_X4_holds_n67 : GoodIn wsX2_hasRivalAhead (wsX4_holds) := ggX2_hasRivalAhead_X4_holds
theorem dX2_hasRivalAhead_0 : decode cX2_hasRivalAhead 0 = .ok (.iload_n 1, 1) := by decide +kernel
theorem dX2_hasRivalAhead_1 : decode cX2_hasRivalAhead 1 = .ok (.ifCond .lt 9, 3) := by decide +kernel
theorem dX2_hasRivalAhead_4 : decode cX2_hasRivalAhead 4 = .ok (.iload_n 1, 1) := by decide +kernel
theorem dX2_hasRivalAhead_5 : decode cX2_hasRivalAhead 5 = .ok (.bipush 80, 2) := by decide +kernel
theorem dX2_hasRivalAhead_7 : decode cX2_hasRivalAhead 7 = .ok (.if_icmp .lt 5, 3) := by decide +kernel
theorem dX2_hasRivalAhead_10 : decode cX2_hasRivalAhead 10 = .ok (.iconst 0, 1) := by decide +kernel
theorem dX2_hasRivalAhead_11 : decode cX2_hasRivalAhead 11 = .ok (.ireturn, 1) := by decide +kernel
theorem dX2_hasRivalAhead_12 : decode cX2_hasRivalAhead 12 = .ok (.aload_n 0, 1) := by decide +kernel
theorem dX2_hasRivalAhead_13 : decode cX2_hasRivalAhead 13 = .ok (.getfield 9, 3) := by decide +kernel
theorem dX2_hasRivalAhead_16 : decode cX2_hasRivalAhead 16 = .ok (.iload_n 1, 1) := by decide +kernel
theorem dX2_hasRivalAhead_17 : decode cX2_hasRivalAhead 17 = .ok (.iaload, 1) := by decide +kernel
theorem dX2_hasRivalAhead_18 : decode cX2_hasRivalAhead 18 = .ok (.lookupswitch 120 #[(42, 50), (43, 58), (45, 89), (90, 42)], 42) := by decide +kernel
theorem dX2_hasRivalAhead_60 : decode cX2_hasRivalAhead 60 = .ok (.aload_n 0, 1) := by decide +kernel
theorem dX2_hasRivalAhead_61 : decode cX2_hasRivalAhead 61 = .ok (.bipush 42, 2) := by decide +kernel
theorem dX2_hasRivalAhead_63 : decode cX2_hasRivalAhead 63 = .ok (.iload_n 1, 1) := by decide +kernel
theorem dX2_hasRivalAhead_64 : decode cX2_hasRivalAhead 64 = .ok (.invokevirtual 71, 3) := by decide +kernel
theorem dX2_hasRivalAhead_67 : decode cX2_hasRivalAhead 67 = .ok (.ireturn, 1) := by decide +kernel
theorem dX2_hasRivalAhead_68 : decode cX2_hasRivalAhead 68 = .ok (.aload_n 0, 1) := by decide +kernel
theorem dX2_hasRivalAhead_69 : decode cX2_hasRivalAhead 69 = .ok (.bipush 90, 2) := by decide +kernel
theorem dX2_hasRivalAhead_71 : decode cX2_hasRivalAhead 71 = .ok (.iload_n 1, 1) := by decide +kernel
theorem dX2_hasRivalAhead_72 : decode cX2_hasRivalAhead 72 = .ok (.invokevirtual 71, 3) := by decide +kernel
theorem dX2_hasRivalAhead_75 : decode cX2_hasRivalAhead 75 = .ok (.ireturn, 1) := by decide +kernel
theorem dX2_hasRivalAhead_76 : decode cX2_hasRivalAhead 76 = .ok (.sipush 3840, 3) := by decide +kernel
theorem dX2_hasRivalAhead_79 : decode cX2_hasRivalAhead 79 = .ok (.aload_n 0, 1) := by decide +kernel
theorem dX2_hasRivalAhead_80 : decode cX2_hasRivalAhead 80 = .ok (.getfield 21, 3) := by decide +kernel
theorem dX2_hasRivalAhead_83 : decode cX2_hasRivalAhead 83 = .ok (.iload_n 1, 1) := by decide +kernel
theorem dX2_hasRivalAhead_84 : decode cX2_hasRivalAhead 84 = .ok (.iaload, 1) := by decide +kernel
theorem dX2_hasRivalAhead_85 : decode cX2_hasRivalAhead 85 = .ok (.invokestatic 67, 3) := by decide +kernel
theorem dX2_hasRivalAhead_88 : decode cX2_hasRivalAhead 88 = .ok (.ifCond .eq 17, 3) := by decide +kernel
theorem dX2_hasRivalAhead_91 : decode cX2_hasRivalAhead 91 = .ok (.aload_n 0, 1) := by decide +kernel
theorem dX2_hasRivalAhead_92 : decode cX2_hasRivalAhead 92 = .ok (.bipush 45, 2) := by decide +kernel
theorem dX2_hasRivalAhead_94 : decode cX2_hasRivalAhead 94 = .ok (.iload_n 1, 1) := by decide +kernel
theorem dX2_hasRivalAhead_95 : decode cX2_hasRivalAhead 95 = .ok (.invokevirtual 71, 3) := by decide +kernel
theorem dX2_hasRivalAhead_98 : decode cX2_hasRivalAhead 98 = .ok (.ifCond .eq 7, 3) := by decide +kernel
theorem dX2_hasRivalAhead_101 : decode cX2_hasRivalAhead 101 = .ok (.iconst 1, 1) := by decide +kernel
theorem dX2_hasRivalAhead_102 : decode cX2_hasRivalAhead 102 = .ok (.goto 4, 3) := by decide +kernel
theorem dX2_hasRivalAhead_105 : decode cX2_hasRivalAhead 105 = .ok (.iconst 0, 1) := by decide +kernel
theorem dX2_hasRivalAhead_106 : decode cX2_hasRivalAhead 106 = .ok (.ireturn, 1) := by decide +kernel
theorem dX2_hasRivalAhead_107 : decode cX2_hasRivalAhead 107 = .ok (.sipush 3840, 3) := by decide +kernel
theorem dX2_hasRivalAhead_110 : decode cX2_hasRivalAhead 110 = .ok (.aload_n 0, 1) := by decide +kernel
theorem dX2_hasRivalAhead_111 : decode cX2_hasRivalAhead 111 = .ok (.getfield 21, 3) := by decide +kernel
theorem dX2_hasRivalAhead_114 : decode cX2_hasRivalAhead 114 = .ok (.iload_n 1, 1) := by decide +kernel
theorem dX2_hasRivalAhead_115 : decode cX2_hasRivalAhead 115 = .ok (.iaload, 1) := by decide +kernel
theorem dX2_hasRivalAhead_116 : decode cX2_hasRivalAhead 116 = .ok (.invokestatic 67, 3) := by decide +kernel
theorem dX2_hasRivalAhead_119 : decode cX2_hasRivalAhead 119 = .ok (.ifCond .eq 17, 3) := by decide +kernel
theorem dX2_hasRivalAhead_122 : decode cX2_hasRivalAhead 122 = .ok (.aload_n 0, 1) := by decide +kernel
theorem dX2_hasRivalAhead_123 : decode cX2_hasRivalAhead 123 = .ok (.bipush 43, 2) := by decide +kernel
theorem dX2_hasRivalAhead_125 : decode cX2_hasRivalAhead 125 = .ok (.iload_n 1, 1) := by decide +kernel
theorem dX2_hasRivalAhead_126 : decode cX2_hasRivalAhead 126 = .ok (.invokevirtual 71, 3) := by decide +kernel
theorem dX2_hasRivalAhead_129 : decode cX2_hasRivalAhead 129 = .ok (.ifCond .eq 7, 3) := by decide +kernel
theorem dX2_hasRivalAhead_132 : decode cX2_hasRivalAhead 132 = .ok (.iconst 1, 1) := by decide +kernel
theorem dX2_hasRivalAhead_133 : decode cX2_hasRivalAhead 133 = .ok (.goto 4, 3) := by decide +kernel
theorem dX2_hasRivalAhead_136 : decode cX2_hasRivalAhead 136 = .ok (.iconst 0, 1) := by decide +kernel
theorem dX2_hasRivalAhead_137 : decode cX2_hasRivalAhead 137 = .ok (.ireturn, 1) := by decide +kernel
theorem dX2_hasRivalAhead_138 : decode cX2_hasRivalAhead 138 = .ok (.iconst 0, 1) := by decide +kernel
theorem dX2_hasRivalAhead_139 : decode cX2_hasRivalAhead 139 = .ok (.ireturn, 1) := by decide +kernel
theorem dX2_kindsPresent_0 : decode cX2_kindsPresent 0 = .ok (.iconst 0, 1) := by decide +kernel
theorem dX2_kindsPresent_1 : decode cX2_kindsPresent 1 = .ok (.istore_n 1, 1) := by decide +kernel
theorem dX2_kindsPresent_2 : decode cX2_kindsPresent 2 = .ok (.iconst 0, 1) := by decide +kernel
theorem dX2_kindsPresent_3 : decode cX2_kindsPresent 3 = .ok (.istore_n 2, 1) := by decide +kernel
theorem dX2_kindsPresent_4 : decode cX2_kindsPresent 4 = .ok (.iload_n 2, 1) := by decide +kernel
theorem dX2_kindsPresent_5 : decode cX2_kindsPresent 5 = .ok (.aload_n 0, 1) := by decide +kernel
theorem dX2_kindsPresent_6 : decode cX2_kindsPresent 6 = .ok (.getfield 27, 3) := by decide +kernel
theorem dX2_kindsPresent_9 : decode cX2_kindsPresent 9 = .ok (.if_icmp .ge 26, 3) := by decide +kernel
theorem dX2_kindsPresent_12 : decode cX2_kindsPresent 12 = .ok (.iload_n 2, 1) := by decide +kernel
theorem dX2_kindsPresent_13 : decode cX2_kindsPresent 13 = .ok (.bipush 80, 2) := by decide +kernel
theorem dX2_kindsPresent_15 : decode cX2_kindsPresent 15 = .ok (.if_icmp .ge 20, 3) := by decide +kernel
theorem dX2_kindsPresent_18 : decode cX2_kindsPresent 18 = .ok (.iload_n 1, 1) := by decide +kernel
theorem dX2_kindsPresent_19 : decode cX2_kindsPresent 19 = .ok (.iconst 1, 1) := by decide +kernel
theorem dX2_kindsPresent_20 : decode cX2_kindsPresent 20 = .ok (.aload_n 0, 1) := by decide +kernel
theorem dX2_kindsPresent_21 : decode cX2_kindsPresent 21 = .ok (.getfield 21, 3) := by decide +kernel
theorem dX2_kindsPresent_24 : decode cX2_kindsPresent 24 = .ok (.iload_n 2, 1) := by decide +kernel
theorem dX2_kindsPresent_25 : decode cX2_kindsPresent 25 = .ok (.iaload, 1) := by decide +kernel
theorem dX2_kindsPresent_26 : decode cX2_kindsPresent 26 = .ok (.ishl, 1) := by decide +kernel
theorem dX2_kindsPresent_27 : decode cX2_kindsPresent 27 = .ok (.ior, 1) := by decide +kernel
theorem dX2_kindsPresent_28 : decode cX2_kindsPresent 28 = .ok (.istore_n 1, 1) := by decide +kernel
theorem dX2_kindsPresent_29 : decode cX2_kindsPresent 29 = .ok (.iinc 2 1, 3) := by decide +kernel
theorem dX2_kindsPresent_32 : decode cX2_kindsPresent 32 = .ok (.goto (-28), 3) := by decide +kernel
theorem dX2_kindsPresent_35 : decode cX2_kindsPresent 35 = .ok (.iload_n 1, 1) := by decide +kernel
theorem dX2_kindsPresent_36 : decode cX2_kindsPresent 36 = .ok (.ireturn, 1) := by decide +kernel
set_option maxRecDepth 20000 in
theorem ggX2_pointRun_X4_holds : GoodIn wsX2_pointRun wsX4_holds := goodIn_r _ [6] (by decide +kernel) (by decide +kernel)
set_option maxRecDepth 20000 in
theorem gX2_pointRun_X4_holds_n67 : GoodIn wsX2_pointRun (wsX4_holds) := ggX2_pointRun_X4_holds
theorem dX2_pointRun_0 : decode cX2_pointRun 0 = .ok (.iconst 0, 1) := by decide +kernel
theorem dX2_pointRun_1 : decode cX2_pointRun 1 = .ok (.istore_n 1, 1) := by decide +kernel
theorem dX2_pointRun_2 : decode cX2_pointRun 2 = .ok (.iload_n 1, 1) := by decide +kernel
theorem dX2_pointRun_3 : decode cX2_pointRun 3 = .ok (.aload_n 0, 1) := by decide +kernel
theorem dX2_pointRun_4 : decode cX2_pointRun 4 = .ok (.getfield 27, 3) := by decide +kernel
theorem dX2_pointRun_7 : decode cX2_pointRun 7 = .ok (.if_icmp .ge 31, 3) := by decide +kernel
theorem dX2_pointRun_10 : decode cX2_pointRun 10 = .ok (.iload_n 1, 1) := by decide +kernel
theorem dX2_pointRun_11 : decode cX2_pointRun 11 = .ok (.bipush 80, 2) := by decide +kernel
theorem dX2_pointRun_13 : decode cX2_pointRun 13 = .ok (.if_icmp .ge 25, 3) := by decide +kernel
theorem dX2_pointRun_16 : decode cX2_pointRun 16 = .ok (.ldc 64, 2) := by decide +kernel
theorem dX2_pointRun_18 : decode cX2_pointRun 18 = .ok (.aload_n 0, 1) := by decide +kernel
theorem dX2_pointRun_19 : decode cX2_pointRun 19 = .ok (.getfield 21, 3) := by decide +kernel
theorem dX2_pointRun_22 : decode cX2_pointRun 22 = .ok (.iload_n 1, 1) := by decide +kernel
theorem dX2_pointRun_23 : decode cX2_pointRun 23 = .ok (.iaload, 1) := by decide +kernel
theorem dX2_pointRun_24 : decode cX2_pointRun 24 = .ok (.invokestatic 67, 3) := by decide +kernel
theorem dX2_pointRun_27 : decode cX2_pointRun 27 = .ok (.ifCond .eq 5, 3) := by decide +kernel
theorem dX2_pointRun_30 : decode cX2_pointRun 30 = .ok (.iload_n 1, 1) := by decide +kernel
theorem dX2_pointRun_31 : decode cX2_pointRun 31 = .ok (.ireturn, 1) := by decide +kernel
theorem dX2_pointRun_32 : decode cX2_pointRun 32 = .ok (.iinc 1 1, 3) := by decide +kernel
theorem dX2_pointRun_35 : decode cX2_pointRun 35 = .ok (.goto (-33), 3) := by decide +kernel
theorem dX2_pointRun_38 : decode cX2_pointRun 38 = .ok (.aload_n 0, 1) := by decide +kernel
theorem dX2_pointRun_39 : decode cX2_pointRun 39 = .ok (.getfield 27, 3) := by decide +kernel
theorem dX2_pointRun_42 : decode cX2_pointRun 42 = .ok (.ireturn, 1) := by decide +kernel
theorem dX2_digitsIn_0 : decode cX2_digitsIn 0 = .ok (.iconst 0, 1) := by decide +kernel
theorem dX2_digitsIn_1 : decode cX2_digitsIn 1 = .ok (.istore_n 3, 1) := by decide +kernel
theorem dX2_digitsIn_2 : decode cX2_digitsIn 2 = .ok (.iload_n 1, 1) := by decide +kernel
theorem dX2_digitsIn_3 : decode cX2_digitsIn 3 = .ok (.iconst 0, 1) := by decide +kernel
theorem dX2_digitsIn_4 : decode cX2_digitsIn 4 = .ok (.invokestatic 88, 3) := by decide +kernel
theorem dX2_digitsIn_7 : decode cX2_digitsIn 7 = .ok (.istore 4, 2) := by decide +kernel
theorem dX2_digitsIn_9 : decode cX2_digitsIn 9 = .ok (.iload 4, 2) := by decide +kernel
theorem dX2_digitsIn_11 : decode cX2_digitsIn 11 = .ok (.iload_n 2, 1) := by decide +kernel
theorem dX2_digitsIn_12 : decode cX2_digitsIn 12 = .ok (.if_icmp .ge 35, 3) := by decide +kernel
theorem dX2_digitsIn_15 : decode cX2_digitsIn 15 = .ok (.iload 4, 2) := by decide +kernel
theorem dX2_digitsIn_17 : decode cX2_digitsIn 17 = .ok (.aload_n 0, 1) := by decide +kernel
theorem dX2_digitsIn_18 : decode cX2_digitsIn 18 = .ok (.getfield 27, 3) := by decide +kernel
theorem dX2_digitsIn_21 : decode cX2_digitsIn 21 = .ok (.if_icmp .ge 26, 3) := by decide +kernel
theorem dX2_digitsIn_24 : decode cX2_digitsIn 24 = .ok (.iload 4, 2) := by decide +kernel
theorem dX2_digitsIn_26 : decode cX2_digitsIn 26 = .ok (.bipush 80, 2) := by decide +kernel
theorem dX2_digitsIn_28 : decode cX2_digitsIn 28 = .ok (.if_icmp .ge 19, 3) := by decide +kernel
theorem dX2_digitsIn_31 : decode cX2_digitsIn 31 = .ok (.iload_n 3, 1) := by decide +kernel
theorem dX2_digitsIn_32 : decode cX2_digitsIn 32 = .ok (.aload_n 0, 1) := by decide +kernel
theorem dX2_digitsIn_33 : decode cX2_digitsIn 33 = .ok (.getfield 24, 3) := by decide +kernel
theorem dX2_digitsIn_36 : decode cX2_digitsIn 36 = .ok (.iload 4, 2) := by decide +kernel
theorem dX2_digitsIn_38 : decode cX2_digitsIn 38 = .ok (.iaload, 1) := by decide +kernel
theorem dX2_digitsIn_39 : decode cX2_digitsIn 39 = .ok (.iadd, 1) := by decide +kernel
theorem dX2_digitsIn_40 : decode cX2_digitsIn 40 = .ok (.istore_n 3, 1) := by decide +kernel
theorem dX2_digitsIn_41 : decode cX2_digitsIn 41 = .ok (.iinc 4 1, 3) := by decide +kernel
theorem dX2_digitsIn_44 : decode cX2_digitsIn 44 = .ok (.goto (-35), 3) := by decide +kernel
theorem dX2_digitsIn_47 : decode cX2_digitsIn 47 = .ok (.iload_n 3, 1) := by decide +kernel
theorem dX2_digitsIn_48 : decode cX2_digitsIn 48 = .ok (.ireturn, 1) := by decide +kernel
set_option maxRecDepth 20000 in
theorem ggX2_allSignsCounted_X4_signsCounted : GoodIn wsX2_allSignsCounted wsX4_signsCounted := goodIn_r _ [6, 7, 8, 5, 9] (by decide +kernel) (by decide +kernel)
set_option maxRecDepth 20000 in
theorem gX2_allSignsCounted_X4_signsCounted_n85 : GoodIn wsX2_allSignsCounted (wsX4_signsCounted) := ggX2_allSignsCounted_X4_signsCounted
theorem dX2_allSignsCounted_0 : decode cX2_allSignsCounted 0 = .ok (.iconst 0, 1) := by decide +kernel
theorem dX2_allSignsCounted_1 : decode cX2_allSignsCounted 1 = .ok (.istore_n 1, 1) := by decide +kernel
theorem dX2_allSignsCounted_2 : decode cX2_allSignsCounted 2 = .ok (.iconst 0, 1) := by decide +kernel
theorem dX2_allSignsCounted_3 : decode cX2_allSignsCounted 3 = .ok (.istore_n 2, 1) := by decide +kernel
theorem dX2_allSignsCounted_4 : decode cX2_allSignsCounted 4 = .ok (.iload_n 2, 1) := by decide +kernel
theorem dX2_allSignsCounted_5 : decode cX2_allSignsCounted 5 = .ok (.aload_n 0, 1) := by decide +kernel
theorem dX2_allSignsCounted_6 : decode cX2_allSignsCounted 6 = .ok (.getfield 27, 3) := by decide +kernel
theorem dX2_allSignsCounted_9 : decode cX2_allSignsCounted 9 = .ok (.if_icmp .ge 33, 3) := by decide +kernel
theorem dX2_allSignsCounted_12 : decode cX2_allSignsCounted 12 = .ok (.iload_n 2, 1) := by decide +kernel
theorem dX2_allSignsCounted_13 : decode cX2_allSignsCounted 13 = .ok (.bipush 80, 2) := by decide +kernel
theorem dX2_allSignsCounted_15 : decode cX2_allSignsCounted 15 = .ok (.if_icmp .ge 27, 3) := by decide +kernel
theorem dX2_allSignsCounted_18 : decode cX2_allSignsCounted 18 = .ok (.iload_n 1, 1) := by decide +kernel
theorem dX2_allSignsCounted_19 : decode cX2_allSignsCounted 19 = .ok (.aload_n 0, 1) := by decide +kernel
theorem dX2_allSignsCounted_20 : decode cX2_allSignsCounted 20 = .ok (.getfield 9, 3) := by decide +kernel
theorem dX2_allSignsCounted_23 : decode cX2_allSignsCounted 23 = .ok (.iload_n 2, 1) := by decide +kernel
theorem dX2_allSignsCounted_24 : decode cX2_allSignsCounted 24 = .ok (.iaload, 1) := by decide +kernel
theorem dX2_allSignsCounted_25 : decode cX2_allSignsCounted 25 = .ok (.aload_n 0, 1) := by decide +kernel
theorem dX2_allSignsCounted_26 : decode cX2_allSignsCounted 26 = .ok (.getfield 15, 3) := by decide +kernel
theorem dX2_allSignsCounted_29 : decode cX2_allSignsCounted 29 = .ok (.iload_n 2, 1) := by decide +kernel
theorem dX2_allSignsCounted_30 : decode cX2_allSignsCounted 30 = .ok (.iaload, 1) := by decide +kernel
theorem dX2_allSignsCounted_31 : decode cX2_allSignsCounted 31 = .ok (.invokestatic 85, 3) := by decide +kernel
theorem dX2_allSignsCounted_34 : decode cX2_allSignsCounted 34 = .ok (.iadd, 1) := by decide +kernel
theorem dX2_allSignsCounted_35 : decode cX2_allSignsCounted 35 = .ok (.istore_n 1, 1) := by decide +kernel
theorem dX2_allSignsCounted_36 : decode cX2_allSignsCounted 36 = .ok (.iinc 2 1, 3) := by decide +kernel
theorem dX2_allSignsCounted_39 : decode cX2_allSignsCounted 39 = .ok (.goto (-35), 3) := by decide +kernel
theorem dX2_allSignsCounted_42 : decode cX2_allSignsCounted 42 = .ok (.iload_n 1, 1) := by decide +kernel
theorem dX2_allSignsCounted_43 : decode cX2_allSignsCounted 43 = .ok (.ireturn, 1) := by decide +kernel
set_option maxRecDepth 20000 in
theorem ggX2_categoryOf_X4_holds : GoodIn wsX2_categoryOf wsX4_holds := goodIn_r _ [5] (by decide +kernel) (by decide +kernel)
set_option maxRecDepth 20000 in
theorem gX2_categoryOf_X4_holds_n67 : GoodIn wsX2_categoryOf (wsX4_holds) := ggX2_categoryOf_X4_holds
set_option maxRecDepth 20000 in
theorem ggX2_categoryOf_X2_standsAhead : GoodIn wsX2_categoryOf wsX2_standsAhead := goodIn_r _ [10, 11, 12, 13, 14, 15, 16, 17] (by decide +kernel) (by decide +kernel)
set_option maxRecDepth 20000 in
theorem gX2_categoryOf_X2_standsAhead : GoodIn wsX2_categoryOf (wsV RX2 71 RX2 yX2_standsAhead wsX2_standsAhead) := goodIn_app (goodIn_of _ (by decide +kernel)) ggX2_categoryOf_X2_standsAhead
theorem dX2_categoryOf_0 : decode cX2_categoryOf 0 = .ok (.iload_n 1, 1) := by decide +kernel
theorem dX2_categoryOf_1 : decode cX2_categoryOf 1 = .ok (.bipush 18, 2) := by decide +kernel
theorem dX2_categoryOf_3 : decode cX2_categoryOf 3 = .ok (.invokestatic 67, 3) := by decide +kernel
theorem dX2_categoryOf_6 : decode cX2_categoryOf 6 = .ok (.ifCond .eq 18, 3) := by decide +kernel
theorem dX2_categoryOf_9 : decode cX2_categoryOf 9 = .ok (.iload_n 1, 1) := by decide +kernel
theorem dX2_categoryOf_10 : decode cX2_categoryOf 10 = .ok (.iconst 0, 1) := by decide +kernel
theorem dX2_categoryOf_11 : decode cX2_categoryOf 11 = .ok (.invokestatic 67, 3) := by decide +kernel
theorem dX2_categoryOf_14 : decode cX2_categoryOf 14 = .ok (.ifCond .eq 8, 3) := by decide +kernel
theorem dX2_categoryOf_17 : decode cX2_categoryOf 17 = .ok (.bipush 6, 2) := by decide +kernel
theorem dX2_categoryOf_19 : decode cX2_categoryOf 19 = .ok (.goto 4, 3) := by decide +kernel
theorem dX2_categoryOf_22 : decode cX2_categoryOf 22 = .ok (.iconst 5, 1) := by decide +kernel
theorem dX2_categoryOf_23 : decode cX2_categoryOf 23 = .ok (.ireturn, 1) := by decide +kernel
theorem dX2_categoryOf_24 : decode cX2_categoryOf 24 = .ok (.iload_n 1, 1) := by decide +kernel
theorem dX2_categoryOf_25 : decode cX2_categoryOf 25 = .ok (.bipush 13, 2) := by decide +kernel
theorem dX2_categoryOf_27 : decode cX2_categoryOf 27 = .ok (.invokestatic 67, 3) := by decide +kernel
theorem dX2_categoryOf_30 : decode cX2_categoryOf 30 = .ok (.ifCond .eq 45, 3) := by decide +kernel
theorem dX2_categoryOf_33 : decode cX2_categoryOf 33 = .ok (.iload_n 1, 1) := by decide +kernel
theorem dX2_categoryOf_34 : decode cX2_categoryOf 34 = .ok (.iconst 0, 1) := by decide +kernel
theorem dX2_categoryOf_35 : decode cX2_categoryOf 35 = .ok (.invokestatic 67, 3) := by decide +kernel
theorem dX2_categoryOf_38 : decode cX2_categoryOf 38 = .ok (.ifCond .eq 5, 3) := by decide +kernel
theorem dX2_categoryOf_41 : decode cX2_categoryOf 41 = .ok (.iconst 2, 1) := by decide +kernel
theorem dX2_categoryOf_42 : decode cX2_categoryOf 42 = .ok (.ireturn, 1) := by decide +kernel
theorem dX2_categoryOf_43 : decode cX2_categoryOf 43 = .ok (.aload_n 0, 1) := by decide +kernel
theorem dX2_categoryOf_44 : decode cX2_categoryOf 44 = .ok (.bipush 88, 2) := by decide +kernel
theorem dX2_categoryOf_46 : decode cX2_categoryOf 46 = .ok (.aload_n 0, 1) := by decide +kernel
theorem dX2_categoryOf_47 : decode cX2_categoryOf 47 = .ok (.getfield 27, 3) := by decide +kernel
theorem dX2_categoryOf_50 : decode cX2_categoryOf 50 = .ok (.invokevirtual 71, 3) := by decide +kernel
theorem dX2_categoryOf_53 : decode cX2_categoryOf 53 = .ok (.ifCond .ne 16, 3) := by decide +kernel
theorem dX2_categoryOf_56 : decode cX2_categoryOf 56 = .ok (.aload_n 0, 1) := by decide +kernel
theorem dX2_categoryOf_57 : decode cX2_categoryOf 57 = .ok (.bipush 57, 2) := by decide +kernel
theorem dX2_categoryOf_59 : decode cX2_categoryOf 59 = .ok (.aload_n 0, 1) := by decide +kernel
theorem dX2_categoryOf_60 : decode cX2_categoryOf 60 = .ok (.getfield 27, 3) := by decide +kernel
theorem dX2_categoryOf_63 : decode cX2_categoryOf 63 = .ok (.invokevirtual 71, 3) := by decide +kernel
theorem dX2_categoryOf_66 : decode cX2_categoryOf 66 = .ok (.ifCond .eq 7, 3) := by decide +kernel
theorem dX2_categoryOf_69 : decode cX2_categoryOf 69 = .ok (.iconst 1, 1) := by decide +kernel
theorem dX2_categoryOf_70 : decode cX2_categoryOf 70 = .ok (.goto 4, 3) := by decide +kernel
theorem dX2_categoryOf_73 : decode cX2_categoryOf 73 = .ok (.iconst 0, 1) := by decide +kernel
theorem dX2_categoryOf_74 : decode cX2_categoryOf 74 = .ok (.ireturn, 1) := by decide +kernel
theorem dX2_categoryOf_75 : decode cX2_categoryOf 75 = .ok (.iload_n 1, 1) := by decide +kernel
theorem dX2_categoryOf_76 : decode cX2_categoryOf 76 = .ok (.ldc 93, 2) := by decide +kernel
theorem dX2_categoryOf_78 : decode cX2_categoryOf 78 = .ok (.iand, 1) := by decide +kernel
theorem dX2_categoryOf_79 : decode cX2_categoryOf 79 = .ok (.ifCond .ne 7, 3) := by decide +kernel
theorem dX2_categoryOf_82 : decode cX2_categoryOf 82 = .ok (.iconst 3, 1) := by decide +kernel
theorem dX2_categoryOf_83 : decode cX2_categoryOf 83 = .ok (.goto 4, 3) := by decide +kernel
theorem dX2_categoryOf_86 : decode cX2_categoryOf 86 = .ok (.iconst 4, 1) := by decide +kernel
theorem dX2_categoryOf_87 : decode cX2_categoryOf 87 = .ok (.ireturn, 1) := by decide +kernel
