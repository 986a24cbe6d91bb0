set_option maxRecDepth 20000 in
theorem ggX4_init_X3_init : GoodIn wsX4_init wsX3_init := goodIn_r _ [18, 19, 2, 3, 20, 21, 22, 32, 33] (by decide +kernel) (by decide +kernel)
set_option maxRecDepth 20000 in
theorem gX4_init_X3_init_n11 : GoodIn wsX4_init (wsX3_init) := ggX4_init_X3_init
set_option maxRecDepth 20000 in
theorem ggX4_init_X2_init : GoodIn wsX4_init wsX2_init := goodIn_r _ [24, 25, 2, 3, 20, 26, 27, 28, 29, 30, 31, 40, 41, 42, 43, 44, 45] (by decide +kernel) (by decide +kernel)
set_option maxRecDepth 20000 in
theorem gX4_init_X2_init_n18 : GoodIn wsX4_init (wsX2_init) := ggX4_init_X2_init
theorem dX4_init_0 : decode cX4_init 0 = .ok (.aload_n 0, 1) := by decide +kernel
theorem dX4_init_1 : decode cX4_init 1 = .ok (.invokespecial 3, 3) := by decide +kernel
theorem dX4_init_4 : decode cX4_init 4 = .ok (.aload_n 0, 1) := by decide +kernel
theorem dX4_init_5 : decode cX4_init 5 = .ok (.new 9, 3) := by decide +kernel
theorem dX4_init_8 : decode cX4_init 8 = .ok (.dup, 1) := by decide +kernel
theorem dX4_init_9 : decode cX4_init 9 = .ok (.invokespecial 11, 3) := by decide +kernel
theorem dX4_init_12 : decode cX4_init 12 = .ok (.putfield 12, 3) := by decide +kernel
theorem dX4_init_15 : decode cX4_init 15 = .ok (.aload_n 0, 1) := by decide +kernel
theorem dX4_init_16 : decode cX4_init 16 = .ok (.new 16, 3) := by decide +kernel
theorem dX4_init_19 : decode cX4_init 19 = .ok (.dup, 1) := by decide +kernel
theorem dX4_init_20 : decode cX4_init 20 = .ok (.invokespecial 18, 3) := by decide +kernel
theorem dX4_init_23 : decode cX4_init 23 = .ok (.putfield 19, 3) := by decide +kernel
theorem dX4_init_26 : decode cX4_init 26 = .ok (.aload_n 0, 1) := by decide +kernel
theorem dX4_init_27 : decode cX4_init 27 = .ok (.bipush 40, 2) := by decide +kernel
theorem dX4_init_29 : decode cX4_init 29 = .ok (.anewarray 23, 3) := by decide +kernel
theorem dX4_init_32 : decode cX4_init 32 = .ok (.putfield 25, 3) := by decide +kernel
theorem dX4_init_35 : decode cX4_init 35 = .ok (.aload_n 0, 1) := by decide +kernel
theorem dX4_init_36 : decode cX4_init 36 = .ok (.iconst 0, 1) := by decide +kernel
theorem dX4_init_37 : decode cX4_init 37 = .ok (.putfield 29, 3) := by decide +kernel
theorem dX4_init_40 : decode cX4_init 40 = .ok (.aload_n 0, 1) := by decide +kernel
theorem dX4_init_41 : decode cX4_init 41 = .ok (.aconst_null, 1) := by decide +kernel
theorem dX4_init_42 : decode cX4_init 42 = .ok (.putfield 33, 3) := by decide +kernel
theorem dX4_init_45 : decode cX4_init 45 = .ok (.aload_n 0, 1) := by decide +kernel
theorem dX4_init_46 : decode cX4_init 46 = .ok (.bipush 36, 2) := by decide +kernel
theorem dX4_init_48 : decode cX4_init 48 = .ok (.putfield 37, 3) := by decide +kernel
theorem dX4_init_51 : decode cX4_init 51 = .ok (.return_, 1) := by decide +kernel
set_option maxRecDepth 20000 in
theorem ggX4_sign_X3_append : GoodIn wsX4_sign wsX3_append := goodIn_r _ [6, 7, 8, 15, 16] (by decide +kernel) (by decide +kernel)
set_option maxRecDepth 20000 in
theorem gX4_sign_X3_append : GoodIn wsX4_sign (wsV RX4 40 RX3 yX3_append wsX3_append) := goodIn_app (goodIn_of _ (by decide +kernel)) ggX4_sign_X3_append
theorem dX4_sign_0 : decode cX4_sign 0 = .ok (.aload_n 0, 1) := by decide +kernel
theorem dX4_sign_1 : decode cX4_sign 1 = .ok (.getfield 12, 3) := by decide +kernel
theorem dX4_sign_4 : decode cX4_sign 4 = .ok (.iload_n 1, 1) := by decide +kernel
theorem dX4_sign_5 : decode cX4_sign 5 = .ok (.invokevirtual 40, 3) := by decide +kernel
theorem dX4_sign_8 : decode cX4_sign 8 = .ok (.return_, 1) := by decide +kernel
set_option maxRecDepth 20000 in
theorem ggX4_read_X4_firstWrongPlace : GoodIn wsX4_read wsX4_firstWrongPlace := goodIn_r _ [11, 5, 1, 6, 12, 13, 14, 15, 16, 17, 18, 19, 20, 21, 22, 23, 24, 25, 26, 27, 28, 29, 30, 10, 31, 32, 33, 34, 35, 36, 37, 38, 39, 40, 41, 42, 43, 44, 45, 46, 47, 48, 49, 50, 51, 52, 53, 54, 55, 56, 57, 58, 59, 60, 61, 62, 63, 64, 65, 66, 67, 68, 69, 70, 71, 72, 73, 74, 75, 76, 77, 78, 79, 80, 81, 82, 83, 84, 85, 86, 87, 88, 89, 90, 91, 92, 93, 94, 95, 96, 97, 98, 99, 100, 101, 102, 103, 104, 105, 106, 107, 108, 109, 110, 111, 112, 113, 114, 115, 116, 117, 118, 119, 120, 121, 122, 123, 124, 125, 126, 127, 128, 129, 130, 131, 132, 133, 134, 135, 136, 137, 138, 139, 140, 141, 142, 143, 144, 145, 146, 147, 148, 149, 150, 151, 152, 153, 154, 155, 156, 157, 158, 159, 160, 161, 162, 163, 164, 165, 166, 167, 168, 169, 170, 171, 172, 173, 174, 175, 176, 177, 178, 179, 180, 181, 182, 262, 263, 264, 265, 266, 267, 278, 279, 280, 281, 282, 283, 284, 285] (by decide +kernel) (by decide +kernel)
set_option maxRecDepth 20000 in
theorem gX4_read_X4_firstWrongPlace : GoodIn wsX4_read (wsV RX4 44 RX4 yX4_firstWrongPlace wsX4_firstWrongPlace) := goodIn_app (goodIn_of _ (by decide +kernel)) ggX4_read_X4_firstWrongPlace
set_option maxRecDepth 20000 in
theorem ggX4_read_X3_clear : GoodIn wsX4_read wsX3_clear := goodIn_r _ [186, 28, 278, 279] (by decide +kernel) (by decide +kernel)
set_option maxRecDepth 20000 in
theorem gX4_read_X3_clear : GoodIn wsX4_read (wsV RX4 48 RX3 yX3_clear wsX3_clear) := goodIn_app (goodIn_of _ (by decide +kernel)) ggX4_read_X3_clear
set_option maxRecDepth 20000 in
theorem ggX4_read_X1_init : GoodIn wsX4_read wsX1_init := goodIn_r _ [189, 190, 191, 192, 193, 61, 62, 63, 194, 195, 196, 197, 198, 199, 200, 201, 202, 203, 204, 205, 206, 207, 208, 180, 181, 16, 182, 18, 143, 209, 210, 211, 212, 151, 159, 10, 160, 213, 214, 215, 216, 217, 218, 219, 220, 221, 222, 223, 224, 65, 66, 225, 226, 227, 228, 229, 230, 231, 232, 136, 137, 176, 177, 178, 121, 122, 233, 234, 235, 236, 237, 161, 162, 163, 164, 238, 239, 240, 241, 242, 158, 145, 146, 147, 243, 244, 245, 246, 247, 248, 249, 250, 251, 252, 253, 254, 280, 281, 282, 283, 284, 285, 268, 269, 270, 271, 272, 273, 274, 275, 276, 277, 286, 287, 288] (by decide +kernel) (by decide +kernel)
set_option maxRecDepth 20000 in
theorem gX4_read_X1_init : GoodIn wsX4_read (wsX1_init) := ggX4_read_X1_init
set_option maxRecDepth 20000 in
theorem ggX4_read_X4_keep : GoodIn wsX4_read wsX4_keep := goodIn_r _ [258, 259, 260, 261, 262, 263, 264, 265, 266, 267] (by decide +kernel) (by decide +kernel)
set_option maxRecDepth 20000 in
theorem gX4_read_X4_keep : GoodIn wsX4_read (wsV RX4 54 RX4 yX4_keep wsX4_keep) := goodIn_app (goodIn_of _ (by decide +kernel)) ggX4_read_X4_keep
theorem dX4_read_0 : decode cX4_read 0 = .ok (.aload_n 0, 1) := by decide +kernel
theorem dX4_read_1 : decode cX4_read 1 = .ok (.invokevirtual 44, 3) := by decide +kernel
theorem dX4_read_4 : decode cX4_read 4 = .ok (.istore_n 1, 1) := by decide +kernel
theorem dX4_read_5 : decode cX4_read 5 = .ok (.aload_n 0, 1) := by decide +kernel
theorem dX4_read_6 : decode cX4_read 6 = .ok (.getfield 12, 3) := by decide +kernel
theorem dX4_read_9 : decode cX4_read 9 = .ok (.invokevirtual 48, 3) := by decide +kernel
theorem dX4_read_12 : decode cX4_read 12 = .ok (.iload_n 1, 1) := by decide +kernel
theorem dX4_read_13 : decode cX4_read 13 = .ok (.iconst (-1), 1) := by decide +kernel
theorem dX4_read_14 : decode cX4_read 14 = .ok (.if_icmp .eq 7, 3) := by decide +kernel
theorem dX4_read_17 : decode cX4_read 17 = .ok (.iconst (-1), 1) := by decide +kernel
theorem dX4_read_18 : decode cX4_read 18 = .ok (.iload_n 1, 1) := by decide +kernel
theorem dX4_read_19 : decode cX4_read 19 = .ok (.isub, 1) := by decide +kernel
theorem dX4_read_20 : decode cX4_read 20 = .ok (.ireturn, 1) := by decide +kernel
theorem dX4_read_21 : decode cX4_read 21 = .ok (.new 23, 3) := by decide +kernel
theorem dX4_read_24 : decode cX4_read 24 = .ok (.dup, 1) := by decide +kernel
theorem dX4_read_25 : decode cX4_read 25 = .ok (.aload_n 0, 1) := by decide +kernel
theorem dX4_read_26 : decode cX4_read 26 = .ok (.getfield 19, 3) := by decide +kernel
theorem dX4_read_29 : decode cX4_read 29 = .ok (.aload_n 0, 1) := by decide +kernel
theorem dX4_read_30 : decode cX4_read 30 = .ok (.getfield 37, 3) := by decide +kernel
theorem dX4_read_33 : decode cX4_read 33 = .ok (.invokespecial 51, 3) := by decide +kernel
theorem dX4_read_36 : decode cX4_read 36 = .ok (.astore_n 2, 1) := by decide +kernel
theorem dX4_read_37 : decode cX4_read 37 = .ok (.aload_n 0, 1) := by decide +kernel
theorem dX4_read_38 : decode cX4_read 38 = .ok (.aload_n 2, 1) := by decide +kernel
theorem dX4_read_39 : decode cX4_read 39 = .ok (.invokevirtual 54, 3) := by decide +kernel
theorem dX4_read_42 : decode cX4_read 42 = .ok (.aload_n 2, 1) := by decide +kernel
theorem dX4_read_43 : decode cX4_read 43 = .ok (.getfield 58, 3) := by decide +kernel
theorem dX4_read_46 : decode cX4_read 46 = .ok (.ireturn, 1) := by decide +kernel
theorem dX4_category_0 : decode cX4_category 0 = .ok (.aload_n 0, 1) := by decide +kernel
theorem dX4_category_1 : decode cX4_category 1 = .ok (.getfield 33, 3) := by decide +kernel
theorem dX4_category_4 : decode cX4_category 4 = .ok (.ifnonnull 7, 3) := by decide +kernel
theorem dX4_category_7 : decode cX4_category 7 = .ok (.iconst (-1), 1) := by decide +kernel
theorem dX4_category_8 : decode cX4_category 8 = .ok (.goto 10, 3) := by decide +kernel
theorem dX4_category_11 : decode cX4_category 11 = .ok (.aload_n 0, 1) := by decide +kernel
theorem dX4_category_12 : decode cX4_category 12 = .ok (.getfield 33, 3) := by decide +kernel
theorem dX4_category_15 : decode cX4_category 15 = .ok (.getfield 61, 3) := by decide +kernel
theorem dX4_category_18 : decode cX4_category 18 = .ok (.ireturn, 1) := by decide +kernel
set_option maxRecDepth 20000 in
theorem ggX4_digits_X1_isNumber : GoodIn wsX4_digits wsX1_isNumber := goodIn_r _ [6, 7, 14, 15, 16, 17, 18, 19, 20, 21, 22, 23] (by decide +kernel) (by decide +kernel)
set_option maxRecDepth 20000 in
theorem gX4_digits_X1_isNumber : GoodIn wsX4_digits (wsV RX4 64 RX1 yX1_isNumber wsX1_isNumber) := goodIn_app (goodIn_of _ (by decide +kernel)) ggX4_digits_X1_isNumber
theorem dX4_digits_0 : decode cX4_digits 0 = .ok (.aload_n 0, 1) := by decide +kernel
theorem dX4_digits_1 : decode cX4_digits 1 = .ok (.getfield 33, 3) := by decide +kernel
theorem dX4_digits_4 : decode cX4_digits 4 = .ok (.ifnull 13, 3) := by decide +kernel
theorem dX4_digits_7 : decode cX4_digits 7 = .ok (.aload_n 0, 1) := by decide +kernel
theorem dX4_digits_8 : decode cX4_digits 8 = .ok (.getfield 33, 3) := by decide +kernel
theorem dX4_digits_11 : decode cX4_digits 11 = .ok (.invokevirtual 64, 3) := by decide +kernel
theorem dX4_digits_14 : decode cX4_digits 14 = .ok (.ifCond .ne 5, 3) := by decide +kernel
theorem dX4_digits_17 : decode cX4_digits 17 = .ok (.iconst (-1), 1) := by decide +kernel
theorem dX4_digits_18 : decode cX4_digits 18 = .ok (.ireturn, 1) := by decide +kernel
theorem dX4_digits_19 : decode cX4_digits 19 = .ok (.iload_n 1, 1) := by decide +kernel
theorem dX4_digits_20 : decode cX4_digits 20 = .ok (.ifCond .ne 11, 3) := by decide +kernel
theorem dX4_digits_23 : decode cX4_digits 23 = .ok (.aload_n 0, 1) := by decide +kernel
theorem dX4_digits_24 : decode cX4_digits 24 = .ok (.getfield 33, 3) := by decide +kernel
theorem dX4_digits_27 : decode cX4_digits 27 = .ok (.getfield 68, 3) := by decide +kernel
theorem dX4_digits_30 : decode cX4_digits 30 = .ok (.ireturn, 1) := by decide +kernel
theorem dX4_digits_31 : decode cX4_digits 31 = .ok (.iload_n 1, 1) := by decide +kernel
theorem dX4_digits_32 : decode cX4_digits 32 = .ok (.iconst 1, 1) := by decide +kernel
theorem dX4_digits_33 : decode cX4_digits 33 = .ok (.if_icmp .ne 13, 3) := by decide +kernel
theorem dX4_digits_36 : decode cX4_digits 36 = .ok (.aload_n 0, 1) := by decide +kernel
theorem dX4_digits_37 : decode cX4_digits 37 = .ok (.getfield 33, 3) := by decide +kernel
theorem dX4_digits_40 : decode cX4_digits 40 = .ok (.getfield 71, 3) := by decide +kernel
theorem dX4_digits_43 : decode cX4_digits 43 = .ok (.goto 4, 3) := by decide +kernel
theorem dX4_digits_46 : decode cX4_digits 46 = .ok (.iconst (-1), 1) := by decide +kernel
theorem dX4_digits_47 : decode cX4_digits 47 = .ok (.ireturn, 1) := by decide +kernel
set_option maxRecDepth 20000 in
theorem ggX4_scale_X1_isNumber : GoodIn wsX4_scale wsX1_isNumber := goodIn_r _ [6, 7, 14, 15, 16, 17, 18, 19, 20, 21, 22, 23] (by decide +kernel) (by decide +kernel)
set_option maxRecDepth 20000 in
theorem gX4_scale_X1_isNumber : GoodIn wsX4_scale (wsV RX4 64 RX1 yX1_isNumber wsX1_isNumber) := goodIn_app (goodIn_of _ (by decide +kernel)) ggX4_scale_X1_isNumber
theorem dX4_scale_0 : decode cX4_scale 0 = .ok (.aload_n 0, 1) := by decide +kernel
theorem dX4_scale_1 : decode cX4_scale 1 = .ok (.getfield 33, 3) := by decide +kernel
theorem dX4_scale_4 : decode cX4_scale 4 = .ok (.ifnull 13, 3) := by decide +kernel
theorem dX4_scale_7 : decode cX4_scale 7 = .ok (.aload_n 0, 1) := by decide +kernel
theorem dX4_scale_8 : decode cX4_scale 8 = .ok (.getfield 33, 3) := by decide +kernel
theorem dX4_scale_11 : decode cX4_scale 11 = .ok (.invokevirtual 64, 3) := by decide +kernel
theorem dX4_scale_14 : decode cX4_scale 14 = .ok (.ifCond .ne 7, 3) := by decide +kernel
theorem dX4_scale_17 : decode cX4_scale 17 = .ok (.iconst 0, 1) := by decide +kernel
theorem dX4_scale_18 : decode cX4_scale 18 = .ok (.goto 10, 3) := by decide +kernel
theorem dX4_scale_21 : decode cX4_scale 21 = .ok (.aload_n 0, 1) := by decide +kernel
theorem dX4_scale_22 : decode cX4_scale 22 = .ok (.getfield 33, 3) := by decide +kernel
theorem dX4_scale_25 : decode cX4_scale 25 = .ok (.getfield 74, 3) := by decide +kernel
theorem dX4_scale_28 : decode cX4_scale 28 = .ok (.ireturn, 1) := by decide +kernel
set_option maxRecDepth 20000 in
theorem ggX4_follows_X4_isKind : GoodIn wsX4_follows wsX4_isKind := goodIn_r _ [8] (by decide +kernel) (by decide +kernel)
set_option maxRecDepth 20000 in
theorem gX4_follows_X4_isKind : GoodIn wsX4_follows (va_wsS RX4 77 yX4_isKind wsX4_isKind) := goodIn_app (goodIn_of _ (by decide +kernel)) ggX4_follows_X4_isKind
set_option maxRecDepth 20000 in
theorem ggX4_follows_X4_holds : GoodIn wsX4_follows wsX4_holds := goodIn_r _ [11] (by decide +kernel) (by decide +kernel)
set_option maxRecDepth 20000 in
theorem gX4_follows_X4_holds : GoodIn wsX4_follows (va_wsS RX4 92 yX4_holds wsX4_holds) := goodIn_app (goodIn_of _ (by decide +kernel)) ggX4_follows_X4_holds
theorem dX4_follows_0 : decode cX4_follows 0 = .ok (.iload_n 1, 1) := by decide +kernel
theorem dX4_follows_1 : decode cX4_follows 1 = .ok (.invokestatic 77, 3) := by decide +kernel
theorem dX4_follows_4 : decode cX4_follows 4 = .ok (.ifCond .eq 10, 3) := by decide +kernel
theorem dX4_follows_7 : decode cX4_follows 7 = .ok (.iload_n 2, 1) := by decide +kernel
theorem dX4_follows_8 : decode cX4_follows 8 = .ok (.invokestatic 77, 3) := by decide +kernel
theorem dX4_follows_11 : decode cX4_follows 11 = .ok (.ifCond .ne 13, 3) := by decide +kernel
theorem dX4_follows_14 : decode cX4_follows 14 = .ok (.new 81, 3) := by decide +kernel
theorem dX4_follows_17 : decode cX4_follows 17 = .ok (.dup, 1) := by decide +kernel
theorem dX4_follows_18 : decode cX4_follows 18 = .ok (.ldc 83, 2) := by decide +kernel
theorem dX4_follows_20 : decode cX4_follows 20 = .ok (.invokespecial 85, 3) := by decide +kernel
theorem dX4_follows_23 : decode cX4_follows 23 = .ok (.athrow, 1) := by decide +kernel
theorem dX4_follows_24 : decode cX4_follows 24 = .ok (.getstatic 88, 3) := by decide +kernel
theorem dX4_follows_27 : decode cX4_follows 27 = .ok (.iload_n 1, 1) := by decide +kernel
theorem dX4_follows_28 : decode cX4_follows 28 = .ok (.iaload, 1) := by decide +kernel
theorem dX4_follows_29 : decode cX4_follows 29 = .ok (.iload_n 2, 1) := by decide +kernel
theorem dX4_follows_30 : decode cX4_follows 30 = .ok (.invokestatic 92, 3) := by decide +kernel
theorem dX4_follows_33 : decode cX4_follows 33 = .ok (.ireturn, 1) := by decide +kernel
set_option maxRecDepth 20000 in
theorem ggX4_currency_X4_canBeCurrency : GoodIn wsX4_currency wsX4_canBeCurrency := goodIn_r _ [5, 6, 7, 4, 8, 9, 10, 11, 12, 13, 14, 15, 16, 17, 18, 19, 20, 21, 22, 23, 24, 25, 26, 27, 28, 29, 30, 31, 32, 33, 34, 35, 36, 37, 38, 39, 40, 41, 42, 43, 44, 45, 46, 47, 48, 49, 50, 51, 52, 53, 54, 55, 56, 57, 58, 59, 60, 61, 62, 63, 64, 65, 66, 67, 68, 69, 70, 71, 72, 73, 74, 75, 76, 77, 78, 79, 80, 81, 82, 83, 84, 85, 86, 87, 88, 89, 90, 91, 92, 93, 94, 95, 96, 97] (by decide +kernel) (by decide +kernel)
set_option maxRecDepth 20000 in
theorem gX4_currency_X4_canBeCurrency : GoodIn wsX4_currency (va_wsS RX4 96 yX4_canBeCurrency wsX4_canBeCurrency) := goodIn_app (goodIn_of _ (by decide +kernel)) ggX4_currency_X4_canBeCurrency
theorem dX4_currency_0 : decode cX4_currency 0 = .ok (.iload_n 1, 1) := by decide +kernel
theorem dX4_currency_1 : decode cX4_currency 1 = .ok (.invokestatic 96, 3) := by decide +kernel
theorem dX4_currency_4 : decode cX4_currency 4 = .ok (.ifCond .ne 5, 3) := by decide +kernel
theorem dX4_currency_7 : decode cX4_currency 7 = .ok (.iconst (-1), 1) := by decide +kernel
theorem dX4_currency_8 : decode cX4_currency 8 = .ok (.ireturn, 1) := by decide +kernel
theorem dX4_currency_9 : decode cX4_currency 9 = .ok (.aload_n 0, 1) := by decide +kernel
theorem dX4_currency_10 : decode cX4_currency 10 = .ok (.getfield 37, 3) := by decide +kernel
theorem dX4_currency_13 : decode cX4_currency 13 = .ok (.istore_n 2, 1) := by decide +kernel
theorem dX4_currency_14 : decode cX4_currency 14 = .ok (.aload_n 0, 1) := by decide +kernel
theorem dX4_currency_15 : decode cX4_currency 15 = .ok (.iload_n 1, 1) := by decide +kernel
theorem dX4_currency_16 : decode cX4_currency 16 = .ok (.putfield 37, 3) := by decide +kernel
theorem dX4_currency_19 : decode cX4_currency 19 = .ok (.iload_n 2, 1) := by decide +kernel
theorem dX4_currency_20 : decode cX4_currency 20 = .ok (.ireturn, 1) := by decide +kernel
set_option maxRecDepth 20000 in
theorem ggX4_at_X1_characterAt : GoodIn wsX4_at wsX1_characterAt := goodIn_r _ [6, 7, 8, 9, 10, 11, 12, 13, 14, 5, 15, 16, 23, 24, 25, 26, 27, 28, 29, 30, 31, 32] (by decide +kernel) (by decide +kernel)
set_option maxRecDepth 20000 in
theorem gX4_at_X1_characterAt : GoodIn wsX4_at (wsV RX4 99 RX1 yX1_characterAt wsX1_characterAt) := goodIn_app (goodIn_of _ (by decide +kernel)) ggX4_at_X1_characterAt
theorem dX4_at_0 : decode cX4_at 0 = .ok (.aload_n 0, 1) := by decide +kernel
theorem dX4_at_1 : decode cX4_at 1 = .ok (.getfield 33, 3) := by decide +kernel
theorem dX4_at_4 : decode cX4_at 4 = .ok (.ifnonnull 7, 3) := by decide +kernel
theorem dX4_at_7 : decode cX4_at 7 = .ok (.iconst (-1), 1) := by decide +kernel
theorem dX4_at_8 : decode cX4_at 8 = .ok (.goto 11, 3) := by decide +kernel
theorem dX4_at_11 : decode cX4_at 11 = .ok (.aload_n 0, 1) := by decide +kernel
theorem dX4_at_12 : decode cX4_at 12 = .ok (.getfield 33, 3) := by decide +kernel
theorem dX4_at_15 : decode cX4_at 15 = .ok (.iload_n 1, 1) := by decide +kernel
theorem dX4_at_16 : decode cX4_at 16 = .ok (.invokevirtual 99, 3) := by decide +kernel
theorem dX4_at_19 : decode cX4_at 19 = .ok (.ireturn, 1) := by decide +kernel
set_option maxRecDepth 20000 in
theorem ggX4_same_X0_equalTo : GoodIn wsX4_same wsX0_equalTo := goodIn_r _ [8, 9, 10, 11, 12, 7, 13, 14, 15, 16, 17, 18, 19, 36, 37, 38] (by decide +kernel) (by decide +kernel)
set_option maxRecDepth 20000 in
theorem gX4_same_X0_equalTo : GoodIn wsX4_same (wsV RX4 107 RX0 yX0_equalTo wsX0_equalTo) := goodIn_app (goodIn_of _ (by decide +kernel)) ggX4_same_X0_equalTo
theorem dX4_same_0 : decode cX4_same 0 = .ok (.aload_n 0, 1) := by decide +kernel
theorem dX4_same_1 : decode cX4_same 1 = .ok (.getfield 33, 3) := by decide +kernel
theorem dX4_same_4 : decode cX4_same 4 = .ok (.ifnull 21, 3) := by decide +kernel
theorem dX4_same_7 : decode cX4_same 7 = .ok (.iload_n 1, 1) := by decide +kernel
theorem dX4_same_8 : decode cX4_same 8 = .ok (.ifCond .lt 17, 3) := by decide +kernel
theorem dX4_same_11 : decode cX4_same 11 = .ok (.iload_n 1, 1) := by decide +kernel
theorem dX4_same_12 : decode cX4_same 12 = .ok (.aload_n 0, 1) := by decide +kernel
theorem dX4_same_13 : decode cX4_same 13 = .ok (.getfield 29, 3) := by decide +kernel
theorem dX4_same_16 : decode cX4_same 16 = .ok (.if_icmp .ge 9, 3) := by decide +kernel
theorem dX4_same_19 : decode cX4_same 19 = .ok (.iload_n 1, 1) := by decide +kernel
theorem dX4_same_20 : decode cX4_same 20 = .ok (.bipush 40, 2) := by decide +kernel
theorem dX4_same_22 : decode cX4_same 22 = .ok (.if_icmp .lt 5, 3) := by decide +kernel
theorem dX4_same_25 : decode cX4_same 25 = .ok (.iconst 0, 1) := by decide +kernel
theorem dX4_same_26 : decode cX4_same 26 = .ok (.ireturn, 1) := by decide +kernel
theorem dX4_same_27 : decode cX4_same 27 = .ok (.aload_n 0, 1) := by decide +kernel
theorem dX4_same_28 : decode cX4_same 28 = .ok (.getfield 25, 3) := by decide +kernel
theorem dX4_same_31 : decode cX4_same 31 = .ok (.iload_n 1, 1) := by decide +kernel
theorem dX4_same_32 : decode cX4_same 32 = .ok (.aaload, 1) := by decide +kernel
theorem dX4_same_33 : decode cX4_same 33 = .ok (.astore_n 2, 1) := by decide +kernel
theorem dX4_same_34 : decode cX4_same 34 = .ok (.aload_n 2, 1) := by decide +kernel
theorem dX4_same_35 : decode cX4_same 35 = .ok (.ifnull 24, 3) := by decide +kernel
theorem dX4_same_38 : decode cX4_same 38 = .ok (.aload_n 0, 1) := by decide +kernel
theorem dX4_same_39 : decode cX4_same 39 = .ok (.getfield 33, 3) := by decide +kernel
theorem dX4_same_42 : decode cX4_same 42 = .ok (.getfield 103, 3) := by decide +kernel
theorem dX4_same_45 : decode cX4_same 45 = .ok (.aload_n 2, 1) := by decide +kernel
theorem dX4_same_46 : decode cX4_same 46 = .ok (.getfield 103, 3) := by decide +kernel
theorem dX4_same_49 : decode cX4_same 49 = .ok (.invokevirtual 107, 3) := by decide +kernel
theorem dX4_same_52 : decode cX4_same 52 = .ok (.ifCond .eq 7, 3) := by decide +kernel
theorem dX4_same_55 : decode cX4_same 55 = .ok (.iconst 1, 1) := by decide +kernel
theorem dX4_same_56 : decode cX4_same 56 = .ok (.goto 4, 3) := by decide +kernel
theorem dX4_same_59 : decode cX4_same 59 = .ok (.iconst 0, 1) := by decide +kernel
theorem dX4_same_60 : decode cX4_same 60 = .ok (.ireturn, 1) := by decide +kernel
set_option maxRecDepth 20000 in
theorem ggX4_insertion_X1_insertionsOf : GoodIn wsX4_insertion wsX1_insertionsOf := goodIn_r _ [6, 7, 8, 9, 5, 10, 11, 12, 13, 14, 15, 16, 17, 24, 25, 26, 27, 28, 29, 30, 31, 32, 33] (by decide +kernel) (by decide +kernel)
set_option maxRecDepth 20000 in
theorem gX4_insertion_X1_insertionsOf : GoodIn wsX4_insertion (wsV RX4 113 RX1 yX1_insertionsOf wsX1_insertionsOf) := goodIn_app (goodIn_of _ (by decide +kernel)) ggX4_insertion_X1_insertionsOf
theorem dX4_insertion_0 : decode cX4_insertion 0 = .ok (.aload_n 0, 1) := by decide +kernel
theorem dX4_insertion_1 : decode cX4_insertion 1 = .ok (.getfield 33, 3) := by decide +kernel
theorem dX4_insertion_4 : decode cX4_insertion 4 = .ok (.ifnonnull 7, 3) := by decide +kernel
theorem dX4_insertion_7 : decode cX4_insertion 7 = .ok (.iconst (-1), 1) := by decide +kernel
theorem dX4_insertion_8 : decode cX4_insertion 8 = .ok (.goto 11, 3) := by decide +kernel
theorem dX4_insertion_11 : decode cX4_insertion 11 = .ok (.aload_n 0, 1) := by decide +kernel
theorem dX4_insertion_12 : decode cX4_insertion 12 = .ok (.getfield 33, 3) := by decide +kernel
theorem dX4_insertion_15 : decode cX4_insertion 15 = .ok (.iload_n 1, 1) := by decide +kernel
theorem dX4_insertion_16 : decode cX4_insertion 16 = .ok (.invokevirtual 113, 3) := by decide +kernel
theorem dX4_insertion_19 : decode cX4_insertion 19 = .ok (.ireturn, 1) := by decide +kernel
set_option maxRecDepth 20000 in
theorem ggX4_firstWrongPlace_X2_take : GoodIn wsX4_firstWrongPlace wsX2_take := goodIn_r _ [9, 10, 11, 12, 13, 14, 15, 16, 17, 18, 19, 20, 21, 22, 23, 24, 25, 26, 27, 28, 29, 30, 31, 32, 33, 34, 35, 36, 37, 38, 39, 40, 41, 42, 43, 44, 45, 46, 47, 48, 49, 50, 51, 52, 53, 54, 55, 56, 57, 58, 59, 60, 61, 62, 63, 64, 65, 66, 67, 68, 69, 70, 71, 72, 73, 74, 75, 76, 77, 78, 79, 80, 81, 82, 83, 84, 85, 86, 87, 88, 89, 90, 91, 92, 93, 94, 95, 96, 97, 98, 99, 100, 101, 102, 103, 104, 105, 106, 107, 108, 109, 110, 111, 112, 113, 114, 115, 116, 117, 118, 119, 120, 121, 122, 123, 124, 125, 126, 127, 8, 128, 129, 130, 131, 184, 185, 186, 187, 188, 189, 182, 183] (by decide +kernel) (by decide +kernel)
set_option maxRecDepth 20000 in
theorem gX4_firstWrongPlace_X2_take : GoodIn wsX4_firstWrongPlace (wsV RX4 116 RX2 yX2_take wsX2_take) := goodIn_app (goodIn_of _ (by decide +kernel)) ggX4_firstWrongPlace_X2_take
set_option maxRecDepth 20000 in
theorem ggX4_firstWrongPlace_X2_findKinds : GoodIn wsX4_firstWrongPlace wsX2_findKinds := goodIn_r _ [135, 10, 129, 136, 137, 138, 139, 8, 140, 130, 141, 142, 143, 144, 145, 184, 185, 186, 187, 188, 189] (by decide +kernel) (by decide +kernel)
set_option maxRecDepth 20000 in
theorem gX4_firstWrongPlace_X2_findKinds : GoodIn wsX4_firstWrongPlace (wsV RX4 120 RX2 yX2_findKinds wsX2_findKinds) := goodIn_app (goodIn_of _ (by decide +kernel)) ggX4_firstWrongPlace_X2_findKinds
set_option maxRecDepth 20000 in
theorem ggX4_firstWrongPlace_X2_findDigits : GoodIn wsX4_firstWrongPlace wsX2_findDigits := goodIn_r _ [149, 10, 150, 136, 130, 129, 151, 152, 23, 153, 154, 155, 156, 8, 157, 184, 185, 186, 187, 188, 189] (by decide +kernel) (by decide +kernel)
set_option maxRecDepth 20000 in
theorem gX4_firstWrongPlace_X2_findDigits : GoodIn wsX4_firstWrongPlace (wsV RX4 123 RX2 yX2_findDigits wsX2_findDigits) := goodIn_app (goodIn_of _ (by decide +kernel)) ggX4_firstWrongPlace_X2_findDigits
set_option maxRecDepth 20000 in
theorem ggX4_firstWrongPlace_X2_firstMisplaced : GoodIn wsX4_firstWrongPlace wsX2_firstMisplaced := goodIn_r _ [161, 162, 10, 136, 131, 130, 151, 129, 163, 23, 164, 152, 153, 165, 166, 167, 8, 168, 154, 155, 156, 157, 169, 170, 171, 114, 115, 184, 185, 186, 187, 188, 189] (by decide +kernel) (by decide +kernel)
set_option maxRecDepth 20000 in
theorem gX4_firstWrongPlace_X2_firstMisplaced : GoodIn wsX4_firstWrongPlace (wsV RX4 126 RX2 yX2_firstMisplaced wsX2_firstMisplaced) := goodIn_app (goodIn_of _ (by decide +kernel)) ggX4_firstWrongPlace_X2_firstMisplaced
set_option maxRecDepth 20000 in
theorem ggX4_firstWrongPlace_X2_kindsPresent : GoodIn wsX4_firstWrongPlace wsX2_kindsPresent := goodIn_r _ [175, 10, 136, 184, 185, 186, 187, 188, 189] (by decide +kernel) (by decide +kernel)
set_option maxRecDepth 20000 in
theorem gX4_firstWrongPlace_X2_kindsPresent : GoodIn wsX4_firstWrongPlace (wsV RX4 129 RX2 yX2_kindsPresent wsX2_kindsPresent) := goodIn_app (goodIn_of _ (by decide +kernel)) ggX4_firstWrongPlace_X2_kindsPresent
theorem dX4_firstWrongPlace_0 : decode cX4_firstWrongPlace 0 = .ok (.aload_n 0, 1) := by decide +kernel
theorem dX4_firstWrongPlace_1 : decode cX4_firstWrongPlace 1 = .ok (.getfield 19, 3) := by decide +kernel
theorem dX4_firstWrongPlace_4 : decode cX4_firstWrongPlace 4 = .ok (.aload_n 0, 1) := by decide +kernel
theorem dX4_firstWrongPlace_5 : decode cX4_firstWrongPlace 5 = .ok (.getfield 12, 3) := by decide +kernel
theorem dX4_firstWrongPlace_8 : decode cX4_firstWrongPlace 8 = .ok (.aload_n 0, 1) := by decide +kernel
theorem dX4_firstWrongPlace_9 : decode cX4_firstWrongPlace 9 = .ok (.getfield 37, 3) := by decide +kernel
theorem dX4_firstWrongPlace_12 : decode cX4_firstWrongPlace 12 = .ok (.invokevirtual 116, 3) := by decide +kernel
theorem dX4_firstWrongPlace_15 : decode cX4_firstWrongPlace 15 = .ok (.istore_n 1, 1) := by decide +kernel
theorem dX4_firstWrongPlace_16 : decode cX4_firstWrongPlace 16 = .ok (.iload_n 1, 1) := by decide +kernel
theorem dX4_firstWrongPlace_17 : decode cX4_firstWrongPlace 17 = .ok (.iconst (-1), 1) := by decide +kernel
theorem dX4_firstWrongPlace_18 : decode cX4_firstWrongPlace 18 = .ok (.if_icmp .eq 5, 3) := by decide +kernel
theorem dX4_firstWrongPlace_21 : decode cX4_firstWrongPlace 21 = .ok (.iload_n 1, 1) := by decide +kernel
theorem dX4_firstWrongPlace_22 : decode cX4_firstWrongPlace 22 = .ok (.ireturn, 1) := by decide +kernel
theorem dX4_firstWrongPlace_23 : decode cX4_firstWrongPlace 23 = .ok (.aload_n 0, 1) := by decide +kernel
theorem dX4_firstWrongPlace_24 : decode cX4_firstWrongPlace 24 = .ok (.getfield 19, 3) := by decide +kernel
theorem dX4_firstWrongPlace_27 : decode cX4_firstWrongPlace 27 = .ok (.invokevirtual 120, 3) := by decide +kernel
theorem dX4_firstWrongPlace_30 : decode cX4_firstWrongPlace 30 = .ok (.aload_n 0, 1) := by decide +kernel
theorem dX4_firstWrongPlace_31 : decode cX4_firstWrongPlace 31 = .ok (.getfield 19, 3) := by decide +kernel
theorem dX4_firstWrongPlace_34 : decode cX4_firstWrongPlace 34 = .ok (.invokevirtual 123, 3) := by decide +kernel
theorem dX4_firstWrongPlace_37 : decode cX4_firstWrongPlace 37 = .ok (.aload_n 0, 1) := by decide +kernel
theorem dX4_firstWrongPlace_38 : decode cX4_firstWrongPlace 38 = .ok (.getfield 19, 3) := by decide +kernel
theorem dX4_firstWrongPlace_41 : decode cX4_firstWrongPlace 41 = .ok (.invokevirtual 126, 3) := by decide +kernel
theorem dX4_firstWrongPlace_44 : decode cX4_firstWrongPlace 44 = .ok (.istore_n 1, 1) := by decide +kernel
theorem dX4_firstWrongPlace_45 : decode cX4_firstWrongPlace 45 = .ok (.iload_n 1, 1) := by decide +kernel
theorem dX4_firstWrongPlace_46 : decode cX4_firstWrongPlace 46 = .ok (.iconst (-1), 1) := by decide +kernel
theorem dX4_firstWrongPlace_47 : decode cX4_firstWrongPlace 47 = .ok (.if_icmp .eq 5, 3) := by decide +kernel
theorem dX4_firstWrongPlace_50 : decode cX4_firstWrongPlace 50 = .ok (.iload_n 1, 1) := by decide +kernel
theorem dX4_firstWrongPlace_51 : decode cX4_firstWrongPlace 51 = .ok (.ireturn, 1) := by decide +kernel
theorem dX4_firstWrongPlace_52 : decode cX4_firstWrongPlace 52 = .ok (.aload_n 0, 1) := by decide +kernel
theorem dX4_firstWrongPlace_53 : decode cX4_firstWrongPlace 53 = .ok (.getfield 19, 3) := by decide +kernel
theorem dX4_firstWrongPlace_56 : decode cX4_firstWrongPlace 56 = .ok (.invokevirtual 129, 3) := by decide +kernel
theorem dX4_firstWrongPlace_59 : decode cX4_firstWrongPlace 59 = .ok (.ldc 132, 2) := by decide +kernel
theorem dX4_firstWrongPlace_61 : decode cX4_firstWrongPlace 61 = .ok (.iand, 1) := by decide +kernel
theorem dX4_firstWrongPlace_62 : decode cX4_firstWrongPlace 62 = .ok (.ifCond .ne 13, 3) := by decide +kernel
theorem dX4_firstWrongPlace_65 : decode cX4_firstWrongPlace 65 = .ok (.aload_n 0, 1) := by decide +kernel
theorem dX4_firstWrongPlace_66 : decode cX4_firstWrongPlace 66 = .ok (.getfield 12, 3) := by decide +kernel
theorem dX4_firstWrongPlace_69 : decode cX4_firstWrongPlace 69 = .ok (.getfield 133, 3) := by decide +kernel
theorem dX4_firstWrongPlace_72 : decode cX4_firstWrongPlace 72 = .ok (.goto 4, 3) := by decide +kernel
theorem dX4_firstWrongPlace_75 : decode cX4_firstWrongPlace 75 = .ok (.iconst (-1), 1) := by decide +kernel
theorem dX4_firstWrongPlace_76 : decode cX4_firstWrongPlace 76 = .ok (.ireturn, 1) := by decide +kernel
theorem dX4_keep_0 : decode cX4_keep 0 = .ok (.aload_n 0, 1) := by decide +kernel
theorem dX4_keep_1 : decode cX4_keep 1 = .ok (.aload_n 1, 1) := by decide +kernel
theorem dX4_keep_2 : decode cX4_keep 2 = .ok (.putfield 33, 3) := by decide +kernel
theorem dX4_keep_5 : decode cX4_keep 5 = .ok (.aload_n 0, 1) := by decide +kernel
theorem dX4_keep_6 : decode cX4_keep 6 = .ok (.getfield 29, 3) := by decide +kernel
theorem dX4_keep_9 : decode cX4_keep 9 = .ok (.ifCond .lt 32, 3) := by decide +kernel
theorem dX4_keep_12 : decode cX4_keep 12 = .ok (.aload_n 0, 1) := by decide +kernel
theorem dX4_keep_13 : decode cX4_keep 13 = .ok (.getfield 29, 3) := by decide +kernel
theorem dX4_keep_16 : decode cX4_keep 16 = .ok (.bipush 40, 2) := by decide +kernel
theorem dX4_keep_18 : decode cX4_keep 18 = .ok (.if_icmp .ge 23, 3) := by decide +kernel
theorem dX4_keep_21 : decode cX4_keep 21 = .ok (.aload_n 0, 1) := by decide +kernel
theorem dX4_keep_22 : decode cX4_keep 22 = .ok (.getfield 25, 3) := by decide +kernel
theorem dX4_keep_25 : decode cX4_keep 25 = .ok (.aload_n 0, 1) := by decide +kernel
theorem dX4_keep_26 : decode cX4_keep 26 = .ok (.getfield 29, 3) := by decide +kernel
theorem dX4_keep_29 : decode cX4_keep 29 = .ok (.aload_n 1, 1) := by decide +kernel
theorem dX4_keep_30 : decode cX4_keep 30 = .ok (.aastore, 1) := by decide +kernel
theorem dX4_keep_31 : decode cX4_keep 31 = .ok (.aload_n 0, 1) := by decide +kernel
theorem dX4_keep_32 : decode cX4_keep 32 = .ok (.dup, 1) := by decide +kernel
theorem dX4_keep_33 : decode cX4_keep 33 = .ok (.getfield 29, 3) := by decide +kernel
theorem dX4_keep_36 : decode cX4_keep 36 = .ok (.iconst 1, 1) := by decide +kernel
theorem dX4_keep_37 : decode cX4_keep 37 = .ok (.iadd, 1) := by decide +kernel
theorem dX4_keep_38 : decode cX4_keep 38 = .ok (.putfield 29, 3) := by decide +kernel
theorem dX4_keep_41 : decode cX4_keep 41 = .ok (.return_, 1) := by decide +kernel
theorem dX4_isKind_0 : decode cX4_isKind 0 = .ok (.iload_n 0, 1) := by decide +kernel
theorem dX4_isKind_1 : decode cX4_isKind 1 = .ok (.ifCond .lt 13, 3) := by decide +kernel
theorem dX4_isKind_4 : decode cX4_isKind 4 = .ok (.iload_n 0, 1) := by decide +kernel
theorem dX4_isKind_5 : decode cX4_isKind 5 = .ok (.bipush 19, 2) := by decide +kernel
theorem dX4_isKind_7 : decode cX4_isKind 7 = .ok (.if_icmp .ge 7, 3) := by decide +kernel
theorem dX4_isKind_10 : decode cX4_isKind 10 = .ok (.iconst 1, 1) := by decide +kernel
theorem dX4_isKind_11 : decode cX4_isKind 11 = .ok (.goto 4, 3) := by decide +kernel
theorem dX4_isKind_14 : decode cX4_isKind 14 = .ok (.iconst 0, 1) := by decide +kernel
theorem dX4_isKind_15 : decode cX4_isKind 15 = .ok (.ireturn, 1) := by decide +kernel
theorem dX4_holds_0 : decode cX4_holds 0 = .ok (.iload_n 0, 1) := by decide +kernel
theorem dX4_holds_1 : decode cX4_holds 1 = .ok (.iload_n 1, 1) := by decide +kernel
theorem dX4_holds_2 : decode cX4_holds 2 = .ok (.ishr, 1) := by decide +kernel
theorem dX4_holds_3 : decode cX4_holds 3 = .ok (.iconst 1, 1) := by decide +kernel
theorem dX4_holds_4 : decode cX4_holds 4 = .ok (.iand, 1) := by decide +kernel
theorem dX4_holds_5 : decode cX4_holds 5 = .ok (.ifCond .eq 7, 3) := by decide +kernel
theorem dX4_holds_8 : decode cX4_holds 8 = .ok (.iconst 1, 1) := by decide +kernel
theorem dX4_holds_9 : decode cX4_holds 9 = .ok (.goto 4, 3) := by decide +kernel
theorem dX4_holds_12 : decode cX4_holds 12 = .ok (.iconst 0, 1) := by decide +kernel
theorem dX4_holds_13 : decode cX4_holds 13 = .ok (.ireturn, 1) := by decide +kernel
theorem dX4_greatOf_0 : decode cX4_greatOf 0 = .ok (.iload_n 0, 1) := by decide +kernel
theorem dX4_greatOf_1 : decode cX4_greatOf 1 = .ok (.bipush 97, 2) := by decide +kernel
theorem dX4_greatOf_3 : decode cX4_greatOf 3 = .ok (.if_icmp .lt 19, 3) := by decide +kernel
theorem dX4_greatOf_6 : decode cX4_greatOf 6 = .ok (.iload_n 0, 1) := by decide +kernel
theorem dX4_greatOf_7 : decode cX4_greatOf 7 = .ok (.bipush 122, 2) := by decide +kernel
theorem dX4_greatOf_9 : decode cX4_greatOf 9 = .ok (.if_icmp .gt 13, 3) := by decide +kernel
theorem dX4_greatOf_12 : decode cX4_greatOf 12 = .ok (.iload_n 0, 1) := by decide +kernel
theorem dX4_greatOf_13 : decode cX4_greatOf 13 = .ok (.bipush 97, 2) := by decide +kernel
theorem dX4_greatOf_15 : decode cX4_greatOf 15 = .ok (.isub, 1) := by decide +kernel
theorem dX4_greatOf_16 : decode cX4_greatOf 16 = .ok (.bipush 65, 2) := by decide +kernel
theorem dX4_greatOf_18 : decode cX4_greatOf 18 = .ok (.iadd, 1) := by decide +kernel
theorem dX4_greatOf_19 : decode cX4_greatOf 19 = .ok (.goto 4, 3) := by decide +kernel
theorem dX4_greatOf_22 : decode cX4_greatOf 22 = .ok (.iload_n 0, 1) := by decide +kernel
theorem dX4_greatOf_23 : decode cX4_greatOf 23 = .ok (.ireturn, 1) := by decide +kernel
set_option maxRecDepth 20000 in
theorem ggX4_canBeCurrency_X4_greatOf : GoodIn wsX4_canBeCurrency wsX4_greatOf := goodIn_r _ [4] (by decide +kernel) (by decide +kernel)
set_option maxRecDepth 20000 in
theorem gX4_canBeCurrency_X4_greatOf : GoodIn wsX4_canBeCurrency (va_wsS RX4 138 yX4_greatOf wsX4_greatOf) := goodIn_app (goodIn_of _ (by decide +kernel)) ggX4_canBeCurrency_X4_greatOf
set_option maxRecDepth 20000 in
theorem ggX4_canBeCurrency_J0_indexOf_0f7a4 : GoodIn wsX4_canBeCurrency wsJ0_indexOf_0f7a4 := goodIn_r _ [9, 10, 11, 12, 8, 13, 14, 15, 16, 17, 18, 19, 20, 21, 22, 23, 24, 25, 26, 27, 28, 29, 30, 31, 32, 33, 34, 35, 36, 37, 38, 39, 40, 41, 42, 43, 44, 45, 46, 47, 48, 49, 50, 51, 52, 53, 54, 55, 56, 57, 58, 59, 60, 61, 62, 63, 64, 65, 66, 67, 68, 69, 70, 71, 72, 73, 74, 75, 76, 77, 78, 79, 80, 81, 82, 83, 84, 85, 86, 87, 88, 89, 90, 91, 92, 93] (by decide +kernel) (by decide +kernel)
set_option maxRecDepth 20000 in
theorem gX4_canBeCurrency_J0_indexOf_0f7a4 : GoodIn wsX4_canBeCurrency (wsV RX4 141 RJ0 yJ0_indexOf_0f7a4 wsJ0_indexOf_0f7a4) := goodIn_app (goodIn_of _ (by decide +kernel)) ggX4_canBeCurrency_J0_indexOf_0f7a4
theorem dX4_canBeCurrency_0 : decode cX4_canBeCurrency 0 = .ok (.iload_n 0, 1) := by decide +kernel
theorem dX4_canBeCurrency_1 : decode cX4_canBeCurrency 1 = .ok (.bipush 33, 2) := by decide +kernel
theorem dX4_canBeCurrency_3 : decode cX4_canBeCurrency 3 = .ok (.if_icmp .lt 26, 3) := by decide +kernel
theorem dX4_canBeCurrency_6 : decode cX4_canBeCurrency 6 = .ok (.iload_n 0, 1) := by decide +kernel
theorem dX4_canBeCurrency_7 : decode cX4_canBeCurrency 7 = .ok (.bipush 126, 2) := by decide +kernel
theorem dX4_canBeCurrency_9 : decode cX4_canBeCurrency 9 = .ok (.if_icmp .gt 20, 3) := by decide +kernel
theorem dX4_canBeCurrency_12 : decode cX4_canBeCurrency 12 = .ok (.ldc 136, 2) := by decide +kernel
theorem dX4_canBeCurrency_14 : decode cX4_canBeCurrency 14 = .ok (.iload_n 0, 1) := by decide +kernel
theorem dX4_canBeCurrency_15 : decode cX4_canBeCurrency 15 = .ok (.invokestatic 138, 3) := by decide +kernel
theorem dX4_canBeCurrency_18 : decode cX4_canBeCurrency 18 = .ok (.i2c, 1) := by decide +kernel
theorem dX4_canBeCurrency_19 : decode cX4_canBeCurrency 19 = .ok (.invokevirtual 141, 3) := by decide +kernel
theorem dX4_canBeCurrency_22 : decode cX4_canBeCurrency 22 = .ok (.ifCond .ge 7, 3) := by decide +kernel
theorem dX4_canBeCurrency_25 : decode cX4_canBeCurrency 25 = .ok (.iconst 1, 1) := by decide +kernel
theorem dX4_canBeCurrency_26 : decode cX4_canBeCurrency 26 = .ok (.goto 4, 3) := by decide +kernel
theorem dX4_canBeCurrency_29 : decode cX4_canBeCurrency 29 = .ok (.iconst 0, 1) := by decide +kernel
theorem dX4_canBeCurrency_30 : decode cX4_canBeCurrency 30 = .ok (.ireturn, 1) := by decide +kernel
theorem dX4_widthOf_0 : decode cX4_widthOf 0 = .ok (.iload_n 0, 1) := by decide +kernel
theorem dX4_widthOf_1 : decode cX4_widthOf 1 = .ok (.bipush 67, 2) := by decide +kernel
theorem dX4_widthOf_3 : decode cX4_widthOf 3 = .ok (.if_icmp .eq 9, 3) := by decide +kernel
theorem dX4_widthOf_6 : decode cX4_widthOf 6 = .ok (.iload_n 0, 1) := by decide +kernel
theorem dX4_widthOf_7 : decode cX4_widthOf 7 = .ok (.bipush 68, 2) := by decide +kernel
theorem dX4_widthOf_9 : decode cX4_widthOf 9 = .ok (.if_icmp .ne 7, 3) := by decide +kernel
theorem dX4_widthOf_12 : decode cX4_widthOf 12 = .ok (.iconst 2, 1) := by decide +kernel
theorem dX4_widthOf_13 : decode cX4_widthOf 13 = .ok (.goto 4, 3) := by decide +kernel
theorem dX4_widthOf_16 : decode cX4_widthOf 16 = .ok (.iconst 1, 1) := by decide +kernel
theorem dX4_widthOf_17 : decode cX4_widthOf 17 = .ok (.ireturn, 1) := by decide +kernel
set_option maxRecDepth 20000 in
theorem ggX4_signsCounted_X4_widthOf : GoodIn wsX4_signsCounted wsX4_widthOf := goodIn_r _ [4] (by decide +kernel) (by decide +kernel)
set_option maxRecDepth 20000 in
theorem gX4_signsCounted_X4_widthOf : GoodIn wsX4_signsCounted (va_wsS RX4 146 yX4_widthOf wsX4_widthOf) := goodIn_app (goodIn_of _ (by decide +kernel)) ggX4_signsCounted_X4_widthOf
theorem dX4_signsCounted_0 : decode cX4_signsCounted 0 = .ok (.iload_n 0, 1) := by decide +kernel
theorem dX4_signsCounted_1 : decode cX4_signsCounted 1 = .ok (.bipush 83, 2) := by decide +kernel
theorem dX4_signsCounted_3 : decode cX4_signsCounted 3 = .ok (.if_icmp .eq 15, 3) := by decide +kernel
theorem dX4_signsCounted_6 : decode cX4_signsCounted 6 = .ok (.iload_n 0, 1) := by decide +kernel
theorem dX4_signsCounted_7 : decode cX4_signsCounted 7 = .ok (.bipush 86, 2) := by decide +kernel
theorem dX4_signsCounted_9 : decode cX4_signsCounted 9 = .ok (.if_icmp .eq 9, 3) := by decide +kernel
theorem dX4_signsCounted_12 : decode cX4_signsCounted 12 = .ok (.iload_n 0, 1) := by decide +kernel
theorem dX4_signsCounted_13 : decode cX4_signsCounted 13 = .ok (.bipush 80, 2) := by decide +kernel
theorem dX4_signsCounted_15 : decode cX4_signsCounted 15 = .ok (.if_icmp .ne 7, 3) := by decide +kernel
theorem dX4_signsCounted_18 : decode cX4_signsCounted 18 = .ok (.iconst 0, 1) := by decide +kernel
theorem dX4_signsCounted_19 : decode cX4_signsCounted 19 = .ok (.goto 9, 3) := by decide +kernel
theorem dX4_signsCounted_22 : decode cX4_signsCounted 22 = .ok (.iload_n 1, 1) := by decide +kernel
theorem dX4_signsCounted_23 : decode cX4_signsCounted 23 = .ok (.iload_n 0, 1) := by decide +kernel
theorem dX4_signsCounted_24 : decode cX4_signsCounted 24 = .ok (.invokestatic 146, 3) := by decide +kernel
theorem dX4_signsCounted_27 : decode cX4_signsCounted 27 = .ok (.imul, 1) := by decide +kernel
theorem dX4_signsCounted_28 : decode cX4_signsCounted 28 = .ok (.ireturn, 1) := by decide +kernel
