theorem dX3_init_0 : decode cX3_init 0 = .ok (.aload_n 0, 1) := by decide +kernel
theorem dX3_init_1 : decode cX3_init 1 = .ok (.invokespecial 3, 3) := by decide +kernel
theorem dX3_init_4 : decode cX3_init 4 = .ok (.aload_n 0, 1) := by decide +kernel
theorem dX3_init_5 : decode cX3_init 5 = .ok (.bipush 80, 2) := by decide +kernel
theorem dX3_init_7 : decode cX3_init 7 = .ok (.newarray .int, 2) := by decide +kernel
theorem dX3_init_9 : decode cX3_init 9 = .ok (.putfield 9, 3) := by decide +kernel
theorem dX3_init_12 : decode cX3_init 12 = .ok (.aload_n 0, 1) := by decide +kernel
theorem dX3_init_13 : decode cX3_init 13 = .ok (.iconst 0, 1) := by decide +kernel
theorem dX3_init_14 : decode cX3_init 14 = .ok (.putfield 15, 3) := by decide +kernel
theorem dX3_init_17 : decode cX3_init 17 = .ok (.return_, 1) := by decide +kernel
theorem dX3_append_0 : decode cX3_append 0 = .ok (.aload_n 0, 1) := by decide +kernel
theorem dX3_append_1 : decode cX3_append 1 = .ok (.getfield 15, 3) := by decide +kernel
theorem dX3_append_4 : decode cX3_append 4 = .ok (.ifCond .lt 12, 3) := by decide +kernel
theorem dX3_append_7 : decode cX3_append 7 = .ok (.aload_n 0, 1) := by decide +kernel
theorem dX3_append_8 : decode cX3_append 8 = .ok (.getfield 15, 3) := by decide +kernel
theorem dX3_append_11 : decode cX3_append 11 = .ok (.bipush 80, 2) := by decide +kernel
theorem dX3_append_13 : decode cX3_append 13 = .ok (.if_icmp .lt 4, 3) := by decide +kernel
theorem dX3_append_16 : decode cX3_append 16 = .ok (.return_, 1) := by decide +kernel
theorem dX3_append_17 : decode cX3_append 17 = .ok (.aload_n 0, 1) := by decide +kernel
theorem dX3_append_18 : decode cX3_append 18 = .ok (.getfield 9, 3) := by decide +kernel
theorem dX3_append_21 : decode cX3_append 21 = .ok (.aload_n 0, 1) := by decide +kernel
theorem dX3_append_22 : decode cX3_append 22 = .ok (.getfield 15, 3) := by decide +kernel
theorem dX3_append_25 : decode cX3_append 25 = .ok (.iload_n 1, 1) := by decide +kernel
theorem dX3_append_26 : decode cX3_append 26 = .ok (.iconst 1, 1) := by decide +kernel
theorem dX3_append_27 : decode cX3_append 27 = .ok (.if_icmp .lt 13, 3) := by decide +kernel
theorem dX3_append_30 : decode cX3_append 30 = .ok (.iload_n 1, 1) := by decide +kernel
theorem dX3_append_31 : decode cX3_append 31 = .ok (.bipush 126, 2) := by decide +kernel
theorem dX3_append_33 : decode cX3_append 33 = .ok (.if_icmp .gt 7, 3) := by decide +kernel
theorem dX3_append_36 : decode cX3_append 36 = .ok (.iload_n 1, 1) := by decide +kernel
theorem dX3_append_37 : decode cX3_append 37 = .ok (.goto 4, 3) := by decide +kernel
theorem dX3_append_40 : decode cX3_append 40 = .ok (.iconst 0, 1) := by decide +kernel
theorem dX3_append_41 : decode cX3_append 41 = .ok (.iastore, 1) := by decide +kernel
theorem dX3_append_42 : decode cX3_append 42 = .ok (.aload_n 0, 1) := by decide +kernel
theorem dX3_append_43 : decode cX3_append 43 = .ok (.dup, 1) := by decide +kernel
theorem dX3_append_44 : decode cX3_append 44 = .ok (.getfield 15, 3) := by decide +kernel
theorem dX3_append_47 : decode cX3_append 47 = .ok (.iconst 1, 1) := by decide +kernel
theorem dX3_append_48 : decode cX3_append 48 = .ok (.iadd, 1) := by decide +kernel
theorem dX3_append_49 : decode cX3_append 49 = .ok (.putfield 15, 3) := by decide +kernel
theorem dX3_append_52 : decode cX3_append 52 = .ok (.return_, 1) := by decide +kernel
theorem dX3_clear_0 : decode cX3_clear 0 = .ok (.aload_n 0, 1) := by decide +kernel
theorem dX3_clear_1 : decode cX3_clear 1 = .ok (.iconst 0, 1) := by decide +kernel
theorem dX3_clear_2 : decode cX3_clear 2 = .ok (.putfield 15, 3) := by decide +kernel
theorem dX3_clear_5 : decode cX3_clear 5 = .ok (.return_, 1) := by decide +kernel
theorem dX3_characterAt_0 : decode cX3_characterAt 0 = .ok (.iload_n 1, 1) := by decide +kernel
theorem dX3_characterAt_1 : decode cX3_characterAt 1 = .ok (.ifCond .lt 17, 3) := by decide +kernel
theorem dX3_characterAt_4 : decode cX3_characterAt 4 = .ok (.iload_n 1, 1) := by decide +kernel
theorem dX3_characterAt_5 : decode cX3_characterAt 5 = .ok (.aload_n 0, 1) := by decide +kernel
theorem dX3_characterAt_6 : decode cX3_characterAt 6 = .ok (.getfield 15, 3) := by decide +kernel
theorem dX3_characterAt_9 : decode cX3_characterAt 9 = .ok (.if_icmp .ge 9, 3) := by decide +kernel
theorem dX3_characterAt_12 : decode cX3_characterAt 12 = .ok (.iload_n 1, 1) := by decide +kernel
theorem dX3_characterAt_13 : decode cX3_characterAt 13 = .ok (.bipush 80, 2) := by decide +kernel
theorem dX3_characterAt_15 : decode cX3_characterAt 15 = .ok (.if_icmp .lt 7, 3) := by decide +kernel
theorem dX3_characterAt_18 : decode cX3_characterAt 18 = .ok (.iconst 0, 1) := by decide +kernel
theorem dX3_characterAt_19 : decode cX3_characterAt 19 = .ok (.goto 9, 3) := by decide +kernel
theorem dX3_characterAt_22 : decode cX3_characterAt 22 = .ok (.aload_n 0, 1) := by decide +kernel
theorem dX3_characterAt_23 : decode cX3_characterAt 23 = .ok (.getfield 9, 3) := by decide +kernel
theorem dX3_characterAt_26 : decode cX3_characterAt 26 = .ok (.iload_n 1, 1) := by decide +kernel
theorem dX3_characterAt_27 : decode cX3_characterAt 27 = .ok (.iaload, 1) := by decide +kernel
theorem dX3_characterAt_28 : decode cX3_characterAt 28 = .ok (.ireturn, 1) := by decide +kernel
set_option maxRecDepth 20000 in
theorem ggX3_signAt_X3_characterAt : GoodIn wsX3_signAt wsX3_characterAt := goodIn_r _ [5, 6, 7, 100, 101] (by decide +kernel) (by decide +kernel)
set_option maxRecDepth 20000 in
theorem gX3_signAt_X3_characterAt : GoodIn wsX3_signAt (wsV RX3 19 RX3 yX3_characterAt wsX3_characterAt) := goodIn_app (goodIn_of _ (by decide +kernel)) ggX3_signAt_X3_characterAt
set_option maxRecDepth 20000 in
theorem ggX3_signAt_X4_greatOf : GoodIn wsX3_signAt wsX4_greatOf := goodIn_r _ [10] (by decide +kernel) (by decide +kernel)
set_option maxRecDepth 20000 in
theorem gX3_signAt_X4_greatOf_n23 : GoodIn wsX3_signAt (wsX4_greatOf) := ggX3_signAt_X4_greatOf
set_option maxRecDepth 20000 in
theorem ggX3_signAt_J0_indexOf_0f7a4 : GoodIn wsX3_signAt wsJ0_indexOf_0f7a4 := goodIn_r _ [15, 16, 17, 18, 14, 19, 20, 21, 22, 23, 24, 25, 26, 27, 28, 29, 30, 31, 32, 33, 34, 35, 36, 37, 38, 39, 40, 41, 42, 43, 44, 45, 46, 47, 48, 49, 50, 51, 52, 53, 54, 55, 56, 57, 58, 59, 60, 61, 62, 63, 64, 65, 66, 67, 68, 69, 70, 71, 72, 73, 74, 75, 76, 77, 78, 79, 80, 81, 82, 83, 84, 85, 86, 87, 88, 89, 90, 91, 92, 93, 94, 95, 96, 97, 98, 99] (by decide +kernel) (by decide +kernel)
set_option maxRecDepth 20000 in
theorem gX3_signAt_J0_indexOf_0f7a4 : GoodIn wsX3_signAt (wsV RX3 28 RJ0 yJ0_indexOf_0f7a4 wsJ0_indexOf_0f7a4) := goodIn_app (goodIn_of _ (by decide +kernel)) ggX3_signAt_J0_indexOf_0f7a4
theorem dX3_signAt_0 : decode cX3_signAt 0 = .ok (.aload_n 0, 1) := by decide +kernel
theorem dX3_signAt_1 : decode cX3_signAt 1 = .ok (.iload_n 1, 1) := by decide +kernel
theorem dX3_signAt_2 : decode cX3_signAt 2 = .ok (.invokevirtual 19, 3) := by decide +kernel
theorem dX3_signAt_5 : decode cX3_signAt 5 = .ok (.istore_n 3, 1) := by decide +kernel
theorem dX3_signAt_6 : decode cX3_signAt 6 = .ok (.iload_n 3, 1) := by decide +kernel
theorem dX3_signAt_7 : decode cX3_signAt 7 = .ok (.iload_n 2, 1) := by decide +kernel
theorem dX3_signAt_8 : decode cX3_signAt 8 = .ok (.if_icmp .ne 6, 3) := by decide +kernel
theorem dX3_signAt_11 : decode cX3_signAt 11 = .ok (.bipush 36, 2) := by decide +kernel
theorem dX3_signAt_13 : decode cX3_signAt 13 = .ok (.ireturn, 1) := by decide +kernel
theorem dX3_signAt_14 : decode cX3_signAt 14 = .ok (.iload_n 3, 1) := by decide +kernel
theorem dX3_signAt_15 : decode cX3_signAt 15 = .ok (.invokestatic 23, 3) := by decide +kernel
theorem dX3_signAt_18 : decode cX3_signAt 18 = .ok (.istore 4, 2) := by decide +kernel
theorem dX3_signAt_20 : decode cX3_signAt 20 = .ok (.aload_n 0, 1) := by decide +kernel
theorem dX3_signAt_21 : decode cX3_signAt 21 = .ok (.iload_n 1, 1) := by decide +kernel
theorem dX3_signAt_22 : decode cX3_signAt 22 = .ok (.iconst 1, 1) := by decide +kernel
theorem dX3_signAt_23 : decode cX3_signAt 23 = .ok (.iadd, 1) := by decide +kernel
theorem dX3_signAt_24 : decode cX3_signAt 24 = .ok (.invokevirtual 19, 3) := by decide +kernel
theorem dX3_signAt_27 : decode cX3_signAt 27 = .ok (.invokestatic 23, 3) := by decide +kernel
theorem dX3_signAt_30 : decode cX3_signAt 30 = .ok (.istore 5, 2) := by decide +kernel
theorem dX3_signAt_32 : decode cX3_signAt 32 = .ok (.iload 4, 2) := by decide +kernel
theorem dX3_signAt_34 : decode cX3_signAt 34 = .ok (.bipush 67, 2) := by decide +kernel
theorem dX3_signAt_36 : decode cX3_signAt 36 = .ok (.if_icmp .ne 10, 3) := by decide +kernel
theorem dX3_signAt_39 : decode cX3_signAt 39 = .ok (.iload 5, 2) := by decide +kernel
theorem dX3_signAt_41 : decode cX3_signAt 41 = .ok (.bipush 82, 2) := by decide +kernel
theorem dX3_signAt_43 : decode cX3_signAt 43 = .ok (.if_icmp .eq 17, 3) := by decide +kernel
theorem dX3_signAt_46 : decode cX3_signAt 46 = .ok (.iload 4, 2) := by decide +kernel
theorem dX3_signAt_48 : decode cX3_signAt 48 = .ok (.bipush 68, 2) := by decide +kernel
theorem dX3_signAt_50 : decode cX3_signAt 50 = .ok (.if_icmp .ne 13, 3) := by decide +kernel
theorem dX3_signAt_53 : decode cX3_signAt 53 = .ok (.iload 5, 2) := by decide +kernel
theorem dX3_signAt_55 : decode cX3_signAt 55 = .ok (.bipush 66, 2) := by decide +kernel
theorem dX3_signAt_57 : decode cX3_signAt 57 = .ok (.if_icmp .ne 6, 3) := by decide +kernel
theorem dX3_signAt_60 : decode cX3_signAt 60 = .ok (.iload 4, 2) := by decide +kernel
theorem dX3_signAt_62 : decode cX3_signAt 62 = .ok (.ireturn, 1) := by decide +kernel
theorem dX3_signAt_63 : decode cX3_signAt 63 = .ok (.ldc 26, 2) := by decide +kernel
theorem dX3_signAt_65 : decode cX3_signAt 65 = .ok (.iload 4, 2) := by decide +kernel
theorem dX3_signAt_67 : decode cX3_signAt 67 = .ok (.i2c, 1) := by decide +kernel
theorem dX3_signAt_68 : decode cX3_signAt 68 = .ok (.invokevirtual 28, 3) := by decide +kernel
theorem dX3_signAt_71 : decode cX3_signAt 71 = .ok (.ifCond .ge 7, 3) := by decide +kernel
theorem dX3_signAt_74 : decode cX3_signAt 74 = .ok (.iconst (-1), 1) := by decide +kernel
theorem dX3_signAt_75 : decode cX3_signAt 75 = .ok (.goto 5, 3) := by decide +kernel
theorem dX3_signAt_78 : decode cX3_signAt 78 = .ok (.iload 4, 2) := by decide +kernel
theorem dX3_signAt_80 : decode cX3_signAt 80 = .ok (.ireturn, 1) := by decide +kernel
set_option maxRecDepth 20000 in
theorem ggX3_closeOf_X3_characterAt : GoodIn wsX3_closeOf wsX3_characterAt := goodIn_r _ [5, 6, 7, 8, 9] (by decide +kernel) (by decide +kernel)
set_option maxRecDepth 20000 in
theorem gX3_closeOf_X3_characterAt : GoodIn wsX3_closeOf (wsV RX3 19 RX3 yX3_characterAt wsX3_characterAt) := goodIn_app (goodIn_of _ (by decide +kernel)) ggX3_closeOf_X3_characterAt
theorem dX3_closeOf_0 : decode cX3_closeOf 0 = .ok (.iload_n 1, 1) := by decide +kernel
theorem dX3_closeOf_1 : decode cX3_closeOf 1 = .ok (.iconst 1, 1) := by decide +kernel
theorem dX3_closeOf_2 : decode cX3_closeOf 2 = .ok (.iadd, 1) := by decide +kernel
theorem dX3_closeOf_3 : decode cX3_closeOf 3 = .ok (.istore_n 2, 1) := by decide +kernel
theorem dX3_closeOf_4 : decode cX3_closeOf 4 = .ok (.iload_n 2, 1) := by decide +kernel
theorem dX3_closeOf_5 : decode cX3_closeOf 5 = .ok (.iload_n 1, 1) := by decide +kernel
theorem dX3_closeOf_6 : decode cX3_closeOf 6 = .ok (.iconst 1, 1) := by decide +kernel
theorem dX3_closeOf_7 : decode cX3_closeOf 7 = .ok (.iadd, 1) := by decide +kernel
theorem dX3_closeOf_8 : decode cX3_closeOf 8 = .ok (.iconst 4, 1) := by decide +kernel
theorem dX3_closeOf_9 : decode cX3_closeOf 9 = .ok (.iadd, 1) := by decide +kernel
theorem dX3_closeOf_10 : decode cX3_closeOf 10 = .ok (.if_icmp .gt 37, 3) := by decide +kernel
theorem dX3_closeOf_13 : decode cX3_closeOf 13 = .ok (.aload_n 0, 1) := by decide +kernel
theorem dX3_closeOf_14 : decode cX3_closeOf 14 = .ok (.iload_n 2, 1) := by decide +kernel
theorem dX3_closeOf_15 : decode cX3_closeOf 15 = .ok (.invokevirtual 19, 3) := by decide +kernel
theorem dX3_closeOf_18 : decode cX3_closeOf 18 = .ok (.istore_n 3, 1) := by decide +kernel
theorem dX3_closeOf_19 : decode cX3_closeOf 19 = .ok (.iload_n 3, 1) := by decide +kernel
theorem dX3_closeOf_20 : decode cX3_closeOf 20 = .ok (.bipush 41, 2) := by decide +kernel
theorem dX3_closeOf_22 : decode cX3_closeOf 22 = .ok (.if_icmp .ne 5, 3) := by decide +kernel
theorem dX3_closeOf_25 : decode cX3_closeOf 25 = .ok (.iload_n 2, 1) := by decide +kernel
theorem dX3_closeOf_26 : decode cX3_closeOf 26 = .ok (.ireturn, 1) := by decide +kernel
theorem dX3_closeOf_27 : decode cX3_closeOf 27 = .ok (.iload_n 3, 1) := by decide +kernel
theorem dX3_closeOf_28 : decode cX3_closeOf 28 = .ok (.bipush 48, 2) := by decide +kernel
theorem dX3_closeOf_30 : decode cX3_closeOf 30 = .ok (.if_icmp .lt 9, 3) := by decide +kernel
theorem dX3_closeOf_33 : decode cX3_closeOf 33 = .ok (.iload_n 3, 1) := by decide +kernel
theorem dX3_closeOf_34 : decode cX3_closeOf 34 = .ok (.bipush 57, 2) := by decide +kernel
theorem dX3_closeOf_36 : decode cX3_closeOf 36 = .ok (.if_icmp .le 5, 3) := by decide +kernel
theorem dX3_closeOf_39 : decode cX3_closeOf 39 = .ok (.iconst (-1), 1) := by decide +kernel
theorem dX3_closeOf_40 : decode cX3_closeOf 40 = .ok (.ireturn, 1) := by decide +kernel
theorem dX3_closeOf_41 : decode cX3_closeOf 41 = .ok (.iinc 2 1, 3) := by decide +kernel
theorem dX3_closeOf_44 : decode cX3_closeOf 44 = .ok (.goto (-40), 3) := by decide +kernel
theorem dX3_closeOf_47 : decode cX3_closeOf 47 = .ok (.iconst (-1), 1) := by decide +kernel
theorem dX3_closeOf_48 : decode cX3_closeOf 48 = .ok (.ireturn, 1) := by decide +kernel
set_option maxRecDepth 20000 in
theorem ggX3_numberBetween_X3_characterAt : GoodIn wsX3_numberBetween wsX3_characterAt := goodIn_r _ [5, 6, 7, 8, 9] (by decide +kernel) (by decide +kernel)
set_option maxRecDepth 20000 in
theorem gX3_numberBetween_X3_characterAt : GoodIn wsX3_numberBetween (wsV RX3 19 RX3 yX3_characterAt wsX3_characterAt) := goodIn_app (goodIn_of _ (by decide +kernel)) ggX3_numberBetween_X3_characterAt
theorem dX3_numberBetween_0 : decode cX3_numberBetween 0 = .ok (.iconst 0, 1) := by decide +kernel
theorem dX3_numberBetween_1 : decode cX3_numberBetween 1 = .ok (.istore_n 3, 1) := by decide +kernel
theorem dX3_numberBetween_2 : decode cX3_numberBetween 2 = .ok (.iload_n 1, 1) := by decide +kernel
theorem dX3_numberBetween_3 : decode cX3_numberBetween 3 = .ok (.iconst 1, 1) := by decide +kernel
theorem dX3_numberBetween_4 : decode cX3_numberBetween 4 = .ok (.iadd, 1) := by decide +kernel
theorem dX3_numberBetween_5 : decode cX3_numberBetween 5 = .ok (.istore 4, 2) := by decide +kernel
theorem dX3_numberBetween_7 : decode cX3_numberBetween 7 = .ok (.iload 4, 2) := by decide +kernel
theorem dX3_numberBetween_9 : decode cX3_numberBetween 9 = .ok (.iload_n 2, 1) := by decide +kernel
theorem dX3_numberBetween_10 : decode cX3_numberBetween 10 = .ok (.if_icmp .ge 24, 3) := by decide +kernel
theorem dX3_numberBetween_13 : decode cX3_numberBetween 13 = .ok (.iload_n 3, 1) := by decide +kernel
theorem dX3_numberBetween_14 : decode cX3_numberBetween 14 = .ok (.bipush 10, 2) := by decide +kernel
theorem dX3_numberBetween_16 : decode cX3_numberBetween 16 = .ok (.imul, 1) := by decide +kernel
theorem dX3_numberBetween_17 : decode cX3_numberBetween 17 = .ok (.aload_n 0, 1) := by decide +kernel
theorem dX3_numberBetween_18 : decode cX3_numberBetween 18 = .ok (.iload 4, 2) := by decide +kernel
theorem dX3_numberBetween_20 : decode cX3_numberBetween 20 = .ok (.invokevirtual 19, 3) := by decide +kernel
theorem dX3_numberBetween_23 : decode cX3_numberBetween 23 = .ok (.iadd, 1) := by decide +kernel
theorem dX3_numberBetween_24 : decode cX3_numberBetween 24 = .ok (.bipush 48, 2) := by decide +kernel
theorem dX3_numberBetween_26 : decode cX3_numberBetween 26 = .ok (.isub, 1) := by decide +kernel
theorem dX3_numberBetween_27 : decode cX3_numberBetween 27 = .ok (.istore_n 3, 1) := by decide +kernel
theorem dX3_numberBetween_28 : decode cX3_numberBetween 28 = .ok (.iinc 4 1, 3) := by decide +kernel
theorem dX3_numberBetween_31 : decode cX3_numberBetween 31 = .ok (.goto (-24), 3) := by decide +kernel
theorem dX3_numberBetween_34 : decode cX3_numberBetween 34 = .ok (.iload_n 3, 1) := by decide +kernel
theorem dX3_numberBetween_35 : decode cX3_numberBetween 35 = .ok (.ireturn, 1) := by decide +kernel
