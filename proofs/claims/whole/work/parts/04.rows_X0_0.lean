theorem dX0_init_0 : decode cX0_init 0 = .ok (.aload_n 0, 1) := by decide +kernel
theorem dX0_init_1 : decode cX0_init 1 = .ok (.invokespecial 3, 3) := by decide +kernel
theorem dX0_init_4 : decode cX0_init 4 = .ok (.aload_n 0, 1) := by decide +kernel
theorem dX0_init_5 : decode cX0_init 5 = .ok (.iconst 0, 1) := by decide +kernel
theorem dX0_init_6 : decode cX0_init 6 = .ok (.putfield 9, 3) := by decide +kernel
theorem dX0_init_9 : decode cX0_init 9 = .ok (.aload_n 0, 1) := by decide +kernel
theorem dX0_init_10 : decode cX0_init 10 = .ok (.iload_n 1, 1) := by decide +kernel
theorem dX0_init_11 : decode cX0_init 11 = .ok (.iconst 0, 1) := by decide +kernel
theorem dX0_init_12 : decode cX0_init 12 = .ok (.invokestatic 15, 3) := by decide +kernel
theorem dX0_init_15 : decode cX0_init 15 = .ok (.newarray .int, 2) := by decide +kernel
theorem dX0_init_17 : decode cX0_init 17 = .ok (.putfield 21, 3) := by decide +kernel
theorem dX0_init_20 : decode cX0_init 20 = .ok (.aload_n 0, 1) := by decide +kernel
theorem dX0_init_21 : decode cX0_init 21 = .ok (.iload_n 1, 1) := by decide +kernel
theorem dX0_init_22 : decode cX0_init 22 = .ok (.iconst 0, 1) := by decide +kernel
theorem dX0_init_23 : decode cX0_init 23 = .ok (.invokestatic 15, 3) := by decide +kernel
theorem dX0_init_26 : decode cX0_init 26 = .ok (.newarray .int, 2) := by decide +kernel
theorem dX0_init_28 : decode cX0_init 28 = .ok (.putfield 25, 3) := by decide +kernel
theorem dX0_init_31 : decode cX0_init 31 = .ok (.return_, 1) := by decide +kernel
theorem dX0_add_0 : decode cX0_add 0 = .ok (.aload_n 0, 1) := by decide +kernel
theorem dX0_add_1 : decode cX0_add 1 = .ok (.getfield 9, 3) := by decide +kernel
theorem dX0_add_4 : decode cX0_add 4 = .ok (.iconst 1, 1) := by decide +kernel
theorem dX0_add_5 : decode cX0_add 5 = .ok (.isub, 1) := by decide +kernel
theorem dX0_add_6 : decode cX0_add 6 = .ok (.istore_n 3, 1) := by decide +kernel
theorem dX0_add_7 : decode cX0_add 7 = .ok (.iload_n 3, 1) := by decide +kernel
theorem dX0_add_8 : decode cX0_add 8 = .ok (.ifCond .lt 44, 3) := by decide +kernel
theorem dX0_add_11 : decode cX0_add 11 = .ok (.iload_n 3, 1) := by decide +kernel
theorem dX0_add_12 : decode cX0_add 12 = .ok (.aload_n 0, 1) := by decide +kernel
theorem dX0_add_13 : decode cX0_add 13 = .ok (.getfield 21, 3) := by decide +kernel
theorem dX0_add_16 : decode cX0_add 16 = .ok (.arraylength, 1) := by decide +kernel
theorem dX0_add_17 : decode cX0_add 17 = .ok (.if_icmp .ge 35, 3) := by decide +kernel
theorem dX0_add_20 : decode cX0_add 20 = .ok (.iload_n 3, 1) := by decide +kernel
theorem dX0_add_21 : decode cX0_add 21 = .ok (.aload_n 0, 1) := by decide +kernel
theorem dX0_add_22 : decode cX0_add 22 = .ok (.getfield 25, 3) := by decide +kernel
theorem dX0_add_25 : decode cX0_add 25 = .ok (.arraylength, 1) := by decide +kernel
theorem dX0_add_26 : decode cX0_add 26 = .ok (.if_icmp .ge 26, 3) := by decide +kernel
theorem dX0_add_29 : decode cX0_add 29 = .ok (.aload_n 0, 1) := by decide +kernel
theorem dX0_add_30 : decode cX0_add 30 = .ok (.getfield 21, 3) := by decide +kernel
theorem dX0_add_33 : decode cX0_add 33 = .ok (.iload_n 3, 1) := by decide +kernel
theorem dX0_add_34 : decode cX0_add 34 = .ok (.iaload, 1) := by decide +kernel
theorem dX0_add_35 : decode cX0_add 35 = .ok (.iload_n 1, 1) := by decide +kernel
theorem dX0_add_36 : decode cX0_add 36 = .ok (.if_icmp .ne 16, 3) := by decide +kernel
theorem dX0_add_39 : decode cX0_add 39 = .ok (.aload_n 0, 1) := by decide +kernel
theorem dX0_add_40 : decode cX0_add 40 = .ok (.getfield 25, 3) := by decide +kernel
theorem dX0_add_43 : decode cX0_add 43 = .ok (.iload_n 3, 1) := by decide +kernel
theorem dX0_add_44 : decode cX0_add 44 = .ok (.dup2, 1) := by decide +kernel
theorem dX0_add_45 : decode cX0_add 45 = .ok (.iaload, 1) := by decide +kernel
theorem dX0_add_46 : decode cX0_add 46 = .ok (.iload_n 2, 1) := by decide +kernel
theorem dX0_add_47 : decode cX0_add 47 = .ok (.iadd, 1) := by decide +kernel
theorem dX0_add_48 : decode cX0_add 48 = .ok (.iastore, 1) := by decide +kernel
theorem dX0_add_49 : decode cX0_add 49 = .ok (.goto 64, 3) := by decide +kernel
theorem dX0_add_52 : decode cX0_add 52 = .ok (.aload_n 0, 1) := by decide +kernel
theorem dX0_add_53 : decode cX0_add 53 = .ok (.getfield 9, 3) := by decide +kernel
theorem dX0_add_56 : decode cX0_add 56 = .ok (.ifCond .lt 57, 3) := by decide +kernel
theorem dX0_add_59 : decode cX0_add 59 = .ok (.aload_n 0, 1) := by decide +kernel
theorem dX0_add_60 : decode cX0_add 60 = .ok (.getfield 9, 3) := by decide +kernel
theorem dX0_add_63 : decode cX0_add 63 = .ok (.aload_n 0, 1) := by decide +kernel
theorem dX0_add_64 : decode cX0_add 64 = .ok (.getfield 21, 3) := by decide +kernel
theorem dX0_add_67 : decode cX0_add 67 = .ok (.arraylength, 1) := by decide +kernel
theorem dX0_add_68 : decode cX0_add 68 = .ok (.if_icmp .ge 45, 3) := by decide +kernel
theorem dX0_add_71 : decode cX0_add 71 = .ok (.aload_n 0, 1) := by decide +kernel
theorem dX0_add_72 : decode cX0_add 72 = .ok (.getfield 9, 3) := by decide +kernel
theorem dX0_add_75 : decode cX0_add 75 = .ok (.aload_n 0, 1) := by decide +kernel
theorem dX0_add_76 : decode cX0_add 76 = .ok (.getfield 25, 3) := by decide +kernel
theorem dX0_add_79 : decode cX0_add 79 = .ok (.arraylength, 1) := by decide +kernel
theorem dX0_add_80 : decode cX0_add 80 = .ok (.if_icmp .ge 33, 3) := by decide +kernel
theorem dX0_add_83 : decode cX0_add 83 = .ok (.aload_n 0, 1) := by decide +kernel
theorem dX0_add_84 : decode cX0_add 84 = .ok (.getfield 21, 3) := by decide +kernel
theorem dX0_add_87 : decode cX0_add 87 = .ok (.aload_n 0, 1) := by decide +kernel
theorem dX0_add_88 : decode cX0_add 88 = .ok (.getfield 9, 3) := by decide +kernel
theorem dX0_add_91 : decode cX0_add 91 = .ok (.iload_n 1, 1) := by decide +kernel
theorem dX0_add_92 : decode cX0_add 92 = .ok (.iastore, 1) := by decide +kernel
theorem dX0_add_93 : decode cX0_add 93 = .ok (.aload_n 0, 1) := by decide +kernel
theorem dX0_add_94 : decode cX0_add 94 = .ok (.getfield 25, 3) := by decide +kernel
theorem dX0_add_97 : decode cX0_add 97 = .ok (.aload_n 0, 1) := by decide +kernel
theorem dX0_add_98 : decode cX0_add 98 = .ok (.getfield 9, 3) := by decide +kernel
theorem dX0_add_101 : decode cX0_add 101 = .ok (.iload_n 2, 1) := by decide +kernel
theorem dX0_add_102 : decode cX0_add 102 = .ok (.iastore, 1) := by decide +kernel
theorem dX0_add_103 : decode cX0_add 103 = .ok (.aload_n 0, 1) := by decide +kernel
theorem dX0_add_104 : decode cX0_add 104 = .ok (.dup, 1) := by decide +kernel
theorem dX0_add_105 : decode cX0_add 105 = .ok (.getfield 9, 3) := by decide +kernel
theorem dX0_add_108 : decode cX0_add 108 = .ok (.iconst 1, 1) := by decide +kernel
theorem dX0_add_109 : decode cX0_add 109 = .ok (.iadd, 1) := by decide +kernel
theorem dX0_add_110 : decode cX0_add 110 = .ok (.putfield 9, 3) := by decide +kernel
theorem dX0_add_113 : decode cX0_add 113 = .ok (.return_, 1) := by decide +kernel
set_option maxRecDepth 20000 in
theorem ggX0_equalTo_X0_signOf : GoodIn wsX0_equalTo wsX0_signOf := goodIn_r _ [6, 7, 13, 14, 15] (by decide +kernel) (by decide +kernel)
set_option maxRecDepth 20000 in
theorem gX0_equalTo_X0_signOf : GoodIn wsX0_equalTo (wsV RX0 28 RX0 yX0_signOf wsX0_signOf) := goodIn_app (goodIn_of _ (by decide +kernel)) ggX0_equalTo_X0_signOf
set_option maxRecDepth 20000 in
theorem ggX0_equalTo_X0_timesOf : GoodIn wsX0_equalTo wsX0_timesOf := goodIn_r _ [11, 12, 13, 14, 15] (by decide +kernel) (by decide +kernel)
set_option maxRecDepth 20000 in
theorem gX0_equalTo_X0_timesOf : GoodIn wsX0_equalTo (wsV RX0 32 RX0 yX0_timesOf wsX0_timesOf) := goodIn_app (goodIn_of _ (by decide +kernel)) ggX0_equalTo_X0_timesOf
theorem dX0_equalTo_0 : decode cX0_equalTo 0 = .ok (.aload_n 1, 1) := by decide +kernel
theorem dX0_equalTo_1 : decode cX0_equalTo 1 = .ok (.ifnull 14, 3) := by decide +kernel
theorem dX0_equalTo_4 : decode cX0_equalTo 4 = .ok (.aload_n 1, 1) := by decide +kernel
theorem dX0_equalTo_5 : decode cX0_equalTo 5 = .ok (.getfield 9, 3) := by decide +kernel
theorem dX0_equalTo_8 : decode cX0_equalTo 8 = .ok (.aload_n 0, 1) := by decide +kernel
theorem dX0_equalTo_9 : decode cX0_equalTo 9 = .ok (.getfield 9, 3) := by decide +kernel
theorem dX0_equalTo_12 : decode cX0_equalTo 12 = .ok (.if_icmp .eq 5, 3) := by decide +kernel
theorem dX0_equalTo_15 : decode cX0_equalTo 15 = .ok (.iconst 0, 1) := by decide +kernel
theorem dX0_equalTo_16 : decode cX0_equalTo 16 = .ok (.ireturn, 1) := by decide +kernel
theorem dX0_equalTo_17 : decode cX0_equalTo 17 = .ok (.iconst 0, 1) := by decide +kernel
theorem dX0_equalTo_18 : decode cX0_equalTo 18 = .ok (.istore_n 2, 1) := by decide +kernel
theorem dX0_equalTo_19 : decode cX0_equalTo 19 = .ok (.iload_n 2, 1) := by decide +kernel
theorem dX0_equalTo_20 : decode cX0_equalTo 20 = .ok (.aload_n 0, 1) := by decide +kernel
theorem dX0_equalTo_21 : decode cX0_equalTo 21 = .ok (.getfield 9, 3) := by decide +kernel
theorem dX0_equalTo_24 : decode cX0_equalTo 24 = .ok (.if_icmp .ge 37, 3) := by decide +kernel
theorem dX0_equalTo_27 : decode cX0_equalTo 27 = .ok (.aload_n 0, 1) := by decide +kernel
theorem dX0_equalTo_28 : decode cX0_equalTo 28 = .ok (.iload_n 2, 1) := by decide +kernel
theorem dX0_equalTo_29 : decode cX0_equalTo 29 = .ok (.invokevirtual 28, 3) := by decide +kernel
theorem dX0_equalTo_32 : decode cX0_equalTo 32 = .ok (.aload_n 1, 1) := by decide +kernel
theorem dX0_equalTo_33 : decode cX0_equalTo 33 = .ok (.iload_n 2, 1) := by decide +kernel
theorem dX0_equalTo_34 : decode cX0_equalTo 34 = .ok (.invokevirtual 28, 3) := by decide +kernel
theorem dX0_equalTo_37 : decode cX0_equalTo 37 = .ok (.if_icmp .ne 16, 3) := by decide +kernel
theorem dX0_equalTo_40 : decode cX0_equalTo 40 = .ok (.aload_n 0, 1) := by decide +kernel
theorem dX0_equalTo_41 : decode cX0_equalTo 41 = .ok (.iload_n 2, 1) := by decide +kernel
theorem dX0_equalTo_42 : decode cX0_equalTo 42 = .ok (.invokevirtual 32, 3) := by decide +kernel
theorem dX0_equalTo_45 : decode cX0_equalTo 45 = .ok (.aload_n 1, 1) := by decide +kernel
theorem dX0_equalTo_46 : decode cX0_equalTo 46 = .ok (.iload_n 2, 1) := by decide +kernel
theorem dX0_equalTo_47 : decode cX0_equalTo 47 = .ok (.invokevirtual 32, 3) := by decide +kernel
theorem dX0_equalTo_50 : decode cX0_equalTo 50 = .ok (.if_icmp .eq 5, 3) := by decide +kernel
theorem dX0_equalTo_53 : decode cX0_equalTo 53 = .ok (.iconst 0, 1) := by decide +kernel
theorem dX0_equalTo_54 : decode cX0_equalTo 54 = .ok (.ireturn, 1) := by decide +kernel
theorem dX0_equalTo_55 : decode cX0_equalTo 55 = .ok (.iinc 2 1, 3) := by decide +kernel
theorem dX0_equalTo_58 : decode cX0_equalTo 58 = .ok (.goto (-39), 3) := by decide +kernel
theorem dX0_equalTo_61 : decode cX0_equalTo 61 = .ok (.iconst 1, 1) := by decide +kernel
theorem dX0_equalTo_62 : decode cX0_equalTo 62 = .ok (.ireturn, 1) := by decide +kernel
theorem dX0_signOf_0 : decode cX0_signOf 0 = .ok (.iload_n 1, 1) := by decide +kernel
theorem dX0_signOf_1 : decode cX0_signOf 1 = .ok (.ifCond .lt 21, 3) := by decide +kernel
theorem dX0_signOf_4 : decode cX0_signOf 4 = .ok (.iload_n 1, 1) := by decide +kernel
theorem dX0_signOf_5 : decode cX0_signOf 5 = .ok (.aload_n 0, 1) := by decide +kernel
theorem dX0_signOf_6 : decode cX0_signOf 6 = .ok (.getfield 21, 3) := by decide +kernel
theorem dX0_signOf_9 : decode cX0_signOf 9 = .ok (.arraylength, 1) := by decide +kernel
theorem dX0_signOf_10 : decode cX0_signOf 10 = .ok (.if_icmp .ge 12, 3) := by decide +kernel
theorem dX0_signOf_13 : decode cX0_signOf 13 = .ok (.aload_n 0, 1) := by decide +kernel
theorem dX0_signOf_14 : decode cX0_signOf 14 = .ok (.getfield 21, 3) := by decide +kernel
theorem dX0_signOf_17 : decode cX0_signOf 17 = .ok (.iload_n 1, 1) := by decide +kernel
theorem dX0_signOf_18 : decode cX0_signOf 18 = .ok (.iaload, 1) := by decide +kernel
theorem dX0_signOf_19 : decode cX0_signOf 19 = .ok (.goto 4, 3) := by decide +kernel
theorem dX0_signOf_22 : decode cX0_signOf 22 = .ok (.iconst (-1), 1) := by decide +kernel
theorem dX0_signOf_23 : decode cX0_signOf 23 = .ok (.ireturn, 1) := by decide +kernel
theorem dX0_timesOf_0 : decode cX0_timesOf 0 = .ok (.iload_n 1, 1) := by decide +kernel
theorem dX0_timesOf_1 : decode cX0_timesOf 1 = .ok (.ifCond .lt 21, 3) := by decide +kernel
theorem dX0_timesOf_4 : decode cX0_timesOf 4 = .ok (.iload_n 1, 1) := by decide +kernel
theorem dX0_timesOf_5 : decode cX0_timesOf 5 = .ok (.aload_n 0, 1) := by decide +kernel
theorem dX0_timesOf_6 : decode cX0_timesOf 6 = .ok (.getfield 25, 3) := by decide +kernel
theorem dX0_timesOf_9 : decode cX0_timesOf 9 = .ok (.arraylength, 1) := by decide +kernel
theorem dX0_timesOf_10 : decode cX0_timesOf 10 = .ok (.if_icmp .ge 12, 3) := by decide +kernel
theorem dX0_timesOf_13 : decode cX0_timesOf 13 = .ok (.aload_n 0, 1) := by decide +kernel
theorem dX0_timesOf_14 : decode cX0_timesOf 14 = .ok (.getfield 25, 3) := by decide +kernel
theorem dX0_timesOf_17 : decode cX0_timesOf 17 = .ok (.iload_n 1, 1) := by decide +kernel
theorem dX0_timesOf_18 : decode cX0_timesOf 18 = .ok (.iaload, 1) := by decide +kernel
theorem dX0_timesOf_19 : decode cX0_timesOf 19 = .ok (.goto 4, 3) := by decide +kernel
theorem dX0_timesOf_22 : decode cX0_timesOf 22 = .ok (.iconst 0, 1) := by decide +kernel
theorem dX0_timesOf_23 : decode cX0_timesOf 23 = .ok (.ireturn, 1) := by decide +kernel
