theorem dX0_init_0 : decode cX0_init 0 = .ok (.aload_n 0, 1) := by decide +kernel
theorem dX0_init_1 : decode cX0_init 1 = .ok (.invokespecial 3, 3) := by decide +kernel
theorem dX0_init_4 : decode cX0_init 4 = .ok (.aload_n 0, 1) := by decide +kernel
theorem dX0_init_5 : decode cX0_init 5 = .ok (.iload_n 1, 1) := by decide +kernel
theorem dX0_init_6 : decode cX0_init 6 = .ok (.putfield 9, 3) := by decide +kernel
theorem dX0_init_9 : decode cX0_init 9 = .ok (.aload_n 0, 1) := by decide +kernel
theorem dX0_init_10 : decode cX0_init 10 = .ok (.iconst 0, 1) := by decide +kernel
theorem dX0_init_11 : decode cX0_init 11 = .ok (.putfield 15, 3) := by decide +kernel
theorem dX0_init_14 : decode cX0_init 14 = .ok (.aload_n 0, 1) := by decide +kernel
theorem dX0_init_15 : decode cX0_init 15 = .ok (.iload_n 2, 1) := by decide +kernel
theorem dX0_init_16 : decode cX0_init 16 = .ok (.putfield 18, 3) := by decide +kernel
theorem dX0_init_19 : decode cX0_init 19 = .ok (.aload_n 0, 1) := by decide +kernel
theorem dX0_init_20 : decode cX0_init 20 = .ok (.iload_n 3, 1) := by decide +kernel
theorem dX0_init_21 : decode cX0_init 21 = .ok (.putfield 21, 3) := by decide +kernel
theorem dX0_init_24 : decode cX0_init 24 = .ok (.aload_n 0, 1) := by decide +kernel
theorem dX0_init_25 : decode cX0_init 25 = .ok (.iload 4, 2) := by decide +kernel
theorem dX0_init_27 : decode cX0_init 27 = .ok (.putfield 24, 3) := by decide +kernel
theorem dX0_init_30 : decode cX0_init 30 = .ok (.aload_n 0, 1) := by decide +kernel
theorem dX0_init_31 : decode cX0_init 31 = .ok (.iload 5, 2) := by decide +kernel
theorem dX0_init_33 : decode cX0_init 33 = .ok (.putfield 27, 3) := by decide +kernel
theorem dX0_init_36 : decode cX0_init 36 = .ok (.aload_n 0, 1) := by decide +kernel
theorem dX0_init_37 : decode cX0_init 37 = .ok (.iload 6, 2) := by decide +kernel
theorem dX0_init_39 : decode cX0_init 39 = .ok (.putfield 30, 3) := by decide +kernel
theorem dX0_init_42 : decode cX0_init 42 = .ok (.aload_n 0, 1) := by decide +kernel
theorem dX0_init_43 : decode cX0_init 43 = .ok (.iload 7, 2) := by decide +kernel
theorem dX0_init_45 : decode cX0_init 45 = .ok (.putfield 33, 3) := by decide +kernel
theorem dX0_init_48 : decode cX0_init 48 = .ok (.return_, 1) := by decide +kernel
theorem dX0_init__0 : decode cX0_init_ 0 = .ok (.aload_n 0, 1) := by decide +kernel
theorem dX0_init__1 : decode cX0_init_ 1 = .ok (.invokespecial 3, 3) := by decide +kernel
theorem dX0_init__4 : decode cX0_init_ 4 = .ok (.aload_n 0, 1) := by decide +kernel
theorem dX0_init__5 : decode cX0_init_ 5 = .ok (.iload_n 1, 1) := by decide +kernel
theorem dX0_init__6 : decode cX0_init_ 6 = .ok (.putfield 9, 3) := by decide +kernel
theorem dX0_init__9 : decode cX0_init_ 9 = .ok (.aload_n 0, 1) := by decide +kernel
theorem dX0_init__10 : decode cX0_init_ 10 = .ok (.iload_n 2, 1) := by decide +kernel
theorem dX0_init__11 : decode cX0_init_ 11 = .ok (.putfield 15, 3) := by decide +kernel
theorem dX0_init__14 : decode cX0_init_ 14 = .ok (.aload_n 0, 1) := by decide +kernel
theorem dX0_init__15 : decode cX0_init_ 15 = .ok (.iload_n 3, 1) := by decide +kernel
theorem dX0_init__16 : decode cX0_init_ 16 = .ok (.putfield 18, 3) := by decide +kernel
theorem dX0_init__19 : decode cX0_init_ 19 = .ok (.aload_n 0, 1) := by decide +kernel
theorem dX0_init__20 : decode cX0_init_ 20 = .ok (.iload 4, 2) := by decide +kernel
theorem dX0_init__22 : decode cX0_init_ 22 = .ok (.putfield 21, 3) := by decide +kernel
theorem dX0_init__25 : decode cX0_init_ 25 = .ok (.aload_n 0, 1) := by decide +kernel
theorem dX0_init__26 : decode cX0_init_ 26 = .ok (.iconst (-1), 1) := by decide +kernel
theorem dX0_init__27 : decode cX0_init_ 27 = .ok (.putfield 24, 3) := by decide +kernel
theorem dX0_init__30 : decode cX0_init_ 30 = .ok (.aload_n 0, 1) := by decide +kernel
theorem dX0_init__31 : decode cX0_init_ 31 = .ok (.iconst 0, 1) := by decide +kernel
theorem dX0_init__32 : decode cX0_init_ 32 = .ok (.putfield 27, 3) := by decide +kernel
theorem dX0_init__35 : decode cX0_init_ 35 = .ok (.aload_n 0, 1) := by decide +kernel
theorem dX0_init__36 : decode cX0_init_ 36 = .ok (.iconst 0, 1) := by decide +kernel
theorem dX0_init__37 : decode cX0_init_ 37 = .ok (.putfield 30, 3) := by decide +kernel
theorem dX0_init__40 : decode cX0_init_ 40 = .ok (.aload_n 0, 1) := by decide +kernel
theorem dX0_init__41 : decode cX0_init_ 41 = .ok (.iconst 0, 1) := by decide +kernel
theorem dX0_init__42 : decode cX0_init_ 42 = .ok (.putfield 33, 3) := by decide +kernel
theorem dX0_init__45 : decode cX0_init_ 45 = .ok (.return_, 1) := by decide +kernel
theorem dX0_isDataBy_0 : decode cX0_isDataBy 0 = .ok (.aload_n 0, 1) := by decide +kernel
theorem dX0_isDataBy_1 : decode cX0_isDataBy 1 = .ok (.getfield 15, 3) := by decide +kernel
theorem dX0_isDataBy_4 : decode cX0_isDataBy 4 = .ok (.ifCond .ne 23, 3) := by decide +kernel
theorem dX0_isDataBy_7 : decode cX0_isDataBy 7 = .ok (.aload_n 0, 1) := by decide +kernel
theorem dX0_isDataBy_8 : decode cX0_isDataBy 8 = .ok (.getfield 18, 3) := by decide +kernel
theorem dX0_isDataBy_11 : decode cX0_isDataBy 11 = .ok (.iload_n 1, 1) := by decide +kernel
theorem dX0_isDataBy_12 : decode cX0_isDataBy 12 = .ok (.if_icmp .ne 15, 3) := by decide +kernel
theorem dX0_isDataBy_15 : decode cX0_isDataBy 15 = .ok (.aload_n 0, 1) := by decide +kernel
theorem dX0_isDataBy_16 : decode cX0_isDataBy 16 = .ok (.getfield 21, 3) := by decide +kernel
theorem dX0_isDataBy_19 : decode cX0_isDataBy 19 = .ok (.iload_n 2, 1) := by decide +kernel
theorem dX0_isDataBy_20 : decode cX0_isDataBy 20 = .ok (.if_icmp .ne 7, 3) := by decide +kernel
theorem dX0_isDataBy_23 : decode cX0_isDataBy 23 = .ok (.iconst 1, 1) := by decide +kernel
theorem dX0_isDataBy_24 : decode cX0_isDataBy 24 = .ok (.goto 4, 3) := by decide +kernel
theorem dX0_isDataBy_27 : decode cX0_isDataBy 27 = .ok (.iconst 0, 1) := by decide +kernel
theorem dX0_isDataBy_28 : decode cX0_isDataBy 28 = .ok (.ireturn, 1) := by decide +kernel
theorem dX0_isEndOf_0 : decode cX0_isEndOf 0 = .ok (.aload_n 0, 1) := by decide +kernel
theorem dX0_isEndOf_1 : decode cX0_isEndOf 1 = .ok (.getfield 15, 3) := by decide +kernel
theorem dX0_isEndOf_4 : decode cX0_isEndOf 4 = .ok (.ifCond .eq 29, 3) := by decide +kernel
theorem dX0_isEndOf_7 : decode cX0_isEndOf 7 = .ok (.aload_n 0, 1) := by decide +kernel
theorem dX0_isEndOf_8 : decode cX0_isEndOf 8 = .ok (.getfield 18, 3) := by decide +kernel
theorem dX0_isEndOf_11 : decode cX0_isEndOf 11 = .ok (.aload_n 1, 1) := by decide +kernel
theorem dX0_isEndOf_12 : decode cX0_isEndOf 12 = .ok (.getfield 18, 3) := by decide +kernel
theorem dX0_isEndOf_15 : decode cX0_isEndOf 15 = .ok (.if_icmp .ne 18, 3) := by decide +kernel
theorem dX0_isEndOf_18 : decode cX0_isEndOf 18 = .ok (.aload_n 0, 1) := by decide +kernel
theorem dX0_isEndOf_19 : decode cX0_isEndOf 19 = .ok (.getfield 21, 3) := by decide +kernel
theorem dX0_isEndOf_22 : decode cX0_isEndOf 22 = .ok (.aload_n 1, 1) := by decide +kernel
theorem dX0_isEndOf_23 : decode cX0_isEndOf 23 = .ok (.getfield 21, 3) := by decide +kernel
theorem dX0_isEndOf_26 : decode cX0_isEndOf 26 = .ok (.if_icmp .ne 7, 3) := by decide +kernel
theorem dX0_isEndOf_29 : decode cX0_isEndOf 29 = .ok (.iconst 1, 1) := by decide +kernel
theorem dX0_isEndOf_30 : decode cX0_isEndOf 30 = .ok (.goto 4, 3) := by decide +kernel
theorem dX0_isEndOf_33 : decode cX0_isEndOf 33 = .ok (.iconst 0, 1) := by decide +kernel
theorem dX0_isEndOf_34 : decode cX0_isEndOf 34 = .ok (.ireturn, 1) := by decide +kernel
theorem dX1_init_0 : decode cX1_init 0 = .ok (.aload_n 0, 1) := by decide +kernel
theorem dX1_init_1 : decode cX1_init 1 = .ok (.invokespecial 3, 3) := by decide +kernel
theorem dX1_init_4 : decode cX1_init 4 = .ok (.aload_n 0, 1) := by decide +kernel
theorem dX1_init_5 : decode cX1_init 5 = .ok (.iconst 0, 1) := by decide +kernel
theorem dX1_init_6 : decode cX1_init 6 = .ok (.putfield 9, 3) := by decide +kernel
theorem dX1_init_9 : decode cX1_init 9 = .ok (.aload_n 0, 1) := by decide +kernel
theorem dX1_init_10 : decode cX1_init 10 = .ok (.iconst 0, 1) := by decide +kernel
theorem dX1_init_11 : decode cX1_init 11 = .ok (.putfield 15, 3) := by decide +kernel
theorem dX1_init_14 : decode cX1_init 14 = .ok (.aload_n 0, 1) := by decide +kernel
theorem dX1_init_15 : decode cX1_init 15 = .ok (.iconst 4, 1) := by decide +kernel
theorem dX1_init_16 : decode cX1_init 16 = .ok (.newarray .int, 2) := by decide +kernel
theorem dX1_init_18 : decode cX1_init 18 = .ok (.putfield 18, 3) := by decide +kernel
theorem dX1_init_21 : decode cX1_init 21 = .ok (.return_, 1) := by decide +kernel
set_option maxRecDepth 20000 in
theorem ggX1_memberAt_J6_bitCount_0f7a4 : GoodIn wsX1_memberAt wsJ6_bitCount_0f7a4 := goodIn_r _ [5, 6, 7, 8] (by rfl) (by decide +kernel)
set_option maxRecDepth 20000 in
theorem gX1_memberAt_J6_bitCount_0f7a4 : GoodIn wsX1_memberAt (va_wsS RX1 22 yJ6_bitCount_0f7a4 wsJ6_bitCount_0f7a4) := goodIn_app (goodIn_of _ (by decide +kernel)) ggX1_memberAt_J6_bitCount_0f7a4
set_option maxRecDepth 20000 in
theorem ggX1_memberAt_X5_contains : GoodIn wsX1_memberAt wsX5_contains := goodIn_r _ [11] (by rfl) (by decide +kernel)
set_option maxRecDepth 20000 in
theorem gX1_memberAt_X5_contains_n28 : GoodIn wsX1_memberAt (wsX5_contains) := ggX1_memberAt_X5_contains
theorem dX1_memberAt_0 : decode cX1_memberAt 0 = .ok (.aload_n 0, 1) := by decide +kernel
theorem dX1_memberAt_1 : decode cX1_memberAt 1 = .ok (.getfield 9, 3) := by decide +kernel
theorem dX1_memberAt_4 : decode cX1_memberAt 4 = .ok (.invokestatic 22, 3) := by decide +kernel
theorem dX1_memberAt_7 : decode cX1_memberAt 7 = .ok (.istore_n 2, 1) := by decide +kernel
theorem dX1_memberAt_8 : decode cX1_memberAt 8 = .ok (.iload_n 2, 1) := by decide +kernel
theorem dX1_memberAt_9 : decode cX1_memberAt 9 = .ok (.ifCond .ne 5, 3) := by decide +kernel
theorem dX1_memberAt_12 : decode cX1_memberAt 12 = .ok (.iconst (-1), 1) := by decide +kernel
theorem dX1_memberAt_13 : decode cX1_memberAt 13 = .ok (.ireturn, 1) := by decide +kernel
theorem dX1_memberAt_14 : decode cX1_memberAt 14 = .ok (.iload_n 1, 1) := by decide +kernel
theorem dX1_memberAt_15 : decode cX1_memberAt 15 = .ok (.iload_n 2, 1) := by decide +kernel
theorem dX1_memberAt_16 : decode cX1_memberAt 16 = .ok (.irem, 1) := by decide +kernel
theorem dX1_memberAt_17 : decode cX1_memberAt 17 = .ok (.istore_n 3, 1) := by decide +kernel
theorem dX1_memberAt_18 : decode cX1_memberAt 18 = .ok (.iconst 0, 1) := by decide +kernel
theorem dX1_memberAt_19 : decode cX1_memberAt 19 = .ok (.istore 4, 2) := by decide +kernel
theorem dX1_memberAt_21 : decode cX1_memberAt 21 = .ok (.iload 4, 2) := by decide +kernel
theorem dX1_memberAt_23 : decode cX1_memberAt 23 = .ok (.bipush 8, 2) := by decide +kernel
theorem dX1_memberAt_25 : decode cX1_memberAt 25 = .ok (.if_icmp .ge 34, 3) := by decide +kernel
theorem dX1_memberAt_28 : decode cX1_memberAt 28 = .ok (.aload_n 0, 1) := by decide +kernel
theorem dX1_memberAt_29 : decode cX1_memberAt 29 = .ok (.getfield 9, 3) := by decide +kernel
theorem dX1_memberAt_32 : decode cX1_memberAt 32 = .ok (.iload 4, 2) := by decide +kernel
theorem dX1_memberAt_34 : decode cX1_memberAt 34 = .ok (.invokestatic 28, 3) := by decide +kernel
theorem dX1_memberAt_37 : decode cX1_memberAt 37 = .ok (.ifCond .ne 6, 3) := by decide +kernel
theorem dX1_memberAt_40 : decode cX1_memberAt 40 = .ok (.goto 13, 3) := by decide +kernel
theorem dX1_memberAt_43 : decode cX1_memberAt 43 = .ok (.iload_n 3, 1) := by decide +kernel
theorem dX1_memberAt_44 : decode cX1_memberAt 44 = .ok (.ifCond .ne 6, 3) := by decide +kernel
theorem dX1_memberAt_47 : decode cX1_memberAt 47 = .ok (.iload 4, 2) := by decide +kernel
theorem dX1_memberAt_49 : decode cX1_memberAt 49 = .ok (.ireturn, 1) := by decide +kernel
theorem dX1_memberAt_50 : decode cX1_memberAt 50 = .ok (.iinc 3 (-1), 3) := by decide +kernel
theorem dX1_memberAt_53 : decode cX1_memberAt 53 = .ok (.iinc 4 1, 3) := by decide +kernel
theorem dX1_memberAt_56 : decode cX1_memberAt 56 = .ok (.goto (-35), 3) := by decide +kernel
theorem dX1_memberAt_59 : decode cX1_memberAt 59 = .ok (.iconst (-1), 1) := by decide +kernel
theorem dX1_memberAt_60 : decode cX1_memberAt 60 = .ok (.ireturn, 1) := by decide +kernel
theorem dX1_offsetFor_0 : decode cX1_offsetFor 0 = .ok (.iload_n 1, 1) := by decide +kernel
theorem dX1_offsetFor_1 : decode cX1_offsetFor 1 = .ok (.ifCond .lt 8, 3) := by decide +kernel
theorem dX1_offsetFor_4 : decode cX1_offsetFor 4 = .ok (.iload_n 1, 1) := by decide +kernel
theorem dX1_offsetFor_5 : decode cX1_offsetFor 5 = .ok (.iconst 4, 1) := by decide +kernel
theorem dX1_offsetFor_6 : decode cX1_offsetFor 6 = .ok (.if_icmp .lt 7, 3) := by decide +kernel
theorem dX1_offsetFor_9 : decode cX1_offsetFor 9 = .ok (.iconst 0, 1) := by decide +kernel
theorem dX1_offsetFor_10 : decode cX1_offsetFor 10 = .ok (.goto 9, 3) := by decide +kernel
theorem dX1_offsetFor_13 : decode cX1_offsetFor 13 = .ok (.aload_n 0, 1) := by decide +kernel
theorem dX1_offsetFor_14 : decode cX1_offsetFor 14 = .ok (.getfield 18, 3) := by decide +kernel
theorem dX1_offsetFor_17 : decode cX1_offsetFor 17 = .ok (.iload_n 1, 1) := by decide +kernel
theorem dX1_offsetFor_18 : decode cX1_offsetFor 18 = .ok (.iaload, 1) := by decide +kernel
theorem dX1_offsetFor_19 : decode cX1_offsetFor 19 = .ok (.ireturn, 1) := by decide +kernel
theorem dX1_setOffset_0 : decode cX1_setOffset 0 = .ok (.iload_n 1, 1) := by decide +kernel
theorem dX1_setOffset_1 : decode cX1_setOffset 1 = .ok (.ifCond .lt 15, 3) := by decide +kernel
theorem dX1_setOffset_4 : decode cX1_setOffset 4 = .ok (.iload_n 1, 1) := by decide +kernel
theorem dX1_setOffset_5 : decode cX1_setOffset 5 = .ok (.iconst 4, 1) := by decide +kernel
theorem dX1_setOffset_6 : decode cX1_setOffset 6 = .ok (.if_icmp .ge 10, 3) := by decide +kernel
theorem dX1_setOffset_9 : decode cX1_setOffset 9 = .ok (.aload_n 0, 1) := by decide +kernel
theorem dX1_setOffset_10 : decode cX1_setOffset 10 = .ok (.getfield 18, 3) := by decide +kernel
theorem dX1_setOffset_13 : decode cX1_setOffset 13 = .ok (.iload_n 1, 1) := by decide +kernel
theorem dX1_setOffset_14 : decode cX1_setOffset 14 = .ok (.iload_n 2, 1) := by decide +kernel
theorem dX1_setOffset_15 : decode cX1_setOffset 15 = .ok (.iastore, 1) := by decide +kernel
theorem dX1_setOffset_16 : decode cX1_setOffset 16 = .ok (.return_, 1) := by decide +kernel
set_option maxRecDepth 20000 in
theorem ggX2_init_X5_leastOf : GoodIn wsX2_init wsX5_leastOf := goodIn_r _ [15, 16, 17, 14, 18] (by rfl) (by decide +kernel)
set_option maxRecDepth 20000 in
theorem gX2_init_X5_leastOf_n30 : GoodIn wsX2_init (wsX5_leastOf) := ggX2_init_X5_leastOf
set_option maxRecDepth 20000 in
theorem ggX2_init_X5_contains : GoodIn wsX2_init wsX5_contains := goodIn_r _ [18] (by rfl) (by decide +kernel)
set_option maxRecDepth 20000 in
theorem gX2_init_X5_contains_n37 : GoodIn wsX2_init (wsX5_contains) := ggX2_init_X5_contains
set_option maxRecDepth 20000 in
theorem ggX2_init_X4_init : GoodIn wsX2_init wsX4_init := goodIn_r _ [21, 22, 2, 3, 23, 24, 25, 26, 27, 28, 29, 30, 37, 38, 39, 40, 41, 42, 43] (by rfl) (by decide +kernel)
set_option maxRecDepth 20000 in
theorem gX2_init_X4_init : GoodIn wsX2_init (wsX4_init) := ggX2_init_X4_init
theorem dX2_init_0 : decode cX2_init 0 = .ok (.aload_n 0, 1) := by decide +kernel
theorem dX2_init_1 : decode cX2_init 1 = .ok (.invokespecial 3, 3) := by decide +kernel
theorem dX2_init_4 : decode cX2_init 4 = .ok (.aload_n 0, 1) := by decide +kernel
theorem dX2_init_5 : decode cX2_init 5 = .ok (.iconst 5, 1) := by decide +kernel
theorem dX2_init_6 : decode cX2_init 6 = .ok (.anewarray 9, 3) := by decide +kernel
theorem dX2_init_9 : decode cX2_init 9 = .ok (.putfield 11, 3) := by decide +kernel
theorem dX2_init_12 : decode cX2_init 12 = .ok (.aload_n 0, 1) := by decide +kernel
theorem dX2_init_13 : decode cX2_init 13 = .ok (.iconst 0, 1) := by decide +kernel
theorem dX2_init_14 : decode cX2_init 14 = .ok (.putfield 17, 3) := by decide +kernel
theorem dX2_init_17 : decode cX2_init 17 = .ok (.aload_n 0, 1) := by decide +kernel
theorem dX2_init_18 : decode cX2_init 18 = .ok (.iload_n 1, 1) := by decide +kernel
theorem dX2_init_19 : decode cX2_init 19 = .ok (.putfield 21, 3) := by decide +kernel
theorem dX2_init_22 : decode cX2_init 22 = .ok (.aload_n 0, 1) := by decide +kernel
theorem dX2_init_23 : decode cX2_init 23 = .ok (.iload_n 3, 1) := by decide +kernel
theorem dX2_init_24 : decode cX2_init 24 = .ok (.putfield 24, 3) := by decide +kernel
theorem dX2_init_27 : decode cX2_init 27 = .ok (.aload_n 0, 1) := by decide +kernel
theorem dX2_init_28 : decode cX2_init 28 = .ok (.iload_n 2, 1) := by decide +kernel
theorem dX2_init_29 : decode cX2_init 29 = .ok (.putfield 27, 3) := by decide +kernel
theorem dX2_init_32 : decode cX2_init 32 = .ok (.aload_n 0, 1) := by decide +kernel
theorem dX2_init_33 : decode cX2_init 33 = .ok (.iload_n 2, 1) := by decide +kernel
theorem dX2_init_34 : decode cX2_init 34 = .ok (.invokestatic 30, 3) := by decide +kernel
theorem dX2_init_37 : decode cX2_init 37 = .ok (.putfield 34, 3) := by decide +kernel
theorem dX2_init_40 : decode cX2_init 40 = .ok (.iconst 0, 1) := by decide +kernel
theorem dX2_init_41 : decode cX2_init 41 = .ok (.istore 5, 2) := by decide +kernel
theorem dX2_init_43 : decode cX2_init 43 = .ok (.iload 5, 2) := by decide +kernel
theorem dX2_init_45 : decode cX2_init 45 = .ok (.iconst 5, 1) := by decide +kernel
theorem dX2_init_46 : decode cX2_init 46 = .ok (.if_icmp .ge 38, 3) := by decide +kernel
theorem dX2_init_49 : decode cX2_init 49 = .ok (.aload_n 0, 1) := by decide +kernel
theorem dX2_init_50 : decode cX2_init 50 = .ok (.getfield 11, 3) := by decide +kernel
theorem dX2_init_53 : decode cX2_init 53 = .ok (.iload 5, 2) := by decide +kernel
theorem dX2_init_55 : decode cX2_init 55 = .ok (.iload_n 1, 1) := by decide +kernel
theorem dX2_init_56 : decode cX2_init 56 = .ok (.iload 5, 2) := by decide +kernel
theorem dX2_init_58 : decode cX2_init 58 = .ok (.invokestatic 37, 3) := by decide +kernel
theorem dX2_init_61 : decode cX2_init 61 = .ok (.ifCond .eq 15, 3) := by decide +kernel
theorem dX2_init_64 : decode cX2_init 64 = .ok (.new 9, 3) := by decide +kernel
theorem dX2_init_67 : decode cX2_init 67 = .ok (.dup, 1) := by decide +kernel
theorem dX2_init_68 : decode cX2_init 68 = .ok (.iload 4, 2) := by decide +kernel
theorem dX2_init_70 : decode cX2_init 70 = .ok (.invokespecial 41, 3) := by decide +kernel
theorem dX2_init_73 : decode cX2_init 73 = .ok (.goto 4, 3) := by decide +kernel
theorem dX2_init_76 : decode cX2_init 76 = .ok (.aconst_null, 1) := by decide +kernel
theorem dX2_init_77 : decode cX2_init 77 = .ok (.aastore, 1) := by decide +kernel
theorem dX2_init_78 : decode cX2_init 78 = .ok (.iinc 5 1, 3) := by decide +kernel
theorem dX2_init_81 : decode cX2_init 81 = .ok (.goto (-38), 3) := by decide +kernel
theorem dX2_init_84 : decode cX2_init 84 = .ok (.return_, 1) := by decide +kernel
theorem dX2_replicaAt_0 : decode cX2_replicaAt 0 = .ok (.iload_n 1, 1) := by decide +kernel
theorem dX2_replicaAt_1 : decode cX2_replicaAt 1 = .ok (.ifCond .lt 8, 3) := by decide +kernel
theorem dX2_replicaAt_4 : decode cX2_replicaAt 4 = .ok (.iload_n 1, 1) := by decide +kernel
theorem dX2_replicaAt_5 : decode cX2_replicaAt 5 = .ok (.iconst 5, 1) := by decide +kernel
theorem dX2_replicaAt_6 : decode cX2_replicaAt 6 = .ok (.if_icmp .lt 7, 3) := by decide +kernel
theorem dX2_replicaAt_9 : decode cX2_replicaAt 9 = .ok (.aconst_null, 1) := by decide +kernel
theorem dX2_replicaAt_10 : decode cX2_replicaAt 10 = .ok (.goto 9, 3) := by decide +kernel
theorem dX2_replicaAt_13 : decode cX2_replicaAt 13 = .ok (.aload_n 0, 1) := by decide +kernel
theorem dX2_replicaAt_14 : decode cX2_replicaAt 14 = .ok (.getfield 11, 3) := by decide +kernel
theorem dX2_replicaAt_17 : decode cX2_replicaAt 17 = .ok (.iload_n 1, 1) := by decide +kernel
theorem dX2_replicaAt_18 : decode cX2_replicaAt 18 = .ok (.aaload, 1) := by decide +kernel
theorem dX2_replicaAt_19 : decode cX2_replicaAt 19 = .ok (.areturn, 1) := by decide +kernel
set_option maxRecDepth 20000 in
theorem ggX2_leading_X2_replicaAt : GoodIn wsX2_leading wsX2_replicaAt := goodIn_r _ [6, 7, 8, 9, 10, 11, 12, 13] (by rfl) (by decide +kernel)
set_option maxRecDepth 20000 in
theorem gX2_leading_X2_replicaAt : GoodIn wsX2_leading (wsV RX2 44 RX2 yX2_replicaAt wsX2_replicaAt) := goodIn_app (goodIn_of _ (by decide +kernel)) ggX2_leading_X2_replicaAt
theorem dX2_leading_0 : decode cX2_leading 0 = .ok (.aload_n 0, 1) := by decide +kernel
theorem dX2_leading_1 : decode cX2_leading 1 = .ok (.aload_n 0, 1) := by decide +kernel
theorem dX2_leading_2 : decode cX2_leading 2 = .ok (.getfield 34, 3) := by decide +kernel
theorem dX2_leading_5 : decode cX2_leading 5 = .ok (.invokevirtual 44, 3) := by decide +kernel
theorem dX2_leading_8 : decode cX2_leading 8 = .ok (.areturn, 1) := by decide +kernel
set_option maxRecDepth 20000 in
theorem ggX2_knownEnd_X2_replicaAt : GoodIn wsX2_knownEnd wsX2_replicaAt := goodIn_r _ [8, 9, 10, 11, 12, 13, 14, 15] (by rfl) (by decide +kernel)
set_option maxRecDepth 20000 in
theorem gX2_knownEnd_X2_replicaAt : GoodIn wsX2_knownEnd (wsV RX2 44 RX2 yX2_replicaAt wsX2_replicaAt) := goodIn_app (goodIn_of _ (by decide +kernel)) ggX2_knownEnd_X2_replicaAt
theorem dX2_knownEnd_0 : decode cX2_knownEnd 0 = .ok (.aload_n 0, 1) := by decide +kernel
theorem dX2_knownEnd_1 : decode cX2_knownEnd 1 = .ok (.iload_n 1, 1) := by decide +kernel
theorem dX2_knownEnd_2 : decode cX2_knownEnd 2 = .ok (.invokevirtual 44, 3) := by decide +kernel
theorem dX2_knownEnd_5 : decode cX2_knownEnd 5 = .ok (.astore_n 2, 1) := by decide +kernel
theorem dX2_knownEnd_6 : decode cX2_knownEnd 6 = .ok (.aload_n 2, 1) := by decide +kernel
theorem dX2_knownEnd_7 : decode cX2_knownEnd 7 = .ok (.ifnonnull 5, 3) := by decide +kernel
theorem dX2_knownEnd_10 : decode cX2_knownEnd 10 = .ok (.iconst (-1), 1) := by decide +kernel
theorem dX2_knownEnd_11 : decode cX2_knownEnd 11 = .ok (.ireturn, 1) := by decide +kernel
theorem dX2_knownEnd_12 : decode cX2_knownEnd 12 = .ok (.iload_n 1, 1) := by decide +kernel
theorem dX2_knownEnd_13 : decode cX2_knownEnd 13 = .ok (.aload_n 0, 1) := by decide +kernel
theorem dX2_knownEnd_14 : decode cX2_knownEnd 14 = .ok (.getfield 34, 3) := by decide +kernel
theorem dX2_knownEnd_17 : decode cX2_knownEnd 17 = .ok (.if_icmp .ne 10, 3) := by decide +kernel
theorem dX2_knownEnd_20 : decode cX2_knownEnd 20 = .ok (.aload_n 2, 1) := by decide +kernel
theorem dX2_knownEnd_21 : decode cX2_knownEnd 21 = .ok (.getfield 48, 3) := by decide +kernel
theorem dX2_knownEnd_24 : decode cX2_knownEnd 24 = .ok (.goto 7, 3) := by decide +kernel
theorem dX2_knownEnd_27 : decode cX2_knownEnd 27 = .ok (.aload_n 2, 1) := by decide +kernel
theorem dX2_knownEnd_28 : decode cX2_knownEnd 28 = .ok (.getfield 51, 3) := by decide +kernel
theorem dX2_knownEnd_31 : decode cX2_knownEnd 31 = .ok (.ireturn, 1) := by decide +kernel
set_option maxRecDepth 20000 in
theorem ggX2_raiseHw_X2_leading : GoodIn wsX2_raiseHw wsX2_leading := goodIn_r _ [15, 16, 17, 18, 19, 14, 20, 21, 37, 38, 39, 40, 41, 42] (by rfl) (by decide +kernel)
set_option maxRecDepth 20000 in
theorem gX2_raiseHw_X2_leading : GoodIn wsX2_raiseHw (wsV RX2 54 RX2 yX2_leading wsX2_leading) := goodIn_app (goodIn_of _ (by decide +kernel)) ggX2_raiseHw_X2_leading
set_option maxRecDepth 20000 in
theorem ggX2_raiseHw_X5_contains : GoodIn wsX2_raiseHw wsX5_contains := goodIn_r _ [24] (by rfl) (by decide +kernel)
set_option maxRecDepth 20000 in
theorem gX2_raiseHw_X5_contains_n37 : GoodIn wsX2_raiseHw (wsX5_contains) := ggX2_raiseHw_X5_contains
set_option maxRecDepth 20000 in
theorem ggX2_raiseHw_X2_knownEnd : GoodIn wsX2_raiseHw wsX2_knownEnd := goodIn_r _ [28, 16, 1, 29, 17, 18, 19, 14, 20, 21, 37, 38, 39, 40, 41, 42, 30, 31, 32, 33, 34, 35, 36] (by rfl) (by decide +kernel)
set_option maxRecDepth 20000 in
theorem gX2_raiseHw_X2_knownEnd : GoodIn wsX2_raiseHw (wsV RX2 58 RX2 yX2_knownEnd wsX2_knownEnd) := goodIn_app (goodIn_of _ (by decide +kernel)) ggX2_raiseHw_X2_knownEnd
theorem dX2_raiseHw_0 : decode cX2_raiseHw 0 = .ok (.aload_n 0, 1) := by decide +kernel
theorem dX2_raiseHw_1 : decode cX2_raiseHw 1 = .ok (.invokevirtual 54, 3) := by decide +kernel
theorem dX2_raiseHw_4 : decode cX2_raiseHw 4 = .ok (.astore_n 1, 1) := by decide +kernel
theorem dX2_raiseHw_5 : decode cX2_raiseHw 5 = .ok (.aload_n 1, 1) := by decide +kernel
theorem dX2_raiseHw_6 : decode cX2_raiseHw 6 = .ok (.ifnonnull 4, 3) := by decide +kernel
theorem dX2_raiseHw_9 : decode cX2_raiseHw 9 = .ok (.return_, 1) := by decide +kernel
theorem dX2_raiseHw_10 : decode cX2_raiseHw 10 = .ok (.aload_n 1, 1) := by decide +kernel
theorem dX2_raiseHw_11 : decode cX2_raiseHw 11 = .ok (.getfield 48, 3) := by decide +kernel
theorem dX2_raiseHw_14 : decode cX2_raiseHw 14 = .ok (.istore_n 2, 1) := by decide +kernel
theorem dX2_raiseHw_15 : decode cX2_raiseHw 15 = .ok (.iconst 0, 1) := by decide +kernel
theorem dX2_raiseHw_16 : decode cX2_raiseHw 16 = .ok (.istore_n 3, 1) := by decide +kernel
theorem dX2_raiseHw_17 : decode cX2_raiseHw 17 = .ok (.iload_n 3, 1) := by decide +kernel
theorem dX2_raiseHw_18 : decode cX2_raiseHw 18 = .ok (.iconst 5, 1) := by decide +kernel
theorem dX2_raiseHw_19 : decode cX2_raiseHw 19 = .ok (.if_icmp .ge 30, 3) := by decide +kernel
theorem dX2_raiseHw_22 : decode cX2_raiseHw 22 = .ok (.aload_n 0, 1) := by decide +kernel
theorem dX2_raiseHw_23 : decode cX2_raiseHw 23 = .ok (.getfield 27, 3) := by decide +kernel
theorem dX2_raiseHw_26 : decode cX2_raiseHw 26 = .ok (.iload_n 3, 1) := by decide +kernel
theorem dX2_raiseHw_27 : decode cX2_raiseHw 27 = .ok (.invokestatic 37, 3) := by decide +kernel
theorem dX2_raiseHw_30 : decode cX2_raiseHw 30 = .ok (.ifCond .eq 13, 3) := by decide +kernel
theorem dX2_raiseHw_33 : decode cX2_raiseHw 33 = .ok (.iload_n 2, 1) := by decide +kernel
theorem dX2_raiseHw_34 : decode cX2_raiseHw 34 = .ok (.aload_n 0, 1) := by decide +kernel
theorem dX2_raiseHw_35 : decode cX2_raiseHw 35 = .ok (.iload_n 3, 1) := by decide +kernel
theorem dX2_raiseHw_36 : decode cX2_raiseHw 36 = .ok (.invokevirtual 58, 3) := by decide +kernel
theorem dX2_raiseHw_39 : decode cX2_raiseHw 39 = .ok (.invokestatic 61, 3) := by decide +kernel
theorem dX2_raiseHw_42 : decode cX2_raiseHw 42 = .ok (.istore_n 2, 1) := by decide +kernel
theorem dX2_raiseHw_43 : decode cX2_raiseHw 43 = .ok (.iinc 3 1, 3) := by decide +kernel
theorem dX2_raiseHw_46 : decode cX2_raiseHw 46 = .ok (.goto (-29), 3) := by decide +kernel
theorem dX2_raiseHw_49 : decode cX2_raiseHw 49 = .ok (.aload_n 1, 1) := by decide +kernel
theorem dX2_raiseHw_50 : decode cX2_raiseHw 50 = .ok (.aload_n 1, 1) := by decide +kernel
theorem dX2_raiseHw_51 : decode cX2_raiseHw 51 = .ok (.getfield 66, 3) := by decide +kernel
theorem dX2_raiseHw_54 : decode cX2_raiseHw 54 = .ok (.iload_n 2, 1) := by decide +kernel
theorem dX2_raiseHw_55 : decode cX2_raiseHw 55 = .ok (.invokestatic 69, 3) := by decide +kernel
theorem dX2_raiseHw_58 : decode cX2_raiseHw 58 = .ok (.putfield 66, 3) := by decide +kernel
theorem dX2_raiseHw_61 : decode cX2_raiseHw 61 = .ok (.return_, 1) := by decide +kernel
set_option maxRecDepth 20000 in
theorem ggX2_putLeader_X2_raiseHw : GoodIn wsX2_putLeader wsX2_raiseHw := goodIn_r _ [10, 11, 12, 13, 14, 15, 16, 17, 18, 19, 20, 21, 22, 23, 9, 24, 1, 25, 26, 27, 28, 3, 29, 30, 31, 32, 33, 34, 35, 5, 42, 43, 44, 45, 46, 47, 48, 36, 37, 38, 39, 40, 41] (by rfl) (by decide +kernel)
set_option maxRecDepth 20000 in
theorem gX2_putLeader_X2_raiseHw : GoodIn wsX2_putLeader (wsV RX2 75 RX2 yX2_raiseHw wsX2_raiseHw) := goodIn_app (goodIn_of _ (by decide +kernel)) ggX2_putLeader_X2_raiseHw
theorem dX2_putLeader_0 : decode cX2_putLeader 0 = .ok (.aload_n 0, 1) := by decide +kernel
theorem dX2_putLeader_1 : decode cX2_putLeader 1 = .ok (.iload_n 1, 1) := by decide +kernel
theorem dX2_putLeader_2 : decode cX2_putLeader 2 = .ok (.putfield 34, 3) := by decide +kernel
theorem dX2_putLeader_5 : decode cX2_putLeader 5 = .ok (.aload_n 0, 1) := by decide +kernel
theorem dX2_putLeader_6 : decode cX2_putLeader 6 = .ok (.dup, 1) := by decide +kernel
theorem dX2_putLeader_7 : decode cX2_putLeader 7 = .ok (.getfield 17, 3) := by decide +kernel
theorem dX2_putLeader_10 : decode cX2_putLeader 10 = .ok (.iconst 1, 1) := by decide +kernel
theorem dX2_putLeader_11 : decode cX2_putLeader 11 = .ok (.iadd, 1) := by decide +kernel
theorem dX2_putLeader_12 : decode cX2_putLeader 12 = .ok (.putfield 17, 3) := by decide +kernel
theorem dX2_putLeader_15 : decode cX2_putLeader 15 = .ok (.iconst 0, 1) := by decide +kernel
theorem dX2_putLeader_16 : decode cX2_putLeader 16 = .ok (.istore_n 3, 1) := by decide +kernel
theorem dX2_putLeader_17 : decode cX2_putLeader 17 = .ok (.iload_n 3, 1) := by decide +kernel
theorem dX2_putLeader_18 : decode cX2_putLeader 18 = .ok (.iconst 5, 1) := by decide +kernel
theorem dX2_putLeader_19 : decode cX2_putLeader 19 = .ok (.if_icmp .ge 42, 3) := by decide +kernel
theorem dX2_putLeader_22 : decode cX2_putLeader 22 = .ok (.aload_n 0, 1) := by decide +kernel
theorem dX2_putLeader_23 : decode cX2_putLeader 23 = .ok (.getfield 11, 3) := by decide +kernel
theorem dX2_putLeader_26 : decode cX2_putLeader 26 = .ok (.iload_n 3, 1) := by decide +kernel
theorem dX2_putLeader_27 : decode cX2_putLeader 27 = .ok (.aaload, 1) := by decide +kernel
theorem dX2_putLeader_28 : decode cX2_putLeader 28 = .ok (.astore 4, 2) := by decide +kernel
theorem dX2_putLeader_30 : decode cX2_putLeader 30 = .ok (.aload 4, 2) := by decide +kernel
theorem dX2_putLeader_32 : decode cX2_putLeader 32 = .ok (.ifnonnull 6, 3) := by decide +kernel
theorem dX2_putLeader_35 : decode cX2_putLeader 35 = .ok (.goto 20, 3) := by decide +kernel
theorem dX2_putLeader_38 : decode cX2_putLeader 38 = .ok (.aload 4, 2) := by decide +kernel
theorem dX2_putLeader_40 : decode cX2_putLeader 40 = .ok (.iload_n 2, 1) := by decide +kernel
theorem dX2_putLeader_41 : decode cX2_putLeader 41 = .ok (.putfield 72, 3) := by decide +kernel
theorem dX2_putLeader_44 : decode cX2_putLeader 44 = .ok (.iload_n 3, 1) := by decide +kernel
theorem dX2_putLeader_45 : decode cX2_putLeader 45 = .ok (.iload_n 1, 1) := by decide +kernel
theorem dX2_putLeader_46 : decode cX2_putLeader 46 = .ok (.if_icmp .eq 9, 3) := by decide +kernel
theorem dX2_putLeader_49 : decode cX2_putLeader 49 = .ok (.aload 4, 2) := by decide +kernel
theorem dX2_putLeader_51 : decode cX2_putLeader 51 = .ok (.iconst (-1), 1) := by decide +kernel
theorem dX2_putLeader_52 : decode cX2_putLeader 52 = .ok (.putfield 51, 3) := by decide +kernel
theorem dX2_putLeader_55 : decode cX2_putLeader 55 = .ok (.iinc 3 1, 3) := by decide +kernel
theorem dX2_putLeader_58 : decode cX2_putLeader 58 = .ok (.goto (-41), 3) := by decide +kernel
theorem dX2_putLeader_61 : decode cX2_putLeader 61 = .ok (.aload_n 0, 1) := by decide +kernel
theorem dX2_putLeader_62 : decode cX2_putLeader 62 = .ok (.invokevirtual 75, 3) := by decide +kernel
theorem dX2_putLeader_65 : decode cX2_putLeader 65 = .ok (.return_, 1) := by decide +kernel
set_option maxRecDepth 20000 in
theorem ggX2_dropLate_X2_leading : GoodIn wsX2_dropLate wsX2_leading := goodIn_r _ [9, 2, 10, 11, 12, 8, 13, 1, 35, 36, 37, 38, 39, 40] (by rfl) (by decide +kernel)
set_option maxRecDepth 20000 in
theorem gX2_dropLate_X2_leading : GoodIn wsX2_dropLate (wsV RX2 54 RX2 yX2_leading wsX2_leading) := goodIn_app (goodIn_of _ (by decide +kernel)) ggX2_dropLate_X2_leading
set_option maxRecDepth 20000 in
theorem ggX2_dropLate_X5_contains : GoodIn wsX2_dropLate wsX5_contains := goodIn_r _ [16] (by rfl) (by decide +kernel)
set_option maxRecDepth 20000 in
theorem gX2_dropLate_X5_contains_n37 : GoodIn wsX2_dropLate (wsX5_contains) := ggX2_dropLate_X5_contains
set_option maxRecDepth 20000 in
theorem ggX2_dropLate_X2_raiseHw : GoodIn wsX2_dropLate wsX2_raiseHw := goodIn_r _ [20, 21, 3, 22, 23, 24, 25, 26, 27, 28, 29, 5, 6, 7, 8, 9, 2, 10, 11, 12, 13, 1, 14, 15, 16, 30, 31, 32, 33, 34, 41, 42, 43, 44, 45, 46, 47, 35, 36, 37, 38, 39, 40] (by rfl) (by decide +kernel)
set_option maxRecDepth 20000 in
theorem gX2_dropLate_X2_raiseHw : GoodIn wsX2_dropLate (wsV RX2 75 RX2 yX2_raiseHw wsX2_raiseHw) := goodIn_app (goodIn_of _ (by decide +kernel)) ggX2_dropLate_X2_raiseHw
theorem dX2_dropLate_0 : decode cX2_dropLate 0 = .ok (.aload_n 0, 1) := by decide +kernel
theorem dX2_dropLate_1 : decode cX2_dropLate 1 = .ok (.invokevirtual 54, 3) := by decide +kernel
theorem dX2_dropLate_4 : decode cX2_dropLate 4 = .ok (.ifnonnull 5, 3) := by decide +kernel
theorem dX2_dropLate_7 : decode cX2_dropLate 7 = .ok (.iconst 0, 1) := by decide +kernel
theorem dX2_dropLate_8 : decode cX2_dropLate 8 = .ok (.ireturn, 1) := by decide +kernel
theorem dX2_dropLate_9 : decode cX2_dropLate 9 = .ok (.iconst 0, 1) := by decide +kernel
theorem dX2_dropLate_10 : decode cX2_dropLate 10 = .ok (.istore_n 2, 1) := by decide +kernel
theorem dX2_dropLate_11 : decode cX2_dropLate 11 = .ok (.iconst 0, 1) := by decide +kernel
theorem dX2_dropLate_12 : decode cX2_dropLate 12 = .ok (.istore_n 3, 1) := by decide +kernel
theorem dX2_dropLate_13 : decode cX2_dropLate 13 = .ok (.iload_n 3, 1) := by decide +kernel
theorem dX2_dropLate_14 : decode cX2_dropLate 14 = .ok (.iconst 5, 1) := by decide +kernel
theorem dX2_dropLate_15 : decode cX2_dropLate 15 = .ok (.if_icmp .ge 70, 3) := by decide +kernel
theorem dX2_dropLate_18 : decode cX2_dropLate 18 = .ok (.aload_n 0, 1) := by decide +kernel
theorem dX2_dropLate_19 : decode cX2_dropLate 19 = .ok (.getfield 11, 3) := by decide +kernel
theorem dX2_dropLate_22 : decode cX2_dropLate 22 = .ok (.iload_n 3, 1) := by decide +kernel
theorem dX2_dropLate_23 : decode cX2_dropLate 23 = .ok (.aaload, 1) := by decide +kernel
theorem dX2_dropLate_24 : decode cX2_dropLate 24 = .ok (.astore 4, 2) := by decide +kernel
theorem dX2_dropLate_26 : decode cX2_dropLate 26 = .ok (.aload 4, 2) := by decide +kernel
theorem dX2_dropLate_28 : decode cX2_dropLate 28 = .ok (.ifnull 51, 3) := by decide +kernel
theorem dX2_dropLate_31 : decode cX2_dropLate 31 = .ok (.iload_n 3, 1) := by decide +kernel
theorem dX2_dropLate_32 : decode cX2_dropLate 32 = .ok (.aload_n 0, 1) := by decide +kernel
theorem dX2_dropLate_33 : decode cX2_dropLate 33 = .ok (.getfield 34, 3) := by decide +kernel
theorem dX2_dropLate_36 : decode cX2_dropLate 36 = .ok (.if_icmp .eq 43, 3) := by decide +kernel
theorem dX2_dropLate_39 : decode cX2_dropLate 39 = .ok (.aload_n 0, 1) := by decide +kernel
theorem dX2_dropLate_40 : decode cX2_dropLate 40 = .ok (.getfield 27, 3) := by decide +kernel
theorem dX2_dropLate_43 : decode cX2_dropLate 43 = .ok (.iload_n 3, 1) := by decide +kernel
theorem dX2_dropLate_44 : decode cX2_dropLate 44 = .ok (.invokestatic 37, 3) := by decide +kernel
theorem dX2_dropLate_47 : decode cX2_dropLate 47 = .ok (.ifCond .eq 32, 3) := by decide +kernel
theorem dX2_dropLate_50 : decode cX2_dropLate 50 = .ok (.iload_n 1, 1) := by decide +kernel
theorem dX2_dropLate_51 : decode cX2_dropLate 51 = .ok (.aload 4, 2) := by decide +kernel
theorem dX2_dropLate_53 : decode cX2_dropLate 53 = .ok (.getfield 72, 3) := by decide +kernel
theorem dX2_dropLate_56 : decode cX2_dropLate 56 = .ok (.isub, 1) := by decide +kernel
theorem dX2_dropLate_57 : decode cX2_dropLate 57 = .ok (.bipush 10, 2) := by decide +kernel
theorem dX2_dropLate_59 : decode cX2_dropLate 59 = .ok (.if_icmp .le 20, 3) := by decide +kernel
theorem dX2_dropLate_62 : decode cX2_dropLate 62 = .ok (.aload_n 0, 1) := by decide +kernel
theorem dX2_dropLate_63 : decode cX2_dropLate 63 = .ok (.dup, 1) := by decide +kernel
theorem dX2_dropLate_64 : decode cX2_dropLate 64 = .ok (.getfield 27, 3) := by decide +kernel
theorem dX2_dropLate_67 : decode cX2_dropLate 67 = .ok (.iconst 1, 1) := by decide +kernel
theorem dX2_dropLate_68 : decode cX2_dropLate 68 = .ok (.iload_n 3, 1) := by decide +kernel
theorem dX2_dropLate_69 : decode cX2_dropLate 69 = .ok (.ishl, 1) := by decide +kernel
theorem dX2_dropLate_70 : decode cX2_dropLate 70 = .ok (.iconst (-1), 1) := by decide +kernel
theorem dX2_dropLate_71 : decode cX2_dropLate 71 = .ok (.ixor, 1) := by decide +kernel
theorem dX2_dropLate_72 : decode cX2_dropLate 72 = .ok (.iand, 1) := by decide +kernel
theorem dX2_dropLate_73 : decode cX2_dropLate 73 = .ok (.putfield 27, 3) := by decide +kernel
theorem dX2_dropLate_76 : decode cX2_dropLate 76 = .ok (.iinc 2 1, 3) := by decide +kernel
theorem dX2_dropLate_79 : decode cX2_dropLate 79 = .ok (.iinc 3 1, 3) := by decide +kernel
theorem dX2_dropLate_82 : decode cX2_dropLate 82 = .ok (.goto (-69), 3) := by decide +kernel
theorem dX2_dropLate_85 : decode cX2_dropLate 85 = .ok (.aload_n 0, 1) := by decide +kernel
theorem dX2_dropLate_86 : decode cX2_dropLate 86 = .ok (.invokevirtual 75, 3) := by decide +kernel
theorem dX2_dropLate_89 : decode cX2_dropLate 89 = .ok (.iload_n 2, 1) := by decide +kernel
theorem dX2_dropLate_90 : decode cX2_dropLate 90 = .ok (.ireturn, 1) := by decide +kernel
set_option maxRecDepth 20000 in
theorem ggX2_lose_X2_replicaAt : GoodIn wsX2_lose wsX2_replicaAt := goodIn_r _ [7, 8, 43, 44, 45, 46, 47, 48] (by rfl) (by decide +kernel)
set_option maxRecDepth 20000 in
theorem gX2_lose_X2_replicaAt : GoodIn wsX2_lose (wsV RX2 44 RX2 yX2_replicaAt wsX2_replicaAt) := goodIn_app (goodIn_of _ (by decide +kernel)) ggX2_lose_X2_replicaAt
set_option maxRecDepth 20000 in
theorem ggX2_lose_X4_loseUnflushed : GoodIn wsX2_lose wsX4_loseUnflushed := goodIn_r _ [13, 14, 15, 16, 17, 18, 19, 20, 49, 50, 51, 52, 53, 54, 55] (by rfl) (by decide +kernel)
set_option maxRecDepth 20000 in
theorem gX2_lose_X4_loseUnflushed : GoodIn wsX2_lose (wsV RX2 78 RX4 yX4_loseUnflushed wsX4_loseUnflushed) := goodIn_app (goodIn_of _ (by decide +kernel)) ggX2_lose_X4_loseUnflushed
set_option maxRecDepth 20000 in
theorem ggX2_lose_X2_raiseHw : GoodIn wsX2_lose wsX2_raiseHw := goodIn_r _ [24, 25, 2, 26, 17, 18, 19, 27, 28, 29, 30, 31, 32, 33, 6, 34, 1, 3, 4, 5, 7, 8, 35, 36, 37, 38, 39, 40, 41, 42, 49, 50, 51, 52, 53, 54, 55, 43, 44, 45, 46, 47, 48] (by rfl) (by decide +kernel)
set_option maxRecDepth 20000 in
theorem gX2_lose_X2_raiseHw : GoodIn wsX2_lose (wsV RX2 75 RX2 yX2_raiseHw wsX2_raiseHw) := goodIn_app (goodIn_of _ (by decide +kernel)) ggX2_lose_X2_raiseHw
theorem dX2_lose_0 : decode cX2_lose 0 = .ok (.aload_n 0, 1) := by decide +kernel
theorem dX2_lose_1 : decode cX2_lose 1 = .ok (.iload_n 1, 1) := by decide +kernel
theorem dX2_lose_2 : decode cX2_lose 2 = .ok (.invokevirtual 44, 3) := by decide +kernel
theorem dX2_lose_5 : decode cX2_lose 5 = .ok (.astore_n 3, 1) := by decide +kernel
theorem dX2_lose_6 : decode cX2_lose 6 = .ok (.aload_n 3, 1) := by decide +kernel
theorem dX2_lose_7 : decode cX2_lose 7 = .ok (.ifnonnull 4, 3) := by decide +kernel
theorem dX2_lose_10 : decode cX2_lose 10 = .ok (.return_, 1) := by decide +kernel
theorem dX2_lose_11 : decode cX2_lose 11 = .ok (.aload_n 3, 1) := by decide +kernel
theorem dX2_lose_12 : decode cX2_lose 12 = .ok (.iload_n 2, 1) := by decide +kernel
theorem dX2_lose_13 : decode cX2_lose 13 = .ok (.invokevirtual 78, 3) := by decide +kernel
theorem dX2_lose_16 : decode cX2_lose 16 = .ok (.aload_n 0, 1) := by decide +kernel
theorem dX2_lose_17 : decode cX2_lose 17 = .ok (.getfield 34, 3) := by decide +kernel
theorem dX2_lose_20 : decode cX2_lose 20 = .ok (.iload_n 1, 1) := by decide +kernel
theorem dX2_lose_21 : decode cX2_lose 21 = .ok (.if_icmp .ne 8, 3) := by decide +kernel
theorem dX2_lose_24 : decode cX2_lose 24 = .ok (.aload_n 0, 1) := by decide +kernel
theorem dX2_lose_25 : decode cX2_lose 25 = .ok (.iconst (-1), 1) := by decide +kernel
theorem dX2_lose_26 : decode cX2_lose 26 = .ok (.putfield 34, 3) := by decide +kernel
theorem dX2_lose_29 : decode cX2_lose 29 = .ok (.aload_n 0, 1) := by decide +kernel
theorem dX2_lose_30 : decode cX2_lose 30 = .ok (.getfield 27, 3) := by decide +kernel
theorem dX2_lose_33 : decode cX2_lose 33 = .ok (.iconst 1, 1) := by decide +kernel
theorem dX2_lose_34 : decode cX2_lose 34 = .ok (.iload_n 1, 1) := by decide +kernel
theorem dX2_lose_35 : decode cX2_lose 35 = .ok (.ishl, 1) := by decide +kernel
theorem dX2_lose_36 : decode cX2_lose 36 = .ok (.iconst (-1), 1) := by decide +kernel
theorem dX2_lose_37 : decode cX2_lose 37 = .ok (.ixor, 1) := by decide +kernel
theorem dX2_lose_38 : decode cX2_lose 38 = .ok (.iand, 1) := by decide +kernel
theorem dX2_lose_39 : decode cX2_lose 39 = .ok (.istore 4, 2) := by decide +kernel
theorem dX2_lose_41 : decode cX2_lose 41 = .ok (.iload 4, 2) := by decide +kernel
theorem dX2_lose_43 : decode cX2_lose 43 = .ok (.ifCond .eq 9, 3) := by decide +kernel
theorem dX2_lose_46 : decode cX2_lose 46 = .ok (.aload_n 0, 1) := by decide +kernel
theorem dX2_lose_47 : decode cX2_lose 47 = .ok (.iload 4, 2) := by decide +kernel
theorem dX2_lose_49 : decode cX2_lose 49 = .ok (.putfield 27, 3) := by decide +kernel
theorem dX2_lose_52 : decode cX2_lose 52 = .ok (.aload_n 0, 1) := by decide +kernel
theorem dX2_lose_53 : decode cX2_lose 53 = .ok (.invokevirtual 75, 3) := by decide +kernel
theorem dX2_lose_56 : decode cX2_lose 56 = .ok (.return_, 1) := by decide +kernel
theorem dX3_init_0 : decode cX3_init 0 = .ok (.aload_n 0, 1) := by decide +kernel
theorem dX3_init_1 : decode cX3_init 1 = .ok (.invokespecial 3, 3) := by decide +kernel
theorem dX3_init_4 : decode cX3_init 4 = .ok (.aload_n 0, 1) := by decide +kernel
theorem dX3_init_5 : decode cX3_init 5 = .ok (.iconst (-1), 1) := by decide +kernel
theorem dX3_init_6 : decode cX3_init 6 = .ok (.putfield 9, 3) := by decide +kernel
theorem dX3_init_9 : decode cX3_init 9 = .ok (.aload_n 0, 1) := by decide +kernel
theorem dX3_init_10 : decode cX3_init 10 = .ok (.iconst 0, 1) := by decide +kernel
theorem dX3_init_11 : decode cX3_init 11 = .ok (.putfield 15, 3) := by decide +kernel
theorem dX3_init_14 : decode cX3_init 14 = .ok (.aload_n 0, 1) := by decide +kernel
theorem dX3_init_15 : decode cX3_init 15 = .ok (.iconst 0, 1) := by decide +kernel
theorem dX3_init_16 : decode cX3_init 16 = .ok (.putfield 18, 3) := by decide +kernel
theorem dX3_init_19 : decode cX3_init 19 = .ok (.aload_n 0, 1) := by decide +kernel
theorem dX3_init_20 : decode cX3_init 20 = .ok (.iconst (-1), 1) := by decide +kernel
theorem dX3_init_21 : decode cX3_init 21 = .ok (.putfield 22, 3) := by decide +kernel
theorem dX3_init_24 : decode cX3_init 24 = .ok (.aload_n 0, 1) := by decide +kernel
theorem dX3_init_25 : decode cX3_init 25 = .ok (.iconst 0, 1) := by decide +kernel
theorem dX3_init_26 : decode cX3_init 26 = .ok (.putfield 25, 3) := by decide +kernel
theorem dX3_init_29 : decode cX3_init 29 = .ok (.aload_n 0, 1) := by decide +kernel
theorem dX3_init_30 : decode cX3_init 30 = .ok (.iload_n 1, 1) := by decide +kernel
theorem dX3_init_31 : decode cX3_init 31 = .ok (.putfield 28, 3) := by decide +kernel
theorem dX3_init_34 : decode cX3_init 34 = .ok (.return_, 1) := by decide +kernel
theorem dX3_open_0 : decode cX3_open 0 = .ok (.aload_n 0, 1) := by decide +kernel
theorem dX3_open_1 : decode cX3_open 1 = .ok (.iconst 1, 1) := by decide +kernel
theorem dX3_open_2 : decode cX3_open 2 = .ok (.putfield 15, 3) := by decide +kernel
theorem dX3_open_5 : decode cX3_open 5 = .ok (.aload_n 0, 1) := by decide +kernel
theorem dX3_open_6 : decode cX3_open 6 = .ok (.aload_n 0, 1) := by decide +kernel
theorem dX3_open_7 : decode cX3_open 7 = .ok (.getfield 9, 3) := by decide +kernel
theorem dX3_open_10 : decode cX3_open 10 = .ok (.putfield 22, 3) := by decide +kernel
theorem dX3_open_13 : decode cX3_open 13 = .ok (.aload_n 0, 1) := by decide +kernel
theorem dX3_open_14 : decode cX3_open 14 = .ok (.iconst 0, 1) := by decide +kernel
theorem dX3_open_15 : decode cX3_open 15 = .ok (.putfield 25, 3) := by decide +kernel
theorem dX3_open_18 : decode cX3_open 18 = .ok (.return_, 1) := by decide +kernel
theorem dX3_startEnding_0 : decode cX3_startEnding 0 = .ok (.aload_n 0, 1) := by decide +kernel
theorem dX3_startEnding_1 : decode cX3_startEnding 1 = .ok (.iconst 2, 1) := by decide +kernel
theorem dX3_startEnding_2 : decode cX3_startEnding 2 = .ok (.putfield 15, 3) := by decide +kernel
theorem dX3_startEnding_5 : decode cX3_startEnding 5 = .ok (.aload_n 0, 1) := by decide +kernel
theorem dX3_startEnding_6 : decode cX3_startEnding 6 = .ok (.iload_n 1, 1) := by decide +kernel
theorem dX3_startEnding_7 : decode cX3_startEnding 7 = .ok (.putfield 18, 3) := by decide +kernel
theorem dX3_startEnding_10 : decode cX3_startEnding 10 = .ok (.return_, 1) := by decide +kernel
theorem dX4_init_0 : decode cX4_init 0 = .ok (.aload_n 0, 1) := by decide +kernel
theorem dX4_init_1 : decode cX4_init 1 = .ok (.invokespecial 3, 3) := by decide +kernel
theorem dX4_init_4 : decode cX4_init 4 = .ok (.aload_n 0, 1) := by decide +kernel
theorem dX4_init_5 : decode cX4_init 5 = .ok (.bipush 60, 2) := by decide +kernel
theorem dX4_init_7 : decode cX4_init 7 = .ok (.anewarray 9, 3) := by decide +kernel
theorem dX4_init_10 : decode cX4_init 10 = .ok (.putfield 11, 3) := by decide +kernel
theorem dX4_init_13 : decode cX4_init 13 = .ok (.aload_n 0, 1) := by decide +kernel
theorem dX4_init_14 : decode cX4_init 14 = .ok (.iconst 0, 1) := by decide +kernel
theorem dX4_init_15 : decode cX4_init 15 = .ok (.putfield 17, 3) := by decide +kernel
theorem dX4_init_18 : decode cX4_init 18 = .ok (.aload_n 0, 1) := by decide +kernel
theorem dX4_init_19 : decode cX4_init 19 = .ok (.iconst 0, 1) := by decide +kernel
theorem dX4_init_20 : decode cX4_init 20 = .ok (.putfield 21, 3) := by decide +kernel
theorem dX4_init_23 : decode cX4_init 23 = .ok (.aload_n 0, 1) := by decide +kernel
theorem dX4_init_24 : decode cX4_init 24 = .ok (.iconst 0, 1) := by decide +kernel
theorem dX4_init_25 : decode cX4_init 25 = .ok (.putfield 24, 3) := by decide +kernel
theorem dX4_init_28 : decode cX4_init 28 = .ok (.aload_n 0, 1) := by decide +kernel
theorem dX4_init_29 : decode cX4_init 29 = .ok (.iconst 0, 1) := by decide +kernel
theorem dX4_init_30 : decode cX4_init 30 = .ok (.putfield 27, 3) := by decide +kernel
theorem dX4_init_33 : decode cX4_init 33 = .ok (.aload_n 0, 1) := by decide +kernel
theorem dX4_init_34 : decode cX4_init 34 = .ok (.iconst 0, 1) := by decide +kernel
theorem dX4_init_35 : decode cX4_init 35 = .ok (.putfield 30, 3) := by decide +kernel
theorem dX4_init_38 : decode cX4_init 38 = .ok (.aload_n 0, 1) := by decide +kernel
theorem dX4_init_39 : decode cX4_init 39 = .ok (.iload_n 1, 1) := by decide +kernel
theorem dX4_init_40 : decode cX4_init 40 = .ok (.putfield 33, 3) := by decide +kernel
theorem dX4_init_43 : decode cX4_init 43 = .ok (.return_, 1) := by decide +kernel
set_option maxRecDepth 20000 in
theorem ggX4_entryAt_J9_floorMod_7cf53 : GoodIn wsX4_entryAt wsJ9_floorMod_7cf53 := goodIn_r _ [7] (by rfl) (by decide +kernel)
set_option maxRecDepth 20000 in
theorem gX4_entryAt_J9_floorMod_7cf53 : GoodIn wsX4_entryAt (va_wsS RX4 36 yJ9_floorMod_7cf53 wsJ9_floorMod_7cf53) := goodIn_app (goodIn_of _ (by decide +kernel)) ggX4_entryAt_J9_floorMod_7cf53
theorem dX4_entryAt_0 : decode cX4_entryAt 0 = .ok (.iload_n 1, 1) := by decide +kernel
theorem dX4_entryAt_1 : decode cX4_entryAt 1 = .ok (.aload_n 0, 1) := by decide +kernel
theorem dX4_entryAt_2 : decode cX4_entryAt 2 = .ok (.getfield 17, 3) := by decide +kernel
theorem dX4_entryAt_5 : decode cX4_entryAt 5 = .ok (.if_icmp .lt 11, 3) := by decide +kernel
theorem dX4_entryAt_8 : decode cX4_entryAt 8 = .ok (.iload_n 1, 1) := by decide +kernel
theorem dX4_entryAt_9 : decode cX4_entryAt 9 = .ok (.aload_n 0, 1) := by decide +kernel
theorem dX4_entryAt_10 : decode cX4_entryAt 10 = .ok (.getfield 21, 3) := by decide +kernel
theorem dX4_entryAt_13 : decode cX4_entryAt 13 = .ok (.if_icmp .lt 7, 3) := by decide +kernel
theorem dX4_entryAt_16 : decode cX4_entryAt 16 = .ok (.aconst_null, 1) := by decide +kernel
theorem dX4_entryAt_17 : decode cX4_entryAt 17 = .ok (.goto 14, 3) := by decide +kernel
theorem dX4_entryAt_20 : decode cX4_entryAt 20 = .ok (.aload_n 0, 1) := by decide +kernel
theorem dX4_entryAt_21 : decode cX4_entryAt 21 = .ok (.getfield 11, 3) := by decide +kernel
theorem dX4_entryAt_24 : decode cX4_entryAt 24 = .ok (.iload_n 1, 1) := by decide +kernel
theorem dX4_entryAt_25 : decode cX4_entryAt 25 = .ok (.bipush 60, 2) := by decide +kernel
theorem dX4_entryAt_27 : decode cX4_entryAt 27 = .ok (.invokestatic 36, 3) := by decide +kernel
theorem dX4_entryAt_30 : decode cX4_entryAt 30 = .ok (.aaload, 1) := by decide +kernel
theorem dX4_entryAt_31 : decode cX4_entryAt 31 = .ok (.areturn, 1) := by decide +kernel
theorem dX4_held_0 : decode cX4_held 0 = .ok (.aload_n 0, 1) := by decide +kernel
theorem dX4_held_1 : decode cX4_held 1 = .ok (.getfield 21, 3) := by decide +kernel
theorem dX4_held_4 : decode cX4_held 4 = .ok (.aload_n 0, 1) := by decide +kernel
theorem dX4_held_5 : decode cX4_held 5 = .ok (.getfield 17, 3) := by decide +kernel
theorem dX4_held_8 : decode cX4_held 8 = .ok (.isub, 1) := by decide +kernel
theorem dX4_held_9 : decode cX4_held 9 = .ok (.ireturn, 1) := by decide +kernel
set_option maxRecDepth 20000 in
theorem ggX4_isFull_X4_held : GoodIn wsX4_isFull wsX4_held := goodIn_r _ [5, 6, 7, 8, 9, 10, 11, 12, 13, 14] (by rfl) (by decide +kernel)
set_option maxRecDepth 20000 in
theorem gX4_isFull_X4_held : GoodIn wsX4_isFull (wsV RX4 42 RX4 yX4_held wsX4_held) := goodIn_app (goodIn_of _ (by decide +kernel)) ggX4_isFull_X4_held
theorem dX4_isFull_0 : decode cX4_isFull 0 = .ok (.aload_n 0, 1) := by decide +kernel
theorem dX4_isFull_1 : decode cX4_isFull 1 = .ok (.invokevirtual 42, 3) := by decide +kernel
theorem dX4_isFull_4 : decode cX4_isFull 4 = .ok (.bipush 60, 2) := by decide +kernel
theorem dX4_isFull_6 : decode cX4_isFull 6 = .ok (.if_icmp .lt 7, 3) := by decide +kernel
theorem dX4_isFull_9 : decode cX4_isFull 9 = .ok (.iconst 1, 1) := by decide +kernel
theorem dX4_isFull_10 : decode cX4_isFull 10 = .ok (.goto 4, 3) := by decide +kernel
theorem dX4_isFull_13 : decode cX4_isFull 13 = .ok (.iconst 0, 1) := by decide +kernel
theorem dX4_isFull_14 : decode cX4_isFull 14 = .ok (.ireturn, 1) := by decide +kernel
set_option maxRecDepth 20000 in
theorem ggX4_append_J9_floorMod_7cf53 : GoodIn wsX4_append wsJ9_floorMod_7cf53 := goodIn_r _ [6] (by rfl) (by decide +kernel)
set_option maxRecDepth 20000 in
theorem gX4_append_J9_floorMod_7cf53 : GoodIn wsX4_append (va_wsS RX4 36 yJ9_floorMod_7cf53 wsJ9_floorMod_7cf53) := goodIn_app (goodIn_of _ (by decide +kernel)) ggX4_append_J9_floorMod_7cf53
theorem dX4_append_0 : decode cX4_append 0 = .ok (.aload_n 0, 1) := by decide +kernel
theorem dX4_append_1 : decode cX4_append 1 = .ok (.getfield 11, 3) := by decide +kernel
theorem dX4_append_4 : decode cX4_append 4 = .ok (.aload_n 0, 1) := by decide +kernel
theorem dX4_append_5 : decode cX4_append 5 = .ok (.getfield 21, 3) := by decide +kernel
theorem dX4_append_8 : decode cX4_append 8 = .ok (.bipush 60, 2) := by decide +kernel
theorem dX4_append_10 : decode cX4_append 10 = .ok (.invokestatic 36, 3) := by decide +kernel
theorem dX4_append_13 : decode cX4_append 13 = .ok (.aload_n 1, 1) := by decide +kernel
theorem dX4_append_14 : decode cX4_append 14 = .ok (.aastore, 1) := by decide +kernel
theorem dX4_append_15 : decode cX4_append 15 = .ok (.aload_n 0, 1) := by decide +kernel
theorem dX4_append_16 : decode cX4_append 16 = .ok (.dup, 1) := by decide +kernel
theorem dX4_append_17 : decode cX4_append 17 = .ok (.getfield 21, 3) := by decide +kernel
theorem dX4_append_20 : decode cX4_append 20 = .ok (.iconst 1, 1) := by decide +kernel
theorem dX4_append_21 : decode cX4_append 21 = .ok (.iadd, 1) := by decide +kernel
theorem dX4_append_22 : decode cX4_append 22 = .ok (.putfield 21, 3) := by decide +kernel
theorem dX4_append_25 : decode cX4_append 25 = .ok (.return_, 1) := by decide +kernel
theorem dX4_dropBefore_0 : decode cX4_dropBefore 0 = .ok (.aload_n 0, 1) := by decide +kernel
theorem dX4_dropBefore_1 : decode cX4_dropBefore 1 = .ok (.aload_n 0, 1) := by decide +kernel
theorem dX4_dropBefore_2 : decode cX4_dropBefore 2 = .ok (.getfield 17, 3) := by decide +kernel
theorem dX4_dropBefore_5 : decode cX4_dropBefore 5 = .ok (.iload_n 1, 1) := by decide +kernel
theorem dX4_dropBefore_6 : decode cX4_dropBefore 6 = .ok (.invokestatic 46, 3) := by decide +kernel
theorem dX4_dropBefore_9 : decode cX4_dropBefore 9 = .ok (.putfield 17, 3) := by decide +kernel
theorem dX4_dropBefore_12 : decode cX4_dropBefore 12 = .ok (.aload_n 0, 1) := by decide +kernel
theorem dX4_dropBefore_13 : decode cX4_dropBefore 13 = .ok (.aload_n 0, 1) := by decide +kernel
theorem dX4_dropBefore_14 : decode cX4_dropBefore 14 = .ok (.getfield 27, 3) := by decide +kernel
theorem dX4_dropBefore_17 : decode cX4_dropBefore 17 = .ok (.aload_n 0, 1) := by decide +kernel
theorem dX4_dropBefore_18 : decode cX4_dropBefore 18 = .ok (.getfield 17, 3) := by decide +kernel
theorem dX4_dropBefore_21 : decode cX4_dropBefore 21 = .ok (.invokestatic 46, 3) := by decide +kernel
theorem dX4_dropBefore_24 : decode cX4_dropBefore 24 = .ok (.putfield 27, 3) := by decide +kernel
theorem dX4_dropBefore_27 : decode cX4_dropBefore 27 = .ok (.return_, 1) := by decide +kernel
theorem dX4_loseUnflushed_0 : decode cX4_loseUnflushed 0 = .ok (.aload_n 0, 1) := by decide +kernel
theorem dX4_loseUnflushed_1 : decode cX4_loseUnflushed 1 = .ok (.aload_n 0, 1) := by decide +kernel
theorem dX4_loseUnflushed_2 : decode cX4_loseUnflushed 2 = .ok (.getfield 27, 3) := by decide +kernel
theorem dX4_loseUnflushed_5 : decode cX4_loseUnflushed 5 = .ok (.iload_n 1, 1) := by decide +kernel
theorem dX4_loseUnflushed_6 : decode cX4_loseUnflushed 6 = .ok (.aload_n 0, 1) := by decide +kernel
theorem dX4_loseUnflushed_7 : decode cX4_loseUnflushed 7 = .ok (.getfield 21, 3) := by decide +kernel
theorem dX4_loseUnflushed_10 : decode cX4_loseUnflushed 10 = .ok (.aload_n 0, 1) := by decide +kernel
theorem dX4_loseUnflushed_11 : decode cX4_loseUnflushed 11 = .ok (.getfield 27, 3) := by decide +kernel
theorem dX4_loseUnflushed_14 : decode cX4_loseUnflushed 14 = .ok (.isub, 1) := by decide +kernel
theorem dX4_loseUnflushed_15 : decode cX4_loseUnflushed 15 = .ok (.invokestatic 49, 3) := by decide +kernel
theorem dX4_loseUnflushed_18 : decode cX4_loseUnflushed 18 = .ok (.iadd, 1) := by decide +kernel
theorem dX4_loseUnflushed_19 : decode cX4_loseUnflushed 19 = .ok (.putfield 21, 3) := by decide +kernel
theorem dX4_loseUnflushed_22 : decode cX4_loseUnflushed 22 = .ok (.aload_n 0, 1) := by decide +kernel
theorem dX4_loseUnflushed_23 : decode cX4_loseUnflushed 23 = .ok (.aload_n 0, 1) := by decide +kernel
theorem dX4_loseUnflushed_24 : decode cX4_loseUnflushed 24 = .ok (.getfield 24, 3) := by decide +kernel
theorem dX4_loseUnflushed_27 : decode cX4_loseUnflushed 27 = .ok (.aload_n 0, 1) := by decide +kernel
theorem dX4_loseUnflushed_28 : decode cX4_loseUnflushed 28 = .ok (.getfield 21, 3) := by decide +kernel
theorem dX4_loseUnflushed_31 : decode cX4_loseUnflushed 31 = .ok (.invokestatic 49, 3) := by decide +kernel
theorem dX4_loseUnflushed_34 : decode cX4_loseUnflushed 34 = .ok (.putfield 24, 3) := by decide +kernel
theorem dX4_loseUnflushed_37 : decode cX4_loseUnflushed 37 = .ok (.return_, 1) := by decide +kernel
set_option maxRecDepth 20000 in
theorem ggX4_offsetOf_X4_entryAt : GoodIn wsX4_offsetOf wsX4_entryAt := goodIn_r _ [8, 1, 2, 9, 10, 11, 12, 13, 22, 23, 24, 25, 26, 27, 28] (by rfl) (by decide +kernel)
set_option maxRecDepth 20000 in
theorem gX4_offsetOf_X4_entryAt : GoodIn wsX4_offsetOf (wsV RX4 52 RX4 yX4_entryAt wsX4_entryAt) := goodIn_app (goodIn_of _ (by decide +kernel)) ggX4_offsetOf_X4_entryAt
set_option maxRecDepth 20000 in
theorem ggX4_offsetOf_X0_isDataBy : GoodIn wsX4_offsetOf wsX0_isDataBy := goodIn_r _ [18, 19, 20, 21, 29, 30, 31, 32, 33, 34, 35, 36] (by rfl) (by decide +kernel)
set_option maxRecDepth 20000 in
theorem gX4_offsetOf_X0_isDataBy : GoodIn wsX4_offsetOf (wsV RX4 56 RX0 yX0_isDataBy wsX0_isDataBy) := goodIn_app (goodIn_of _ (by decide +kernel)) ggX4_offsetOf_X0_isDataBy
theorem dX4_offsetOf_0 : decode cX4_offsetOf 0 = .ok (.aload_n 0, 1) := by decide +kernel
theorem dX4_offsetOf_1 : decode cX4_offsetOf 1 = .ok (.getfield 17, 3) := by decide +kernel
theorem dX4_offsetOf_4 : decode cX4_offsetOf 4 = .ok (.istore 4, 2) := by decide +kernel
theorem dX4_offsetOf_6 : decode cX4_offsetOf 6 = .ok (.iload 4, 2) := by decide +kernel
theorem dX4_offsetOf_8 : decode cX4_offsetOf 8 = .ok (.aload_n 0, 1) := by decide +kernel
theorem dX4_offsetOf_9 : decode cX4_offsetOf 9 = .ok (.getfield 21, 3) := by decide +kernel
theorem dX4_offsetOf_12 : decode cX4_offsetOf 12 = .ok (.if_icmp .ge 44, 3) := by decide +kernel
theorem dX4_offsetOf_15 : decode cX4_offsetOf 15 = .ok (.aload_n 0, 1) := by decide +kernel
theorem dX4_offsetOf_16 : decode cX4_offsetOf 16 = .ok (.iload 4, 2) := by decide +kernel
theorem dX4_offsetOf_18 : decode cX4_offsetOf 18 = .ok (.invokevirtual 52, 3) := by decide +kernel
theorem dX4_offsetOf_21 : decode cX4_offsetOf 21 = .ok (.astore 5, 2) := by decide +kernel
theorem dX4_offsetOf_23 : decode cX4_offsetOf 23 = .ok (.aload 5, 2) := by decide +kernel
theorem dX4_offsetOf_25 : decode cX4_offsetOf 25 = .ok (.ifnull 25, 3) := by decide +kernel
theorem dX4_offsetOf_28 : decode cX4_offsetOf 28 = .ok (.aload 5, 2) := by decide +kernel
theorem dX4_offsetOf_30 : decode cX4_offsetOf 30 = .ok (.iload_n 1, 1) := by decide +kernel
theorem dX4_offsetOf_31 : decode cX4_offsetOf 31 = .ok (.iload_n 2, 1) := by decide +kernel
theorem dX4_offsetOf_32 : decode cX4_offsetOf 32 = .ok (.invokevirtual 56, 3) := by decide +kernel
theorem dX4_offsetOf_35 : decode cX4_offsetOf 35 = .ok (.ifCond .eq 15, 3) := by decide +kernel
theorem dX4_offsetOf_38 : decode cX4_offsetOf 38 = .ok (.aload 5, 2) := by decide +kernel
theorem dX4_offsetOf_40 : decode cX4_offsetOf 40 = .ok (.getfield 60, 3) := by decide +kernel
theorem dX4_offsetOf_43 : decode cX4_offsetOf 43 = .ok (.iload_n 3, 1) := by decide +kernel
theorem dX4_offsetOf_44 : decode cX4_offsetOf 44 = .ok (.if_icmp .ne 6, 3) := by decide +kernel
theorem dX4_offsetOf_47 : decode cX4_offsetOf 47 = .ok (.iload 4, 2) := by decide +kernel
theorem dX4_offsetOf_49 : decode cX4_offsetOf 49 = .ok (.ireturn, 1) := by decide +kernel
theorem dX4_offsetOf_50 : decode cX4_offsetOf 50 = .ok (.iinc 4 1, 3) := by decide +kernel
theorem dX4_offsetOf_53 : decode cX4_offsetOf 53 = .ok (.goto (-47), 3) := by decide +kernel
theorem dX4_offsetOf_56 : decode cX4_offsetOf 56 = .ok (.iconst (-1), 1) := by decide +kernel
theorem dX4_offsetOf_57 : decode cX4_offsetOf 57 = .ok (.ireturn, 1) := by decide +kernel
set_option maxRecDepth 20000 in
theorem ggX4_nextSeq_X4_entryAt : GoodIn wsX4_nextSeq wsX4_entryAt := goodIn_r _ [8, 2, 1, 9, 10, 11, 12, 13, 22, 23, 24, 25, 26, 27, 28] (by rfl) (by decide +kernel)
set_option maxRecDepth 20000 in
theorem gX4_nextSeq_X4_entryAt : GoodIn wsX4_nextSeq (wsV RX4 52 RX4 yX4_entryAt wsX4_entryAt) := goodIn_app (goodIn_of _ (by decide +kernel)) ggX4_nextSeq_X4_entryAt
set_option maxRecDepth 20000 in
theorem ggX4_nextSeq_X0_isDataBy : GoodIn wsX4_nextSeq wsX0_isDataBy := goodIn_r _ [18, 19, 20, 21, 29, 30, 31, 32, 33, 34, 35, 36] (by rfl) (by decide +kernel)
set_option maxRecDepth 20000 in
theorem gX4_nextSeq_X0_isDataBy : GoodIn wsX4_nextSeq (wsV RX4 56 RX0 yX0_isDataBy wsX0_isDataBy) := goodIn_app (goodIn_of _ (by decide +kernel)) ggX4_nextSeq_X0_isDataBy
theorem dX4_nextSeq_0 : decode cX4_nextSeq 0 = .ok (.aload_n 0, 1) := by decide +kernel
theorem dX4_nextSeq_1 : decode cX4_nextSeq 1 = .ok (.getfield 21, 3) := by decide +kernel
theorem dX4_nextSeq_4 : decode cX4_nextSeq 4 = .ok (.iconst 1, 1) := by decide +kernel
theorem dX4_nextSeq_5 : decode cX4_nextSeq 5 = .ok (.isub, 1) := by decide +kernel
theorem dX4_nextSeq_6 : decode cX4_nextSeq 6 = .ok (.istore_n 3, 1) := by decide +kernel
theorem dX4_nextSeq_7 : decode cX4_nextSeq 7 = .ok (.iload_n 3, 1) := by decide +kernel
theorem dX4_nextSeq_8 : decode cX4_nextSeq 8 = .ok (.aload_n 0, 1) := by decide +kernel
theorem dX4_nextSeq_9 : decode cX4_nextSeq 9 = .ok (.getfield 17, 3) := by decide +kernel
theorem dX4_nextSeq_12 : decode cX4_nextSeq 12 = .ok (.if_icmp .lt 39, 3) := by decide +kernel
theorem dX4_nextSeq_15 : decode cX4_nextSeq 15 = .ok (.aload_n 0, 1) := by decide +kernel
theorem dX4_nextSeq_16 : decode cX4_nextSeq 16 = .ok (.iload_n 3, 1) := by decide +kernel
theorem dX4_nextSeq_17 : decode cX4_nextSeq 17 = .ok (.invokevirtual 52, 3) := by decide +kernel
theorem dX4_nextSeq_20 : decode cX4_nextSeq 20 = .ok (.astore 4, 2) := by decide +kernel
theorem dX4_nextSeq_22 : decode cX4_nextSeq 22 = .ok (.aload 4, 2) := by decide +kernel
theorem dX4_nextSeq_24 : decode cX4_nextSeq 24 = .ok (.ifnull 21, 3) := by decide +kernel
theorem dX4_nextSeq_27 : decode cX4_nextSeq 27 = .ok (.aload 4, 2) := by decide +kernel
theorem dX4_nextSeq_29 : decode cX4_nextSeq 29 = .ok (.iload_n 1, 1) := by decide +kernel
theorem dX4_nextSeq_30 : decode cX4_nextSeq 30 = .ok (.iload_n 2, 1) := by decide +kernel
theorem dX4_nextSeq_31 : decode cX4_nextSeq 31 = .ok (.invokevirtual 56, 3) := by decide +kernel
theorem dX4_nextSeq_34 : decode cX4_nextSeq 34 = .ok (.ifCond .eq 11, 3) := by decide +kernel
theorem dX4_nextSeq_37 : decode cX4_nextSeq 37 = .ok (.aload 4, 2) := by decide +kernel
theorem dX4_nextSeq_39 : decode cX4_nextSeq 39 = .ok (.getfield 60, 3) := by decide +kernel
theorem dX4_nextSeq_42 : decode cX4_nextSeq 42 = .ok (.iconst 1, 1) := by decide +kernel
theorem dX4_nextSeq_43 : decode cX4_nextSeq 43 = .ok (.iadd, 1) := by decide +kernel
theorem dX4_nextSeq_44 : decode cX4_nextSeq 44 = .ok (.ireturn, 1) := by decide +kernel
theorem dX4_nextSeq_45 : decode cX4_nextSeq 45 = .ok (.iinc 3 (-1), 3) := by decide +kernel
theorem dX4_nextSeq_48 : decode cX4_nextSeq 48 = .ok (.goto (-41), 3) := by decide +kernel
theorem dX4_nextSeq_51 : decode cX4_nextSeq 51 = .ok (.iconst 0, 1) := by decide +kernel
theorem dX4_nextSeq_52 : decode cX4_nextSeq 52 = .ok (.ireturn, 1) := by decide +kernel
set_option maxRecDepth 20000 in
theorem ggX4_agreeWith_X4_hasSameEpoch : GoodIn wsX4_agreeWith wsX4_hasSameEpoch := goodIn_r _ [15, 16, 17, 18, 19, 14, 20, 2, 1, 21, 22, 23, 24, 25, 33, 34, 35, 36, 37, 38, 39, 40, 26, 27, 28, 29, 30, 31, 32] (by rfl) (by decide +kernel)
set_option maxRecDepth 20000 in
theorem gX4_agreeWith_X4_hasSameEpoch : GoodIn wsX4_agreeWith (wsV RX4 63 RX4 yX4_hasSameEpoch wsX4_hasSameEpoch) := goodIn_app (goodIn_of _ (by decide +kernel)) ggX4_agreeWith_X4_hasSameEpoch
theorem dX4_agreeWith_0 : decode cX4_agreeWith 0 = .ok (.aload_n 0, 1) := by decide +kernel
theorem dX4_agreeWith_1 : decode cX4_agreeWith 1 = .ok (.getfield 21, 3) := by decide +kernel
theorem dX4_agreeWith_4 : decode cX4_agreeWith 4 = .ok (.aload_n 1, 1) := by decide +kernel
theorem dX4_agreeWith_5 : decode cX4_agreeWith 5 = .ok (.getfield 17, 3) := by decide +kernel
theorem dX4_agreeWith_8 : decode cX4_agreeWith 8 = .ok (.if_icmp .ge 19, 3) := by decide +kernel
theorem dX4_agreeWith_11 : decode cX4_agreeWith 11 = .ok (.aload_n 0, 1) := by decide +kernel
theorem dX4_agreeWith_12 : decode cX4_agreeWith 12 = .ok (.aload_n 1, 1) := by decide +kernel
theorem dX4_agreeWith_13 : decode cX4_agreeWith 13 = .ok (.getfield 17, 3) := by decide +kernel
theorem dX4_agreeWith_16 : decode cX4_agreeWith 16 = .ok (.putfield 17, 3) := by decide +kernel
theorem dX4_agreeWith_19 : decode cX4_agreeWith 19 = .ok (.aload_n 0, 1) := by decide +kernel
theorem dX4_agreeWith_20 : decode cX4_agreeWith 20 = .ok (.aload_n 1, 1) := by decide +kernel
theorem dX4_agreeWith_21 : decode cX4_agreeWith 21 = .ok (.getfield 17, 3) := by decide +kernel
theorem dX4_agreeWith_24 : decode cX4_agreeWith 24 = .ok (.putfield 21, 3) := by decide +kernel
theorem dX4_agreeWith_27 : decode cX4_agreeWith 27 = .ok (.aload_n 0, 1) := by decide +kernel
theorem dX4_agreeWith_28 : decode cX4_agreeWith 28 = .ok (.getfield 17, 3) := by decide +kernel
theorem dX4_agreeWith_31 : decode cX4_agreeWith 31 = .ok (.aload_n 1, 1) := by decide +kernel
theorem dX4_agreeWith_32 : decode cX4_agreeWith 32 = .ok (.getfield 17, 3) := by decide +kernel
theorem dX4_agreeWith_35 : decode cX4_agreeWith 35 = .ok (.invokestatic 46, 3) := by decide +kernel
theorem dX4_agreeWith_38 : decode cX4_agreeWith 38 = .ok (.istore_n 2, 1) := by decide +kernel
theorem dX4_agreeWith_39 : decode cX4_agreeWith 39 = .ok (.iload_n 2, 1) := by decide +kernel
theorem dX4_agreeWith_40 : decode cX4_agreeWith 40 = .ok (.aload_n 0, 1) := by decide +kernel
theorem dX4_agreeWith_41 : decode cX4_agreeWith 41 = .ok (.getfield 21, 3) := by decide +kernel
theorem dX4_agreeWith_44 : decode cX4_agreeWith 44 = .ok (.if_icmp .ge 18, 3) := by decide +kernel
theorem dX4_agreeWith_47 : decode cX4_agreeWith 47 = .ok (.aload_n 0, 1) := by decide +kernel
theorem dX4_agreeWith_48 : decode cX4_agreeWith 48 = .ok (.iload_n 2, 1) := by decide +kernel
theorem dX4_agreeWith_49 : decode cX4_agreeWith 49 = .ok (.aload_n 1, 1) := by decide +kernel
theorem dX4_agreeWith_50 : decode cX4_agreeWith 50 = .ok (.invokevirtual 63, 3) := by decide +kernel
theorem dX4_agreeWith_53 : decode cX4_agreeWith 53 = .ok (.ifCond .eq 9, 3) := by decide +kernel
theorem dX4_agreeWith_56 : decode cX4_agreeWith 56 = .ok (.iinc 2 1, 3) := by decide +kernel
theorem dX4_agreeWith_59 : decode cX4_agreeWith 59 = .ok (.goto (-20), 3) := by decide +kernel
theorem dX4_agreeWith_62 : decode cX4_agreeWith 62 = .ok (.aload_n 0, 1) := by decide +kernel
theorem dX4_agreeWith_63 : decode cX4_agreeWith 63 = .ok (.iload_n 2, 1) := by decide +kernel
theorem dX4_agreeWith_64 : decode cX4_agreeWith 64 = .ok (.putfield 21, 3) := by decide +kernel
theorem dX4_agreeWith_67 : decode cX4_agreeWith 67 = .ok (.aload_n 0, 1) := by decide +kernel
theorem dX4_agreeWith_68 : decode cX4_agreeWith 68 = .ok (.aload_n 0, 1) := by decide +kernel
theorem dX4_agreeWith_69 : decode cX4_agreeWith 69 = .ok (.getfield 27, 3) := by decide +kernel
theorem dX4_agreeWith_72 : decode cX4_agreeWith 72 = .ok (.aload_n 0, 1) := by decide +kernel
theorem dX4_agreeWith_73 : decode cX4_agreeWith 73 = .ok (.getfield 21, 3) := by decide +kernel
theorem dX4_agreeWith_76 : decode cX4_agreeWith 76 = .ok (.invokestatic 49, 3) := by decide +kernel
theorem dX4_agreeWith_79 : decode cX4_agreeWith 79 = .ok (.putfield 27, 3) := by decide +kernel
theorem dX4_agreeWith_82 : decode cX4_agreeWith 82 = .ok (.return_, 1) := by decide +kernel
set_option maxRecDepth 20000 in
theorem ggX4_hasSameEpoch_X4_entryAt : GoodIn wsX4_hasSameEpoch wsX4_entryAt := goodIn_r _ [6, 7, 8, 9, 10, 11, 12, 13, 22, 23, 24, 25, 26, 27, 28] (by rfl) (by decide +kernel)
set_option maxRecDepth 20000 in
theorem gX4_hasSameEpoch_X4_entryAt : GoodIn wsX4_hasSameEpoch (wsV RX4 52 RX4 yX4_entryAt wsX4_entryAt) := goodIn_app (goodIn_of _ (by decide +kernel)) ggX4_hasSameEpoch_X4_entryAt
theorem dX4_hasSameEpoch_0 : decode cX4_hasSameEpoch 0 = .ok (.aload_n 0, 1) := by decide +kernel
theorem dX4_hasSameEpoch_1 : decode cX4_hasSameEpoch 1 = .ok (.iload_n 1, 1) := by decide +kernel
theorem dX4_hasSameEpoch_2 : decode cX4_hasSameEpoch 2 = .ok (.invokevirtual 52, 3) := by decide +kernel
theorem dX4_hasSameEpoch_5 : decode cX4_hasSameEpoch 5 = .ok (.astore_n 3, 1) := by decide +kernel
theorem dX4_hasSameEpoch_6 : decode cX4_hasSameEpoch 6 = .ok (.aload_n 2, 1) := by decide +kernel
theorem dX4_hasSameEpoch_7 : decode cX4_hasSameEpoch 7 = .ok (.iload_n 1, 1) := by decide +kernel
theorem dX4_hasSameEpoch_8 : decode cX4_hasSameEpoch 8 = .ok (.invokevirtual 52, 3) := by decide +kernel
theorem dX4_hasSameEpoch_11 : decode cX4_hasSameEpoch 11 = .ok (.astore 4, 2) := by decide +kernel
theorem dX4_hasSameEpoch_13 : decode cX4_hasSameEpoch 13 = .ok (.aload_n 3, 1) := by decide +kernel
theorem dX4_hasSameEpoch_14 : decode cX4_hasSameEpoch 14 = .ok (.ifnull 24, 3) := by decide +kernel
theorem dX4_hasSameEpoch_17 : decode cX4_hasSameEpoch 17 = .ok (.aload 4, 2) := by decide +kernel
theorem dX4_hasSameEpoch_19 : decode cX4_hasSameEpoch 19 = .ok (.ifnull 19, 3) := by decide +kernel
theorem dX4_hasSameEpoch_22 : decode cX4_hasSameEpoch 22 = .ok (.aload_n 3, 1) := by decide +kernel
theorem dX4_hasSameEpoch_23 : decode cX4_hasSameEpoch 23 = .ok (.getfield 67, 3) := by decide +kernel
theorem dX4_hasSameEpoch_26 : decode cX4_hasSameEpoch 26 = .ok (.aload 4, 2) := by decide +kernel
theorem dX4_hasSameEpoch_28 : decode cX4_hasSameEpoch 28 = .ok (.getfield 67, 3) := by decide +kernel
theorem dX4_hasSameEpoch_31 : decode cX4_hasSameEpoch 31 = .ok (.if_icmp .ne 7, 3) := by decide +kernel
theorem dX4_hasSameEpoch_34 : decode cX4_hasSameEpoch 34 = .ok (.iconst 1, 1) := by decide +kernel
theorem dX4_hasSameEpoch_35 : decode cX4_hasSameEpoch 35 = .ok (.goto 4, 3) := by decide +kernel
theorem dX4_hasSameEpoch_38 : decode cX4_hasSameEpoch 38 = .ok (.iconst 0, 1) := by decide +kernel
theorem dX4_hasSameEpoch_39 : decode cX4_hasSameEpoch 39 = .ok (.ireturn, 1) := by decide +kernel
set_option maxRecDepth 20000 in
theorem ggX4_fetchFrom_X4_dropBefore : GoodIn wsX4_fetchFrom wsX4_dropBefore := goodIn_r _ [12, 1, 13, 14, 6, 15, 16, 30, 31, 32, 33, 34, 35, 36] (by rfl) (by decide +kernel)
set_option maxRecDepth 20000 in
theorem gX4_fetchFrom_X4_dropBefore : GoodIn wsX4_fetchFrom (wsV RX4 70 RX4 yX4_dropBefore wsX4_dropBefore) := goodIn_app (goodIn_of _ (by decide +kernel)) ggX4_fetchFrom_X4_dropBefore
set_option maxRecDepth 20000 in
theorem ggX4_fetchFrom_X4_entryAt : GoodIn wsX4_fetchFrom wsX4_entryAt := goodIn_r _ [20, 1, 2, 21, 22, 23, 24, 25, 30, 31, 32, 33, 34, 35, 36] (by rfl) (by decide +kernel)
set_option maxRecDepth 20000 in
theorem gX4_fetchFrom_X4_entryAt : GoodIn wsX4_fetchFrom (wsV RX4 52 RX4 yX4_entryAt wsX4_entryAt) := goodIn_app (goodIn_of _ (by decide +kernel)) ggX4_fetchFrom_X4_entryAt
set_option maxRecDepth 20000 in
theorem ggX4_fetchFrom_X4_append : GoodIn wsX4_fetchFrom wsX4_append := goodIn_r _ [29, 21, 2, 22, 23, 24, 25, 30, 31, 32, 33, 34, 35, 36] (by rfl) (by decide +kernel)
set_option maxRecDepth 20000 in
theorem gX4_fetchFrom_X4_append : GoodIn wsX4_fetchFrom (wsV RX4 74 RX4 yX4_append wsX4_append) := goodIn_app (goodIn_of _ (by decide +kernel)) ggX4_fetchFrom_X4_append
theorem dX4_fetchFrom_0 : decode cX4_fetchFrom 0 = .ok (.aload_n 0, 1) := by decide +kernel
theorem dX4_fetchFrom_1 : decode cX4_fetchFrom 1 = .ok (.aload_n 1, 1) := by decide +kernel
theorem dX4_fetchFrom_2 : decode cX4_fetchFrom 2 = .ok (.getfield 17, 3) := by decide +kernel
theorem dX4_fetchFrom_5 : decode cX4_fetchFrom 5 = .ok (.invokevirtual 70, 3) := by decide +kernel
theorem dX4_fetchFrom_8 : decode cX4_fetchFrom 8 = .ok (.iconst 0, 1) := by decide +kernel
theorem dX4_fetchFrom_9 : decode cX4_fetchFrom 9 = .ok (.istore_n 2, 1) := by decide +kernel
theorem dX4_fetchFrom_10 : decode cX4_fetchFrom 10 = .ok (.iload_n 2, 1) := by decide +kernel
theorem dX4_fetchFrom_11 : decode cX4_fetchFrom 11 = .ok (.iconst 5, 1) := by decide +kernel
theorem dX4_fetchFrom_12 : decode cX4_fetchFrom 12 = .ok (.if_icmp .ge 32, 3) := by decide +kernel
theorem dX4_fetchFrom_15 : decode cX4_fetchFrom 15 = .ok (.aload_n 0, 1) := by decide +kernel
theorem dX4_fetchFrom_16 : decode cX4_fetchFrom 16 = .ok (.getfield 21, 3) := by decide +kernel
theorem dX4_fetchFrom_19 : decode cX4_fetchFrom 19 = .ok (.aload_n 1, 1) := by decide +kernel
theorem dX4_fetchFrom_20 : decode cX4_fetchFrom 20 = .ok (.getfield 21, 3) := by decide +kernel
theorem dX4_fetchFrom_23 : decode cX4_fetchFrom 23 = .ok (.if_icmp .ge 21, 3) := by decide +kernel
theorem dX4_fetchFrom_26 : decode cX4_fetchFrom 26 = .ok (.aload_n 0, 1) := by decide +kernel
theorem dX4_fetchFrom_27 : decode cX4_fetchFrom 27 = .ok (.aload_n 1, 1) := by decide +kernel
theorem dX4_fetchFrom_28 : decode cX4_fetchFrom 28 = .ok (.aload_n 0, 1) := by decide +kernel
theorem dX4_fetchFrom_29 : decode cX4_fetchFrom 29 = .ok (.getfield 21, 3) := by decide +kernel
theorem dX4_fetchFrom_32 : decode cX4_fetchFrom 32 = .ok (.invokevirtual 52, 3) := by decide +kernel
theorem dX4_fetchFrom_35 : decode cX4_fetchFrom 35 = .ok (.invokevirtual 74, 3) := by decide +kernel
theorem dX4_fetchFrom_38 : decode cX4_fetchFrom 38 = .ok (.iinc 2 1, 3) := by decide +kernel
theorem dX4_fetchFrom_41 : decode cX4_fetchFrom 41 = .ok (.goto (-31), 3) := by decide +kernel
theorem dX4_fetchFrom_44 : decode cX4_fetchFrom 44 = .ok (.aload_n 0, 1) := by decide +kernel
theorem dX4_fetchFrom_45 : decode cX4_fetchFrom 45 = .ok (.aload_n 1, 1) := by decide +kernel
theorem dX4_fetchFrom_46 : decode cX4_fetchFrom 46 = .ok (.getfield 24, 3) := by decide +kernel
theorem dX4_fetchFrom_49 : decode cX4_fetchFrom 49 = .ok (.aload_n 0, 1) := by decide +kernel
theorem dX4_fetchFrom_50 : decode cX4_fetchFrom 50 = .ok (.getfield 21, 3) := by decide +kernel
theorem dX4_fetchFrom_53 : decode cX4_fetchFrom 53 = .ok (.invokestatic 49, 3) := by decide +kernel
theorem dX4_fetchFrom_56 : decode cX4_fetchFrom 56 = .ok (.putfield 24, 3) := by decide +kernel
theorem dX4_fetchFrom_59 : decode cX4_fetchFrom 59 = .ok (.iload_n 2, 1) := by decide +kernel
theorem dX4_fetchFrom_60 : decode cX4_fetchFrom 60 = .ok (.ireturn, 1) := by decide +kernel
set_option maxRecDepth 20000 in
theorem ggX4_endKindOf_X4_entryAt : GoodIn wsX4_endKindOf wsX4_entryAt := goodIn_r _ [7, 8, 1, 9, 10, 11, 12, 13, 22, 23, 24, 25, 26, 27, 28] (by rfl) (by decide +kernel)
set_option maxRecDepth 20000 in
theorem gX4_endKindOf_X4_entryAt : GoodIn wsX4_endKindOf (wsV RX4 52 RX4 yX4_entryAt wsX4_entryAt) := goodIn_app (goodIn_of _ (by decide +kernel)) ggX4_endKindOf_X4_entryAt
set_option maxRecDepth 20000 in
theorem ggX4_endKindOf_X0_isEndOf : GoodIn wsX4_endKindOf wsX0_isEndOf := goodIn_r _ [18, 19, 20, 21, 29, 30, 31, 32, 33, 34, 35, 36] (by rfl) (by decide +kernel)
set_option maxRecDepth 20000 in
theorem gX4_endKindOf_X0_isEndOf : GoodIn wsX4_endKindOf (wsV RX4 78 RX0 yX0_isEndOf wsX0_isEndOf) := goodIn_app (goodIn_of _ (by decide +kernel)) ggX4_endKindOf_X0_isEndOf
theorem dX4_endKindOf_0 : decode cX4_endKindOf 0 = .ok (.iload_n 2, 1) := by decide +kernel
theorem dX4_endKindOf_1 : decode cX4_endKindOf 1 = .ok (.iconst 1, 1) := by decide +kernel
theorem dX4_endKindOf_2 : decode cX4_endKindOf 2 = .ok (.iadd, 1) := by decide +kernel
theorem dX4_endKindOf_3 : decode cX4_endKindOf 3 = .ok (.istore_n 3, 1) := by decide +kernel
theorem dX4_endKindOf_4 : decode cX4_endKindOf 4 = .ok (.iload_n 3, 1) := by decide +kernel
theorem dX4_endKindOf_5 : decode cX4_endKindOf 5 = .ok (.aload_n 0, 1) := by decide +kernel
theorem dX4_endKindOf_6 : decode cX4_endKindOf 6 = .ok (.getfield 21, 3) := by decide +kernel
theorem dX4_endKindOf_9 : decode cX4_endKindOf 9 = .ok (.if_icmp .ge 36, 3) := by decide +kernel
theorem dX4_endKindOf_12 : decode cX4_endKindOf 12 = .ok (.aload_n 0, 1) := by decide +kernel
theorem dX4_endKindOf_13 : decode cX4_endKindOf 13 = .ok (.iload_n 3, 1) := by decide +kernel
theorem dX4_endKindOf_14 : decode cX4_endKindOf 14 = .ok (.invokevirtual 52, 3) := by decide +kernel
theorem dX4_endKindOf_17 : decode cX4_endKindOf 17 = .ok (.astore 4, 2) := by decide +kernel
theorem dX4_endKindOf_19 : decode cX4_endKindOf 19 = .ok (.aload 4, 2) := by decide +kernel
theorem dX4_endKindOf_21 : decode cX4_endKindOf 21 = .ok (.ifnull 18, 3) := by decide +kernel
theorem dX4_endKindOf_24 : decode cX4_endKindOf 24 = .ok (.aload 4, 2) := by decide +kernel
theorem dX4_endKindOf_26 : decode cX4_endKindOf 26 = .ok (.aload_n 1, 1) := by decide +kernel
theorem dX4_endKindOf_27 : decode cX4_endKindOf 27 = .ok (.invokevirtual 78, 3) := by decide +kernel
theorem dX4_endKindOf_30 : decode cX4_endKindOf 30 = .ok (.ifCond .eq 9, 3) := by decide +kernel
theorem dX4_endKindOf_33 : decode cX4_endKindOf 33 = .ok (.aload 4, 2) := by decide +kernel
theorem dX4_endKindOf_35 : decode cX4_endKindOf 35 = .ok (.getfield 82, 3) := by decide +kernel
theorem dX4_endKindOf_38 : decode cX4_endKindOf 38 = .ok (.ireturn, 1) := by decide +kernel
theorem dX4_endKindOf_39 : decode cX4_endKindOf 39 = .ok (.iinc 3 1, 3) := by decide +kernel
theorem dX4_endKindOf_42 : decode cX4_endKindOf 42 = .ok (.goto (-38), 3) := by decide +kernel
theorem dX4_endKindOf_45 : decode cX4_endKindOf 45 = .ok (.iconst 0, 1) := by decide +kernel
theorem dX4_endKindOf_46 : decode cX4_endKindOf 46 = .ok (.ireturn, 1) := by decide +kernel
set_option maxRecDepth 20000 in
theorem ggX4_firstOpen_X4_entryAt : GoodIn wsX4_firstOpen wsX4_entryAt := goodIn_r _ [8, 1, 2, 9, 10, 11, 12, 13, 27, 28, 29, 30, 31, 32, 33] (by rfl) (by decide +kernel)
set_option maxRecDepth 20000 in
theorem gX4_firstOpen_X4_entryAt : GoodIn wsX4_firstOpen (wsV RX4 52 RX4 yX4_entryAt wsX4_entryAt) := goodIn_app (goodIn_of _ (by decide +kernel)) ggX4_firstOpen_X4_entryAt
set_option maxRecDepth 20000 in
theorem ggX4_firstOpen_X4_endKindOf : GoodIn wsX4_firstOpen wsX4_endKindOf := goodIn_r _ [17, 2, 18, 4, 5, 6, 7, 8, 1, 9, 10, 11, 12, 13, 19, 20, 21, 22, 23, 24, 25, 26, 27, 28, 29, 30, 31, 32, 33, 34, 35, 36, 37, 38, 39, 40, 41] (by rfl) (by decide +kernel)
set_option maxRecDepth 20000 in
theorem gX4_firstOpen_X4_endKindOf : GoodIn wsX4_firstOpen (wsV RX4 89 RX4 yX4_endKindOf wsX4_endKindOf) := goodIn_app (goodIn_of _ (by decide +kernel)) ggX4_firstOpen_X4_endKindOf
theorem dX4_firstOpen_0 : decode cX4_firstOpen 0 = .ok (.aload_n 0, 1) := by decide +kernel
theorem dX4_firstOpen_1 : decode cX4_firstOpen 1 = .ok (.getfield 17, 3) := by decide +kernel
theorem dX4_firstOpen_4 : decode cX4_firstOpen 4 = .ok (.istore_n 1, 1) := by decide +kernel
theorem dX4_firstOpen_5 : decode cX4_firstOpen 5 = .ok (.iload_n 1, 1) := by decide +kernel
theorem dX4_firstOpen_6 : decode cX4_firstOpen 6 = .ok (.aload_n 0, 1) := by decide +kernel
theorem dX4_firstOpen_7 : decode cX4_firstOpen 7 = .ok (.getfield 21, 3) := by decide +kernel
theorem dX4_firstOpen_10 : decode cX4_firstOpen 10 = .ok (.if_icmp .ge 37, 3) := by decide +kernel
theorem dX4_firstOpen_13 : decode cX4_firstOpen 13 = .ok (.aload_n 0, 1) := by decide +kernel
theorem dX4_firstOpen_14 : decode cX4_firstOpen 14 = .ok (.iload_n 1, 1) := by decide +kernel
theorem dX4_firstOpen_15 : decode cX4_firstOpen 15 = .ok (.invokevirtual 52, 3) := by decide +kernel
theorem dX4_firstOpen_18 : decode cX4_firstOpen 18 = .ok (.astore_n 2, 1) := by decide +kernel
theorem dX4_firstOpen_19 : decode cX4_firstOpen 19 = .ok (.aload_n 2, 1) := by decide +kernel
theorem dX4_firstOpen_20 : decode cX4_firstOpen 20 = .ok (.ifnull 21, 3) := by decide +kernel
theorem dX4_firstOpen_23 : decode cX4_firstOpen 23 = .ok (.aload_n 2, 1) := by decide +kernel
theorem dX4_firstOpen_24 : decode cX4_firstOpen 24 = .ok (.getfield 85, 3) := by decide +kernel
theorem dX4_firstOpen_27 : decode cX4_firstOpen 27 = .ok (.ifCond .eq 14, 3) := by decide +kernel
theorem dX4_firstOpen_30 : decode cX4_firstOpen 30 = .ok (.aload_n 0, 1) := by decide +kernel
theorem dX4_firstOpen_31 : decode cX4_firstOpen 31 = .ok (.aload_n 2, 1) := by decide +kernel
theorem dX4_firstOpen_32 : decode cX4_firstOpen 32 = .ok (.iload_n 1, 1) := by decide +kernel
theorem dX4_firstOpen_33 : decode cX4_firstOpen 33 = .ok (.invokevirtual 89, 3) := by decide +kernel
theorem dX4_firstOpen_36 : decode cX4_firstOpen 36 = .ok (.ifCond .ne 5, 3) := by decide +kernel
theorem dX4_firstOpen_39 : decode cX4_firstOpen 39 = .ok (.iload_n 1, 1) := by decide +kernel
theorem dX4_firstOpen_40 : decode cX4_firstOpen 40 = .ok (.ireturn, 1) := by decide +kernel
theorem dX4_firstOpen_41 : decode cX4_firstOpen 41 = .ok (.iinc 1 1, 3) := by decide +kernel
theorem dX4_firstOpen_44 : decode cX4_firstOpen 44 = .ok (.goto (-39), 3) := by decide +kernel
theorem dX4_firstOpen_47 : decode cX4_firstOpen 47 = .ok (.aload_n 0, 1) := by decide +kernel
theorem dX4_firstOpen_48 : decode cX4_firstOpen 48 = .ok (.getfield 21, 3) := by decide +kernel
theorem dX4_firstOpen_51 : decode cX4_firstOpen 51 = .ok (.ireturn, 1) := by decide +kernel
set_option maxRecDepth 20000 in
theorem ggX4_firstVisible_X4_firstOpen : GoodIn wsX4_firstVisible wsX4_firstOpen := goodIn_r _ [11, 12, 13, 14, 15, 16, 17, 10, 18, 19, 20, 21, 22, 23, 24, 25, 26, 27, 6, 28, 29, 30, 31, 32, 33, 34, 35, 40, 41, 42, 43, 44, 45, 46, 47, 48, 49, 50, 51, 52, 53, 54] (by rfl) (by decide +kernel)
set_option maxRecDepth 20000 in
theorem gX4_firstVisible_X4_firstOpen : GoodIn wsX4_firstVisible (wsV RX4 93 RX4 yX4_firstOpen wsX4_firstOpen) := goodIn_app (goodIn_of _ (by decide +kernel)) ggX4_firstVisible_X4_firstOpen
set_option maxRecDepth 20000 in
theorem ggX4_firstVisible_X4_entryAt : GoodIn wsX4_firstVisible wsX4_entryAt := goodIn_r _ [18, 12, 13, 19, 20, 21, 22, 23, 40, 41, 42, 43, 44, 45, 46] (by rfl) (by decide +kernel)
set_option maxRecDepth 20000 in
theorem gX4_firstVisible_X4_entryAt : GoodIn wsX4_firstVisible (wsV RX4 52 RX4 yX4_entryAt wsX4_entryAt) := goodIn_app (goodIn_of _ (by decide +kernel)) ggX4_firstVisible_X4_entryAt
set_option maxRecDepth 20000 in
theorem ggX4_firstVisible_X4_isAborted : GoodIn wsX4_firstVisible wsX4_isAborted := goodIn_r _ [39, 14, 24, 25, 26, 10, 27, 13, 6, 15, 16, 17, 18, 12, 19, 20, 21, 22, 23, 28, 29, 30, 31, 32, 33, 34, 35, 47, 48, 49, 50, 51, 52, 53, 54, 40, 41, 42, 43, 44, 45, 46] (by rfl) (by decide +kernel)
set_option maxRecDepth 20000 in
theorem gX4_firstVisible_X4_isAborted : GoodIn wsX4_firstVisible (wsV RX4 96 RX4 yX4_isAborted wsX4_isAborted) := goodIn_app (goodIn_of _ (by decide +kernel)) ggX4_firstVisible_X4_isAborted
theorem dX4_firstVisible_0 : decode cX4_firstVisible 0 = .ok (.iload_n 2, 1) := by decide +kernel
theorem dX4_firstVisible_1 : decode cX4_firstVisible 1 = .ok (.ifCond .eq 17, 3) := by decide +kernel
theorem dX4_firstVisible_4 : decode cX4_firstVisible 4 = .ok (.aload_n 0, 1) := by decide +kernel
theorem dX4_firstVisible_5 : decode cX4_firstVisible 5 = .ok (.getfield 24, 3) := by decide +kernel
theorem dX4_firstVisible_8 : decode cX4_firstVisible 8 = .ok (.aload_n 0, 1) := by decide +kernel
theorem dX4_firstVisible_9 : decode cX4_firstVisible 9 = .ok (.invokevirtual 93, 3) := by decide +kernel
theorem dX4_firstVisible_12 : decode cX4_firstVisible 12 = .ok (.invokestatic 49, 3) := by decide +kernel
theorem dX4_firstVisible_15 : decode cX4_firstVisible 15 = .ok (.goto 7, 3) := by decide +kernel
theorem dX4_firstVisible_18 : decode cX4_firstVisible 18 = .ok (.aload_n 0, 1) := by decide +kernel
theorem dX4_firstVisible_19 : decode cX4_firstVisible 19 = .ok (.getfield 24, 3) := by decide +kernel
theorem dX4_firstVisible_22 : decode cX4_firstVisible 22 = .ok (.istore_n 3, 1) := by decide +kernel
theorem dX4_firstVisible_23 : decode cX4_firstVisible 23 = .ok (.iload_n 1, 1) := by decide +kernel
theorem dX4_firstVisible_24 : decode cX4_firstVisible 24 = .ok (.istore 4, 2) := by decide +kernel
theorem dX4_firstVisible_26 : decode cX4_firstVisible 26 = .ok (.iload 4, 2) := by decide +kernel
theorem dX4_firstVisible_28 : decode cX4_firstVisible 28 = .ok (.iload_n 3, 1) := by decide +kernel
theorem dX4_firstVisible_29 : decode cX4_firstVisible 29 = .ok (.if_icmp .ge 48, 3) := by decide +kernel
theorem dX4_firstVisible_32 : decode cX4_firstVisible 32 = .ok (.aload_n 0, 1) := by decide +kernel
theorem dX4_firstVisible_33 : decode cX4_firstVisible 33 = .ok (.iload 4, 2) := by decide +kernel
theorem dX4_firstVisible_35 : decode cX4_firstVisible 35 = .ok (.invokevirtual 52, 3) := by decide +kernel
theorem dX4_firstVisible_38 : decode cX4_firstVisible 38 = .ok (.astore 5, 2) := by decide +kernel
theorem dX4_firstVisible_40 : decode cX4_firstVisible 40 = .ok (.aload 5, 2) := by decide +kernel
theorem dX4_firstVisible_42 : decode cX4_firstVisible 42 = .ok (.ifnull 29, 3) := by decide +kernel
theorem dX4_firstVisible_45 : decode cX4_firstVisible 45 = .ok (.aload 5, 2) := by decide +kernel
theorem dX4_firstVisible_47 : decode cX4_firstVisible 47 = .ok (.getfield 82, 3) := by decide +kernel
theorem dX4_firstVisible_50 : decode cX4_firstVisible 50 = .ok (.ifCond .ne 21, 3) := by decide +kernel
theorem dX4_firstVisible_53 : decode cX4_firstVisible 53 = .ok (.iload_n 2, 1) := by decide +kernel
theorem dX4_firstVisible_54 : decode cX4_firstVisible 54 = .ok (.ifCond .eq 14, 3) := by decide +kernel
theorem dX4_firstVisible_57 : decode cX4_firstVisible 57 = .ok (.aload_n 0, 1) := by decide +kernel
theorem dX4_firstVisible_58 : decode cX4_firstVisible 58 = .ok (.aload 5, 2) := by decide +kernel
theorem dX4_firstVisible_60 : decode cX4_firstVisible 60 = .ok (.iload 4, 2) := by decide +kernel
theorem dX4_firstVisible_62 : decode cX4_firstVisible 62 = .ok (.invokevirtual 96, 3) := by decide +kernel
theorem dX4_firstVisible_65 : decode cX4_firstVisible 65 = .ok (.ifCond .ne 6, 3) := by decide +kernel
theorem dX4_firstVisible_68 : decode cX4_firstVisible 68 = .ok (.iload 4, 2) := by decide +kernel
theorem dX4_firstVisible_70 : decode cX4_firstVisible 70 = .ok (.ireturn, 1) := by decide +kernel
theorem dX4_firstVisible_71 : decode cX4_firstVisible 71 = .ok (.iinc 4 1, 3) := by decide +kernel
theorem dX4_firstVisible_74 : decode cX4_firstVisible 74 = .ok (.goto (-48), 3) := by decide +kernel
theorem dX4_firstVisible_77 : decode cX4_firstVisible 77 = .ok (.iconst (-1), 1) := by decide +kernel
theorem dX4_firstVisible_78 : decode cX4_firstVisible 78 = .ok (.ireturn, 1) := by decide +kernel
set_option maxRecDepth 20000 in
theorem ggX4_isAborted_X4_endKindOf : GoodIn wsX4_isAborted wsX4_endKindOf := goodIn_r _ [6, 7, 8, 9, 10, 11, 5, 12, 13, 14, 15, 16, 17, 18, 19, 20, 21, 22, 23, 24, 25, 26, 35, 36, 37, 38, 39, 40, 41, 27, 28, 29, 30, 31, 32, 33, 34] (by rfl) (by decide +kernel)
set_option maxRecDepth 20000 in
theorem gX4_isAborted_X4_endKindOf : GoodIn wsX4_isAborted (wsV RX4 89 RX4 yX4_endKindOf wsX4_endKindOf) := goodIn_app (goodIn_of _ (by decide +kernel)) ggX4_isAborted_X4_endKindOf
theorem dX4_isAborted_0 : decode cX4_isAborted 0 = .ok (.aload_n 1, 1) := by decide +kernel
theorem dX4_isAborted_1 : decode cX4_isAborted 1 = .ok (.getfield 85, 3) := by decide +kernel
theorem dX4_isAborted_4 : decode cX4_isAborted 4 = .ok (.ifCond .eq 17, 3) := by decide +kernel
theorem dX4_isAborted_7 : decode cX4_isAborted 7 = .ok (.aload_n 0, 1) := by decide +kernel
theorem dX4_isAborted_8 : decode cX4_isAborted 8 = .ok (.aload_n 1, 1) := by decide +kernel
theorem dX4_isAborted_9 : decode cX4_isAborted 9 = .ok (.iload_n 2, 1) := by decide +kernel
theorem dX4_isAborted_10 : decode cX4_isAborted 10 = .ok (.invokevirtual 89, 3) := by decide +kernel
theorem dX4_isAborted_13 : decode cX4_isAborted 13 = .ok (.iconst 2, 1) := by decide +kernel
theorem dX4_isAborted_14 : decode cX4_isAborted 14 = .ok (.if_icmp .ne 7, 3) := by decide +kernel
theorem dX4_isAborted_17 : decode cX4_isAborted 17 = .ok (.iconst 1, 1) := by decide +kernel
theorem dX4_isAborted_18 : decode cX4_isAborted 18 = .ok (.goto 4, 3) := by decide +kernel
theorem dX4_isAborted_21 : decode cX4_isAborted 21 = .ok (.iconst 0, 1) := by decide +kernel
theorem dX4_isAborted_22 : decode cX4_isAborted 22 = .ok (.ireturn, 1) := by decide +kernel
theorem dX6_init_0 : decode cX6_init 0 = .ok (.aload_n 0, 1) := by decide +kernel
theorem dX6_init_1 : decode cX6_init 1 = .ok (.invokespecial 3, 3) := by decide +kernel
theorem dX6_init_4 : decode cX6_init 4 = .ok (.aload_n 0, 1) := by decide +kernel
theorem dX6_init_5 : decode cX6_init 5 = .ok (.sipush 640, 3) := by decide +kernel
theorem dX6_init_8 : decode cX6_init 8 = .ok (.newarray .int, 2) := by decide +kernel
theorem dX6_init_10 : decode cX6_init 10 = .ok (.putfield 9, 3) := by decide +kernel
theorem dX6_init_13 : decode cX6_init 13 = .ok (.return_, 1) := by decide +kernel
theorem dX6_get_0 : decode cX6_get 0 = .ok (.aload_n 0, 1) := by decide +kernel
theorem dX6_get_1 : decode cX6_get 1 = .ok (.getfield 9, 3) := by decide +kernel
theorem dX6_get_4 : decode cX6_get 4 = .ok (.bipush 8, 2) := by decide +kernel
theorem dX6_get_6 : decode cX6_get 6 = .ok (.iload_n 1, 1) := by decide +kernel
theorem dX6_get_7 : decode cX6_get 7 = .ok (.aload_n 0, 1) := by decide +kernel
theorem dX6_get_8 : decode cX6_get 8 = .ok (.getfield 15, 3) := by decide +kernel
theorem dX6_get_11 : decode cX6_get 11 = .ok (.isub, 1) := by decide +kernel
theorem dX6_get_12 : decode cX6_get 12 = .ok (.imul, 1) := by decide +kernel
theorem dX6_get_13 : decode cX6_get 13 = .ok (.iload_n 2, 1) := by decide +kernel
theorem dX6_get_14 : decode cX6_get 14 = .ok (.iadd, 1) := by decide +kernel
theorem dX6_get_15 : decode cX6_get 15 = .ok (.iaload, 1) := by decide +kernel
theorem dX6_get_16 : decode cX6_get 16 = .ok (.ireturn, 1) := by decide +kernel
theorem dX6_many_0 : decode cX6_many 0 = .ok (.aload_n 0, 1) := by decide +kernel
theorem dX6_many_1 : decode cX6_many 1 = .ok (.getfield 19, 3) := by decide +kernel
theorem dX6_many_4 : decode cX6_many 4 = .ok (.aload_n 0, 1) := by decide +kernel
theorem dX6_many_5 : decode cX6_many 5 = .ok (.getfield 15, 3) := by decide +kernel
theorem dX6_many_8 : decode cX6_many 8 = .ok (.isub, 1) := by decide +kernel
theorem dX6_many_9 : decode cX6_many 9 = .ok (.ireturn, 1) := by decide +kernel
theorem dX6_from_0 : decode cX6_from 0 = .ok (.iload_n 1, 1) := by decide +kernel
theorem dX6_from_1 : decode cX6_from 1 = .ok (.aload_n 0, 1) := by decide +kernel
theorem dX6_from_2 : decode cX6_from 2 = .ok (.getfield 15, 3) := by decide +kernel
theorem dX6_from_5 : decode cX6_from 5 = .ok (.if_icmp .gt 4, 3) := by decide +kernel
theorem dX6_from_8 : decode cX6_from 8 = .ok (.return_, 1) := by decide +kernel
theorem dX6_from_9 : decode cX6_from 9 = .ok (.iload_n 1, 1) := by decide +kernel
theorem dX6_from_10 : decode cX6_from 10 = .ok (.aload_n 0, 1) := by decide +kernel
theorem dX6_from_11 : decode cX6_from 11 = .ok (.getfield 19, 3) := by decide +kernel
theorem dX6_from_14 : decode cX6_from 14 = .ok (.if_icmp .lt 14, 3) := by decide +kernel
theorem dX6_from_17 : decode cX6_from 17 = .ok (.aload_n 0, 1) := by decide +kernel
theorem dX6_from_18 : decode cX6_from 18 = .ok (.iload_n 1, 1) := by decide +kernel
theorem dX6_from_19 : decode cX6_from 19 = .ok (.putfield 15, 3) := by decide +kernel
theorem dX6_from_22 : decode cX6_from 22 = .ok (.aload_n 0, 1) := by decide +kernel
theorem dX6_from_23 : decode cX6_from 23 = .ok (.iload_n 1, 1) := by decide +kernel
theorem dX6_from_24 : decode cX6_from 24 = .ok (.putfield 19, 3) := by decide +kernel
theorem dX6_from_27 : decode cX6_from 27 = .ok (.return_, 1) := by decide +kernel
theorem dX6_from_28 : decode cX6_from 28 = .ok (.aload_n 0, 1) := by decide +kernel
theorem dX6_from_29 : decode cX6_from 29 = .ok (.getfield 9, 3) := by decide +kernel
theorem dX6_from_32 : decode cX6_from 32 = .ok (.bipush 8, 2) := by decide +kernel
theorem dX6_from_34 : decode cX6_from 34 = .ok (.iload_n 1, 1) := by decide +kernel
theorem dX6_from_35 : decode cX6_from 35 = .ok (.aload_n 0, 1) := by decide +kernel
theorem dX6_from_36 : decode cX6_from 36 = .ok (.getfield 15, 3) := by decide +kernel
theorem dX6_from_39 : decode cX6_from 39 = .ok (.isub, 1) := by decide +kernel
theorem dX6_from_40 : decode cX6_from 40 = .ok (.imul, 1) := by decide +kernel
theorem dX6_from_41 : decode cX6_from 41 = .ok (.aload_n 0, 1) := by decide +kernel
theorem dX6_from_42 : decode cX6_from 42 = .ok (.getfield 9, 3) := by decide +kernel
theorem dX6_from_45 : decode cX6_from 45 = .ok (.iconst 0, 1) := by decide +kernel
theorem dX6_from_46 : decode cX6_from 46 = .ok (.bipush 8, 2) := by decide +kernel
theorem dX6_from_48 : decode cX6_from 48 = .ok (.aload_n 0, 1) := by decide +kernel
theorem dX6_from_49 : decode cX6_from 49 = .ok (.getfield 19, 3) := by decide +kernel
theorem dX6_from_52 : decode cX6_from 52 = .ok (.iload_n 1, 1) := by decide +kernel
theorem dX6_from_53 : decode cX6_from 53 = .ok (.isub, 1) := by decide +kernel
theorem dX6_from_54 : decode cX6_from 54 = .ok (.imul, 1) := by decide +kernel
theorem dX6_from_55 : decode cX6_from 55 = .ok (.invokestatic 22, 3) := by decide +kernel
theorem dX6_from_58 : decode cX6_from 58 = .ok (.aload_n 0, 1) := by decide +kernel
theorem dX6_from_59 : decode cX6_from 59 = .ok (.iload_n 1, 1) := by decide +kernel
theorem dX6_from_60 : decode cX6_from 60 = .ok (.putfield 15, 3) := by decide +kernel
theorem dX6_from_63 : decode cX6_from 63 = .ok (.return_, 1) := by decide +kernel
set_option maxRecDepth 20000 in
theorem ggX6_add_X6_many : GoodIn wsX6_add wsX6_many := goodIn_r _ [7, 2, 8, 9, 10, 11, 12, 13, 14, 15] (by rfl) (by decide +kernel)
set_option maxRecDepth 20000 in
theorem gX6_add_X6_many : GoodIn wsX6_add (wsV RX6 28 RX6 yX6_many wsX6_many) := goodIn_app (goodIn_of _ (by decide +kernel)) ggX6_add_X6_many
theorem dX6_add_0 : decode cX6_add 0 = .ok (.bipush 8, 2) := by decide +kernel
theorem dX6_add_2 : decode cX6_add 2 = .ok (.aload_n 0, 1) := by decide +kernel
theorem dX6_add_3 : decode cX6_add 3 = .ok (.invokevirtual 28, 3) := by decide +kernel
theorem dX6_add_6 : decode cX6_add 6 = .ok (.imul, 1) := by decide +kernel
theorem dX6_add_7 : decode cX6_add 7 = .ok (.istore 9, 2) := by decide +kernel
theorem dX6_add_9 : decode cX6_add 9 = .ok (.aload_n 0, 1) := by decide +kernel
theorem dX6_add_10 : decode cX6_add 10 = .ok (.getfield 9, 3) := by decide +kernel
theorem dX6_add_13 : decode cX6_add 13 = .ok (.iload 9, 2) := by decide +kernel
theorem dX6_add_15 : decode cX6_add 15 = .ok (.iload_n 1, 1) := by decide +kernel
theorem dX6_add_16 : decode cX6_add 16 = .ok (.iastore, 1) := by decide +kernel
theorem dX6_add_17 : decode cX6_add 17 = .ok (.aload_n 0, 1) := by decide +kernel
theorem dX6_add_18 : decode cX6_add 18 = .ok (.getfield 9, 3) := by decide +kernel
theorem dX6_add_21 : decode cX6_add 21 = .ok (.iload 9, 2) := by decide +kernel
theorem dX6_add_23 : decode cX6_add 23 = .ok (.iconst 1, 1) := by decide +kernel
theorem dX6_add_24 : decode cX6_add 24 = .ok (.iadd, 1) := by decide +kernel
theorem dX6_add_25 : decode cX6_add 25 = .ok (.iload_n 2, 1) := by decide +kernel
theorem dX6_add_26 : decode cX6_add 26 = .ok (.iastore, 1) := by decide +kernel
theorem dX6_add_27 : decode cX6_add 27 = .ok (.aload_n 0, 1) := by decide +kernel
theorem dX6_add_28 : decode cX6_add 28 = .ok (.getfield 9, 3) := by decide +kernel
theorem dX6_add_31 : decode cX6_add 31 = .ok (.iload 9, 2) := by decide +kernel
theorem dX6_add_33 : decode cX6_add 33 = .ok (.iconst 2, 1) := by decide +kernel
theorem dX6_add_34 : decode cX6_add 34 = .ok (.iadd, 1) := by decide +kernel
theorem dX6_add_35 : decode cX6_add 35 = .ok (.iload_n 3, 1) := by decide +kernel
theorem dX6_add_36 : decode cX6_add 36 = .ok (.iastore, 1) := by decide +kernel
theorem dX6_add_37 : decode cX6_add 37 = .ok (.aload_n 0, 1) := by decide +kernel
theorem dX6_add_38 : decode cX6_add 38 = .ok (.getfield 9, 3) := by decide +kernel
theorem dX6_add_41 : decode cX6_add 41 = .ok (.iload 9, 2) := by decide +kernel
theorem dX6_add_43 : decode cX6_add 43 = .ok (.iconst 3, 1) := by decide +kernel
theorem dX6_add_44 : decode cX6_add 44 = .ok (.iadd, 1) := by decide +kernel
theorem dX6_add_45 : decode cX6_add 45 = .ok (.iload 4, 2) := by decide +kernel
theorem dX6_add_47 : decode cX6_add 47 = .ok (.iastore, 1) := by decide +kernel
theorem dX6_add_48 : decode cX6_add 48 = .ok (.aload_n 0, 1) := by decide +kernel
theorem dX6_add_49 : decode cX6_add 49 = .ok (.getfield 9, 3) := by decide +kernel
theorem dX6_add_52 : decode cX6_add 52 = .ok (.iload 9, 2) := by decide +kernel
theorem dX6_add_54 : decode cX6_add 54 = .ok (.iconst 4, 1) := by decide +kernel
theorem dX6_add_55 : decode cX6_add 55 = .ok (.iadd, 1) := by decide +kernel
theorem dX6_add_56 : decode cX6_add 56 = .ok (.iload 5, 2) := by decide +kernel
theorem dX6_add_58 : decode cX6_add 58 = .ok (.iastore, 1) := by decide +kernel
theorem dX6_add_59 : decode cX6_add 59 = .ok (.aload_n 0, 1) := by decide +kernel
theorem dX6_add_60 : decode cX6_add 60 = .ok (.getfield 9, 3) := by decide +kernel
theorem dX6_add_63 : decode cX6_add 63 = .ok (.iload 9, 2) := by decide +kernel
theorem dX6_add_65 : decode cX6_add 65 = .ok (.iconst 5, 1) := by decide +kernel
theorem dX6_add_66 : decode cX6_add 66 = .ok (.iadd, 1) := by decide +kernel
theorem dX6_add_67 : decode cX6_add 67 = .ok (.iload 6, 2) := by decide +kernel
theorem dX6_add_69 : decode cX6_add 69 = .ok (.iastore, 1) := by decide +kernel
theorem dX6_add_70 : decode cX6_add 70 = .ok (.aload_n 0, 1) := by decide +kernel
theorem dX6_add_71 : decode cX6_add 71 = .ok (.getfield 9, 3) := by decide +kernel
theorem dX6_add_74 : decode cX6_add 74 = .ok (.iload 9, 2) := by decide +kernel
theorem dX6_add_76 : decode cX6_add 76 = .ok (.bipush 6, 2) := by decide +kernel
theorem dX6_add_78 : decode cX6_add 78 = .ok (.iadd, 1) := by decide +kernel
theorem dX6_add_79 : decode cX6_add 79 = .ok (.iload 7, 2) := by decide +kernel
theorem dX6_add_81 : decode cX6_add 81 = .ok (.iastore, 1) := by decide +kernel
theorem dX6_add_82 : decode cX6_add 82 = .ok (.aload_n 0, 1) := by decide +kernel
theorem dX6_add_83 : decode cX6_add 83 = .ok (.getfield 9, 3) := by decide +kernel
theorem dX6_add_86 : decode cX6_add 86 = .ok (.iload 9, 2) := by decide +kernel
theorem dX6_add_88 : decode cX6_add 88 = .ok (.bipush 7, 2) := by decide +kernel
theorem dX6_add_90 : decode cX6_add 90 = .ok (.iadd, 1) := by decide +kernel
theorem dX6_add_91 : decode cX6_add 91 = .ok (.iload 8, 2) := by decide +kernel
theorem dX6_add_93 : decode cX6_add 93 = .ok (.iastore, 1) := by decide +kernel
theorem dX6_add_94 : decode cX6_add 94 = .ok (.aload_n 0, 1) := by decide +kernel
theorem dX6_add_95 : decode cX6_add 95 = .ok (.dup, 1) := by decide +kernel
theorem dX6_add_96 : decode cX6_add 96 = .ok (.getfield 19, 3) := by decide +kernel
theorem dX6_add_99 : decode cX6_add 99 = .ok (.iconst 1, 1) := by decide +kernel
theorem dX6_add_100 : decode cX6_add 100 = .ok (.iadd, 1) := by decide +kernel
theorem dX6_add_101 : decode cX6_add 101 = .ok (.putfield 19, 3) := by decide +kernel
theorem dX6_add_104 : decode cX6_add 104 = .ok (.return_, 1) := by decide +kernel
set_option maxRecDepth 20000 in
theorem ggX6_take_X6_many : GoodIn wsX6_take wsX6_many := goodIn_r _ [12, 7, 2, 13, 14, 15, 16, 17, 18, 19] (by rfl) (by decide +kernel)
set_option maxRecDepth 20000 in
theorem gX6_take_X6_many : GoodIn wsX6_take (wsV RX6 28 RX6 yX6_many wsX6_many) := goodIn_app (goodIn_of _ (by decide +kernel)) ggX6_take_X6_many
theorem dX6_take_0 : decode cX6_take 0 = .ok (.aload_n 1, 1) := by decide +kernel
theorem dX6_take_1 : decode cX6_take 1 = .ok (.getfield 9, 3) := by decide +kernel
theorem dX6_take_4 : decode cX6_take 4 = .ok (.bipush 8, 2) := by decide +kernel
theorem dX6_take_6 : decode cX6_take 6 = .ok (.iload_n 2, 1) := by decide +kernel
theorem dX6_take_7 : decode cX6_take 7 = .ok (.aload_n 1, 1) := by decide +kernel
theorem dX6_take_8 : decode cX6_take 8 = .ok (.getfield 15, 3) := by decide +kernel
theorem dX6_take_11 : decode cX6_take 11 = .ok (.isub, 1) := by decide +kernel
theorem dX6_take_12 : decode cX6_take 12 = .ok (.imul, 1) := by decide +kernel
theorem dX6_take_13 : decode cX6_take 13 = .ok (.aload_n 0, 1) := by decide +kernel
theorem dX6_take_14 : decode cX6_take 14 = .ok (.getfield 9, 3) := by decide +kernel
theorem dX6_take_17 : decode cX6_take 17 = .ok (.bipush 8, 2) := by decide +kernel
theorem dX6_take_19 : decode cX6_take 19 = .ok (.aload_n 0, 1) := by decide +kernel
theorem dX6_take_20 : decode cX6_take 20 = .ok (.invokevirtual 28, 3) := by decide +kernel
theorem dX6_take_23 : decode cX6_take 23 = .ok (.imul, 1) := by decide +kernel
theorem dX6_take_24 : decode cX6_take 24 = .ok (.bipush 8, 2) := by decide +kernel
theorem dX6_take_26 : decode cX6_take 26 = .ok (.invokestatic 22, 3) := by decide +kernel
theorem dX6_take_29 : decode cX6_take 29 = .ok (.aload_n 0, 1) := by decide +kernel
theorem dX6_take_30 : decode cX6_take 30 = .ok (.dup, 1) := by decide +kernel
theorem dX6_take_31 : decode cX6_take 31 = .ok (.getfield 19, 3) := by decide +kernel
theorem dX6_take_34 : decode cX6_take 34 = .ok (.iconst 1, 1) := by decide +kernel
theorem dX6_take_35 : decode cX6_take 35 = .ok (.iadd, 1) := by decide +kernel
theorem dX6_take_36 : decode cX6_take 36 = .ok (.putfield 19, 3) := by decide +kernel
theorem dX6_take_39 : decode cX6_take 39 = .ok (.return_, 1) := by decide +kernel
theorem dJ6_numberOfTrailingZeros_0f7a4_0 : decode cJ6_numberOfTrailingZeros_0f7a4 0 = .ok (.iload_n 0, 1) := by decide +kernel
theorem dJ6_numberOfTrailingZeros_0f7a4_1 : decode cJ6_numberOfTrailingZeros_0f7a4 1 = .ok (.iconst (-1), 1) := by decide +kernel
theorem dJ6_numberOfTrailingZeros_0f7a4_2 : decode cJ6_numberOfTrailingZeros_0f7a4 2 = .ok (.ixor, 1) := by decide +kernel
theorem dJ6_numberOfTrailingZeros_0f7a4_3 : decode cJ6_numberOfTrailingZeros_0f7a4 3 = .ok (.iload_n 0, 1) := by decide +kernel
theorem dJ6_numberOfTrailingZeros_0f7a4_4 : decode cJ6_numberOfTrailingZeros_0f7a4 4 = .ok (.iconst 1, 1) := by decide +kernel
theorem dJ6_numberOfTrailingZeros_0f7a4_5 : decode cJ6_numberOfTrailingZeros_0f7a4 5 = .ok (.isub, 1) := by decide +kernel
theorem dJ6_numberOfTrailingZeros_0f7a4_6 : decode cJ6_numberOfTrailingZeros_0f7a4 6 = .ok (.iand, 1) := by decide +kernel
theorem dJ6_numberOfTrailingZeros_0f7a4_7 : decode cJ6_numberOfTrailingZeros_0f7a4 7 = .ok (.istore_n 0, 1) := by decide +kernel
theorem dJ6_numberOfTrailingZeros_0f7a4_8 : decode cJ6_numberOfTrailingZeros_0f7a4 8 = .ok (.iload_n 0, 1) := by decide +kernel
theorem dJ6_numberOfTrailingZeros_0f7a4_9 : decode cJ6_numberOfTrailingZeros_0f7a4 9 = .ok (.ifCond .gt 8, 3) := by decide +kernel
theorem dJ6_numberOfTrailingZeros_0f7a4_12 : decode cJ6_numberOfTrailingZeros_0f7a4 12 = .ok (.iload_n 0, 1) := by decide +kernel
theorem dJ6_numberOfTrailingZeros_0f7a4_13 : decode cJ6_numberOfTrailingZeros_0f7a4 13 = .ok (.bipush 32, 2) := by decide +kernel
theorem dJ6_numberOfTrailingZeros_0f7a4_15 : decode cJ6_numberOfTrailingZeros_0f7a4 15 = .ok (.iand, 1) := by decide +kernel
theorem dJ6_numberOfTrailingZeros_0f7a4_16 : decode cJ6_numberOfTrailingZeros_0f7a4 16 = .ok (.ireturn, 1) := by decide +kernel
theorem dJ6_numberOfTrailingZeros_0f7a4_17 : decode cJ6_numberOfTrailingZeros_0f7a4 17 = .ok (.iconst 1, 1) := by decide +kernel
theorem dJ6_numberOfTrailingZeros_0f7a4_18 : decode cJ6_numberOfTrailingZeros_0f7a4 18 = .ok (.istore_n 1, 1) := by decide +kernel
theorem dJ6_numberOfTrailingZeros_0f7a4_19 : decode cJ6_numberOfTrailingZeros_0f7a4 19 = .ok (.iload_n 0, 1) := by decide +kernel
theorem dJ6_numberOfTrailingZeros_0f7a4_20 : decode cJ6_numberOfTrailingZeros_0f7a4 20 = .ok (.ldc_w 264, 3) := by decide +kernel
theorem dJ6_numberOfTrailingZeros_0f7a4_23 : decode cJ6_numberOfTrailingZeros_0f7a4 23 = .ok (.if_icmp .le 11, 3) := by decide +kernel
theorem dJ6_numberOfTrailingZeros_0f7a4_26 : decode cJ6_numberOfTrailingZeros_0f7a4 26 = .ok (.iinc 1 16, 3) := by decide +kernel
theorem dJ6_numberOfTrailingZeros_0f7a4_29 : decode cJ6_numberOfTrailingZeros_0f7a4 29 = .ok (.iload_n 0, 1) := by decide +kernel
theorem dJ6_numberOfTrailingZeros_0f7a4_30 : decode cJ6_numberOfTrailingZeros_0f7a4 30 = .ok (.bipush 16, 2) := by decide +kernel
theorem dJ6_numberOfTrailingZeros_0f7a4_32 : decode cJ6_numberOfTrailingZeros_0f7a4 32 = .ok (.iushr, 1) := by decide +kernel
theorem dJ6_numberOfTrailingZeros_0f7a4_33 : decode cJ6_numberOfTrailingZeros_0f7a4 33 = .ok (.istore_n 0, 1) := by decide +kernel
theorem dJ6_numberOfTrailingZeros_0f7a4_34 : decode cJ6_numberOfTrailingZeros_0f7a4 34 = .ok (.iload_n 0, 1) := by decide +kernel
theorem dJ6_numberOfTrailingZeros_0f7a4_35 : decode cJ6_numberOfTrailingZeros_0f7a4 35 = .ok (.sipush 256, 3) := by decide +kernel
theorem dJ6_numberOfTrailingZeros_0f7a4_38 : decode cJ6_numberOfTrailingZeros_0f7a4 38 = .ok (.if_icmp .le 11, 3) := by decide +kernel
theorem dJ6_numberOfTrailingZeros_0f7a4_41 : decode cJ6_numberOfTrailingZeros_0f7a4 41 = .ok (.iinc 1 8, 3) := by decide +kernel
theorem dJ6_numberOfTrailingZeros_0f7a4_44 : decode cJ6_numberOfTrailingZeros_0f7a4 44 = .ok (.iload_n 0, 1) := by decide +kernel
theorem dJ6_numberOfTrailingZeros_0f7a4_45 : decode cJ6_numberOfTrailingZeros_0f7a4 45 = .ok (.bipush 8, 2) := by decide +kernel
theorem dJ6_numberOfTrailingZeros_0f7a4_47 : decode cJ6_numberOfTrailingZeros_0f7a4 47 = .ok (.iushr, 1) := by decide +kernel
theorem dJ6_numberOfTrailingZeros_0f7a4_48 : decode cJ6_numberOfTrailingZeros_0f7a4 48 = .ok (.istore_n 0, 1) := by decide +kernel
theorem dJ6_numberOfTrailingZeros_0f7a4_49 : decode cJ6_numberOfTrailingZeros_0f7a4 49 = .ok (.iload_n 0, 1) := by decide +kernel
theorem dJ6_numberOfTrailingZeros_0f7a4_50 : decode cJ6_numberOfTrailingZeros_0f7a4 50 = .ok (.bipush 16, 2) := by decide +kernel
theorem dJ6_numberOfTrailingZeros_0f7a4_52 : decode cJ6_numberOfTrailingZeros_0f7a4 52 = .ok (.if_icmp .le 10, 3) := by decide +kernel
theorem dJ6_numberOfTrailingZeros_0f7a4_55 : decode cJ6_numberOfTrailingZeros_0f7a4 55 = .ok (.iinc 1 4, 3) := by decide +kernel
theorem dJ6_numberOfTrailingZeros_0f7a4_58 : decode cJ6_numberOfTrailingZeros_0f7a4 58 = .ok (.iload_n 0, 1) := by decide +kernel
theorem dJ6_numberOfTrailingZeros_0f7a4_59 : decode cJ6_numberOfTrailingZeros_0f7a4 59 = .ok (.iconst 4, 1) := by decide +kernel
theorem dJ6_numberOfTrailingZeros_0f7a4_60 : decode cJ6_numberOfTrailingZeros_0f7a4 60 = .ok (.iushr, 1) := by decide +kernel
theorem dJ6_numberOfTrailingZeros_0f7a4_61 : decode cJ6_numberOfTrailingZeros_0f7a4 61 = .ok (.istore_n 0, 1) := by decide +kernel
theorem dJ6_numberOfTrailingZeros_0f7a4_62 : decode cJ6_numberOfTrailingZeros_0f7a4 62 = .ok (.iload_n 0, 1) := by decide +kernel
theorem dJ6_numberOfTrailingZeros_0f7a4_63 : decode cJ6_numberOfTrailingZeros_0f7a4 63 = .ok (.iconst 4, 1) := by decide +kernel
theorem dJ6_numberOfTrailingZeros_0f7a4_64 : decode cJ6_numberOfTrailingZeros_0f7a4 64 = .ok (.if_icmp .le 10, 3) := by decide +kernel
theorem dJ6_numberOfTrailingZeros_0f7a4_67 : decode cJ6_numberOfTrailingZeros_0f7a4 67 = .ok (.iinc 1 2, 3) := by decide +kernel
theorem dJ6_numberOfTrailingZeros_0f7a4_70 : decode cJ6_numberOfTrailingZeros_0f7a4 70 = .ok (.iload_n 0, 1) := by decide +kernel
theorem dJ6_numberOfTrailingZeros_0f7a4_71 : decode cJ6_numberOfTrailingZeros_0f7a4 71 = .ok (.iconst 2, 1) := by decide +kernel
theorem dJ6_numberOfTrailingZeros_0f7a4_72 : decode cJ6_numberOfTrailingZeros_0f7a4 72 = .ok (.iushr, 1) := by decide +kernel
theorem dJ6_numberOfTrailingZeros_0f7a4_73 : decode cJ6_numberOfTrailingZeros_0f7a4 73 = .ok (.istore_n 0, 1) := by decide +kernel
theorem dJ6_numberOfTrailingZeros_0f7a4_74 : decode cJ6_numberOfTrailingZeros_0f7a4 74 = .ok (.iload_n 1, 1) := by decide +kernel
theorem dJ6_numberOfTrailingZeros_0f7a4_75 : decode cJ6_numberOfTrailingZeros_0f7a4 75 = .ok (.iload_n 0, 1) := by decide +kernel
theorem dJ6_numberOfTrailingZeros_0f7a4_76 : decode cJ6_numberOfTrailingZeros_0f7a4 76 = .ok (.iconst 1, 1) := by decide +kernel
theorem dJ6_numberOfTrailingZeros_0f7a4_77 : decode cJ6_numberOfTrailingZeros_0f7a4 77 = .ok (.iushr, 1) := by decide +kernel
theorem dJ6_numberOfTrailingZeros_0f7a4_78 : decode cJ6_numberOfTrailingZeros_0f7a4 78 = .ok (.iadd, 1) := by decide +kernel
theorem dJ6_numberOfTrailingZeros_0f7a4_79 : decode cJ6_numberOfTrailingZeros_0f7a4 79 = .ok (.ireturn, 1) := by decide +kernel
theorem dJ6_bitCount_0f7a4_0 : decode cJ6_bitCount_0f7a4 0 = .ok (.iload_n 0, 1) := by decide +kernel
theorem dJ6_bitCount_0f7a4_1 : decode cJ6_bitCount_0f7a4 1 = .ok (.iload_n 0, 1) := by decide +kernel
theorem dJ6_bitCount_0f7a4_2 : decode cJ6_bitCount_0f7a4 2 = .ok (.iconst 1, 1) := by decide +kernel
theorem dJ6_bitCount_0f7a4_3 : decode cJ6_bitCount_0f7a4 3 = .ok (.iushr, 1) := by decide +kernel
theorem dJ6_bitCount_0f7a4_4 : decode cJ6_bitCount_0f7a4 4 = .ok (.ldc_w 265, 3) := by decide +kernel
theorem dJ6_bitCount_0f7a4_7 : decode cJ6_bitCount_0f7a4 7 = .ok (.iand, 1) := by decide +kernel
theorem dJ6_bitCount_0f7a4_8 : decode cJ6_bitCount_0f7a4 8 = .ok (.isub, 1) := by decide +kernel
theorem dJ6_bitCount_0f7a4_9 : decode cJ6_bitCount_0f7a4 9 = .ok (.istore_n 0, 1) := by decide +kernel
theorem dJ6_bitCount_0f7a4_10 : decode cJ6_bitCount_0f7a4 10 = .ok (.iload_n 0, 1) := by decide +kernel
theorem dJ6_bitCount_0f7a4_11 : decode cJ6_bitCount_0f7a4 11 = .ok (.ldc_w 266, 3) := by decide +kernel
theorem dJ6_bitCount_0f7a4_14 : decode cJ6_bitCount_0f7a4 14 = .ok (.iand, 1) := by decide +kernel
theorem dJ6_bitCount_0f7a4_15 : decode cJ6_bitCount_0f7a4 15 = .ok (.iload_n 0, 1) := by decide +kernel
theorem dJ6_bitCount_0f7a4_16 : decode cJ6_bitCount_0f7a4 16 = .ok (.iconst 2, 1) := by decide +kernel
theorem dJ6_bitCount_0f7a4_17 : decode cJ6_bitCount_0f7a4 17 = .ok (.iushr, 1) := by decide +kernel
theorem dJ6_bitCount_0f7a4_18 : decode cJ6_bitCount_0f7a4 18 = .ok (.ldc_w 266, 3) := by decide +kernel
theorem dJ6_bitCount_0f7a4_21 : decode cJ6_bitCount_0f7a4 21 = .ok (.iand, 1) := by decide +kernel
theorem dJ6_bitCount_0f7a4_22 : decode cJ6_bitCount_0f7a4 22 = .ok (.iadd, 1) := by decide +kernel
theorem dJ6_bitCount_0f7a4_23 : decode cJ6_bitCount_0f7a4 23 = .ok (.istore_n 0, 1) := by decide +kernel
theorem dJ6_bitCount_0f7a4_24 : decode cJ6_bitCount_0f7a4 24 = .ok (.iload_n 0, 1) := by decide +kernel
theorem dJ6_bitCount_0f7a4_25 : decode cJ6_bitCount_0f7a4 25 = .ok (.iload_n 0, 1) := by decide +kernel
theorem dJ6_bitCount_0f7a4_26 : decode cJ6_bitCount_0f7a4 26 = .ok (.iconst 4, 1) := by decide +kernel
theorem dJ6_bitCount_0f7a4_27 : decode cJ6_bitCount_0f7a4 27 = .ok (.iushr, 1) := by decide +kernel
theorem dJ6_bitCount_0f7a4_28 : decode cJ6_bitCount_0f7a4 28 = .ok (.iadd, 1) := by decide +kernel
theorem dJ6_bitCount_0f7a4_29 : decode cJ6_bitCount_0f7a4 29 = .ok (.ldc_w 267, 3) := by decide +kernel
theorem dJ6_bitCount_0f7a4_32 : decode cJ6_bitCount_0f7a4 32 = .ok (.iand, 1) := by decide +kernel
theorem dJ6_bitCount_0f7a4_33 : decode cJ6_bitCount_0f7a4 33 = .ok (.istore_n 0, 1) := by decide +kernel
theorem dJ6_bitCount_0f7a4_34 : decode cJ6_bitCount_0f7a4 34 = .ok (.iload_n 0, 1) := by decide +kernel
theorem dJ6_bitCount_0f7a4_35 : decode cJ6_bitCount_0f7a4 35 = .ok (.iload_n 0, 1) := by decide +kernel
theorem dJ6_bitCount_0f7a4_36 : decode cJ6_bitCount_0f7a4 36 = .ok (.bipush 8, 2) := by decide +kernel
theorem dJ6_bitCount_0f7a4_38 : decode cJ6_bitCount_0f7a4 38 = .ok (.iushr, 1) := by decide +kernel
theorem dJ6_bitCount_0f7a4_39 : decode cJ6_bitCount_0f7a4 39 = .ok (.iadd, 1) := by decide +kernel
theorem dJ6_bitCount_0f7a4_40 : decode cJ6_bitCount_0f7a4 40 = .ok (.istore_n 0, 1) := by decide +kernel
theorem dJ6_bitCount_0f7a4_41 : decode cJ6_bitCount_0f7a4 41 = .ok (.iload_n 0, 1) := by decide +kernel
theorem dJ6_bitCount_0f7a4_42 : decode cJ6_bitCount_0f7a4 42 = .ok (.iload_n 0, 1) := by decide +kernel
theorem dJ6_bitCount_0f7a4_43 : decode cJ6_bitCount_0f7a4 43 = .ok (.bipush 16, 2) := by decide +kernel
theorem dJ6_bitCount_0f7a4_45 : decode cJ6_bitCount_0f7a4 45 = .ok (.iushr, 1) := by decide +kernel
theorem dJ6_bitCount_0f7a4_46 : decode cJ6_bitCount_0f7a4 46 = .ok (.iadd, 1) := by decide +kernel
theorem dJ6_bitCount_0f7a4_47 : decode cJ6_bitCount_0f7a4 47 = .ok (.istore_n 0, 1) := by decide +kernel
theorem dJ6_bitCount_0f7a4_48 : decode cJ6_bitCount_0f7a4 48 = .ok (.iload_n 0, 1) := by decide +kernel
theorem dJ6_bitCount_0f7a4_49 : decode cJ6_bitCount_0f7a4 49 = .ok (.bipush 63, 2) := by decide +kernel
theorem dJ6_bitCount_0f7a4_51 : decode cJ6_bitCount_0f7a4 51 = .ok (.iand, 1) := by decide +kernel
theorem dJ6_bitCount_0f7a4_52 : decode cJ6_bitCount_0f7a4 52 = .ok (.ireturn, 1) := by decide +kernel
theorem dJ9_floorMod_7cf53_0 : decode cJ9_floorMod_7cf53 0 = .ok (.iload_n 0, 1) := by decide +kernel
theorem dJ9_floorMod_7cf53_1 : decode cJ9_floorMod_7cf53 1 = .ok (.iload_n 1, 1) := by decide +kernel
theorem dJ9_floorMod_7cf53_2 : decode cJ9_floorMod_7cf53 2 = .ok (.irem, 1) := by decide +kernel
theorem dJ9_floorMod_7cf53_3 : decode cJ9_floorMod_7cf53 3 = .ok (.istore_n 2, 1) := by decide +kernel
theorem dJ9_floorMod_7cf53_4 : decode cJ9_floorMod_7cf53 4 = .ok (.iload_n 0, 1) := by decide +kernel
theorem dJ9_floorMod_7cf53_5 : decode cJ9_floorMod_7cf53 5 = .ok (.iload_n 1, 1) := by decide +kernel
theorem dJ9_floorMod_7cf53_6 : decode cJ9_floorMod_7cf53 6 = .ok (.ixor, 1) := by decide +kernel
theorem dJ9_floorMod_7cf53_7 : decode cJ9_floorMod_7cf53 7 = .ok (.ifCond .ge 11, 3) := by decide +kernel
theorem dJ9_floorMod_7cf53_10 : decode cJ9_floorMod_7cf53 10 = .ok (.iload_n 2, 1) := by decide +kernel
theorem dJ9_floorMod_7cf53_11 : decode cJ9_floorMod_7cf53 11 = .ok (.ifCond .eq 7, 3) := by decide +kernel
theorem dJ9_floorMod_7cf53_14 : decode cJ9_floorMod_7cf53 14 = .ok (.iload_n 2, 1) := by decide +kernel
theorem dJ9_floorMod_7cf53_15 : decode cJ9_floorMod_7cf53 15 = .ok (.iload_n 1, 1) := by decide +kernel
theorem dJ9_floorMod_7cf53_16 : decode cJ9_floorMod_7cf53 16 = .ok (.iadd, 1) := by decide +kernel
theorem dJ9_floorMod_7cf53_17 : decode cJ9_floorMod_7cf53 17 = .ok (.ireturn, 1) := by decide +kernel
theorem dJ9_floorMod_7cf53_18 : decode cJ9_floorMod_7cf53 18 = .ok (.iload_n 2, 1) := by decide +kernel
theorem dJ9_floorMod_7cf53_19 : decode cJ9_floorMod_7cf53 19 = .ok (.ireturn, 1) := by decide +kernel
theorem dJ9_max_7cf53_0 : decode cJ9_max_7cf53 0 = .ok (.iload_n 0, 1) := by decide +kernel
theorem dJ9_max_7cf53_1 : decode cJ9_max_7cf53 1 = .ok (.iload_n 1, 1) := by decide +kernel
theorem dJ9_max_7cf53_2 : decode cJ9_max_7cf53 2 = .ok (.if_icmp .lt 7, 3) := by decide +kernel
theorem dJ9_max_7cf53_5 : decode cJ9_max_7cf53 5 = .ok (.iload_n 0, 1) := by decide +kernel
theorem dJ9_max_7cf53_6 : decode cJ9_max_7cf53 6 = .ok (.goto 4, 3) := by decide +kernel
theorem dJ9_max_7cf53_9 : decode cJ9_max_7cf53 9 = .ok (.iload_n 1, 1) := by decide +kernel
theorem dJ9_max_7cf53_10 : decode cJ9_max_7cf53 10 = .ok (.ireturn, 1) := by decide +kernel
theorem dJ9_min_7cf53_0 : decode cJ9_min_7cf53 0 = .ok (.iload_n 0, 1) := by decide +kernel
theorem dJ9_min_7cf53_1 : decode cJ9_min_7cf53 1 = .ok (.iload_n 1, 1) := by decide +kernel
theorem dJ9_min_7cf53_2 : decode cJ9_min_7cf53 2 = .ok (.if_icmp .gt 7, 3) := by decide +kernel
theorem dJ9_min_7cf53_5 : decode cJ9_min_7cf53 5 = .ok (.iload_n 0, 1) := by decide +kernel
theorem dJ9_min_7cf53_6 : decode cJ9_min_7cf53 6 = .ok (.goto 4, 3) := by decide +kernel
theorem dJ9_min_7cf53_9 : decode cJ9_min_7cf53 9 = .ok (.iload_n 1, 1) := by decide +kernel
theorem dJ9_min_7cf53_10 : decode cJ9_min_7cf53 10 = .ok (.ireturn, 1) := by decide +kernel
theorem dJ9_min_f86c9_0 : decode cJ9_min_f86c9 0 = .ok (.lload_n 0, 1) := by decide +kernel
theorem dJ9_min_f86c9_1 : decode cJ9_min_f86c9 1 = .ok (.lload_n 2, 1) := by decide +kernel
theorem dJ9_min_f86c9_2 : decode cJ9_min_f86c9 2 = .ok (.lcmp, 1) := by decide +kernel
theorem dJ9_min_f86c9_3 : decode cJ9_min_f86c9 3 = .ok (.ifCond .gt 7, 3) := by decide +kernel
theorem dJ9_min_f86c9_6 : decode cJ9_min_f86c9 6 = .ok (.lload_n 0, 1) := by decide +kernel
theorem dJ9_min_f86c9_7 : decode cJ9_min_f86c9 7 = .ok (.goto 4, 3) := by decide +kernel
theorem dJ9_min_f86c9_10 : decode cJ9_min_f86c9 10 = .ok (.lload_n 2, 1) := by decide +kernel
theorem dJ9_min_f86c9_11 : decode cJ9_min_f86c9 11 = .ok (.lreturn, 1) := by decide +kernel
theorem dJ7_fill_53178_0 : decode cJ7_fill_53178 0 = .ok (.iconst 0, 1) := by decide +kernel
theorem dJ7_fill_53178_1 : decode cJ7_fill_53178 1 = .ok (.istore_n 2, 1) := by decide +kernel
theorem dJ7_fill_53178_2 : decode cJ7_fill_53178 2 = .ok (.aload_n 0, 1) := by decide +kernel
theorem dJ7_fill_53178_3 : decode cJ7_fill_53178 3 = .ok (.arraylength, 1) := by decide +kernel
theorem dJ7_fill_53178_4 : decode cJ7_fill_53178 4 = .ok (.istore_n 3, 1) := by decide +kernel
theorem dJ7_fill_53178_5 : decode cJ7_fill_53178 5 = .ok (.iload_n 2, 1) := by decide +kernel
theorem dJ7_fill_53178_6 : decode cJ7_fill_53178 6 = .ok (.iload_n 3, 1) := by decide +kernel
theorem dJ7_fill_53178_7 : decode cJ7_fill_53178 7 = .ok (.if_icmp .ge 13, 3) := by decide +kernel
theorem dJ7_fill_53178_10 : decode cJ7_fill_53178 10 = .ok (.aload_n 0, 1) := by decide +kernel
theorem dJ7_fill_53178_11 : decode cJ7_fill_53178 11 = .ok (.iload_n 2, 1) := by decide +kernel
theorem dJ7_fill_53178_12 : decode cJ7_fill_53178 12 = .ok (.iload_n 1, 1) := by decide +kernel
theorem dJ7_fill_53178_13 : decode cJ7_fill_53178 13 = .ok (.iastore, 1) := by decide +kernel
theorem dJ7_fill_53178_14 : decode cJ7_fill_53178 14 = .ok (.iinc 2 1, 3) := by decide +kernel
theorem dJ7_fill_53178_17 : decode cJ7_fill_53178 17 = .ok (.goto (-12), 3) := by decide +kernel
theorem dJ7_fill_53178_20 : decode cJ7_fill_53178 20 = .ok (.return_, 1) := by decide +kernel
