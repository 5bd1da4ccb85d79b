set_option maxRecDepth 20000 in
theorem ggX5_init_X3_init : GoodIn wsX5_init wsX3_init := goodIn_r _ [19, 20, 2, 3, 21, 22, 23, 24, 25, 26, 40, 41, 42, 43, 44, 45] (by rfl) (by decide +kernel)
set_option maxRecDepth 20000 in
theorem gX5_init_X3_init : GoodIn wsX5_init (wsX3_init) := ggX5_init_X3_init
set_option maxRecDepth 20000 in
theorem ggX5_init_X1_init : GoodIn wsX5_init wsX1_init := goodIn_r _ [28, 29, 2, 3, 30, 31, 32, 33, 46, 47, 48] (by rfl) (by decide +kernel)
set_option maxRecDepth 20000 in
theorem gX5_init_X1_init_n41 : GoodIn wsX5_init (wsX1_init) := ggX5_init_X1_init
theorem dX5_init_0 : decode cX5_init 0 = .ok (.aload_n 0, 1) := by decide +kernel
theorem dX5_init_1 : decode cX5_init 1 = .ok (.invokespecial 1, 3) := by decide +kernel
theorem dX5_init_4 : decode cX5_init 4 = .ok (.aload_n 0, 1) := by decide +kernel
theorem dX5_init_5 : decode cX5_init 5 = .ok (.iconst 4, 1) := by decide +kernel
theorem dX5_init_6 : decode cX5_init 6 = .ok (.anewarray 9, 3) := by decide +kernel
theorem dX5_init_9 : decode cX5_init 9 = .ok (.putfield 11, 3) := by decide +kernel
theorem dX5_init_12 : decode cX5_init 12 = .ok (.aload_n 0, 1) := by decide +kernel
theorem dX5_init_13 : decode cX5_init 13 = .ok (.bipush 6, 2) := by decide +kernel
theorem dX5_init_15 : decode cX5_init 15 = .ok (.anewarray 15, 3) := by decide +kernel
theorem dX5_init_18 : decode cX5_init 18 = .ok (.putfield 17, 3) := by decide +kernel
theorem dX5_init_21 : decode cX5_init 21 = .ok (.aload_n 0, 1) := by decide +kernel
theorem dX5_init_22 : decode cX5_init 22 = .ok (.iconst 4, 1) := by decide +kernel
theorem dX5_init_23 : decode cX5_init 23 = .ok (.anewarray 21, 3) := by decide +kernel
theorem dX5_init_26 : decode cX5_init 26 = .ok (.putfield 23, 3) := by decide +kernel
theorem dX5_init_29 : decode cX5_init 29 = .ok (.aload_n 0, 1) := by decide +kernel
theorem dX5_init_30 : decode cX5_init 30 = .ok (.bipush 31, 2) := by decide +kernel
theorem dX5_init_32 : decode cX5_init 32 = .ok (.putfield 27, 3) := by decide +kernel
theorem dX5_init_35 : decode cX5_init 35 = .ok (.aload_n 0, 1) := by decide +kernel
theorem dX5_init_36 : decode cX5_init 36 = .ok (.iconst 0, 1) := by decide +kernel
theorem dX5_init_37 : decode cX5_init 37 = .ok (.putfield 31, 3) := by decide +kernel
theorem dX5_init_40 : decode cX5_init 40 = .ok (.aload_n 0, 1) := by decide +kernel
theorem dX5_init_41 : decode cX5_init 41 = .ok (.aconst_null, 1) := by decide +kernel
theorem dX5_init_42 : decode cX5_init 42 = .ok (.putfield 34, 3) := by decide +kernel
theorem dX5_init_45 : decode cX5_init 45 = .ok (.iconst 0, 1) := by decide +kernel
theorem dX5_init_46 : decode cX5_init 46 = .ok (.istore_n 1, 1) := by decide +kernel
theorem dX5_init_47 : decode cX5_init 47 = .ok (.iload_n 1, 1) := by decide +kernel
theorem dX5_init_48 : decode cX5_init 48 = .ok (.bipush 6, 2) := by decide +kernel
theorem dX5_init_50 : decode cX5_init 50 = .ok (.if_icmp .ge 23, 3) := by decide +kernel
theorem dX5_init_53 : decode cX5_init 53 = .ok (.aload_n 0, 1) := by decide +kernel
theorem dX5_init_54 : decode cX5_init 54 = .ok (.getfield 17, 3) := by decide +kernel
theorem dX5_init_57 : decode cX5_init 57 = .ok (.iload_n 1, 1) := by decide +kernel
theorem dX5_init_58 : decode cX5_init 58 = .ok (.new 15, 3) := by decide +kernel
theorem dX5_init_61 : decode cX5_init 61 = .ok (.dup, 1) := by decide +kernel
theorem dX5_init_62 : decode cX5_init 62 = .ok (.iload_n 1, 1) := by decide +kernel
theorem dX5_init_63 : decode cX5_init 63 = .ok (.invokespecial 38, 3) := by decide +kernel
theorem dX5_init_66 : decode cX5_init 66 = .ok (.aastore, 1) := by decide +kernel
theorem dX5_init_67 : decode cX5_init 67 = .ok (.iinc 1 1, 3) := by decide +kernel
theorem dX5_init_70 : decode cX5_init 70 = .ok (.goto (-23), 3) := by decide +kernel
theorem dX5_init_73 : decode cX5_init 73 = .ok (.iconst 0, 1) := by decide +kernel
theorem dX5_init_74 : decode cX5_init 74 = .ok (.istore_n 1, 1) := by decide +kernel
theorem dX5_init_75 : decode cX5_init 75 = .ok (.iload_n 1, 1) := by decide +kernel
theorem dX5_init_76 : decode cX5_init 76 = .ok (.iconst 4, 1) := by decide +kernel
theorem dX5_init_77 : decode cX5_init 77 = .ok (.if_icmp .ge 22, 3) := by decide +kernel
theorem dX5_init_80 : decode cX5_init 80 = .ok (.aload_n 0, 1) := by decide +kernel
theorem dX5_init_81 : decode cX5_init 81 = .ok (.getfield 23, 3) := by decide +kernel
theorem dX5_init_84 : decode cX5_init 84 = .ok (.iload_n 1, 1) := by decide +kernel
theorem dX5_init_85 : decode cX5_init 85 = .ok (.new 21, 3) := by decide +kernel
theorem dX5_init_88 : decode cX5_init 88 = .ok (.dup, 1) := by decide +kernel
theorem dX5_init_89 : decode cX5_init 89 = .ok (.invokespecial 41, 3) := by decide +kernel
theorem dX5_init_92 : decode cX5_init 92 = .ok (.aastore, 1) := by decide +kernel
theorem dX5_init_93 : decode cX5_init 93 = .ok (.iinc 1 1, 3) := by decide +kernel
theorem dX5_init_96 : decode cX5_init 96 = .ok (.goto (-21), 3) := by decide +kernel
theorem dX5_init_99 : decode cX5_init 99 = .ok (.return_, 1) := by decide +kernel
set_option maxRecDepth 20000 in
theorem ggX5_create_J6_bitCount_0f7a4 : GoodIn wsX5_create wsJ6_bitCount_0f7a4 := goodIn_r _ [11, 12, 13, 14] (by rfl) (by decide +kernel)
set_option maxRecDepth 20000 in
theorem gX5_create_J6_bitCount_0f7a4 : GoodIn wsX5_create (va_wsS RX5 42 yJ6_bitCount_0f7a4 wsJ6_bitCount_0f7a4) := goodIn_app (goodIn_of _ (by decide +kernel)) ggX5_create_J6_bitCount_0f7a4
set_option maxRecDepth 20000 in
theorem ggX5_create_X2_init : GoodIn wsX5_create wsX2_init := goodIn_r _ [17, 18, 19, 20, 21, 22, 23, 24, 25, 26, 27, 28, 29, 30, 31, 32, 33, 34, 35, 36, 37, 38, 39, 40, 41, 42, 43, 44, 45, 46, 47, 54, 55, 56, 57, 58, 59, 60, 61, 62, 63, 64, 65, 66] (by rfl) (by decide +kernel)
set_option maxRecDepth 20000 in
theorem gX5_create_X2_init : GoodIn wsX5_create (wsX2_init) := ggX5_create_X2_init
theorem dX5_create_0 : decode cX5_create 0 = .ok (.iload_n 2, 1) := by decide +kernel
theorem dX5_create_1 : decode cX5_create 1 = .ok (.bipush 31, 2) := by decide +kernel
theorem dX5_create_3 : decode cX5_create 3 = .ok (.iand, 1) := by decide +kernel
theorem dX5_create_4 : decode cX5_create 4 = .ok (.istore 4, 2) := by decide +kernel
theorem dX5_create_6 : decode cX5_create 6 = .ok (.iload_n 1, 1) := by decide +kernel
theorem dX5_create_7 : decode cX5_create 7 = .ok (.ifCond .lt 17, 3) := by decide +kernel
theorem dX5_create_10 : decode cX5_create 10 = .ok (.iload_n 1, 1) := by decide +kernel
theorem dX5_create_11 : decode cX5_create 11 = .ok (.iconst 4, 1) := by decide +kernel
theorem dX5_create_12 : decode cX5_create 12 = .ok (.if_icmp .ge 12, 3) := by decide +kernel
theorem dX5_create_15 : decode cX5_create 15 = .ok (.aload_n 0, 1) := by decide +kernel
theorem dX5_create_16 : decode cX5_create 16 = .ok (.getfield 11, 3) := by decide +kernel
theorem dX5_create_19 : decode cX5_create 19 = .ok (.iload_n 1, 1) := by decide +kernel
theorem dX5_create_20 : decode cX5_create 20 = .ok (.aaload, 1) := by decide +kernel
theorem dX5_create_21 : decode cX5_create 21 = .ok (.ifnull 5, 3) := by decide +kernel
theorem dX5_create_24 : decode cX5_create 24 = .ok (.iconst (-1), 1) := by decide +kernel
theorem dX5_create_25 : decode cX5_create 25 = .ok (.ireturn, 1) := by decide +kernel
theorem dX5_create_26 : decode cX5_create 26 = .ok (.iload_n 3, 1) := by decide +kernel
theorem dX5_create_27 : decode cX5_create 27 = .ok (.iconst 1, 1) := by decide +kernel
theorem dX5_create_28 : decode cX5_create 28 = .ok (.if_icmp .lt 12, 3) := by decide +kernel
theorem dX5_create_31 : decode cX5_create 31 = .ok (.iload_n 3, 1) := by decide +kernel
theorem dX5_create_32 : decode cX5_create 32 = .ok (.iload 4, 2) := by decide +kernel
theorem dX5_create_34 : decode cX5_create 34 = .ok (.invokestatic 42, 3) := by decide +kernel
theorem dX5_create_37 : decode cX5_create 37 = .ok (.if_icmp .le 5, 3) := by decide +kernel
theorem dX5_create_40 : decode cX5_create 40 = .ok (.iconst (-1), 1) := by decide +kernel
theorem dX5_create_41 : decode cX5_create 41 = .ok (.ireturn, 1) := by decide +kernel
theorem dX5_create_42 : decode cX5_create 42 = .ok (.iload 4, 2) := by decide +kernel
theorem dX5_create_44 : decode cX5_create 44 = .ok (.aload_n 0, 1) := by decide +kernel
theorem dX5_create_45 : decode cX5_create 45 = .ok (.getfield 27, 3) := by decide +kernel
theorem dX5_create_48 : decode cX5_create 48 = .ok (.iand, 1) := by decide +kernel
theorem dX5_create_49 : decode cX5_create 49 = .ok (.ifCond .ne 6, 3) := by decide +kernel
theorem dX5_create_52 : decode cX5_create 52 = .ok (.bipush (-2), 2) := by decide +kernel
theorem dX5_create_54 : decode cX5_create 54 = .ok (.ireturn, 1) := by decide +kernel
theorem dX5_create_55 : decode cX5_create 55 = .ok (.new 9, 3) := by decide +kernel
theorem dX5_create_58 : decode cX5_create 58 = .ok (.dup, 1) := by decide +kernel
theorem dX5_create_59 : decode cX5_create 59 = .ok (.iload 4, 2) := by decide +kernel
theorem dX5_create_61 : decode cX5_create 61 = .ok (.iload 4, 2) := by decide +kernel
theorem dX5_create_63 : decode cX5_create 63 = .ok (.aload_n 0, 1) := by decide +kernel
theorem dX5_create_64 : decode cX5_create 64 = .ok (.getfield 27, 3) := by decide +kernel
theorem dX5_create_67 : decode cX5_create 67 = .ok (.iand, 1) := by decide +kernel
theorem dX5_create_68 : decode cX5_create 68 = .ok (.iload_n 3, 1) := by decide +kernel
theorem dX5_create_69 : decode cX5_create 69 = .ok (.aload_n 0, 1) := by decide +kernel
theorem dX5_create_70 : decode cX5_create 70 = .ok (.getfield 31, 3) := by decide +kernel
theorem dX5_create_73 : decode cX5_create 73 = .ok (.invokespecial 48, 3) := by decide +kernel
theorem dX5_create_76 : decode cX5_create 76 = .ok (.astore 5, 2) := by decide +kernel
theorem dX5_create_78 : decode cX5_create 78 = .ok (.aload_n 0, 1) := by decide +kernel
theorem dX5_create_79 : decode cX5_create 79 = .ok (.getfield 11, 3) := by decide +kernel
theorem dX5_create_82 : decode cX5_create 82 = .ok (.iload_n 1, 1) := by decide +kernel
theorem dX5_create_83 : decode cX5_create 83 = .ok (.aload 5, 2) := by decide +kernel
theorem dX5_create_85 : decode cX5_create 85 = .ok (.aastore, 1) := by decide +kernel
theorem dX5_create_86 : decode cX5_create 86 = .ok (.aload 5, 2) := by decide +kernel
theorem dX5_create_88 : decode cX5_create 88 = .ok (.getfield 51, 3) := by decide +kernel
theorem dX5_create_91 : decode cX5_create 91 = .ok (.ireturn, 1) := by decide +kernel
set_option maxRecDepth 20000 in
theorem ggX5_elect_X5_partitionAt : GoodIn wsX5_elect wsX5_partitionAt := goodIn_r _ [9, 10, 59, 60, 61, 62, 63, 64] (by rfl) (by decide +kernel)
set_option maxRecDepth 20000 in
theorem gX5_elect_X5_partitionAt : GoodIn wsX5_elect (wsV RX5 54 RX5 yX5_partitionAt wsX5_partitionAt) := goodIn_app (goodIn_of _ (by decide +kernel)) ggX5_elect_X5_partitionAt
set_option maxRecDepth 20000 in
theorem ggX5_elect_X5_leastOf : GoodIn wsX5_elect wsX5_leastOf := goodIn_r _ [13, 14, 15, 8, 16] (by rfl) (by decide +kernel)
set_option maxRecDepth 20000 in
theorem gX5_elect_X5_leastOf : GoodIn wsX5_elect (va_wsS RX5 61 yX5_leastOf wsX5_leastOf) := goodIn_app (goodIn_of _ (by decide +kernel)) ggX5_elect_X5_leastOf
set_option maxRecDepth 20000 in
theorem ggX5_elect_X2_putLeader : GoodIn wsX5_elect wsX2_putLeader := goodIn_r _ [21, 22, 23, 24, 25, 26, 27, 28, 29, 20, 30, 31, 32, 33, 34, 35, 36, 37, 38, 39, 40, 41, 42, 43, 44, 45, 46, 47, 48, 15, 8, 16, 49, 50, 51, 52, 53, 54, 55, 56, 57, 58, 65, 66, 67, 68, 69, 70, 71] (by rfl) (by decide +kernel)
set_option maxRecDepth 20000 in
theorem gX5_elect_X2_putLeader : GoodIn wsX5_elect (wsV RX5 67 RX2 yX2_putLeader wsX2_putLeader) := goodIn_app (goodIn_of _ (by decide +kernel)) ggX5_elect_X2_putLeader
theorem dX5_elect_0 : decode cX5_elect 0 = .ok (.aload_n 0, 1) := by decide +kernel
theorem dX5_elect_1 : decode cX5_elect 1 = .ok (.iload_n 1, 1) := by decide +kernel
theorem dX5_elect_2 : decode cX5_elect 2 = .ok (.invokevirtual 54, 3) := by decide +kernel
theorem dX5_elect_5 : decode cX5_elect 5 = .ok (.astore_n 3, 1) := by decide +kernel
theorem dX5_elect_6 : decode cX5_elect 6 = .ok (.aload_n 3, 1) := by decide +kernel
theorem dX5_elect_7 : decode cX5_elect 7 = .ok (.ifnonnull 5, 3) := by decide +kernel
theorem dX5_elect_10 : decode cX5_elect 10 = .ok (.iconst (-1), 1) := by decide +kernel
theorem dX5_elect_11 : decode cX5_elect 11 = .ok (.ireturn, 1) := by decide +kernel
theorem dX5_elect_12 : decode cX5_elect 12 = .ok (.aload_n 3, 1) := by decide +kernel
theorem dX5_elect_13 : decode cX5_elect 13 = .ok (.getfield 58, 3) := by decide +kernel
theorem dX5_elect_16 : decode cX5_elect 16 = .ok (.aload_n 0, 1) := by decide +kernel
theorem dX5_elect_17 : decode cX5_elect 17 = .ok (.getfield 27, 3) := by decide +kernel
theorem dX5_elect_20 : decode cX5_elect 20 = .ok (.iand, 1) := by decide +kernel
theorem dX5_elect_21 : decode cX5_elect 21 = .ok (.invokestatic 61, 3) := by decide +kernel
theorem dX5_elect_24 : decode cX5_elect 24 = .ok (.istore 4, 2) := by decide +kernel
theorem dX5_elect_26 : decode cX5_elect 26 = .ok (.iload 4, 2) := by decide +kernel
theorem dX5_elect_28 : decode cX5_elect 28 = .ok (.iconst (-1), 1) := by decide +kernel
theorem dX5_elect_29 : decode cX5_elect 29 = .ok (.if_icmp .ne 35, 3) := by decide +kernel
theorem dX5_elect_32 : decode cX5_elect 32 = .ok (.iload_n 2, 1) := by decide +kernel
theorem dX5_elect_33 : decode cX5_elect 33 = .ok (.ifCond .eq 31, 3) := by decide +kernel
theorem dX5_elect_36 : decode cX5_elect 36 = .ok (.aload_n 3, 1) := by decide +kernel
theorem dX5_elect_37 : decode cX5_elect 37 = .ok (.getfield 64, 3) := by decide +kernel
theorem dX5_elect_40 : decode cX5_elect 40 = .ok (.aload_n 0, 1) := by decide +kernel
theorem dX5_elect_41 : decode cX5_elect 41 = .ok (.getfield 27, 3) := by decide +kernel
theorem dX5_elect_44 : decode cX5_elect 44 = .ok (.iand, 1) := by decide +kernel
theorem dX5_elect_45 : decode cX5_elect 45 = .ok (.invokestatic 61, 3) := by decide +kernel
theorem dX5_elect_48 : decode cX5_elect 48 = .ok (.istore 4, 2) := by decide +kernel
theorem dX5_elect_50 : decode cX5_elect 50 = .ok (.iload 4, 2) := by decide +kernel
theorem dX5_elect_52 : decode cX5_elect 52 = .ok (.iconst (-1), 1) := by decide +kernel
theorem dX5_elect_53 : decode cX5_elect 53 = .ok (.if_icmp .eq 11, 3) := by decide +kernel
theorem dX5_elect_56 : decode cX5_elect 56 = .ok (.aload_n 3, 1) := by decide +kernel
theorem dX5_elect_57 : decode cX5_elect 57 = .ok (.iconst 1, 1) := by decide +kernel
theorem dX5_elect_58 : decode cX5_elect 58 = .ok (.iload 4, 2) := by decide +kernel
theorem dX5_elect_60 : decode cX5_elect 60 = .ok (.ishl, 1) := by decide +kernel
theorem dX5_elect_61 : decode cX5_elect 61 = .ok (.putfield 58, 3) := by decide +kernel
theorem dX5_elect_64 : decode cX5_elect 64 = .ok (.iload 4, 2) := by decide +kernel
theorem dX5_elect_66 : decode cX5_elect 66 = .ok (.iconst (-1), 1) := by decide +kernel
theorem dX5_elect_67 : decode cX5_elect 67 = .ok (.if_icmp .ne 6, 3) := by decide +kernel
theorem dX5_elect_70 : decode cX5_elect 70 = .ok (.bipush (-2), 2) := by decide +kernel
theorem dX5_elect_72 : decode cX5_elect 72 = .ok (.ireturn, 1) := by decide +kernel
theorem dX5_elect_73 : decode cX5_elect 73 = .ok (.aload_n 3, 1) := by decide +kernel
theorem dX5_elect_74 : decode cX5_elect 74 = .ok (.iload 4, 2) := by decide +kernel
theorem dX5_elect_76 : decode cX5_elect 76 = .ok (.aload_n 0, 1) := by decide +kernel
theorem dX5_elect_77 : decode cX5_elect 77 = .ok (.getfield 31, 3) := by decide +kernel
theorem dX5_elect_80 : decode cX5_elect 80 = .ok (.invokevirtual 67, 3) := by decide +kernel
theorem dX5_elect_83 : decode cX5_elect 83 = .ok (.iload 4, 2) := by decide +kernel
theorem dX5_elect_85 : decode cX5_elect 85 = .ok (.ireturn, 1) := by decide +kernel
set_option maxRecDepth 20000 in
theorem ggX5_register_X5_producerAt : GoodIn wsX5_register wsX5_producerAt := goodIn_r _ [7, 8, 22, 23, 24, 25, 26, 27] (by rfl) (by decide +kernel)
set_option maxRecDepth 20000 in
theorem gX5_register_X5_producerAt : GoodIn wsX5_register (wsV RX5 71 RX5 yX5_producerAt wsX5_producerAt) := goodIn_app (goodIn_of _ (by decide +kernel)) ggX5_register_X5_producerAt
set_option maxRecDepth 20000 in
theorem ggX5_register_X3_startEnding : GoodIn wsX5_register wsX3_startEnding := goodIn_r _ [13, 14, 15, 16, 17, 18, 19, 20, 21] (by rfl) (by decide +kernel)
set_option maxRecDepth 20000 in
theorem gX5_register_X3_startEnding : GoodIn wsX5_register (wsV RX5 81 RX3 yX3_startEnding wsX3_startEnding) := goodIn_app (goodIn_of _ (by decide +kernel)) ggX5_register_X3_startEnding
theorem dX5_register_0 : decode cX5_register 0 = .ok (.aload_n 0, 1) := by decide +kernel
theorem dX5_register_1 : decode cX5_register 1 = .ok (.iload_n 1, 1) := by decide +kernel
theorem dX5_register_2 : decode cX5_register 2 = .ok (.invokevirtual 71, 3) := by decide +kernel
theorem dX5_register_5 : decode cX5_register 5 = .ok (.astore_n 2, 1) := by decide +kernel
theorem dX5_register_6 : decode cX5_register 6 = .ok (.aload_n 2, 1) := by decide +kernel
theorem dX5_register_7 : decode cX5_register 7 = .ok (.ifnonnull 5, 3) := by decide +kernel
theorem dX5_register_10 : decode cX5_register 10 = .ok (.iconst (-1), 1) := by decide +kernel
theorem dX5_register_11 : decode cX5_register 11 = .ok (.ireturn, 1) := by decide +kernel
theorem dX5_register_12 : decode cX5_register 12 = .ok (.aload_n 2, 1) := by decide +kernel
theorem dX5_register_13 : decode cX5_register 13 = .ok (.dup, 1) := by decide +kernel
theorem dX5_register_14 : decode cX5_register 14 = .ok (.getfield 75, 3) := by decide +kernel
theorem dX5_register_17 : decode cX5_register 17 = .ok (.iconst 1, 1) := by decide +kernel
theorem dX5_register_18 : decode cX5_register 18 = .ok (.iadd, 1) := by decide +kernel
theorem dX5_register_19 : decode cX5_register 19 = .ok (.putfield 75, 3) := by decide +kernel
theorem dX5_register_22 : decode cX5_register 22 = .ok (.aload_n 2, 1) := by decide +kernel
theorem dX5_register_23 : decode cX5_register 23 = .ok (.getfield 78, 3) := by decide +kernel
theorem dX5_register_26 : decode cX5_register 26 = .ok (.iconst 1, 1) := by decide +kernel
theorem dX5_register_27 : decode cX5_register 27 = .ok (.if_icmp .ne 8, 3) := by decide +kernel
theorem dX5_register_30 : decode cX5_register 30 = .ok (.aload_n 2, 1) := by decide +kernel
theorem dX5_register_31 : decode cX5_register 31 = .ok (.iconst 0, 1) := by decide +kernel
theorem dX5_register_32 : decode cX5_register 32 = .ok (.invokevirtual 81, 3) := by decide +kernel
theorem dX5_register_35 : decode cX5_register 35 = .ok (.aload_n 2, 1) := by decide +kernel
theorem dX5_register_36 : decode cX5_register 36 = .ok (.getfield 75, 3) := by decide +kernel
theorem dX5_register_39 : decode cX5_register 39 = .ok (.bipush 8, 2) := by decide +kernel
theorem dX5_register_41 : decode cX5_register 41 = .ok (.imul, 1) := by decide +kernel
theorem dX5_register_42 : decode cX5_register 42 = .ok (.iload_n 1, 1) := by decide +kernel
theorem dX5_register_43 : decode cX5_register 43 = .ok (.iadd, 1) := by decide +kernel
theorem dX5_register_44 : decode cX5_register 44 = .ok (.ireturn, 1) := by decide +kernel
set_option maxRecDepth 20000 in
theorem ggX5_produce_X5_partitionAt : GoodIn wsX5_produce wsX5_partitionAt := goodIn_r _ [13, 14, 143, 144, 145, 146, 147, 148] (by rfl) (by decide +kernel)
set_option maxRecDepth 20000 in
theorem gX5_produce_X5_partitionAt : GoodIn wsX5_produce (wsV RX5 54 RX5 yX5_partitionAt wsX5_partitionAt) := goodIn_app (goodIn_of _ (by decide +kernel)) ggX5_produce_X5_partitionAt
set_option maxRecDepth 20000 in
theorem ggX5_produce_X5_producerOf : GoodIn wsX5_produce wsX5_producerOf := goodIn_r _ [18, 19, 20, 21, 12, 22, 23, 143, 144, 145, 146, 147, 148] (by rfl) (by decide +kernel)
set_option maxRecDepth 20000 in
theorem gX5_produce_X5_producerOf : GoodIn wsX5_produce (wsV RX5 85 RX5 yX5_producerOf wsX5_producerOf) := goodIn_app (goodIn_of _ (by decide +kernel)) ggX5_produce_X5_producerOf
set_option maxRecDepth 20000 in
theorem ggX5_produce_X2_leading : GoodIn wsX5_produce wsX2_leading := goodIn_r _ [28, 29, 30, 31, 32, 27, 33, 34, 130, 131, 132, 133, 134, 135] (by rfl) (by decide +kernel)
set_option maxRecDepth 20000 in
theorem gX5_produce_X2_leading : GoodIn wsX5_produce (wsV RX5 88 RX2 yX2_leading wsX2_leading) := goodIn_app (goodIn_of _ (by decide +kernel)) ggX5_produce_X2_leading
set_option maxRecDepth 20000 in
theorem ggX5_produce_X5_generationOf : GoodIn wsX5_produce wsX5_generationOf := goodIn_r _ [37] (by rfl) (by decide +kernel)
set_option maxRecDepth 20000 in
theorem gX5_produce_X5_generationOf : GoodIn wsX5_produce (va_wsS RX5 92 yX5_generationOf wsX5_generationOf) := goodIn_app (goodIn_of _ (by decide +kernel)) ggX5_produce_X5_generationOf
set_option maxRecDepth 20000 in
theorem ggX5_produce_J6_bitCount_0f7a4 : GoodIn wsX5_produce wsJ6_bitCount_0f7a4 := goodIn_r _ [41, 42, 43, 44] (by rfl) (by decide +kernel)
set_option maxRecDepth 20000 in
theorem gX5_produce_J6_bitCount_0f7a4 : GoodIn wsX5_produce (va_wsS RX5 42 yJ6_bitCount_0f7a4 wsJ6_bitCount_0f7a4) := goodIn_app (goodIn_of _ (by decide +kernel)) ggX5_produce_J6_bitCount_0f7a4
set_option maxRecDepth 20000 in
theorem ggX5_produce_X4_offsetOf : GoodIn wsX5_produce wsX4_offsetOf := goodIn_r _ [49, 50, 51, 52, 53, 54, 55, 48, 56, 57, 58, 59, 60, 61, 62, 63, 64, 65, 66, 67, 68, 69, 136, 137, 138, 139, 140, 141, 142, 149, 150, 151, 152, 153, 154, 155, 156] (by rfl) (by decide +kernel)
set_option maxRecDepth 20000 in
theorem gX5_produce_X4_offsetOf : GoodIn wsX5_produce (wsV RX5 101 RX4 yX4_offsetOf wsX4_offsetOf) := goodIn_app (goodIn_of _ (by decide +kernel)) ggX5_produce_X4_offsetOf
set_option maxRecDepth 20000 in
theorem ggX5_produce_X4_nextSeq : GoodIn wsX5_produce wsX4_nextSeq := goodIn_r _ [73, 51, 50, 52, 53, 54, 55, 48, 56, 57, 58, 59, 60, 61, 62, 63, 64, 65, 66, 67, 68, 69, 136, 137, 138, 139, 140, 141, 142, 149, 150, 151, 152, 153, 154, 155, 156] (by rfl) (by decide +kernel)
set_option maxRecDepth 20000 in
theorem gX5_produce_X4_nextSeq : GoodIn wsX5_produce (wsV RX5 107 RX4 yX4_nextSeq wsX4_nextSeq) := goodIn_app (goodIn_of _ (by decide +kernel)) ggX5_produce_X4_nextSeq
set_option maxRecDepth 20000 in
theorem ggX5_produce_X4_isFull : GoodIn wsX5_produce wsX4_isFull := goodIn_r _ [77, 78, 79, 80, 48, 81, 51, 50, 136, 137, 138, 139, 140, 141, 142] (by rfl) (by decide +kernel)
set_option maxRecDepth 20000 in
theorem gX5_produce_X4_isFull : GoodIn wsX5_produce (wsV RX5 111 RX4 yX4_isFull wsX4_isFull) := goodIn_app (goodIn_of _ (by decide +kernel)) ggX5_produce_X4_isFull
set_option maxRecDepth 20000 in
theorem ggX5_produce_X5_newData : GoodIn wsX5_produce wsX5_newData := goodIn_r _ [84, 85, 86, 65, 5, 1, 2, 87, 88, 89, 90, 91, 92, 93, 67, 68, 69, 94, 95, 96, 97, 149, 150, 151, 152, 153, 154, 155, 156, 124, 125, 126, 127, 128, 129] (by rfl) (by decide +kernel)
set_option maxRecDepth 20000 in
theorem gX5_produce_X5_newData : GoodIn wsX5_produce (va_wsS RX5 118 yX5_newData wsX5_newData) := goodIn_app (goodIn_of _ (by decide +kernel)) ggX5_produce_X5_newData
set_option maxRecDepth 20000 in
theorem ggX5_produce_X4_append : GoodIn wsX5_produce wsX4_append := goodIn_r _ [101, 57, 51, 58, 59, 60, 61, 136, 137, 138, 139, 140, 141, 142] (by rfl) (by decide +kernel)
set_option maxRecDepth 20000 in
theorem gX5_produce_X4_append : GoodIn wsX5_produce (wsV RX5 122 RX4 yX4_append wsX4_append) := goodIn_app (goodIn_of _ (by decide +kernel)) ggX5_produce_X4_append
set_option maxRecDepth 20000 in
theorem ggX5_produce_X2_raiseHw : GoodIn wsX5_produce wsX2_raiseHw := goodIn_r _ [105, 106, 107, 108, 109, 110, 111, 112, 113, 114, 115, 116, 25, 26, 27, 28, 29, 30, 31, 32, 33, 34, 117, 12, 118, 119, 120, 121, 122, 123, 136, 137, 138, 139, 140, 141, 142, 130, 131, 132, 133, 134, 135] (by rfl) (by decide +kernel)
set_option maxRecDepth 20000 in
theorem gX5_produce_X2_raiseHw : GoodIn wsX5_produce (wsV RX5 129 RX2 yX2_raiseHw wsX2_raiseHw) := goodIn_app (goodIn_of _ (by decide +kernel)) ggX5_produce_X2_raiseHw
theorem dX5_produce_0 : decode cX5_produce 0 = .ok (.aload_n 0, 1) := by decide +kernel
theorem dX5_produce_1 : decode cX5_produce 1 = .ok (.iload_n 1, 1) := by decide +kernel
theorem dX5_produce_2 : decode cX5_produce 2 = .ok (.invokevirtual 54, 3) := by decide +kernel
theorem dX5_produce_5 : decode cX5_produce 5 = .ok (.astore 7, 2) := by decide +kernel
theorem dX5_produce_7 : decode cX5_produce 7 = .ok (.aload_n 0, 1) := by decide +kernel
theorem dX5_produce_8 : decode cX5_produce 8 = .ok (.iload_n 2, 1) := by decide +kernel
theorem dX5_produce_9 : decode cX5_produce 9 = .ok (.invokevirtual 85, 3) := by decide +kernel
theorem dX5_produce_12 : decode cX5_produce 12 = .ok (.astore 8, 2) := by decide +kernel
theorem dX5_produce_14 : decode cX5_produce 14 = .ok (.aload 7, 2) := by decide +kernel
theorem dX5_produce_16 : decode cX5_produce 16 = .ok (.ifnull 13, 3) := by decide +kernel
theorem dX5_produce_19 : decode cX5_produce 19 = .ok (.aload 8, 2) := by decide +kernel
theorem dX5_produce_21 : decode cX5_produce 21 = .ok (.ifnonnull 10, 3) := by decide +kernel
theorem dX5_produce_24 : decode cX5_produce 24 = .ok (.iload_n 2, 1) := by decide +kernel
theorem dX5_produce_25 : decode cX5_produce 25 = .ok (.iconst (-1), 1) := by decide +kernel
theorem dX5_produce_26 : decode cX5_produce 26 = .ok (.if_icmp .eq 5, 3) := by decide +kernel
theorem dX5_produce_29 : decode cX5_produce 29 = .ok (.iconst (-1), 1) := by decide +kernel
theorem dX5_produce_30 : decode cX5_produce 30 = .ok (.ireturn, 1) := by decide +kernel
theorem dX5_produce_31 : decode cX5_produce 31 = .ok (.aload 7, 2) := by decide +kernel
theorem dX5_produce_33 : decode cX5_produce 33 = .ok (.invokevirtual 88, 3) := by decide +kernel
theorem dX5_produce_36 : decode cX5_produce 36 = .ok (.astore 9, 2) := by decide +kernel
theorem dX5_produce_38 : decode cX5_produce 38 = .ok (.aload 9, 2) := by decide +kernel
theorem dX5_produce_40 : decode cX5_produce 40 = .ok (.ifnonnull 6, 3) := by decide +kernel
theorem dX5_produce_43 : decode cX5_produce 43 = .ok (.bipush (-2), 2) := by decide +kernel
theorem dX5_produce_45 : decode cX5_produce 45 = .ok (.ireturn, 1) := by decide +kernel
theorem dX5_produce_46 : decode cX5_produce 46 = .ok (.aload 8, 2) := by decide +kernel
theorem dX5_produce_48 : decode cX5_produce 48 = .ok (.ifnull 27, 3) := by decide +kernel
theorem dX5_produce_51 : decode cX5_produce 51 = .ok (.aload 8, 2) := by decide +kernel
theorem dX5_produce_53 : decode cX5_produce 53 = .ok (.getfield 75, 3) := by decide +kernel
theorem dX5_produce_56 : decode cX5_produce 56 = .ok (.iload_n 2, 1) := by decide +kernel
theorem dX5_produce_57 : decode cX5_produce 57 = .ok (.invokestatic 92, 3) := by decide +kernel
theorem dX5_produce_60 : decode cX5_produce 60 = .ok (.if_icmp .ne 12, 3) := by decide +kernel
theorem dX5_produce_63 : decode cX5_produce 63 = .ok (.aload 8, 2) := by decide +kernel
theorem dX5_produce_65 : decode cX5_produce 65 = .ok (.getfield 78, 3) := by decide +kernel
theorem dX5_produce_68 : decode cX5_produce 68 = .ok (.iconst 2, 1) := by decide +kernel
theorem dX5_produce_69 : decode cX5_produce 69 = .ok (.if_icmp .ne 6, 3) := by decide +kernel
theorem dX5_produce_72 : decode cX5_produce 72 = .ok (.bipush (-4), 2) := by decide +kernel
theorem dX5_produce_74 : decode cX5_produce 74 = .ok (.ireturn, 1) := by decide +kernel
theorem dX5_produce_75 : decode cX5_produce 75 = .ok (.iload 6, 2) := by decide +kernel
theorem dX5_produce_77 : decode cX5_produce 77 = .ok (.ifCond .eq 22, 3) := by decide +kernel
theorem dX5_produce_80 : decode cX5_produce 80 = .ok (.aload 7, 2) := by decide +kernel
theorem dX5_produce_82 : decode cX5_produce 82 = .ok (.getfield 58, 3) := by decide +kernel
theorem dX5_produce_85 : decode cX5_produce 85 = .ok (.invokestatic 42, 3) := by decide +kernel
theorem dX5_produce_88 : decode cX5_produce 88 = .ok (.aload 7, 2) := by decide +kernel
theorem dX5_produce_90 : decode cX5_produce 90 = .ok (.getfield 95, 3) := by decide +kernel
theorem dX5_produce_93 : decode cX5_produce 93 = .ok (.if_icmp .ge 6, 3) := by decide +kernel
theorem dX5_produce_96 : decode cX5_produce 96 = .ok (.bipush (-5), 2) := by decide +kernel
theorem dX5_produce_98 : decode cX5_produce 98 = .ok (.ireturn, 1) := by decide +kernel
theorem dX5_produce_99 : decode cX5_produce 99 = .ok (.aload 8, 2) := by decide +kernel
theorem dX5_produce_101 : decode cX5_produce 101 = .ok (.ifnull 52, 3) := by decide +kernel
theorem dX5_produce_104 : decode cX5_produce 104 = .ok (.aload 9, 2) := by decide +kernel
theorem dX5_produce_106 : decode cX5_produce 106 = .ok (.aload 8, 2) := by decide +kernel
theorem dX5_produce_108 : decode cX5_produce 108 = .ok (.getfield 98, 3) := by decide +kernel
theorem dX5_produce_111 : decode cX5_produce 111 = .ok (.aload 8, 2) := by decide +kernel
theorem dX5_produce_113 : decode cX5_produce 113 = .ok (.getfield 75, 3) := by decide +kernel
theorem dX5_produce_116 : decode cX5_produce 116 = .ok (.iload_n 3, 1) := by decide +kernel
theorem dX5_produce_117 : decode cX5_produce 117 = .ok (.invokevirtual 101, 3) := by decide +kernel
theorem dX5_produce_120 : decode cX5_produce 120 = .ok (.istore 10, 2) := by decide +kernel
theorem dX5_produce_122 : decode cX5_produce 122 = .ok (.iload 10, 2) := by decide +kernel
theorem dX5_produce_124 : decode cX5_produce 124 = .ok (.iconst (-1), 1) := by decide +kernel
theorem dX5_produce_125 : decode cX5_produce 125 = .ok (.if_icmp .eq 6, 3) := by decide +kernel
theorem dX5_produce_128 : decode cX5_produce 128 = .ok (.iload 10, 2) := by decide +kernel
theorem dX5_produce_130 : decode cX5_produce 130 = .ok (.ireturn, 1) := by decide +kernel
theorem dX5_produce_131 : decode cX5_produce 131 = .ok (.iload_n 3, 1) := by decide +kernel
theorem dX5_produce_132 : decode cX5_produce 132 = .ok (.aload 9, 2) := by decide +kernel
theorem dX5_produce_134 : decode cX5_produce 134 = .ok (.aload 8, 2) := by decide +kernel
theorem dX5_produce_136 : decode cX5_produce 136 = .ok (.getfield 98, 3) := by decide +kernel
theorem dX5_produce_139 : decode cX5_produce 139 = .ok (.aload 8, 2) := by decide +kernel
theorem dX5_produce_141 : decode cX5_produce 141 = .ok (.getfield 75, 3) := by decide +kernel
theorem dX5_produce_144 : decode cX5_produce 144 = .ok (.invokevirtual 107, 3) := by decide +kernel
theorem dX5_produce_147 : decode cX5_produce 147 = .ok (.if_icmp .eq 6, 3) := by decide +kernel
theorem dX5_produce_150 : decode cX5_produce 150 = .ok (.bipush (-6), 2) := by decide +kernel
theorem dX5_produce_152 : decode cX5_produce 152 = .ok (.ireturn, 1) := by decide +kernel
theorem dX5_produce_153 : decode cX5_produce 153 = .ok (.aload 9, 2) := by decide +kernel
theorem dX5_produce_155 : decode cX5_produce 155 = .ok (.invokevirtual 111, 3) := by decide +kernel
theorem dX5_produce_158 : decode cX5_produce 158 = .ok (.ifCond .eq 6, 3) := by decide +kernel
theorem dX5_produce_161 : decode cX5_produce 161 = .ok (.bipush (-3), 2) := by decide +kernel
theorem dX5_produce_163 : decode cX5_produce 163 = .ok (.ireturn, 1) := by decide +kernel
theorem dX5_produce_164 : decode cX5_produce 164 = .ok (.aload 9, 2) := by decide +kernel
theorem dX5_produce_166 : decode cX5_produce 166 = .ok (.aload 7, 2) := by decide +kernel
theorem dX5_produce_168 : decode cX5_produce 168 = .ok (.getfield 115, 3) := by decide +kernel
theorem dX5_produce_171 : decode cX5_produce 171 = .ok (.aload 8, 2) := by decide +kernel
theorem dX5_produce_173 : decode cX5_produce 173 = .ok (.iload_n 3, 1) := by decide +kernel
theorem dX5_produce_174 : decode cX5_produce 174 = .ok (.iload 4, 2) := by decide +kernel
theorem dX5_produce_176 : decode cX5_produce 176 = .ok (.iload 5, 2) := by decide +kernel
theorem dX5_produce_178 : decode cX5_produce 178 = .ok (.invokestatic 118, 3) := by decide +kernel
theorem dX5_produce_181 : decode cX5_produce 181 = .ok (.invokevirtual 122, 3) := by decide +kernel
theorem dX5_produce_184 : decode cX5_produce 184 = .ok (.aload 8, 2) := by decide +kernel
theorem dX5_produce_186 : decode cX5_produce 186 = .ok (.ifnull 25, 3) := by decide +kernel
theorem dX5_produce_189 : decode cX5_produce 189 = .ok (.aload 8, 2) := by decide +kernel
theorem dX5_produce_191 : decode cX5_produce 191 = .ok (.getfield 78, 3) := by decide +kernel
theorem dX5_produce_194 : decode cX5_produce 194 = .ok (.iconst 1, 1) := by decide +kernel
theorem dX5_produce_195 : decode cX5_produce 195 = .ok (.if_icmp .ne 16, 3) := by decide +kernel
theorem dX5_produce_198 : decode cX5_produce 198 = .ok (.aload 8, 2) := by decide +kernel
theorem dX5_produce_200 : decode cX5_produce 200 = .ok (.dup, 1) := by decide +kernel
theorem dX5_produce_201 : decode cX5_produce 201 = .ok (.getfield 126, 3) := by decide +kernel
theorem dX5_produce_204 : decode cX5_produce 204 = .ok (.iconst 1, 1) := by decide +kernel
theorem dX5_produce_205 : decode cX5_produce 205 = .ok (.iload_n 1, 1) := by decide +kernel
theorem dX5_produce_206 : decode cX5_produce 206 = .ok (.ishl, 1) := by decide +kernel
theorem dX5_produce_207 : decode cX5_produce 207 = .ok (.ior, 1) := by decide +kernel
theorem dX5_produce_208 : decode cX5_produce 208 = .ok (.putfield 126, 3) := by decide +kernel
theorem dX5_produce_211 : decode cX5_produce 211 = .ok (.aload 7, 2) := by decide +kernel
theorem dX5_produce_213 : decode cX5_produce 213 = .ok (.invokevirtual 129, 3) := by decide +kernel
theorem dX5_produce_216 : decode cX5_produce 216 = .ok (.aload 9, 2) := by decide +kernel
theorem dX5_produce_218 : decode cX5_produce 218 = .ok (.getfield 132, 3) := by decide +kernel
theorem dX5_produce_221 : decode cX5_produce 221 = .ok (.iconst 1, 1) := by decide +kernel
theorem dX5_produce_222 : decode cX5_produce 222 = .ok (.isub, 1) := by decide +kernel
theorem dX5_produce_223 : decode cX5_produce 223 = .ok (.ireturn, 1) := by decide +kernel
set_option maxRecDepth 20000 in
theorem ggX5_begin_X5_producerOf : GoodIn wsX5_begin wsX5_producerOf := goodIn_r _ [7, 8, 9, 10, 6, 11, 12, 31, 32, 33, 34, 35, 36] (by rfl) (by decide +kernel)
set_option maxRecDepth 20000 in
theorem gX5_begin_X5_producerOf : GoodIn wsX5_begin (wsV RX5 85 RX5 yX5_producerOf wsX5_producerOf) := goodIn_app (goodIn_of _ (by decide +kernel)) ggX5_begin_X5_producerOf
set_option maxRecDepth 20000 in
theorem ggX5_begin_X5_generationOf : GoodIn wsX5_begin wsX5_generationOf := goodIn_r _ [15] (by rfl) (by decide +kernel)
set_option maxRecDepth 20000 in
theorem gX5_begin_X5_generationOf : GoodIn wsX5_begin (va_wsS RX5 92 yX5_generationOf wsX5_generationOf) := goodIn_app (goodIn_of _ (by decide +kernel)) ggX5_begin_X5_generationOf
set_option maxRecDepth 20000 in
theorem ggX5_begin_X3_open : GoodIn wsX5_begin wsX3_open := goodIn_r _ [20, 21, 22, 23, 24, 25, 26, 27, 28, 29, 30] (by rfl) (by decide +kernel)
set_option maxRecDepth 20000 in
theorem gX5_begin_X3_open : GoodIn wsX5_begin (wsV RX5 135 RX3 yX3_open wsX3_open) := goodIn_app (goodIn_of _ (by decide +kernel)) ggX5_begin_X3_open
theorem dX5_begin_0 : decode cX5_begin 0 = .ok (.aload_n 0, 1) := by decide +kernel
theorem dX5_begin_1 : decode cX5_begin 1 = .ok (.iload_n 1, 1) := by decide +kernel
theorem dX5_begin_2 : decode cX5_begin 2 = .ok (.invokevirtual 85, 3) := by decide +kernel
theorem dX5_begin_5 : decode cX5_begin 5 = .ok (.astore_n 2, 1) := by decide +kernel
theorem dX5_begin_6 : decode cX5_begin 6 = .ok (.aload_n 2, 1) := by decide +kernel
theorem dX5_begin_7 : decode cX5_begin 7 = .ok (.ifnonnull 5, 3) := by decide +kernel
theorem dX5_begin_10 : decode cX5_begin 10 = .ok (.iconst (-1), 1) := by decide +kernel
theorem dX5_begin_11 : decode cX5_begin 11 = .ok (.ireturn, 1) := by decide +kernel
theorem dX5_begin_12 : decode cX5_begin 12 = .ok (.aload_n 2, 1) := by decide +kernel
theorem dX5_begin_13 : decode cX5_begin 13 = .ok (.getfield 75, 3) := by decide +kernel
theorem dX5_begin_16 : decode cX5_begin 16 = .ok (.iload_n 1, 1) := by decide +kernel
theorem dX5_begin_17 : decode cX5_begin 17 = .ok (.invokestatic 92, 3) := by decide +kernel
theorem dX5_begin_20 : decode cX5_begin 20 = .ok (.if_icmp .ne 10, 3) := by decide +kernel
theorem dX5_begin_23 : decode cX5_begin 23 = .ok (.aload_n 2, 1) := by decide +kernel
theorem dX5_begin_24 : decode cX5_begin 24 = .ok (.getfield 78, 3) := by decide +kernel
theorem dX5_begin_27 : decode cX5_begin 27 = .ok (.ifCond .eq 6, 3) := by decide +kernel
theorem dX5_begin_30 : decode cX5_begin 30 = .ok (.bipush (-4), 2) := by decide +kernel
theorem dX5_begin_32 : decode cX5_begin 32 = .ok (.ireturn, 1) := by decide +kernel
theorem dX5_begin_33 : decode cX5_begin 33 = .ok (.aload_n 2, 1) := by decide +kernel
theorem dX5_begin_34 : decode cX5_begin 34 = .ok (.invokevirtual 135, 3) := by decide +kernel
theorem dX5_begin_37 : decode cX5_begin 37 = .ok (.iconst 0, 1) := by decide +kernel
theorem dX5_begin_38 : decode cX5_begin 38 = .ok (.ireturn, 1) := by decide +kernel
set_option maxRecDepth 20000 in
theorem ggX5_finish_X5_producerOf : GoodIn wsX5_finish wsX5_producerOf := goodIn_r _ [8, 9, 10, 11, 7, 12, 13, 37, 38, 39, 40, 41, 42] (by rfl) (by decide +kernel)
set_option maxRecDepth 20000 in
theorem gX5_finish_X5_producerOf : GoodIn wsX5_finish (wsV RX5 85 RX5 yX5_producerOf wsX5_producerOf) := goodIn_app (goodIn_of _ (by decide +kernel)) ggX5_finish_X5_producerOf
set_option maxRecDepth 20000 in
theorem ggX5_finish_X5_generationOf : GoodIn wsX5_finish wsX5_generationOf := goodIn_r _ [16] (by rfl) (by decide +kernel)
set_option maxRecDepth 20000 in
theorem gX5_finish_X5_generationOf : GoodIn wsX5_finish (va_wsS RX5 92 yX5_generationOf wsX5_generationOf) := goodIn_app (goodIn_of _ (by decide +kernel)) ggX5_finish_X5_generationOf
set_option maxRecDepth 20000 in
theorem ggX5_finish_X3_startEnding : GoodIn wsX5_finish wsX3_startEnding := goodIn_r _ [21, 22, 23, 31, 32, 33, 34, 35, 36] (by rfl) (by decide +kernel)
set_option maxRecDepth 20000 in
theorem gX5_finish_X3_startEnding : GoodIn wsX5_finish (wsV RX5 81 RX3 yX3_startEnding wsX3_startEnding) := goodIn_app (goodIn_of _ (by decide +kernel)) ggX5_finish_X3_startEnding
set_option maxRecDepth 20000 in
theorem ggX5_finish_J6_bitCount_0f7a4 : GoodIn wsX5_finish wsJ6_bitCount_0f7a4 := goodIn_r _ [27, 28, 29, 30] (by rfl) (by decide +kernel)
set_option maxRecDepth 20000 in
theorem gX5_finish_J6_bitCount_0f7a4 : GoodIn wsX5_finish (va_wsS RX5 42 yJ6_bitCount_0f7a4 wsJ6_bitCount_0f7a4) := goodIn_app (goodIn_of _ (by decide +kernel)) ggX5_finish_J6_bitCount_0f7a4
theorem dX5_finish_0 : decode cX5_finish 0 = .ok (.aload_n 0, 1) := by decide +kernel
theorem dX5_finish_1 : decode cX5_finish 1 = .ok (.iload_n 1, 1) := by decide +kernel
theorem dX5_finish_2 : decode cX5_finish 2 = .ok (.invokevirtual 85, 3) := by decide +kernel
theorem dX5_finish_5 : decode cX5_finish 5 = .ok (.astore_n 3, 1) := by decide +kernel
theorem dX5_finish_6 : decode cX5_finish 6 = .ok (.aload_n 3, 1) := by decide +kernel
theorem dX5_finish_7 : decode cX5_finish 7 = .ok (.ifnonnull 5, 3) := by decide +kernel
theorem dX5_finish_10 : decode cX5_finish 10 = .ok (.iconst (-1), 1) := by decide +kernel
theorem dX5_finish_11 : decode cX5_finish 11 = .ok (.ireturn, 1) := by decide +kernel
theorem dX5_finish_12 : decode cX5_finish 12 = .ok (.aload_n 3, 1) := by decide +kernel
theorem dX5_finish_13 : decode cX5_finish 13 = .ok (.getfield 75, 3) := by decide +kernel
theorem dX5_finish_16 : decode cX5_finish 16 = .ok (.iload_n 1, 1) := by decide +kernel
theorem dX5_finish_17 : decode cX5_finish 17 = .ok (.invokestatic 92, 3) := by decide +kernel
theorem dX5_finish_20 : decode cX5_finish 20 = .ok (.if_icmp .ne 11, 3) := by decide +kernel
theorem dX5_finish_23 : decode cX5_finish 23 = .ok (.aload_n 3, 1) := by decide +kernel
theorem dX5_finish_24 : decode cX5_finish 24 = .ok (.getfield 78, 3) := by decide +kernel
theorem dX5_finish_27 : decode cX5_finish 27 = .ok (.iconst 1, 1) := by decide +kernel
theorem dX5_finish_28 : decode cX5_finish 28 = .ok (.if_icmp .eq 6, 3) := by decide +kernel
theorem dX5_finish_31 : decode cX5_finish 31 = .ok (.bipush (-4), 2) := by decide +kernel
theorem dX5_finish_33 : decode cX5_finish 33 = .ok (.ireturn, 1) := by decide +kernel
theorem dX5_finish_34 : decode cX5_finish 34 = .ok (.aload_n 3, 1) := by decide +kernel
theorem dX5_finish_35 : decode cX5_finish 35 = .ok (.iload_n 2, 1) := by decide +kernel
theorem dX5_finish_36 : decode cX5_finish 36 = .ok (.invokevirtual 81, 3) := by decide +kernel
theorem dX5_finish_39 : decode cX5_finish 39 = .ok (.aload_n 3, 1) := by decide +kernel
theorem dX5_finish_40 : decode cX5_finish 40 = .ok (.getfield 126, 3) := by decide +kernel
theorem dX5_finish_43 : decode cX5_finish 43 = .ok (.invokestatic 42, 3) := by decide +kernel
theorem dX5_finish_46 : decode cX5_finish 46 = .ok (.ireturn, 1) := by decide +kernel
set_option maxRecDepth 20000 in
theorem ggX5_settle_X5_producerAt : GoodIn wsX5_settle wsX5_producerAt := goodIn_r _ [8, 9, 101, 102, 103, 104, 105, 106] (by rfl) (by decide +kernel)
set_option maxRecDepth 20000 in
theorem gX5_settle_X5_producerAt : GoodIn wsX5_settle (wsV RX5 71 RX5 yX5_producerAt wsX5_producerAt) := goodIn_app (goodIn_of _ (by decide +kernel)) ggX5_settle_X5_producerAt
set_option maxRecDepth 20000 in
theorem ggX5_settle_X5_contains : GoodIn wsX5_settle wsX5_contains := goodIn_r _ [12] (by rfl) (by decide +kernel)
set_option maxRecDepth 20000 in
theorem gX5_settle_X5_contains : GoodIn wsX5_settle (va_wsS RX5 138 yX5_contains wsX5_contains) := goodIn_app (goodIn_of _ (by decide +kernel)) ggX5_settle_X5_contains
set_option maxRecDepth 20000 in
theorem ggX5_settle_X5_markEnd : GoodIn wsX5_settle wsX5_markEnd := goodIn_r _ [15, 16, 17, 18, 19, 20, 21, 22, 23, 24, 25, 26, 27, 28, 29, 30, 31, 32, 33, 34, 35, 36, 37, 38, 39, 40, 41, 42, 43, 44, 45, 46, 47, 48, 49, 50, 51, 52, 53, 54, 55, 56, 57, 58, 59, 60, 61, 62, 63, 64, 65, 66, 67, 68, 69, 70, 71, 72, 73, 74, 75, 76, 77, 78, 79, 80, 81, 82, 11, 7, 12, 83, 84, 85, 86, 87, 107, 108, 109, 110, 111, 112, 113, 114, 115, 116, 117, 118, 119, 120, 95, 96, 97, 98, 99, 100, 121, 122, 123, 124, 125, 126, 127] (by rfl) (by decide +kernel)
set_option maxRecDepth 20000 in
theorem gX5_settle_X5_markEnd : GoodIn wsX5_settle (va_wsS RX5 142 yX5_markEnd wsX5_markEnd) := goodIn_app (goodIn_of _ (by decide +kernel)) ggX5_settle_X5_markEnd
set_option maxRecDepth 20000 in
theorem ggX5_settle_J6_bitCount_0f7a4 : GoodIn wsX5_settle wsJ6_bitCount_0f7a4 := goodIn_r _ [91, 92, 93, 94] (by rfl) (by decide +kernel)
set_option maxRecDepth 20000 in
theorem gX5_settle_J6_bitCount_0f7a4 : GoodIn wsX5_settle (va_wsS RX5 42 yJ6_bitCount_0f7a4 wsJ6_bitCount_0f7a4) := goodIn_app (goodIn_of _ (by decide +kernel)) ggX5_settle_J6_bitCount_0f7a4
theorem dX5_settle_0 : decode cX5_settle 0 = .ok (.aload_n 0, 1) := by decide +kernel
theorem dX5_settle_1 : decode cX5_settle 1 = .ok (.iload_n 1, 1) := by decide +kernel
theorem dX5_settle_2 : decode cX5_settle 2 = .ok (.invokevirtual 71, 3) := by decide +kernel
theorem dX5_settle_5 : decode cX5_settle 5 = .ok (.astore_n 2, 1) := by decide +kernel
theorem dX5_settle_6 : decode cX5_settle 6 = .ok (.aload_n 2, 1) := by decide +kernel
theorem dX5_settle_7 : decode cX5_settle 7 = .ok (.ifnonnull 5, 3) := by decide +kernel
theorem dX5_settle_10 : decode cX5_settle 10 = .ok (.iconst (-1), 1) := by decide +kernel
theorem dX5_settle_11 : decode cX5_settle 11 = .ok (.ireturn, 1) := by decide +kernel
theorem dX5_settle_12 : decode cX5_settle 12 = .ok (.aload_n 2, 1) := by decide +kernel
theorem dX5_settle_13 : decode cX5_settle 13 = .ok (.getfield 78, 3) := by decide +kernel
theorem dX5_settle_16 : decode cX5_settle 16 = .ok (.iconst 2, 1) := by decide +kernel
theorem dX5_settle_17 : decode cX5_settle 17 = .ok (.if_icmp .eq 6, 3) := by decide +kernel
theorem dX5_settle_20 : decode cX5_settle 20 = .ok (.bipush (-2), 2) := by decide +kernel
theorem dX5_settle_22 : decode cX5_settle 22 = .ok (.ireturn, 1) := by decide +kernel
theorem dX5_settle_23 : decode cX5_settle 23 = .ok (.iconst 0, 1) := by decide +kernel
theorem dX5_settle_24 : decode cX5_settle 24 = .ok (.istore_n 3, 1) := by decide +kernel
theorem dX5_settle_25 : decode cX5_settle 25 = .ok (.iload_n 3, 1) := by decide +kernel
theorem dX5_settle_26 : decode cX5_settle 26 = .ok (.iconst 4, 1) := by decide +kernel
theorem dX5_settle_27 : decode cX5_settle 27 = .ok (.if_icmp .ge 47, 3) := by decide +kernel
theorem dX5_settle_30 : decode cX5_settle 30 = .ok (.aload_n 2, 1) := by decide +kernel
theorem dX5_settle_31 : decode cX5_settle 31 = .ok (.getfield 126, 3) := by decide +kernel
theorem dX5_settle_34 : decode cX5_settle 34 = .ok (.iload_n 3, 1) := by decide +kernel
theorem dX5_settle_35 : decode cX5_settle 35 = .ok (.invokestatic 138, 3) := by decide +kernel
theorem dX5_settle_38 : decode cX5_settle 38 = .ok (.ifCond .eq 30, 3) := by decide +kernel
theorem dX5_settle_41 : decode cX5_settle 41 = .ok (.aload_n 0, 1) := by decide +kernel
theorem dX5_settle_42 : decode cX5_settle 42 = .ok (.getfield 11, 3) := by decide +kernel
theorem dX5_settle_45 : decode cX5_settle 45 = .ok (.iload_n 3, 1) := by decide +kernel
theorem dX5_settle_46 : decode cX5_settle 46 = .ok (.aaload, 1) := by decide +kernel
theorem dX5_settle_47 : decode cX5_settle 47 = .ok (.aload_n 2, 1) := by decide +kernel
theorem dX5_settle_48 : decode cX5_settle 48 = .ok (.invokestatic 142, 3) := by decide +kernel
theorem dX5_settle_51 : decode cX5_settle 51 = .ok (.ifCond .eq 17, 3) := by decide +kernel
theorem dX5_settle_54 : decode cX5_settle 54 = .ok (.aload_n 2, 1) := by decide +kernel
theorem dX5_settle_55 : decode cX5_settle 55 = .ok (.dup, 1) := by decide +kernel
theorem dX5_settle_56 : decode cX5_settle 56 = .ok (.getfield 126, 3) := by decide +kernel
theorem dX5_settle_59 : decode cX5_settle 59 = .ok (.iconst 1, 1) := by decide +kernel
theorem dX5_settle_60 : decode cX5_settle 60 = .ok (.iload_n 3, 1) := by decide +kernel
theorem dX5_settle_61 : decode cX5_settle 61 = .ok (.ishl, 1) := by decide +kernel
theorem dX5_settle_62 : decode cX5_settle 62 = .ok (.iconst (-1), 1) := by decide +kernel
theorem dX5_settle_63 : decode cX5_settle 63 = .ok (.ixor, 1) := by decide +kernel
theorem dX5_settle_64 : decode cX5_settle 64 = .ok (.iand, 1) := by decide +kernel
theorem dX5_settle_65 : decode cX5_settle 65 = .ok (.putfield 126, 3) := by decide +kernel
theorem dX5_settle_68 : decode cX5_settle 68 = .ok (.iinc 3 1, 3) := by decide +kernel
theorem dX5_settle_71 : decode cX5_settle 71 = .ok (.goto (-46), 3) := by decide +kernel
theorem dX5_settle_74 : decode cX5_settle 74 = .ok (.aload_n 2, 1) := by decide +kernel
theorem dX5_settle_75 : decode cX5_settle 75 = .ok (.getfield 126, 3) := by decide +kernel
theorem dX5_settle_78 : decode cX5_settle 78 = .ok (.ifCond .ne 8, 3) := by decide +kernel
theorem dX5_settle_81 : decode cX5_settle 81 = .ok (.aload_n 2, 1) := by decide +kernel
theorem dX5_settle_82 : decode cX5_settle 82 = .ok (.iconst 0, 1) := by decide +kernel
theorem dX5_settle_83 : decode cX5_settle 83 = .ok (.putfield 78, 3) := by decide +kernel
theorem dX5_settle_86 : decode cX5_settle 86 = .ok (.aload_n 2, 1) := by decide +kernel
theorem dX5_settle_87 : decode cX5_settle 87 = .ok (.getfield 126, 3) := by decide +kernel
theorem dX5_settle_90 : decode cX5_settle 90 = .ok (.invokestatic 42, 3) := by decide +kernel
theorem dX5_settle_93 : decode cX5_settle 93 = .ok (.ireturn, 1) := by decide +kernel
set_option maxRecDepth 20000 in
theorem ggX5_safe_X5_partitionAt : GoodIn wsX5_safe wsX5_partitionAt := goodIn_r _ [6, 7, 26, 27, 28, 29, 30, 31] (by rfl) (by decide +kernel)
set_option maxRecDepth 20000 in
theorem gX5_safe_X5_partitionAt : GoodIn wsX5_safe (wsV RX5 54 RX5 yX5_partitionAt wsX5_partitionAt) := goodIn_app (goodIn_of _ (by decide +kernel)) ggX5_safe_X5_partitionAt
set_option maxRecDepth 20000 in
theorem ggX5_safe_X2_leading : GoodIn wsX5_safe wsX2_leading := goodIn_r _ [12, 13, 14, 15, 16, 11, 17, 18, 32, 33, 34, 35, 36, 37] (by rfl) (by decide +kernel)
set_option maxRecDepth 20000 in
theorem gX5_safe_X2_leading : GoodIn wsX5_safe (wsV RX5 88 RX2 yX2_leading wsX2_leading) := goodIn_app (goodIn_of _ (by decide +kernel)) ggX5_safe_X2_leading
theorem dX5_safe_0 : decode cX5_safe 0 = .ok (.aload_n 0, 1) := by decide +kernel
theorem dX5_safe_1 : decode cX5_safe 1 = .ok (.iload_n 1, 1) := by decide +kernel
theorem dX5_safe_2 : decode cX5_safe 2 = .ok (.invokevirtual 54, 3) := by decide +kernel
theorem dX5_safe_5 : decode cX5_safe 5 = .ok (.astore_n 3, 1) := by decide +kernel
theorem dX5_safe_6 : decode cX5_safe 6 = .ok (.aload_n 3, 1) := by decide +kernel
theorem dX5_safe_7 : decode cX5_safe 7 = .ok (.ifnonnull 5, 3) := by decide +kernel
theorem dX5_safe_10 : decode cX5_safe 10 = .ok (.iconst (-1), 1) := by decide +kernel
theorem dX5_safe_11 : decode cX5_safe 11 = .ok (.ireturn, 1) := by decide +kernel
theorem dX5_safe_12 : decode cX5_safe 12 = .ok (.aload_n 3, 1) := by decide +kernel
theorem dX5_safe_13 : decode cX5_safe 13 = .ok (.invokevirtual 88, 3) := by decide +kernel
theorem dX5_safe_16 : decode cX5_safe 16 = .ok (.astore 4, 2) := by decide +kernel
theorem dX5_safe_18 : decode cX5_safe 18 = .ok (.aload 4, 2) := by decide +kernel
theorem dX5_safe_20 : decode cX5_safe 20 = .ok (.ifnonnull 6, 3) := by decide +kernel
theorem dX5_safe_23 : decode cX5_safe 23 = .ok (.bipush (-2), 2) := by decide +kernel
theorem dX5_safe_25 : decode cX5_safe 25 = .ok (.ireturn, 1) := by decide +kernel
theorem dX5_safe_26 : decode cX5_safe 26 = .ok (.iload_n 2, 1) := by decide +kernel
theorem dX5_safe_27 : decode cX5_safe 27 = .ok (.aload 4, 2) := by decide +kernel
theorem dX5_safe_29 : decode cX5_safe 29 = .ok (.getfield 146, 3) := by decide +kernel
theorem dX5_safe_32 : decode cX5_safe 32 = .ok (.if_icmp .ge 7, 3) := by decide +kernel
theorem dX5_safe_35 : decode cX5_safe 35 = .ok (.iconst 1, 1) := by decide +kernel
theorem dX5_safe_36 : decode cX5_safe 36 = .ok (.goto 4, 3) := by decide +kernel
theorem dX5_safe_39 : decode cX5_safe 39 = .ok (.iconst 0, 1) := by decide +kernel
theorem dX5_safe_40 : decode cX5_safe 40 = .ok (.ireturn, 1) := by decide +kernel
set_option maxRecDepth 20000 in
theorem ggX5_follow_X5_partitionAt : GoodIn wsX5_follow wsX5_partitionAt := goodIn_r _ [13, 14, 87, 88, 89, 90, 91, 92] (by rfl) (by decide +kernel)
set_option maxRecDepth 20000 in
theorem gX5_follow_X5_partitionAt : GoodIn wsX5_follow (wsV RX5 54 RX5 yX5_partitionAt wsX5_partitionAt) := goodIn_app (goodIn_of _ (by decide +kernel)) ggX5_follow_X5_partitionAt
set_option maxRecDepth 20000 in
theorem ggX5_follow_X2_replicaAt : GoodIn wsX5_follow wsX2_replicaAt := goodIn_r _ [19, 20, 93, 94, 95, 96, 97, 98] (by rfl) (by decide +kernel)
set_option maxRecDepth 20000 in
theorem gX5_follow_X2_replicaAt : GoodIn wsX5_follow (wsV RX5 149 RX2 yX2_replicaAt wsX2_replicaAt) := goodIn_app (goodIn_of _ (by decide +kernel)) ggX5_follow_X2_replicaAt
set_option maxRecDepth 20000 in
theorem ggX5_follow_X5_contains : GoodIn wsX5_follow wsX5_contains := goodIn_r _ [23] (by rfl) (by decide +kernel)
set_option maxRecDepth 20000 in
theorem gX5_follow_X5_contains : GoodIn wsX5_follow (va_wsS RX5 138 yX5_contains wsX5_contains) := goodIn_app (goodIn_of _ (by decide +kernel)) ggX5_follow_X5_contains
set_option maxRecDepth 20000 in
theorem ggX5_follow_X2_leading : GoodIn wsX5_follow wsX2_leading := goodIn_r _ [27, 28, 29, 16, 17, 18, 19, 20, 93, 94, 95, 96, 97, 98] (by rfl) (by decide +kernel)
set_option maxRecDepth 20000 in
theorem gX5_follow_X2_leading : GoodIn wsX5_follow (wsV RX5 88 RX2 yX2_leading wsX2_leading) := goodIn_app (goodIn_of _ (by decide +kernel)) ggX5_follow_X2_leading
set_option maxRecDepth 20000 in
theorem ggX5_follow_X4_agreeWith : GoodIn wsX5_follow wsX4_agreeWith := goodIn_r _ [34, 35, 36, 37, 38, 39, 40, 41, 42, 43, 44, 45, 46, 47, 33, 48, 49, 50, 51, 52, 53, 54, 55, 56, 57, 58, 99, 100, 101, 102, 103, 104, 105, 106, 107, 108, 109, 110, 111, 112, 113] (by rfl) (by decide +kernel)
set_option maxRecDepth 20000 in
theorem gX5_follow_X4_agreeWith : GoodIn wsX5_follow (wsV RX5 153 RX4 yX4_agreeWith wsX4_agreeWith) := goodIn_app (goodIn_of _ (by decide +kernel)) ggX5_follow_X4_agreeWith
set_option maxRecDepth 20000 in
theorem ggX5_follow_X2_raiseHw : GoodIn wsX5_follow wsX2_raiseHw := goodIn_r _ [62, 63, 64, 65, 43, 39, 44, 66, 67, 38, 40, 68, 25, 26, 18, 27, 28, 29, 16, 17, 19, 20, 22, 12, 23, 69, 70, 71, 72, 73, 99, 100, 101, 102, 103, 104, 105, 93, 94, 95, 96, 97, 98] (by rfl) (by decide +kernel)
set_option maxRecDepth 20000 in
theorem gX5_follow_X2_raiseHw : GoodIn wsX5_follow (wsV RX5 129 RX2 yX2_raiseHw wsX2_raiseHw) := goodIn_app (goodIn_of _ (by decide +kernel)) ggX5_follow_X2_raiseHw
set_option maxRecDepth 20000 in
theorem ggX5_follow_X4_fetchFrom : GoodIn wsX5_follow wsX4_fetchFrom := goodIn_r _ [77, 36, 35, 78, 42, 43, 39, 44, 79, 80, 81, 33, 82, 37, 38, 40, 41, 50, 51, 52, 53, 54, 55, 56, 57, 58, 83, 84, 85, 86, 99, 100, 101, 102, 103, 104, 105] (by rfl) (by decide +kernel)
set_option maxRecDepth 20000 in
theorem gX5_follow_X4_fetchFrom : GoodIn wsX5_follow (wsV RX5 163 RX4 yX4_fetchFrom wsX4_fetchFrom) := goodIn_app (goodIn_of _ (by decide +kernel)) ggX5_follow_X4_fetchFrom
theorem dX5_follow_0 : decode cX5_follow 0 = .ok (.aload_n 0, 1) := by decide +kernel
theorem dX5_follow_1 : decode cX5_follow 1 = .ok (.iload_n 2, 1) := by decide +kernel
theorem dX5_follow_2 : decode cX5_follow 2 = .ok (.invokevirtual 54, 3) := by decide +kernel
theorem dX5_follow_5 : decode cX5_follow 5 = .ok (.astore_n 3, 1) := by decide +kernel
theorem dX5_follow_6 : decode cX5_follow 6 = .ok (.aload_n 3, 1) := by decide +kernel
theorem dX5_follow_7 : decode cX5_follow 7 = .ok (.ifnonnull 5, 3) := by decide +kernel
theorem dX5_follow_10 : decode cX5_follow 10 = .ok (.iconst (-1), 1) := by decide +kernel
theorem dX5_follow_11 : decode cX5_follow 11 = .ok (.ireturn, 1) := by decide +kernel
theorem dX5_follow_12 : decode cX5_follow 12 = .ok (.aload_n 3, 1) := by decide +kernel
theorem dX5_follow_13 : decode cX5_follow 13 = .ok (.iload_n 1, 1) := by decide +kernel
theorem dX5_follow_14 : decode cX5_follow 14 = .ok (.invokevirtual 149, 3) := by decide +kernel
theorem dX5_follow_17 : decode cX5_follow 17 = .ok (.astore 4, 2) := by decide +kernel
theorem dX5_follow_19 : decode cX5_follow 19 = .ok (.aload 4, 2) := by decide +kernel
theorem dX5_follow_21 : decode cX5_follow 21 = .ok (.ifnull 22, 3) := by decide +kernel
theorem dX5_follow_24 : decode cX5_follow 24 = .ok (.aload_n 0, 1) := by decide +kernel
theorem dX5_follow_25 : decode cX5_follow 25 = .ok (.getfield 27, 3) := by decide +kernel
theorem dX5_follow_28 : decode cX5_follow 28 = .ok (.iload_n 1, 1) := by decide +kernel
theorem dX5_follow_29 : decode cX5_follow 29 = .ok (.invokestatic 138, 3) := by decide +kernel
theorem dX5_follow_32 : decode cX5_follow 32 = .ok (.ifCond .eq 11, 3) := by decide +kernel
theorem dX5_follow_35 : decode cX5_follow 35 = .ok (.iload_n 1, 1) := by decide +kernel
theorem dX5_follow_36 : decode cX5_follow 36 = .ok (.aload_n 3, 1) := by decide +kernel
theorem dX5_follow_37 : decode cX5_follow 37 = .ok (.getfield 51, 3) := by decide +kernel
theorem dX5_follow_40 : decode cX5_follow 40 = .ok (.if_icmp .ne 5, 3) := by decide +kernel
theorem dX5_follow_43 : decode cX5_follow 43 = .ok (.iconst (-1), 1) := by decide +kernel
theorem dX5_follow_44 : decode cX5_follow 44 = .ok (.ireturn, 1) := by decide +kernel
theorem dX5_follow_45 : decode cX5_follow 45 = .ok (.aload_n 3, 1) := by decide +kernel
theorem dX5_follow_46 : decode cX5_follow 46 = .ok (.invokevirtual 88, 3) := by decide +kernel
theorem dX5_follow_49 : decode cX5_follow 49 = .ok (.astore 5, 2) := by decide +kernel
theorem dX5_follow_51 : decode cX5_follow 51 = .ok (.aload 5, 2) := by decide +kernel
theorem dX5_follow_53 : decode cX5_follow 53 = .ok (.ifnonnull 6, 3) := by decide +kernel
theorem dX5_follow_56 : decode cX5_follow 56 = .ok (.bipush (-2), 2) := by decide +kernel
theorem dX5_follow_58 : decode cX5_follow 58 = .ok (.ireturn, 1) := by decide +kernel
theorem dX5_follow_59 : decode cX5_follow 59 = .ok (.aload 4, 2) := by decide +kernel
theorem dX5_follow_61 : decode cX5_follow 61 = .ok (.aload 5, 2) := by decide +kernel
theorem dX5_follow_63 : decode cX5_follow 63 = .ok (.invokevirtual 153, 3) := by decide +kernel
theorem dX5_follow_66 : decode cX5_follow 66 = .ok (.aload 4, 2) := by decide +kernel
theorem dX5_follow_68 : decode cX5_follow 68 = .ok (.aload 4, 2) := by decide +kernel
theorem dX5_follow_70 : decode cX5_follow 70 = .ok (.getfield 132, 3) := by decide +kernel
theorem dX5_follow_73 : decode cX5_follow 73 = .ok (.putfield 157, 3) := by decide +kernel
theorem dX5_follow_76 : decode cX5_follow 76 = .ok (.aload 4, 2) := by decide +kernel
theorem dX5_follow_78 : decode cX5_follow 78 = .ok (.getfield 132, 3) := by decide +kernel
theorem dX5_follow_81 : decode cX5_follow 81 = .ok (.aload 5, 2) := by decide +kernel
theorem dX5_follow_83 : decode cX5_follow 83 = .ok (.getfield 132, 3) := by decide +kernel
theorem dX5_follow_86 : decode cX5_follow 86 = .ok (.if_icmp .ne 12, 3) := by decide +kernel
theorem dX5_follow_89 : decode cX5_follow 89 = .ok (.aload 4, 2) := by decide +kernel
theorem dX5_follow_91 : decode cX5_follow 91 = .ok (.aload_n 0, 1) := by decide +kernel
theorem dX5_follow_92 : decode cX5_follow 92 = .ok (.getfield 31, 3) := by decide +kernel
theorem dX5_follow_95 : decode cX5_follow 95 = .ok (.putfield 160, 3) := by decide +kernel
theorem dX5_follow_98 : decode cX5_follow 98 = .ok (.aload 4, 2) := by decide +kernel
theorem dX5_follow_100 : decode cX5_follow 100 = .ok (.getfield 132, 3) := by decide +kernel
theorem dX5_follow_103 : decode cX5_follow 103 = .ok (.aload 5, 2) := by decide +kernel
theorem dX5_follow_105 : decode cX5_follow 105 = .ok (.getfield 146, 3) := by decide +kernel
theorem dX5_follow_108 : decode cX5_follow 108 = .ok (.if_icmp .lt 15, 3) := by decide +kernel
theorem dX5_follow_111 : decode cX5_follow 111 = .ok (.aload_n 3, 1) := by decide +kernel
theorem dX5_follow_112 : decode cX5_follow 112 = .ok (.dup, 1) := by decide +kernel
theorem dX5_follow_113 : decode cX5_follow 113 = .ok (.getfield 58, 3) := by decide +kernel
theorem dX5_follow_116 : decode cX5_follow 116 = .ok (.iconst 1, 1) := by decide +kernel
theorem dX5_follow_117 : decode cX5_follow 117 = .ok (.iload_n 1, 1) := by decide +kernel
theorem dX5_follow_118 : decode cX5_follow 118 = .ok (.ishl, 1) := by decide +kernel
theorem dX5_follow_119 : decode cX5_follow 119 = .ok (.ior, 1) := by decide +kernel
theorem dX5_follow_120 : decode cX5_follow 120 = .ok (.putfield 58, 3) := by decide +kernel
theorem dX5_follow_123 : decode cX5_follow 123 = .ok (.aload_n 3, 1) := by decide +kernel
theorem dX5_follow_124 : decode cX5_follow 124 = .ok (.invokevirtual 129, 3) := by decide +kernel
theorem dX5_follow_127 : decode cX5_follow 127 = .ok (.aload 4, 2) := by decide +kernel
theorem dX5_follow_129 : decode cX5_follow 129 = .ok (.aload 5, 2) := by decide +kernel
theorem dX5_follow_131 : decode cX5_follow 131 = .ok (.invokevirtual 163, 3) := by decide +kernel
theorem dX5_follow_134 : decode cX5_follow 134 = .ok (.ireturn, 1) := by decide +kernel
set_option maxRecDepth 20000 in
theorem ggX5_consume_X5_partitionAt : GoodIn wsX5_consume wsX5_partitionAt := goodIn_r _ [8, 9, 72, 73, 74, 75, 76, 77] (by rfl) (by decide +kernel)
set_option maxRecDepth 20000 in
theorem gX5_consume_X5_partitionAt : GoodIn wsX5_consume (wsV RX5 54 RX5 yX5_partitionAt wsX5_partitionAt) := goodIn_app (goodIn_of _ (by decide +kernel)) ggX5_consume_X5_partitionAt
set_option maxRecDepth 20000 in
theorem ggX5_consume_X2_leading : GoodIn wsX5_consume wsX2_leading := goodIn_r _ [14, 15, 16, 17, 18, 13, 19, 20, 78, 79, 80, 81, 82, 83] (by rfl) (by decide +kernel)
set_option maxRecDepth 20000 in
theorem gX5_consume_X2_leading : GoodIn wsX5_consume (wsV RX5 88 RX2 yX2_leading wsX2_leading) := goodIn_app (goodIn_of _ (by decide +kernel)) ggX5_consume_X2_leading
set_option maxRecDepth 20000 in
theorem ggX5_consume_X4_firstVisible : GoodIn wsX5_consume wsX4_firstVisible := goodIn_r _ [25, 26, 27, 28, 29, 30, 31, 32, 33, 34, 24, 35, 36, 37, 38, 39, 40, 41, 42, 43, 44, 45, 46, 47, 48, 49, 50, 51, 52, 53, 54, 55, 56, 57, 58, 59, 60, 61, 62, 63, 65, 66, 67, 68, 69, 70, 71, 84, 85, 86, 87, 88, 89, 90, 91] (by rfl) (by decide +kernel)
set_option maxRecDepth 20000 in
theorem gX5_consume_X4_firstVisible : GoodIn wsX5_consume (wsV RX5 170 RX4 yX4_firstVisible wsX4_firstVisible) := goodIn_app (goodIn_of _ (by decide +kernel)) ggX5_consume_X4_firstVisible
set_option maxRecDepth 20000 in
theorem ggX5_consume_X4_entryAt : GoodIn wsX5_consume wsX4_entryAt := goodIn_r _ [42, 36, 37, 43, 44, 45, 46, 47, 65, 66, 67, 68, 69, 70, 71] (by rfl) (by decide +kernel)
set_option maxRecDepth 20000 in
theorem gX5_consume_X4_entryAt : GoodIn wsX5_consume (wsV RX5 174 RX4 yX4_entryAt wsX4_entryAt) := goodIn_app (goodIn_of _ (by decide +kernel)) ggX5_consume_X4_entryAt
theorem dX5_consume_0 : decode cX5_consume 0 = .ok (.aload_n 0, 1) := by decide +kernel
theorem dX5_consume_1 : decode cX5_consume 1 = .ok (.iload_n 1, 1) := by decide +kernel
theorem dX5_consume_2 : decode cX5_consume 2 = .ok (.invokevirtual 54, 3) := by decide +kernel
theorem dX5_consume_5 : decode cX5_consume 5 = .ok (.astore 4, 2) := by decide +kernel
theorem dX5_consume_7 : decode cX5_consume 7 = .ok (.aload 4, 2) := by decide +kernel
theorem dX5_consume_9 : decode cX5_consume 9 = .ok (.ifnonnull 5, 3) := by decide +kernel
theorem dX5_consume_12 : decode cX5_consume 12 = .ok (.iconst (-1), 1) := by decide +kernel
theorem dX5_consume_13 : decode cX5_consume 13 = .ok (.ireturn, 1) := by decide +kernel
theorem dX5_consume_14 : decode cX5_consume 14 = .ok (.aload 4, 2) := by decide +kernel
theorem dX5_consume_16 : decode cX5_consume 16 = .ok (.invokevirtual 88, 3) := by decide +kernel
theorem dX5_consume_19 : decode cX5_consume 19 = .ok (.astore 5, 2) := by decide +kernel
theorem dX5_consume_21 : decode cX5_consume 21 = .ok (.aload 5, 2) := by decide +kernel
theorem dX5_consume_23 : decode cX5_consume 23 = .ok (.ifnonnull 6, 3) := by decide +kernel
theorem dX5_consume_26 : decode cX5_consume 26 = .ok (.bipush (-2), 2) := by decide +kernel
theorem dX5_consume_28 : decode cX5_consume 28 = .ok (.ireturn, 1) := by decide +kernel
theorem dX5_consume_29 : decode cX5_consume 29 = .ok (.iload_n 2, 1) := by decide +kernel
theorem dX5_consume_30 : decode cX5_consume 30 = .ok (.aload 5, 2) := by decide +kernel
theorem dX5_consume_32 : decode cX5_consume 32 = .ok (.getfield 167, 3) := by decide +kernel
theorem dX5_consume_35 : decode cX5_consume 35 = .ok (.if_icmp .lt 12, 3) := by decide +kernel
theorem dX5_consume_38 : decode cX5_consume 38 = .ok (.iload_n 2, 1) := by decide +kernel
theorem dX5_consume_39 : decode cX5_consume 39 = .ok (.aload 5, 2) := by decide +kernel
theorem dX5_consume_41 : decode cX5_consume 41 = .ok (.getfield 146, 3) := by decide +kernel
theorem dX5_consume_44 : decode cX5_consume 44 = .ok (.if_icmp .le 5, 3) := by decide +kernel
theorem dX5_consume_47 : decode cX5_consume 47 = .ok (.iconst (-1), 1) := by decide +kernel
theorem dX5_consume_48 : decode cX5_consume 48 = .ok (.ireturn, 1) := by decide +kernel
theorem dX5_consume_49 : decode cX5_consume 49 = .ok (.aload 5, 2) := by decide +kernel
theorem dX5_consume_51 : decode cX5_consume 51 = .ok (.iload_n 2, 1) := by decide +kernel
theorem dX5_consume_52 : decode cX5_consume 52 = .ok (.iload_n 3, 1) := by decide +kernel
theorem dX5_consume_53 : decode cX5_consume 53 = .ok (.invokevirtual 170, 3) := by decide +kernel
theorem dX5_consume_56 : decode cX5_consume 56 = .ok (.istore 6, 2) := by decide +kernel
theorem dX5_consume_58 : decode cX5_consume 58 = .ok (.aload 5, 2) := by decide +kernel
theorem dX5_consume_60 : decode cX5_consume 60 = .ok (.iload 6, 2) := by decide +kernel
theorem dX5_consume_62 : decode cX5_consume 62 = .ok (.invokevirtual 174, 3) := by decide +kernel
theorem dX5_consume_65 : decode cX5_consume 65 = .ok (.astore 7, 2) := by decide +kernel
theorem dX5_consume_67 : decode cX5_consume 67 = .ok (.aload 7, 2) := by decide +kernel
theorem dX5_consume_69 : decode cX5_consume 69 = .ok (.ifnonnull 6, 3) := by decide +kernel
theorem dX5_consume_72 : decode cX5_consume 72 = .ok (.bipush (-2), 2) := by decide +kernel
theorem dX5_consume_74 : decode cX5_consume 74 = .ok (.ireturn, 1) := by decide +kernel
theorem dX5_consume_75 : decode cX5_consume 75 = .ok (.aload_n 0, 1) := by decide +kernel
theorem dX5_consume_76 : decode cX5_consume 76 = .ok (.aload 7, 2) := by decide +kernel
theorem dX5_consume_78 : decode cX5_consume 78 = .ok (.putfield 34, 3) := by decide +kernel
theorem dX5_consume_81 : decode cX5_consume 81 = .ok (.iload 6, 2) := by decide +kernel
theorem dX5_consume_83 : decode cX5_consume 83 = .ok (.ireturn, 1) := by decide +kernel
theorem dX5_seen_0 : decode cX5_seen 0 = .ok (.aload_n 0, 1) := by decide +kernel
theorem dX5_seen_1 : decode cX5_seen 1 = .ok (.getfield 34, 3) := by decide +kernel
theorem dX5_seen_4 : decode cX5_seen 4 = .ok (.ifnonnull 5, 3) := by decide +kernel
theorem dX5_seen_7 : decode cX5_seen 7 = .ok (.iconst 0, 1) := by decide +kernel
theorem dX5_seen_8 : decode cX5_seen 8 = .ok (.ireturn, 1) := by decide +kernel
theorem dX5_seen_9 : decode cX5_seen 9 = .ok (.iload_n 1, 1) := by decide +kernel
theorem dX5_seen_10 : decode cX5_seen 10 = .ok (.tableswitch 86 0 5 #[38, 46, 54, 62, 70, 78], 38) := by decide +kernel
theorem dX5_seen_48 : decode cX5_seen 48 = .ok (.aload_n 0, 1) := by decide +kernel
theorem dX5_seen_49 : decode cX5_seen 49 = .ok (.getfield 34, 3) := by decide +kernel
theorem dX5_seen_52 : decode cX5_seen 52 = .ok (.getfield 178, 3) := by decide +kernel
theorem dX5_seen_55 : decode cX5_seen 55 = .ok (.ireturn, 1) := by decide +kernel
theorem dX5_seen_56 : decode cX5_seen 56 = .ok (.aload_n 0, 1) := by decide +kernel
theorem dX5_seen_57 : decode cX5_seen 57 = .ok (.getfield 34, 3) := by decide +kernel
theorem dX5_seen_60 : decode cX5_seen 60 = .ok (.getfield 181, 3) := by decide +kernel
theorem dX5_seen_63 : decode cX5_seen 63 = .ok (.ireturn, 1) := by decide +kernel
theorem dX5_seen_64 : decode cX5_seen 64 = .ok (.aload_n 0, 1) := by decide +kernel
theorem dX5_seen_65 : decode cX5_seen 65 = .ok (.getfield 34, 3) := by decide +kernel
theorem dX5_seen_68 : decode cX5_seen 68 = .ok (.getfield 184, 3) := by decide +kernel
theorem dX5_seen_71 : decode cX5_seen 71 = .ok (.ireturn, 1) := by decide +kernel
theorem dX5_seen_72 : decode cX5_seen 72 = .ok (.aload_n 0, 1) := by decide +kernel
theorem dX5_seen_73 : decode cX5_seen 73 = .ok (.getfield 34, 3) := by decide +kernel
theorem dX5_seen_76 : decode cX5_seen 76 = .ok (.getfield 185, 3) := by decide +kernel
theorem dX5_seen_79 : decode cX5_seen 79 = .ok (.ireturn, 1) := by decide +kernel
theorem dX5_seen_80 : decode cX5_seen 80 = .ok (.aload_n 0, 1) := by decide +kernel
theorem dX5_seen_81 : decode cX5_seen 81 = .ok (.getfield 34, 3) := by decide +kernel
theorem dX5_seen_84 : decode cX5_seen 84 = .ok (.getfield 188, 3) := by decide +kernel
theorem dX5_seen_87 : decode cX5_seen 87 = .ok (.ireturn, 1) := by decide +kernel
theorem dX5_seen_88 : decode cX5_seen 88 = .ok (.aload_n 0, 1) := by decide +kernel
theorem dX5_seen_89 : decode cX5_seen 89 = .ok (.getfield 34, 3) := by decide +kernel
theorem dX5_seen_92 : decode cX5_seen 92 = .ok (.getfield 191, 3) := by decide +kernel
theorem dX5_seen_95 : decode cX5_seen 95 = .ok (.ireturn, 1) := by decide +kernel
theorem dX5_seen_96 : decode cX5_seen 96 = .ok (.iconst 0, 1) := by decide +kernel
theorem dX5_seen_97 : decode cX5_seen 97 = .ok (.ireturn, 1) := by decide +kernel
set_option maxRecDepth 20000 in
theorem ggX5_member_X5_groupAt : GoodIn wsX5_member wsX5_groupAt := goodIn_r _ [7, 8, 12, 13, 14, 15, 16, 17] (by rfl) (by decide +kernel)
set_option maxRecDepth 20000 in
theorem gX5_member_X5_groupAt : GoodIn wsX5_member (wsV RX5 194 RX5 yX5_groupAt wsX5_groupAt) := goodIn_app (goodIn_of _ (by decide +kernel)) ggX5_member_X5_groupAt
theorem dX5_member_0 : decode cX5_member 0 = .ok (.aload_n 0, 1) := by decide +kernel
theorem dX5_member_1 : decode cX5_member 1 = .ok (.iload_n 1, 1) := by decide +kernel
theorem dX5_member_2 : decode cX5_member 2 = .ok (.invokevirtual 194, 3) := by decide +kernel
theorem dX5_member_5 : decode cX5_member 5 = .ok (.astore_n 3, 1) := by decide +kernel
theorem dX5_member_6 : decode cX5_member 6 = .ok (.aload_n 3, 1) := by decide +kernel
theorem dX5_member_7 : decode cX5_member 7 = .ok (.ifnull 13, 3) := by decide +kernel
theorem dX5_member_10 : decode cX5_member 10 = .ok (.iload_n 2, 1) := by decide +kernel
theorem dX5_member_11 : decode cX5_member 11 = .ok (.ifCond .lt 9, 3) := by decide +kernel
theorem dX5_member_14 : decode cX5_member 14 = .ok (.iload_n 2, 1) := by decide +kernel
theorem dX5_member_15 : decode cX5_member 15 = .ok (.bipush 8, 2) := by decide +kernel
theorem dX5_member_17 : decode cX5_member 17 = .ok (.if_icmp .lt 5, 3) := by decide +kernel
theorem dX5_member_20 : decode cX5_member 20 = .ok (.iconst (-1), 1) := by decide +kernel
theorem dX5_member_21 : decode cX5_member 21 = .ok (.ireturn, 1) := by decide +kernel
theorem dX5_member_22 : decode cX5_member 22 = .ok (.aload_n 3, 1) := by decide +kernel
theorem dX5_member_23 : decode cX5_member 23 = .ok (.dup, 1) := by decide +kernel
theorem dX5_member_24 : decode cX5_member 24 = .ok (.getfield 198, 3) := by decide +kernel
theorem dX5_member_27 : decode cX5_member 27 = .ok (.iconst 1, 1) := by decide +kernel
theorem dX5_member_28 : decode cX5_member 28 = .ok (.iload_n 2, 1) := by decide +kernel
theorem dX5_member_29 : decode cX5_member 29 = .ok (.ishl, 1) := by decide +kernel
theorem dX5_member_30 : decode cX5_member 30 = .ok (.ixor, 1) := by decide +kernel
theorem dX5_member_31 : decode cX5_member 31 = .ok (.putfield 198, 3) := by decide +kernel
theorem dX5_member_34 : decode cX5_member 34 = .ok (.aload_n 3, 1) := by decide +kernel
theorem dX5_member_35 : decode cX5_member 35 = .ok (.dup, 1) := by decide +kernel
theorem dX5_member_36 : decode cX5_member 36 = .ok (.getfield 201, 3) := by decide +kernel
theorem dX5_member_39 : decode cX5_member 39 = .ok (.iconst 1, 1) := by decide +kernel
theorem dX5_member_40 : decode cX5_member 40 = .ok (.iadd, 1) := by decide +kernel
theorem dX5_member_41 : decode cX5_member 41 = .ok (.putfield 201, 3) := by decide +kernel
theorem dX5_member_44 : decode cX5_member 44 = .ok (.aload_n 3, 1) := by decide +kernel
theorem dX5_member_45 : decode cX5_member 45 = .ok (.getfield 201, 3) := by decide +kernel
theorem dX5_member_48 : decode cX5_member 48 = .ok (.ireturn, 1) := by decide +kernel
set_option maxRecDepth 20000 in
theorem ggX5_owner_X5_groupAt : GoodIn wsX5_owner wsX5_groupAt := goodIn_r _ [5, 6, 31, 32, 33, 34, 35, 36] (by rfl) (by decide +kernel)
set_option maxRecDepth 20000 in
theorem gX5_owner_X5_groupAt : GoodIn wsX5_owner (wsV RX5 194 RX5 yX5_groupAt wsX5_groupAt) := goodIn_app (goodIn_of _ (by decide +kernel)) ggX5_owner_X5_groupAt
set_option maxRecDepth 20000 in
theorem ggX5_owner_X5_partitionAt : GoodIn wsX5_owner wsX5_partitionAt := goodIn_r _ [10, 11, 31, 32, 33, 34, 35, 36] (by rfl) (by decide +kernel)
set_option maxRecDepth 20000 in
theorem gX5_owner_X5_partitionAt : GoodIn wsX5_owner (wsV RX5 54 RX5 yX5_partitionAt wsX5_partitionAt) := goodIn_app (goodIn_of _ (by decide +kernel)) ggX5_owner_X5_partitionAt
set_option maxRecDepth 20000 in
theorem ggX5_owner_X5_placeOf : GoodIn wsX5_owner wsX5_placeOf := goodIn_r _ [15, 11, 31, 32, 33, 34, 35, 36] (by rfl) (by decide +kernel)
set_option maxRecDepth 20000 in
theorem gX5_owner_X5_placeOf : GoodIn wsX5_owner (wsV RX5 204 RX5 yX5_placeOf wsX5_placeOf) := goodIn_app (goodIn_of _ (by decide +kernel)) ggX5_owner_X5_placeOf
set_option maxRecDepth 20000 in
theorem ggX5_owner_X1_memberAt : GoodIn wsX5_owner wsX1_memberAt := goodIn_r _ [20, 21, 22, 23, 24, 25, 26, 27, 28, 29, 4, 30, 37, 38, 39] (by rfl) (by decide +kernel)
set_option maxRecDepth 20000 in
theorem gX5_owner_X1_memberAt : GoodIn wsX5_owner (wsV RX5 207 RX1 yX1_memberAt wsX1_memberAt) := goodIn_app (goodIn_of _ (by decide +kernel)) ggX5_owner_X1_memberAt
theorem dX5_owner_0 : decode cX5_owner 0 = .ok (.aload_n 0, 1) := by decide +kernel
theorem dX5_owner_1 : decode cX5_owner 1 = .ok (.iload_n 1, 1) := by decide +kernel
theorem dX5_owner_2 : decode cX5_owner 2 = .ok (.invokevirtual 194, 3) := by decide +kernel
theorem dX5_owner_5 : decode cX5_owner 5 = .ok (.astore_n 3, 1) := by decide +kernel
theorem dX5_owner_6 : decode cX5_owner 6 = .ok (.aload_n 3, 1) := by decide +kernel
theorem dX5_owner_7 : decode cX5_owner 7 = .ok (.ifnull 11, 3) := by decide +kernel
theorem dX5_owner_10 : decode cX5_owner 10 = .ok (.aload_n 0, 1) := by decide +kernel
theorem dX5_owner_11 : decode cX5_owner 11 = .ok (.iload_n 2, 1) := by decide +kernel
theorem dX5_owner_12 : decode cX5_owner 12 = .ok (.invokevirtual 54, 3) := by decide +kernel
theorem dX5_owner_15 : decode cX5_owner 15 = .ok (.ifnonnull 5, 3) := by decide +kernel
theorem dX5_owner_18 : decode cX5_owner 18 = .ok (.iconst (-1), 1) := by decide +kernel
theorem dX5_owner_19 : decode cX5_owner 19 = .ok (.ireturn, 1) := by decide +kernel
theorem dX5_owner_20 : decode cX5_owner 20 = .ok (.aload_n 3, 1) := by decide +kernel
theorem dX5_owner_21 : decode cX5_owner 21 = .ok (.aload_n 0, 1) := by decide +kernel
theorem dX5_owner_22 : decode cX5_owner 22 = .ok (.iload_n 2, 1) := by decide +kernel
theorem dX5_owner_23 : decode cX5_owner 23 = .ok (.invokevirtual 204, 3) := by decide +kernel
theorem dX5_owner_26 : decode cX5_owner 26 = .ok (.invokevirtual 207, 3) := by decide +kernel
theorem dX5_owner_29 : decode cX5_owner 29 = .ok (.istore 4, 2) := by decide +kernel
theorem dX5_owner_31 : decode cX5_owner 31 = .ok (.iload 4, 2) := by decide +kernel
theorem dX5_owner_33 : decode cX5_owner 33 = .ok (.iconst (-1), 1) := by decide +kernel
theorem dX5_owner_34 : decode cX5_owner 34 = .ok (.if_icmp .ne 8, 3) := by decide +kernel
theorem dX5_owner_37 : decode cX5_owner 37 = .ok (.bipush (-2), 2) := by decide +kernel
theorem dX5_owner_39 : decode cX5_owner 39 = .ok (.goto 5, 3) := by decide +kernel
theorem dX5_owner_42 : decode cX5_owner 42 = .ok (.iload 4, 2) := by decide +kernel
theorem dX5_owner_44 : decode cX5_owner 44 = .ok (.ireturn, 1) := by decide +kernel
set_option maxRecDepth 20000 in
theorem ggX5_move_X5_groupAt : GoodIn wsX5_move wsX5_groupAt := goodIn_r _ [6, 7, 40, 41, 42, 43, 44, 45] (by rfl) (by decide +kernel)
set_option maxRecDepth 20000 in
theorem gX5_move_X5_groupAt : GoodIn wsX5_move (wsV RX5 194 RX5 yX5_groupAt wsX5_groupAt) := goodIn_app (goodIn_of _ (by decide +kernel)) ggX5_move_X5_groupAt
set_option maxRecDepth 20000 in
theorem ggX5_move_X5_partitionAt : GoodIn wsX5_move wsX5_partitionAt := goodIn_r _ [11, 12, 40, 41, 42, 43, 44, 45] (by rfl) (by decide +kernel)
set_option maxRecDepth 20000 in
theorem gX5_move_X5_partitionAt : GoodIn wsX5_move (wsV RX5 54 RX5 yX5_partitionAt wsX5_partitionAt) := goodIn_app (goodIn_of _ (by decide +kernel)) ggX5_move_X5_partitionAt
set_option maxRecDepth 20000 in
theorem ggX5_move_X5_placeOf : GoodIn wsX5_move wsX5_placeOf := goodIn_r _ [16, 12, 40, 41, 42, 43, 44, 45] (by rfl) (by decide +kernel)
set_option maxRecDepth 20000 in
theorem gX5_move_X5_placeOf : GoodIn wsX5_move (wsV RX5 204 RX5 yX5_placeOf wsX5_placeOf) := goodIn_app (goodIn_of _ (by decide +kernel)) ggX5_move_X5_placeOf
set_option maxRecDepth 20000 in
theorem ggX5_move_X1_memberAt : GoodIn wsX5_move wsX1_memberAt := goodIn_r _ [21, 22, 23, 24, 25, 26, 27, 28, 29, 30, 5, 31, 37, 38, 39] (by rfl) (by decide +kernel)
set_option maxRecDepth 20000 in
theorem gX5_move_X1_memberAt : GoodIn wsX5_move (wsV RX5 207 RX1 yX1_memberAt wsX1_memberAt) := goodIn_app (goodIn_of _ (by decide +kernel)) ggX5_move_X1_memberAt
set_option maxRecDepth 20000 in
theorem ggX5_move_X1_setOffset : GoodIn wsX5_move wsX1_setOffset := goodIn_r _ [35, 36, 37, 38, 39] (by rfl) (by decide +kernel)
set_option maxRecDepth 20000 in
theorem gX5_move_X1_setOffset : GoodIn wsX5_move (wsV RX5 210 RX1 yX1_setOffset wsX1_setOffset) := goodIn_app (goodIn_of _ (by decide +kernel)) ggX5_move_X1_setOffset
theorem dX5_move_0 : decode cX5_move 0 = .ok (.aload_n 0, 1) := by decide +kernel
theorem dX5_move_1 : decode cX5_move 1 = .ok (.iload_n 1, 1) := by decide +kernel
theorem dX5_move_2 : decode cX5_move 2 = .ok (.invokevirtual 194, 3) := by decide +kernel
theorem dX5_move_5 : decode cX5_move 5 = .ok (.astore 6, 2) := by decide +kernel
theorem dX5_move_7 : decode cX5_move 7 = .ok (.aload 6, 2) := by decide +kernel
theorem dX5_move_9 : decode cX5_move 9 = .ok (.ifnull 17, 3) := by decide +kernel
theorem dX5_move_12 : decode cX5_move 12 = .ok (.aload_n 0, 1) := by decide +kernel
theorem dX5_move_13 : decode cX5_move 13 = .ok (.iload 4, 2) := by decide +kernel
theorem dX5_move_15 : decode cX5_move 15 = .ok (.invokevirtual 54, 3) := by decide +kernel
theorem dX5_move_18 : decode cX5_move 18 = .ok (.ifnull 8, 3) := by decide +kernel
theorem dX5_move_21 : decode cX5_move 21 = .ok (.iload 5, 2) := by decide +kernel
theorem dX5_move_23 : decode cX5_move 23 = .ok (.ifCond .ge 5, 3) := by decide +kernel
theorem dX5_move_26 : decode cX5_move 26 = .ok (.iconst (-1), 1) := by decide +kernel
theorem dX5_move_27 : decode cX5_move 27 = .ok (.ireturn, 1) := by decide +kernel
theorem dX5_move_28 : decode cX5_move 28 = .ok (.iload_n 2, 1) := by decide +kernel
theorem dX5_move_29 : decode cX5_move 29 = .ok (.ifCond .lt 27, 3) := by decide +kernel
theorem dX5_move_32 : decode cX5_move 32 = .ok (.iload_n 2, 1) := by decide +kernel
theorem dX5_move_33 : decode cX5_move 33 = .ok (.aload 6, 2) := by decide +kernel
theorem dX5_move_35 : decode cX5_move 35 = .ok (.aload_n 0, 1) := by decide +kernel
theorem dX5_move_36 : decode cX5_move 36 = .ok (.iload 4, 2) := by decide +kernel
theorem dX5_move_38 : decode cX5_move 38 = .ok (.invokevirtual 204, 3) := by decide +kernel
theorem dX5_move_41 : decode cX5_move 41 = .ok (.invokevirtual 207, 3) := by decide +kernel
theorem dX5_move_44 : decode cX5_move 44 = .ok (.if_icmp .ne 12, 3) := by decide +kernel
theorem dX5_move_47 : decode cX5_move 47 = .ok (.iload_n 3, 1) := by decide +kernel
theorem dX5_move_48 : decode cX5_move 48 = .ok (.aload 6, 2) := by decide +kernel
theorem dX5_move_50 : decode cX5_move 50 = .ok (.getfield 201, 3) := by decide +kernel
theorem dX5_move_53 : decode cX5_move 53 = .ok (.if_icmp .eq 6, 3) := by decide +kernel
theorem dX5_move_56 : decode cX5_move 56 = .ok (.bipush (-4), 2) := by decide +kernel
theorem dX5_move_58 : decode cX5_move 58 = .ok (.ireturn, 1) := by decide +kernel
theorem dX5_move_59 : decode cX5_move 59 = .ok (.aload 6, 2) := by decide +kernel
theorem dX5_move_61 : decode cX5_move 61 = .ok (.iload 4, 2) := by decide +kernel
theorem dX5_move_63 : decode cX5_move 63 = .ok (.iload 5, 2) := by decide +kernel
theorem dX5_move_65 : decode cX5_move 65 = .ok (.invokevirtual 210, 3) := by decide +kernel
theorem dX5_move_68 : decode cX5_move 68 = .ok (.iconst 0, 1) := by decide +kernel
theorem dX5_move_69 : decode cX5_move 69 = .ok (.ireturn, 1) := by decide +kernel
set_option maxRecDepth 20000 in
theorem ggX5_position_X5_groupAt : GoodIn wsX5_position wsX5_groupAt := goodIn_r _ [5, 6, 18, 19, 20, 21, 22, 23] (by rfl) (by decide +kernel)
set_option maxRecDepth 20000 in
theorem gX5_position_X5_groupAt : GoodIn wsX5_position (wsV RX5 194 RX5 yX5_groupAt wsX5_groupAt) := goodIn_app (goodIn_of _ (by decide +kernel)) ggX5_position_X5_groupAt
set_option maxRecDepth 20000 in
theorem ggX5_position_X5_partitionAt : GoodIn wsX5_position wsX5_partitionAt := goodIn_r _ [10, 11, 18, 19, 20, 21, 22, 23] (by rfl) (by decide +kernel)
set_option maxRecDepth 20000 in
theorem gX5_position_X5_partitionAt : GoodIn wsX5_position (wsV RX5 54 RX5 yX5_partitionAt wsX5_partitionAt) := goodIn_app (goodIn_of _ (by decide +kernel)) ggX5_position_X5_partitionAt
set_option maxRecDepth 20000 in
theorem ggX5_position_X1_offsetFor : GoodIn wsX5_position wsX1_offsetFor := goodIn_r _ [16, 17, 24, 25, 26] (by rfl) (by decide +kernel)
set_option maxRecDepth 20000 in
theorem gX5_position_X1_offsetFor : GoodIn wsX5_position (wsV RX5 213 RX1 yX1_offsetFor wsX1_offsetFor) := goodIn_app (goodIn_of _ (by decide +kernel)) ggX5_position_X1_offsetFor
theorem dX5_position_0 : decode cX5_position 0 = .ok (.aload_n 0, 1) := by decide +kernel
theorem dX5_position_1 : decode cX5_position 1 = .ok (.iload_n 1, 1) := by decide +kernel
theorem dX5_position_2 : decode cX5_position 2 = .ok (.invokevirtual 194, 3) := by decide +kernel
theorem dX5_position_5 : decode cX5_position 5 = .ok (.astore_n 3, 1) := by decide +kernel
theorem dX5_position_6 : decode cX5_position 6 = .ok (.aload_n 3, 1) := by decide +kernel
theorem dX5_position_7 : decode cX5_position 7 = .ok (.ifnull 11, 3) := by decide +kernel
theorem dX5_position_10 : decode cX5_position 10 = .ok (.aload_n 0, 1) := by decide +kernel
theorem dX5_position_11 : decode cX5_position 11 = .ok (.iload_n 2, 1) := by decide +kernel
theorem dX5_position_12 : decode cX5_position 12 = .ok (.invokevirtual 54, 3) := by decide +kernel
theorem dX5_position_15 : decode cX5_position 15 = .ok (.ifnonnull 5, 3) := by decide +kernel
theorem dX5_position_18 : decode cX5_position 18 = .ok (.iconst (-1), 1) := by decide +kernel
theorem dX5_position_19 : decode cX5_position 19 = .ok (.ireturn, 1) := by decide +kernel
theorem dX5_position_20 : decode cX5_position 20 = .ok (.aload_n 3, 1) := by decide +kernel
theorem dX5_position_21 : decode cX5_position 21 = .ok (.iload_n 2, 1) := by decide +kernel
theorem dX5_position_22 : decode cX5_position 22 = .ok (.invokevirtual 213, 3) := by decide +kernel
theorem dX5_position_25 : decode cX5_position 25 = .ok (.ireturn, 1) := by decide +kernel
set_option maxRecDepth 20000 in
theorem ggX5_tick_X2_dropLate : GoodIn wsX5_tick wsX2_dropLate := goodIn_r _ [7, 8, 9, 10, 11, 12, 13, 14, 6, 15, 16, 17, 18, 19, 20, 21, 22, 23, 24, 25, 26, 27, 28, 29, 30, 31, 32, 33, 34, 35, 36, 37, 38, 39, 40, 47, 48, 49, 50, 51, 52, 53, 54, 55, 56, 57, 58, 59] (by rfl) (by decide +kernel)
set_option maxRecDepth 20000 in
theorem gX5_tick_X2_dropLate : GoodIn wsX5_tick (wsV RX5 216 RX2 yX2_dropLate wsX2_dropLate) := goodIn_app (goodIn_of _ (by decide +kernel)) ggX5_tick_X2_dropLate
theorem dX5_tick_0 : decode cX5_tick 0 = .ok (.iload_n 1, 1) := by decide +kernel
theorem dX5_tick_1 : decode cX5_tick 1 = .ok (.iconst 1, 1) := by decide +kernel
theorem dX5_tick_2 : decode cX5_tick 2 = .ok (.if_icmp .lt 9, 3) := by decide +kernel
theorem dX5_tick_5 : decode cX5_tick 5 = .ok (.iload_n 1, 1) := by decide +kernel
theorem dX5_tick_6 : decode cX5_tick 6 = .ok (.bipush 50, 2) := by decide +kernel
theorem dX5_tick_8 : decode cX5_tick 8 = .ok (.if_icmp .le 5, 3) := by decide +kernel
theorem dX5_tick_11 : decode cX5_tick 11 = .ok (.iconst (-1), 1) := by decide +kernel
theorem dX5_tick_12 : decode cX5_tick 12 = .ok (.ireturn, 1) := by decide +kernel
theorem dX5_tick_13 : decode cX5_tick 13 = .ok (.aload_n 0, 1) := by decide +kernel
theorem dX5_tick_14 : decode cX5_tick 14 = .ok (.dup, 1) := by decide +kernel
theorem dX5_tick_15 : decode cX5_tick 15 = .ok (.getfield 31, 3) := by decide +kernel
theorem dX5_tick_18 : decode cX5_tick 18 = .ok (.iload_n 1, 1) := by decide +kernel
theorem dX5_tick_19 : decode cX5_tick 19 = .ok (.iadd, 1) := by decide +kernel
theorem dX5_tick_20 : decode cX5_tick 20 = .ok (.putfield 31, 3) := by decide +kernel
theorem dX5_tick_23 : decode cX5_tick 23 = .ok (.iconst 0, 1) := by decide +kernel
theorem dX5_tick_24 : decode cX5_tick 24 = .ok (.istore_n 2, 1) := by decide +kernel
theorem dX5_tick_25 : decode cX5_tick 25 = .ok (.iconst 0, 1) := by decide +kernel
theorem dX5_tick_26 : decode cX5_tick 26 = .ok (.istore_n 3, 1) := by decide +kernel
theorem dX5_tick_27 : decode cX5_tick 27 = .ok (.iload_n 3, 1) := by decide +kernel
theorem dX5_tick_28 : decode cX5_tick 28 = .ok (.iconst 4, 1) := by decide +kernel
theorem dX5_tick_29 : decode cX5_tick 29 = .ok (.if_icmp .ge 34, 3) := by decide +kernel
theorem dX5_tick_32 : decode cX5_tick 32 = .ok (.aload_n 0, 1) := by decide +kernel
theorem dX5_tick_33 : decode cX5_tick 33 = .ok (.getfield 11, 3) := by decide +kernel
theorem dX5_tick_36 : decode cX5_tick 36 = .ok (.iload_n 3, 1) := by decide +kernel
theorem dX5_tick_37 : decode cX5_tick 37 = .ok (.aaload, 1) := by decide +kernel
theorem dX5_tick_38 : decode cX5_tick 38 = .ok (.astore 4, 2) := by decide +kernel
theorem dX5_tick_40 : decode cX5_tick 40 = .ok (.aload 4, 2) := by decide +kernel
theorem dX5_tick_42 : decode cX5_tick 42 = .ok (.ifnull 15, 3) := by decide +kernel
theorem dX5_tick_45 : decode cX5_tick 45 = .ok (.iload_n 2, 1) := by decide +kernel
theorem dX5_tick_46 : decode cX5_tick 46 = .ok (.aload 4, 2) := by decide +kernel
theorem dX5_tick_48 : decode cX5_tick 48 = .ok (.aload_n 0, 1) := by decide +kernel
theorem dX5_tick_49 : decode cX5_tick 49 = .ok (.getfield 31, 3) := by decide +kernel
theorem dX5_tick_52 : decode cX5_tick 52 = .ok (.invokevirtual 216, 3) := by decide +kernel
theorem dX5_tick_55 : decode cX5_tick 55 = .ok (.iadd, 1) := by decide +kernel
theorem dX5_tick_56 : decode cX5_tick 56 = .ok (.istore_n 2, 1) := by decide +kernel
theorem dX5_tick_57 : decode cX5_tick 57 = .ok (.iinc 3 1, 3) := by decide +kernel
theorem dX5_tick_60 : decode cX5_tick 60 = .ok (.goto (-33), 3) := by decide +kernel
theorem dX5_tick_63 : decode cX5_tick 63 = .ok (.iload_n 2, 1) := by decide +kernel
theorem dX5_tick_64 : decode cX5_tick 64 = .ok (.ireturn, 1) := by decide +kernel
set_option maxRecDepth 20000 in
theorem ggX5_flush_X5_replicaOf : GoodIn wsX5_flush wsX5_replicaOf := goodIn_r _ [8, 9, 10, 11, 7, 12, 13, 14, 15, 16, 17, 18, 19, 23, 24, 25, 26, 27, 28, 36, 37, 38, 39, 40, 41] (by rfl) (by decide +kernel)
set_option maxRecDepth 20000 in
theorem gX5_flush_X5_replicaOf : GoodIn wsX5_flush (wsV RX5 219 RX5 yX5_replicaOf wsX5_replicaOf) := goodIn_app (goodIn_of _ (by decide +kernel)) ggX5_flush_X5_replicaOf
set_option maxRecDepth 20000 in
theorem ggX5_flush_X5_contains : GoodIn wsX5_flush wsX5_contains := goodIn_r _ [22] (by rfl) (by decide +kernel)
set_option maxRecDepth 20000 in
theorem gX5_flush_X5_contains : GoodIn wsX5_flush (va_wsS RX5 138 yX5_contains wsX5_contains) := goodIn_app (goodIn_of _ (by decide +kernel)) ggX5_flush_X5_contains
theorem dX5_flush_0 : decode cX5_flush 0 = .ok (.aload_n 0, 1) := by decide +kernel
theorem dX5_flush_1 : decode cX5_flush 1 = .ok (.iload_n 1, 1) := by decide +kernel
theorem dX5_flush_2 : decode cX5_flush 2 = .ok (.iload_n 2, 1) := by decide +kernel
theorem dX5_flush_3 : decode cX5_flush 3 = .ok (.invokevirtual 219, 3) := by decide +kernel
theorem dX5_flush_6 : decode cX5_flush 6 = .ok (.astore_n 3, 1) := by decide +kernel
theorem dX5_flush_7 : decode cX5_flush 7 = .ok (.aload_n 3, 1) := by decide +kernel
theorem dX5_flush_8 : decode cX5_flush 8 = .ok (.ifnull 14, 3) := by decide +kernel
theorem dX5_flush_11 : decode cX5_flush 11 = .ok (.aload_n 0, 1) := by decide +kernel
theorem dX5_flush_12 : decode cX5_flush 12 = .ok (.getfield 27, 3) := by decide +kernel
theorem dX5_flush_15 : decode cX5_flush 15 = .ok (.iload_n 1, 1) := by decide +kernel
theorem dX5_flush_16 : decode cX5_flush 16 = .ok (.invokestatic 138, 3) := by decide +kernel
theorem dX5_flush_19 : decode cX5_flush 19 = .ok (.ifCond .ne 5, 3) := by decide +kernel
theorem dX5_flush_22 : decode cX5_flush 22 = .ok (.iconst (-1), 1) := by decide +kernel
theorem dX5_flush_23 : decode cX5_flush 23 = .ok (.ireturn, 1) := by decide +kernel
theorem dX5_flush_24 : decode cX5_flush 24 = .ok (.aload_n 3, 1) := by decide +kernel
theorem dX5_flush_25 : decode cX5_flush 25 = .ok (.getfield 132, 3) := by decide +kernel
theorem dX5_flush_28 : decode cX5_flush 28 = .ok (.aload_n 3, 1) := by decide +kernel
theorem dX5_flush_29 : decode cX5_flush 29 = .ok (.getfield 223, 3) := by decide +kernel
theorem dX5_flush_32 : decode cX5_flush 32 = .ok (.isub, 1) := by decide +kernel
theorem dX5_flush_33 : decode cX5_flush 33 = .ok (.istore 4, 2) := by decide +kernel
theorem dX5_flush_35 : decode cX5_flush 35 = .ok (.aload_n 3, 1) := by decide +kernel
theorem dX5_flush_36 : decode cX5_flush 36 = .ok (.aload_n 3, 1) := by decide +kernel
theorem dX5_flush_37 : decode cX5_flush 37 = .ok (.getfield 132, 3) := by decide +kernel
theorem dX5_flush_40 : decode cX5_flush 40 = .ok (.putfield 223, 3) := by decide +kernel
theorem dX5_flush_43 : decode cX5_flush 43 = .ok (.iload 4, 2) := by decide +kernel
theorem dX5_flush_45 : decode cX5_flush 45 = .ok (.ireturn, 1) := by decide +kernel
set_option maxRecDepth 20000 in
theorem ggX5_crash_X5_contains : GoodIn wsX5_crash wsX5_contains := goodIn_r _ [7] (by rfl) (by decide +kernel)
set_option maxRecDepth 20000 in
theorem gX5_crash_X5_contains : GoodIn wsX5_crash (va_wsS RX5 138 yX5_contains wsX5_contains) := goodIn_app (goodIn_of _ (by decide +kernel)) ggX5_crash_X5_contains
set_option maxRecDepth 20000 in
theorem ggX5_crash_X2_lose : GoodIn wsX5_crash wsX2_lose := goodIn_r _ [12, 13, 14, 15, 16, 17, 11, 18, 19, 20, 21, 22, 23, 24, 25, 26, 27, 28, 29, 30, 31, 32, 33, 34, 35, 36, 37, 38, 39, 40, 41, 42, 43, 44, 45, 5, 6, 7, 46, 47, 48, 49, 50, 57, 58, 59, 60, 61, 62, 63, 64, 65, 66, 67, 68, 69] (by rfl) (by decide +kernel)
set_option maxRecDepth 20000 in
theorem gX5_crash_X2_lose : GoodIn wsX5_crash (wsV RX5 226 RX2 yX2_lose wsX2_lose) := goodIn_app (goodIn_of _ (by decide +kernel)) ggX5_crash_X2_lose
theorem dX5_crash_0 : decode cX5_crash 0 = .ok (.aload_n 0, 1) := by decide +kernel
theorem dX5_crash_1 : decode cX5_crash 1 = .ok (.getfield 27, 3) := by decide +kernel
theorem dX5_crash_4 : decode cX5_crash 4 = .ok (.iload_n 1, 1) := by decide +kernel
theorem dX5_crash_5 : decode cX5_crash 5 = .ok (.invokestatic 138, 3) := by decide +kernel
theorem dX5_crash_8 : decode cX5_crash 8 = .ok (.ifCond .eq 7, 3) := by decide +kernel
theorem dX5_crash_11 : decode cX5_crash 11 = .ok (.iload_n 2, 1) := by decide +kernel
theorem dX5_crash_12 : decode cX5_crash 12 = .ok (.ifCond .ge 5, 3) := by decide +kernel
theorem dX5_crash_15 : decode cX5_crash 15 = .ok (.iconst (-1), 1) := by decide +kernel
theorem dX5_crash_16 : decode cX5_crash 16 = .ok (.ireturn, 1) := by decide +kernel
theorem dX5_crash_17 : decode cX5_crash 17 = .ok (.aload_n 0, 1) := by decide +kernel
theorem dX5_crash_18 : decode cX5_crash 18 = .ok (.dup, 1) := by decide +kernel
theorem dX5_crash_19 : decode cX5_crash 19 = .ok (.getfield 27, 3) := by decide +kernel
theorem dX5_crash_22 : decode cX5_crash 22 = .ok (.iconst 1, 1) := by decide +kernel
theorem dX5_crash_23 : decode cX5_crash 23 = .ok (.iload_n 1, 1) := by decide +kernel
theorem dX5_crash_24 : decode cX5_crash 24 = .ok (.ishl, 1) := by decide +kernel
theorem dX5_crash_25 : decode cX5_crash 25 = .ok (.iconst (-1), 1) := by decide +kernel
theorem dX5_crash_26 : decode cX5_crash 26 = .ok (.ixor, 1) := by decide +kernel
theorem dX5_crash_27 : decode cX5_crash 27 = .ok (.iand, 1) := by decide +kernel
theorem dX5_crash_28 : decode cX5_crash 28 = .ok (.putfield 27, 3) := by decide +kernel
theorem dX5_crash_31 : decode cX5_crash 31 = .ok (.iconst 0, 1) := by decide +kernel
theorem dX5_crash_32 : decode cX5_crash 32 = .ok (.istore_n 3, 1) := by decide +kernel
theorem dX5_crash_33 : decode cX5_crash 33 = .ok (.iconst 0, 1) := by decide +kernel
theorem dX5_crash_34 : decode cX5_crash 34 = .ok (.istore 4, 2) := by decide +kernel
theorem dX5_crash_36 : decode cX5_crash 36 = .ok (.iload 4, 2) := by decide +kernel
theorem dX5_crash_38 : decode cX5_crash 38 = .ok (.iconst 4, 1) := by decide +kernel
theorem dX5_crash_39 : decode cX5_crash 39 = .ok (.if_icmp .ge 47, 3) := by decide +kernel
theorem dX5_crash_42 : decode cX5_crash 42 = .ok (.aload_n 0, 1) := by decide +kernel
theorem dX5_crash_43 : decode cX5_crash 43 = .ok (.getfield 11, 3) := by decide +kernel
theorem dX5_crash_46 : decode cX5_crash 46 = .ok (.iload 4, 2) := by decide +kernel
theorem dX5_crash_48 : decode cX5_crash 48 = .ok (.aaload, 1) := by decide +kernel
theorem dX5_crash_49 : decode cX5_crash 49 = .ok (.astore 5, 2) := by decide +kernel
theorem dX5_crash_51 : decode cX5_crash 51 = .ok (.aload 5, 2) := by decide +kernel
theorem dX5_crash_53 : decode cX5_crash 53 = .ok (.ifnull 27, 3) := by decide +kernel
theorem dX5_crash_56 : decode cX5_crash 56 = .ok (.aload 5, 2) := by decide +kernel
theorem dX5_crash_58 : decode cX5_crash 58 = .ok (.iload_n 1, 1) := by decide +kernel
theorem dX5_crash_59 : decode cX5_crash 59 = .ok (.iload_n 2, 1) := by decide +kernel
theorem dX5_crash_60 : decode cX5_crash 60 = .ok (.invokevirtual 226, 3) := by decide +kernel
theorem dX5_crash_63 : decode cX5_crash 63 = .ok (.iload_n 3, 1) := by decide +kernel
theorem dX5_crash_64 : decode cX5_crash 64 = .ok (.aload 5, 2) := by decide +kernel
theorem dX5_crash_66 : decode cX5_crash 66 = .ok (.getfield 51, 3) := by decide +kernel
theorem dX5_crash_69 : decode cX5_crash 69 = .ok (.iconst (-1), 1) := by decide +kernel
theorem dX5_crash_70 : decode cX5_crash 70 = .ok (.if_icmp .ne 7, 3) := by decide +kernel
theorem dX5_crash_73 : decode cX5_crash 73 = .ok (.iconst 1, 1) := by decide +kernel
theorem dX5_crash_74 : decode cX5_crash 74 = .ok (.goto 4, 3) := by decide +kernel
theorem dX5_crash_77 : decode cX5_crash 77 = .ok (.iconst 0, 1) := by decide +kernel
theorem dX5_crash_78 : decode cX5_crash 78 = .ok (.iadd, 1) := by decide +kernel
theorem dX5_crash_79 : decode cX5_crash 79 = .ok (.istore_n 3, 1) := by decide +kernel
theorem dX5_crash_80 : decode cX5_crash 80 = .ok (.iinc 4 1, 3) := by decide +kernel
theorem dX5_crash_83 : decode cX5_crash 83 = .ok (.goto (-47), 3) := by decide +kernel
theorem dX5_crash_86 : decode cX5_crash 86 = .ok (.iload_n 3, 1) := by decide +kernel
theorem dX5_crash_87 : decode cX5_crash 87 = .ok (.ireturn, 1) := by decide +kernel
set_option maxRecDepth 20000 in
theorem ggX5_restart_X5_contains : GoodIn wsX5_restart wsX5_contains := goodIn_r _ [6] (by rfl) (by decide +kernel)
set_option maxRecDepth 20000 in
theorem gX5_restart_X5_contains : GoodIn wsX5_restart (va_wsS RX5 138 yX5_contains wsX5_contains) := goodIn_app (goodIn_of _ (by decide +kernel)) ggX5_restart_X5_contains
set_option maxRecDepth 20000 in
theorem ggX5_restart_X5_replicaOf : GoodIn wsX5_restart wsX5_replicaOf := goodIn_r _ [10, 11, 12, 13, 5, 14, 15, 16, 17, 18, 19, 20, 21, 22, 23, 24, 25, 26, 27, 35, 36, 37, 38, 39, 40] (by rfl) (by decide +kernel)
set_option maxRecDepth 20000 in
theorem gX5_restart_X5_replicaOf : GoodIn wsX5_restart (wsV RX5 219 RX5 yX5_replicaOf wsX5_replicaOf) := goodIn_app (goodIn_of _ (by decide +kernel)) ggX5_restart_X5_replicaOf
theorem dX5_restart_0 : decode cX5_restart 0 = .ok (.iload_n 1, 1) := by decide +kernel
theorem dX5_restart_1 : decode cX5_restart 1 = .ok (.ifCond .lt 19, 3) := by decide +kernel
theorem dX5_restart_4 : decode cX5_restart 4 = .ok (.iload_n 1, 1) := by decide +kernel
theorem dX5_restart_5 : decode cX5_restart 5 = .ok (.iconst 5, 1) := by decide +kernel
theorem dX5_restart_6 : decode cX5_restart 6 = .ok (.if_icmp .ge 14, 3) := by decide +kernel
theorem dX5_restart_9 : decode cX5_restart 9 = .ok (.aload_n 0, 1) := by decide +kernel
theorem dX5_restart_10 : decode cX5_restart 10 = .ok (.getfield 27, 3) := by decide +kernel
theorem dX5_restart_13 : decode cX5_restart 13 = .ok (.iload_n 1, 1) := by decide +kernel
theorem dX5_restart_14 : decode cX5_restart 14 = .ok (.invokestatic 138, 3) := by decide +kernel
theorem dX5_restart_17 : decode cX5_restart 17 = .ok (.ifCond .eq 5, 3) := by decide +kernel
theorem dX5_restart_20 : decode cX5_restart 20 = .ok (.iconst (-1), 1) := by decide +kernel
theorem dX5_restart_21 : decode cX5_restart 21 = .ok (.ireturn, 1) := by decide +kernel
theorem dX5_restart_22 : decode cX5_restart 22 = .ok (.aload_n 0, 1) := by decide +kernel
theorem dX5_restart_23 : decode cX5_restart 23 = .ok (.dup, 1) := by decide +kernel
theorem dX5_restart_24 : decode cX5_restart 24 = .ok (.getfield 27, 3) := by decide +kernel
theorem dX5_restart_27 : decode cX5_restart 27 = .ok (.iconst 1, 1) := by decide +kernel
theorem dX5_restart_28 : decode cX5_restart 28 = .ok (.iload_n 1, 1) := by decide +kernel
theorem dX5_restart_29 : decode cX5_restart 29 = .ok (.ishl, 1) := by decide +kernel
theorem dX5_restart_30 : decode cX5_restart 30 = .ok (.ior, 1) := by decide +kernel
theorem dX5_restart_31 : decode cX5_restart 31 = .ok (.putfield 27, 3) := by decide +kernel
theorem dX5_restart_34 : decode cX5_restart 34 = .ok (.iconst 0, 1) := by decide +kernel
theorem dX5_restart_35 : decode cX5_restart 35 = .ok (.istore_n 2, 1) := by decide +kernel
theorem dX5_restart_36 : decode cX5_restart 36 = .ok (.iload_n 2, 1) := by decide +kernel
theorem dX5_restart_37 : decode cX5_restart 37 = .ok (.iconst 4, 1) := by decide +kernel
theorem dX5_restart_38 : decode cX5_restart 38 = .ok (.if_icmp .ge 25, 3) := by decide +kernel
theorem dX5_restart_41 : decode cX5_restart 41 = .ok (.aload_n 0, 1) := by decide +kernel
theorem dX5_restart_42 : decode cX5_restart 42 = .ok (.iload_n 1, 1) := by decide +kernel
theorem dX5_restart_43 : decode cX5_restart 43 = .ok (.iload_n 2, 1) := by decide +kernel
theorem dX5_restart_44 : decode cX5_restart 44 = .ok (.invokevirtual 219, 3) := by decide +kernel
theorem dX5_restart_47 : decode cX5_restart 47 = .ok (.astore_n 3, 1) := by decide +kernel
theorem dX5_restart_48 : decode cX5_restart 48 = .ok (.aload_n 3, 1) := by decide +kernel
theorem dX5_restart_49 : decode cX5_restart 49 = .ok (.ifnull 8, 3) := by decide +kernel
theorem dX5_restart_52 : decode cX5_restart 52 = .ok (.aload_n 3, 1) := by decide +kernel
theorem dX5_restart_53 : decode cX5_restart 53 = .ok (.iconst (-1), 1) := by decide +kernel
theorem dX5_restart_54 : decode cX5_restart 54 = .ok (.putfield 157, 3) := by decide +kernel
theorem dX5_restart_57 : decode cX5_restart 57 = .ok (.iinc 2 1, 3) := by decide +kernel
theorem dX5_restart_60 : decode cX5_restart 60 = .ok (.goto (-24), 3) := by decide +kernel
theorem dX5_restart_63 : decode cX5_restart 63 = .ok (.iconst 0, 1) := by decide +kernel
theorem dX5_restart_64 : decode cX5_restart 64 = .ok (.ireturn, 1) := by decide +kernel
set_option maxRecDepth 20000 in
theorem ggX5_trim_X5_partitionAt : GoodIn wsX5_trim wsX5_partitionAt := goodIn_r _ [7, 8, 43, 44, 45, 46, 47, 48] (by rfl) (by decide +kernel)
set_option maxRecDepth 20000 in
theorem gX5_trim_X5_partitionAt : GoodIn wsX5_trim (wsV RX5 54 RX5 yX5_partitionAt wsX5_partitionAt) := goodIn_app (goodIn_of _ (by decide +kernel)) ggX5_trim_X5_partitionAt
set_option maxRecDepth 20000 in
theorem ggX5_trim_X2_leading : GoodIn wsX5_trim wsX2_leading := goodIn_r _ [13, 14, 15, 16, 17, 12, 18, 19, 49, 50, 51, 52, 53, 54] (by rfl) (by decide +kernel)
set_option maxRecDepth 20000 in
theorem gX5_trim_X2_leading : GoodIn wsX5_trim (wsV RX5 88 RX2 yX2_leading wsX2_leading) := goodIn_app (goodIn_of _ (by decide +kernel)) ggX5_trim_X2_leading
set_option maxRecDepth 20000 in
theorem ggX5_trim_X4_dropBefore : GoodIn wsX5_trim wsX4_dropBefore := goodIn_r _ [24, 25, 26, 27, 28, 29, 30, 36, 37, 38, 39, 40, 41, 42] (by rfl) (by decide +kernel)
set_option maxRecDepth 20000 in
theorem gX5_trim_X4_dropBefore : GoodIn wsX5_trim (wsV RX5 229 RX4 yX4_dropBefore wsX4_dropBefore) := goodIn_app (goodIn_of _ (by decide +kernel)) ggX5_trim_X4_dropBefore
set_option maxRecDepth 20000 in
theorem ggX5_trim_X4_held : GoodIn wsX5_trim wsX4_held := goodIn_r _ [34, 35, 25, 36, 37, 38, 39, 40, 41, 42] (by rfl) (by decide +kernel)
set_option maxRecDepth 20000 in
theorem gX5_trim_X4_held : GoodIn wsX5_trim (wsV RX5 232 RX4 yX4_held wsX4_held) := goodIn_app (goodIn_of _ (by decide +kernel)) ggX5_trim_X4_held
theorem dX5_trim_0 : decode cX5_trim 0 = .ok (.aload_n 0, 1) := by decide +kernel
theorem dX5_trim_1 : decode cX5_trim 1 = .ok (.iload_n 1, 1) := by decide +kernel
theorem dX5_trim_2 : decode cX5_trim 2 = .ok (.invokevirtual 54, 3) := by decide +kernel
theorem dX5_trim_5 : decode cX5_trim 5 = .ok (.astore_n 3, 1) := by decide +kernel
theorem dX5_trim_6 : decode cX5_trim 6 = .ok (.aload_n 3, 1) := by decide +kernel
theorem dX5_trim_7 : decode cX5_trim 7 = .ok (.ifnonnull 5, 3) := by decide +kernel
theorem dX5_trim_10 : decode cX5_trim 10 = .ok (.iconst (-1), 1) := by decide +kernel
theorem dX5_trim_11 : decode cX5_trim 11 = .ok (.ireturn, 1) := by decide +kernel
theorem dX5_trim_12 : decode cX5_trim 12 = .ok (.aload_n 3, 1) := by decide +kernel
theorem dX5_trim_13 : decode cX5_trim 13 = .ok (.invokevirtual 88, 3) := by decide +kernel
theorem dX5_trim_16 : decode cX5_trim 16 = .ok (.astore 4, 2) := by decide +kernel
theorem dX5_trim_18 : decode cX5_trim 18 = .ok (.aload 4, 2) := by decide +kernel
theorem dX5_trim_20 : decode cX5_trim 20 = .ok (.ifnonnull 6, 3) := by decide +kernel
theorem dX5_trim_23 : decode cX5_trim 23 = .ok (.bipush (-2), 2) := by decide +kernel
theorem dX5_trim_25 : decode cX5_trim 25 = .ok (.ireturn, 1) := by decide +kernel
theorem dX5_trim_26 : decode cX5_trim 26 = .ok (.iload_n 2, 1) := by decide +kernel
theorem dX5_trim_27 : decode cX5_trim 27 = .ok (.aload 4, 2) := by decide +kernel
theorem dX5_trim_29 : decode cX5_trim 29 = .ok (.getfield 167, 3) := by decide +kernel
theorem dX5_trim_32 : decode cX5_trim 32 = .ok (.if_icmp .lt 12, 3) := by decide +kernel
theorem dX5_trim_35 : decode cX5_trim 35 = .ok (.iload_n 2, 1) := by decide +kernel
theorem dX5_trim_36 : decode cX5_trim 36 = .ok (.aload 4, 2) := by decide +kernel
theorem dX5_trim_38 : decode cX5_trim 38 = .ok (.getfield 146, 3) := by decide +kernel
theorem dX5_trim_41 : decode cX5_trim 41 = .ok (.if_icmp .le 5, 3) := by decide +kernel
theorem dX5_trim_44 : decode cX5_trim 44 = .ok (.iconst (-1), 1) := by decide +kernel
theorem dX5_trim_45 : decode cX5_trim 45 = .ok (.ireturn, 1) := by decide +kernel
theorem dX5_trim_46 : decode cX5_trim 46 = .ok (.aload 4, 2) := by decide +kernel
theorem dX5_trim_48 : decode cX5_trim 48 = .ok (.iload_n 2, 1) := by decide +kernel
theorem dX5_trim_49 : decode cX5_trim 49 = .ok (.invokevirtual 229, 3) := by decide +kernel
theorem dX5_trim_52 : decode cX5_trim 52 = .ok (.aload 4, 2) := by decide +kernel
theorem dX5_trim_54 : decode cX5_trim 54 = .ok (.invokevirtual 232, 3) := by decide +kernel
theorem dX5_trim_57 : decode cX5_trim 57 = .ok (.ireturn, 1) := by decide +kernel
set_option maxRecDepth 20000 in
theorem ggX5_log_X5_partitionAt : GoodIn wsX5_log wsX5_partitionAt := goodIn_r _ [10, 11, 37, 38, 39, 40, 41, 42] (by rfl) (by decide +kernel)
set_option maxRecDepth 20000 in
theorem gX5_log_X5_partitionAt : GoodIn wsX5_log (wsV RX5 54 RX5 yX5_partitionAt wsX5_partitionAt) := goodIn_app (goodIn_of _ (by decide +kernel)) ggX5_log_X5_partitionAt
set_option maxRecDepth 20000 in
theorem ggX5_log_X5_replicaOf : GoodIn wsX5_log wsX5_replicaOf := goodIn_r _ [15, 6, 7, 8, 9, 10, 11, 16, 17, 18, 19, 20, 21, 37, 38, 39, 40, 41, 42, 43, 44, 45, 46, 47, 48] (by rfl) (by decide +kernel)
set_option maxRecDepth 20000 in
theorem gX5_log_X5_replicaOf : GoodIn wsX5_log (wsV RX5 219 RX5 yX5_replicaOf wsX5_replicaOf) := goodIn_app (goodIn_of _ (by decide +kernel)) ggX5_log_X5_replicaOf
set_option maxRecDepth 20000 in
theorem ggX5_log_X2_knownEnd : GoodIn wsX5_log wsX2_knownEnd := goodIn_r _ [25, 26, 27, 28, 29, 17, 18, 19, 20, 21, 43, 44, 45, 46, 47, 48, 30, 31, 32, 33, 34, 35, 36] (by rfl) (by decide +kernel)
set_option maxRecDepth 20000 in
theorem gX5_log_X2_knownEnd : GoodIn wsX5_log (wsV RX5 236 RX2 yX2_knownEnd wsX2_knownEnd) := goodIn_app (goodIn_of _ (by decide +kernel)) ggX5_log_X2_knownEnd
theorem dX5_log_0 : decode cX5_log 0 = .ok (.aload_n 0, 1) := by decide +kernel
theorem dX5_log_1 : decode cX5_log 1 = .ok (.iload_n 2, 1) := by decide +kernel
theorem dX5_log_2 : decode cX5_log 2 = .ok (.invokevirtual 54, 3) := by decide +kernel
theorem dX5_log_5 : decode cX5_log 5 = .ok (.astore 4, 2) := by decide +kernel
theorem dX5_log_7 : decode cX5_log 7 = .ok (.aload_n 0, 1) := by decide +kernel
theorem dX5_log_8 : decode cX5_log 8 = .ok (.iload_n 1, 1) := by decide +kernel
theorem dX5_log_9 : decode cX5_log 9 = .ok (.iload_n 2, 1) := by decide +kernel
theorem dX5_log_10 : decode cX5_log 10 = .ok (.invokevirtual 219, 3) := by decide +kernel
theorem dX5_log_13 : decode cX5_log 13 = .ok (.astore 5, 2) := by decide +kernel
theorem dX5_log_15 : decode cX5_log 15 = .ok (.aload 4, 2) := by decide +kernel
theorem dX5_log_17 : decode cX5_log 17 = .ok (.ifnull 8, 3) := by decide +kernel
theorem dX5_log_20 : decode cX5_log 20 = .ok (.aload 5, 2) := by decide +kernel
theorem dX5_log_22 : decode cX5_log 22 = .ok (.ifnonnull 5, 3) := by decide +kernel
theorem dX5_log_25 : decode cX5_log 25 = .ok (.iconst (-1), 1) := by decide +kernel
theorem dX5_log_26 : decode cX5_log 26 = .ok (.ireturn, 1) := by decide +kernel
theorem dX5_log_27 : decode cX5_log 27 = .ok (.iload_n 3, 1) := by decide +kernel
theorem dX5_log_28 : decode cX5_log 28 = .ok (.tableswitch 77 0 5 #[40, 46, 52, 58, 64, 71], 40) := by decide +kernel
theorem dX5_log_68 : decode cX5_log 68 = .ok (.aload 5, 2) := by decide +kernel
theorem dX5_log_70 : decode cX5_log 70 = .ok (.getfield 167, 3) := by decide +kernel
theorem dX5_log_73 : decode cX5_log 73 = .ok (.ireturn, 1) := by decide +kernel
theorem dX5_log_74 : decode cX5_log 74 = .ok (.aload 5, 2) := by decide +kernel
theorem dX5_log_76 : decode cX5_log 76 = .ok (.getfield 132, 3) := by decide +kernel
theorem dX5_log_79 : decode cX5_log 79 = .ok (.ireturn, 1) := by decide +kernel
theorem dX5_log_80 : decode cX5_log 80 = .ok (.aload 5, 2) := by decide +kernel
theorem dX5_log_82 : decode cX5_log 82 = .ok (.getfield 146, 3) := by decide +kernel
theorem dX5_log_85 : decode cX5_log 85 = .ok (.ireturn, 1) := by decide +kernel
theorem dX5_log_86 : decode cX5_log 86 = .ok (.aload 5, 2) := by decide +kernel
theorem dX5_log_88 : decode cX5_log 88 = .ok (.getfield 223, 3) := by decide +kernel
theorem dX5_log_91 : decode cX5_log 91 = .ok (.ireturn, 1) := by decide +kernel
theorem dX5_log_92 : decode cX5_log 92 = .ok (.aload 4, 2) := by decide +kernel
theorem dX5_log_94 : decode cX5_log 94 = .ok (.iload_n 1, 1) := by decide +kernel
theorem dX5_log_95 : decode cX5_log 95 = .ok (.invokevirtual 236, 3) := by decide +kernel
theorem dX5_log_98 : decode cX5_log 98 = .ok (.ireturn, 1) := by decide +kernel
theorem dX5_log_99 : decode cX5_log 99 = .ok (.aload 5, 2) := by decide +kernel
theorem dX5_log_101 : decode cX5_log 101 = .ok (.getfield 160, 3) := by decide +kernel
theorem dX5_log_104 : decode cX5_log 104 = .ok (.ireturn, 1) := by decide +kernel
theorem dX5_log_105 : decode cX5_log 105 = .ok (.iconst (-1), 1) := by decide +kernel
theorem dX5_log_106 : decode cX5_log 106 = .ok (.ireturn, 1) := by decide +kernel
set_option maxRecDepth 20000 in
theorem ggX5_record_X5_replicaOf : GoodIn wsX5_record wsX5_replicaOf := goodIn_r _ [13, 14, 15, 16, 12, 17, 18, 19, 20, 21, 22, 23, 24, 45, 46, 47, 48, 49, 50, 51, 52, 53, 54, 55, 56] (by rfl) (by decide +kernel)
set_option maxRecDepth 20000 in
theorem gX5_record_X5_replicaOf : GoodIn wsX5_record (wsV RX5 219 RX5 yX5_replicaOf wsX5_replicaOf) := goodIn_app (goodIn_of _ (by decide +kernel)) ggX5_record_X5_replicaOf
set_option maxRecDepth 20000 in
theorem ggX5_record_X4_entryAt : GoodIn wsX5_record wsX4_entryAt := goodIn_r _ [29, 30, 31, 32, 33, 34, 35, 36, 57, 58, 59, 60, 61, 62, 63] (by rfl) (by decide +kernel)
set_option maxRecDepth 20000 in
theorem gX5_record_X4_entryAt : GoodIn wsX5_record (wsV RX5 174 RX4 yX4_entryAt wsX4_entryAt) := goodIn_app (goodIn_of _ (by decide +kernel)) ggX5_record_X4_entryAt
theorem dX5_record_0 : decode cX5_record 0 = .ok (.aload_n 0, 1) := by decide +kernel
theorem dX5_record_1 : decode cX5_record 1 = .ok (.iload_n 1, 1) := by decide +kernel
theorem dX5_record_2 : decode cX5_record 2 = .ok (.iload_n 2, 1) := by decide +kernel
theorem dX5_record_3 : decode cX5_record 3 = .ok (.invokevirtual 219, 3) := by decide +kernel
theorem dX5_record_6 : decode cX5_record 6 = .ok (.astore 5, 2) := by decide +kernel
theorem dX5_record_8 : decode cX5_record 8 = .ok (.aload 5, 2) := by decide +kernel
theorem dX5_record_10 : decode cX5_record 10 = .ok (.ifnonnull 7, 3) := by decide +kernel
theorem dX5_record_13 : decode cX5_record 13 = .ok (.aconst_null, 1) := by decide +kernel
theorem dX5_record_14 : decode cX5_record 14 = .ok (.goto 9, 3) := by decide +kernel
theorem dX5_record_17 : decode cX5_record 17 = .ok (.aload 5, 2) := by decide +kernel
theorem dX5_record_19 : decode cX5_record 19 = .ok (.iload_n 3, 1) := by decide +kernel
theorem dX5_record_20 : decode cX5_record 20 = .ok (.invokevirtual 174, 3) := by decide +kernel
theorem dX5_record_23 : decode cX5_record 23 = .ok (.astore 6, 2) := by decide +kernel
theorem dX5_record_25 : decode cX5_record 25 = .ok (.aload 6, 2) := by decide +kernel
theorem dX5_record_27 : decode cX5_record 27 = .ok (.ifnonnull 7, 3) := by decide +kernel
theorem dX5_record_30 : decode cX5_record 30 = .ok (.ldc2_w 239, 3) := by decide +kernel
theorem dX5_record_33 : decode cX5_record 33 = .ok (.lreturn, 1) := by decide +kernel
theorem dX5_record_34 : decode cX5_record 34 = .ok (.iload 4, 2) := by decide +kernel
theorem dX5_record_36 : decode cX5_record 36 = .ok (.tableswitch 100 0 6 #[44, 51, 58, 65, 72, 79, 86], 44) := by decide +kernel
theorem dX5_record_80 : decode cX5_record 80 = .ok (.aload 6, 2) := by decide +kernel
theorem dX5_record_82 : decode cX5_record 82 = .ok (.getfield 178, 3) := by decide +kernel
theorem dX5_record_85 : decode cX5_record 85 = .ok (.i2l, 1) := by decide +kernel
theorem dX5_record_86 : decode cX5_record 86 = .ok (.lreturn, 1) := by decide +kernel
theorem dX5_record_87 : decode cX5_record 87 = .ok (.aload 6, 2) := by decide +kernel
theorem dX5_record_89 : decode cX5_record 89 = .ok (.getfield 241, 3) := by decide +kernel
theorem dX5_record_92 : decode cX5_record 92 = .ok (.i2l, 1) := by decide +kernel
theorem dX5_record_93 : decode cX5_record 93 = .ok (.lreturn, 1) := by decide +kernel
theorem dX5_record_94 : decode cX5_record 94 = .ok (.aload 6, 2) := by decide +kernel
theorem dX5_record_96 : decode cX5_record 96 = .ok (.getfield 181, 3) := by decide +kernel
theorem dX5_record_99 : decode cX5_record 99 = .ok (.i2l, 1) := by decide +kernel
theorem dX5_record_100 : decode cX5_record 100 = .ok (.lreturn, 1) := by decide +kernel
theorem dX5_record_101 : decode cX5_record 101 = .ok (.aload 6, 2) := by decide +kernel
theorem dX5_record_103 : decode cX5_record 103 = .ok (.getfield 185, 3) := by decide +kernel
theorem dX5_record_106 : decode cX5_record 106 = .ok (.i2l, 1) := by decide +kernel
theorem dX5_record_107 : decode cX5_record 107 = .ok (.lreturn, 1) := by decide +kernel
theorem dX5_record_108 : decode cX5_record 108 = .ok (.aload 6, 2) := by decide +kernel
theorem dX5_record_110 : decode cX5_record 110 = .ok (.getfield 188, 3) := by decide +kernel
theorem dX5_record_113 : decode cX5_record 113 = .ok (.i2l, 1) := by decide +kernel
theorem dX5_record_114 : decode cX5_record 114 = .ok (.lreturn, 1) := by decide +kernel
theorem dX5_record_115 : decode cX5_record 115 = .ok (.aload 6, 2) := by decide +kernel
theorem dX5_record_117 : decode cX5_record 117 = .ok (.getfield 191, 3) := by decide +kernel
theorem dX5_record_120 : decode cX5_record 120 = .ok (.i2l, 1) := by decide +kernel
theorem dX5_record_121 : decode cX5_record 121 = .ok (.lreturn, 1) := by decide +kernel
theorem dX5_record_122 : decode cX5_record 122 = .ok (.aload 6, 2) := by decide +kernel
theorem dX5_record_124 : decode cX5_record 124 = .ok (.getfield 244, 3) := by decide +kernel
theorem dX5_record_127 : decode cX5_record 127 = .ok (.ifCond .eq 7, 3) := by decide +kernel
theorem dX5_record_130 : decode cX5_record 130 = .ok (.lconst 1, 1) := by decide +kernel
theorem dX5_record_131 : decode cX5_record 131 = .ok (.goto 4, 3) := by decide +kernel
theorem dX5_record_134 : decode cX5_record 134 = .ok (.lconst 0, 1) := by decide +kernel
theorem dX5_record_135 : decode cX5_record 135 = .ok (.lreturn, 1) := by decide +kernel
theorem dX5_record_136 : decode cX5_record 136 = .ok (.ldc2_w 239, 3) := by decide +kernel
theorem dX5_record_139 : decode cX5_record 139 = .ok (.lreturn, 1) := by decide +kernel
set_option maxRecDepth 20000 in
theorem ggX5_state_X5_partitionAt : GoodIn wsX5_state wsX5_partitionAt := goodIn_r _ [8, 9, 60, 61, 62, 63, 64, 65] (by rfl) (by decide +kernel)
set_option maxRecDepth 20000 in
theorem gX5_state_X5_partitionAt : GoodIn wsX5_state (wsV RX5 54 RX5 yX5_partitionAt wsX5_partitionAt) := goodIn_app (goodIn_of _ (by decide +kernel)) ggX5_state_X5_partitionAt
set_option maxRecDepth 20000 in
theorem ggX5_state_X2_leading : GoodIn wsX5_state wsX2_leading := goodIn_r _ [14, 15, 16, 17, 18, 13, 19, 20, 54, 55, 56, 57, 58, 59] (by rfl) (by decide +kernel)
set_option maxRecDepth 20000 in
theorem gX5_state_X2_leading : GoodIn wsX5_state (wsV RX5 88 RX2 yX2_leading wsX2_leading) := goodIn_app (goodIn_of _ (by decide +kernel)) ggX5_state_X2_leading
set_option maxRecDepth 20000 in
theorem ggX5_state_X5_firstOpenOf : GoodIn wsX5_state wsX5_firstOpenOf := goodIn_r _ [23, 24, 25, 26, 27, 28, 29, 30, 31, 32, 33, 34, 35, 36, 37, 38, 39, 40, 41, 42, 43, 44, 45, 46, 47, 48, 49, 50, 51, 52, 53, 66, 67, 68, 69, 70, 71, 72, 73, 74, 75, 76, 77, 78, 79, 80] (by rfl) (by decide +kernel)
set_option maxRecDepth 20000 in
theorem gX5_state_X5_firstOpenOf : GoodIn wsX5_state (va_wsS RX5 248 yX5_firstOpenOf wsX5_firstOpenOf) := goodIn_app (goodIn_of _ (by decide +kernel)) ggX5_state_X5_firstOpenOf
theorem dX5_state_0 : decode cX5_state 0 = .ok (.aload_n 0, 1) := by decide +kernel
theorem dX5_state_1 : decode cX5_state 1 = .ok (.iload_n 1, 1) := by decide +kernel
theorem dX5_state_2 : decode cX5_state 2 = .ok (.invokevirtual 54, 3) := by decide +kernel
theorem dX5_state_5 : decode cX5_state 5 = .ok (.astore_n 3, 1) := by decide +kernel
theorem dX5_state_6 : decode cX5_state 6 = .ok (.aload_n 3, 1) := by decide +kernel
theorem dX5_state_7 : decode cX5_state 7 = .ok (.ifnonnull 5, 3) := by decide +kernel
theorem dX5_state_10 : decode cX5_state 10 = .ok (.iconst (-1), 1) := by decide +kernel
theorem dX5_state_11 : decode cX5_state 11 = .ok (.ireturn, 1) := by decide +kernel
theorem dX5_state_12 : decode cX5_state 12 = .ok (.iload_n 2, 1) := by decide +kernel
theorem dX5_state_13 : decode cX5_state 13 = .ok (.tableswitch 54 0 3 #[31, 36, 41, 46], 31) := by decide +kernel
theorem dX5_state_44 : decode cX5_state 44 = .ok (.aload_n 3, 1) := by decide +kernel
theorem dX5_state_45 : decode cX5_state 45 = .ok (.getfield 51, 3) := by decide +kernel
theorem dX5_state_48 : decode cX5_state 48 = .ok (.ireturn, 1) := by decide +kernel
theorem dX5_state_49 : decode cX5_state 49 = .ok (.aload_n 3, 1) := by decide +kernel
theorem dX5_state_50 : decode cX5_state 50 = .ok (.getfield 115, 3) := by decide +kernel
theorem dX5_state_53 : decode cX5_state 53 = .ok (.ireturn, 1) := by decide +kernel
theorem dX5_state_54 : decode cX5_state 54 = .ok (.aload_n 3, 1) := by decide +kernel
theorem dX5_state_55 : decode cX5_state 55 = .ok (.getfield 58, 3) := by decide +kernel
theorem dX5_state_58 : decode cX5_state 58 = .ok (.ireturn, 1) := by decide +kernel
theorem dX5_state_59 : decode cX5_state 59 = .ok (.aload_n 3, 1) := by decide +kernel
theorem dX5_state_60 : decode cX5_state 60 = .ok (.invokevirtual 88, 3) := by decide +kernel
theorem dX5_state_63 : decode cX5_state 63 = .ok (.invokestatic 248, 3) := by decide +kernel
theorem dX5_state_66 : decode cX5_state 66 = .ok (.ireturn, 1) := by decide +kernel
theorem dX5_state_67 : decode cX5_state 67 = .ok (.iconst (-1), 1) := by decide +kernel
theorem dX5_state_68 : decode cX5_state 68 = .ok (.ireturn, 1) := by decide +kernel
set_option maxRecDepth 20000 in
theorem ggX5_count_X5_producerAt : GoodIn wsX5_count wsX5_producerAt := goodIn_r _ [8, 9, 10, 11, 12, 13, 14, 15] (by rfl) (by decide +kernel)
set_option maxRecDepth 20000 in
theorem gX5_count_X5_producerAt : GoodIn wsX5_count (wsV RX5 71 RX5 yX5_producerAt wsX5_producerAt) := goodIn_app (goodIn_of _ (by decide +kernel)) ggX5_count_X5_producerAt
theorem dX5_count_0 : decode cX5_count 0 = .ok (.iload_n 1, 1) := by decide +kernel
theorem dX5_count_1 : decode cX5_count 1 = .ok (.ifCond .ne 8, 3) := by decide +kernel
theorem dX5_count_4 : decode cX5_count 4 = .ok (.aload_n 0, 1) := by decide +kernel
theorem dX5_count_5 : decode cX5_count 5 = .ok (.getfield 31, 3) := by decide +kernel
theorem dX5_count_8 : decode cX5_count 8 = .ok (.ireturn, 1) := by decide +kernel
theorem dX5_count_9 : decode cX5_count 9 = .ok (.iload_n 1, 1) := by decide +kernel
theorem dX5_count_10 : decode cX5_count 10 = .ok (.iconst 1, 1) := by decide +kernel
theorem dX5_count_11 : decode cX5_count 11 = .ok (.if_icmp .ne 8, 3) := by decide +kernel
theorem dX5_count_14 : decode cX5_count 14 = .ok (.aload_n 0, 1) := by decide +kernel
theorem dX5_count_15 : decode cX5_count 15 = .ok (.getfield 27, 3) := by decide +kernel
theorem dX5_count_18 : decode cX5_count 18 = .ok (.ireturn, 1) := by decide +kernel
theorem dX5_count_19 : decode cX5_count 19 = .ok (.iload_n 1, 1) := by decide +kernel
theorem dX5_count_20 : decode cX5_count 20 = .ok (.iconst 2, 1) := by decide +kernel
theorem dX5_count_21 : decode cX5_count 21 = .ok (.if_icmp .lt 9, 3) := by decide +kernel
theorem dX5_count_24 : decode cX5_count 24 = .ok (.iload_n 1, 1) := by decide +kernel
theorem dX5_count_25 : decode cX5_count 25 = .ok (.bipush 8, 2) := by decide +kernel
theorem dX5_count_27 : decode cX5_count 27 = .ok (.if_icmp .lt 5, 3) := by decide +kernel
theorem dX5_count_30 : decode cX5_count 30 = .ok (.iconst (-1), 1) := by decide +kernel
theorem dX5_count_31 : decode cX5_count 31 = .ok (.ireturn, 1) := by decide +kernel
theorem dX5_count_32 : decode cX5_count 32 = .ok (.aload_n 0, 1) := by decide +kernel
theorem dX5_count_33 : decode cX5_count 33 = .ok (.iload_n 1, 1) := by decide +kernel
theorem dX5_count_34 : decode cX5_count 34 = .ok (.iconst 2, 1) := by decide +kernel
theorem dX5_count_35 : decode cX5_count 35 = .ok (.isub, 1) := by decide +kernel
theorem dX5_count_36 : decode cX5_count 36 = .ok (.invokevirtual 71, 3) := by decide +kernel
theorem dX5_count_39 : decode cX5_count 39 = .ok (.astore_n 2, 1) := by decide +kernel
theorem dX5_count_40 : decode cX5_count 40 = .ok (.aload_n 2, 1) := by decide +kernel
theorem dX5_count_41 : decode cX5_count 41 = .ok (.ifnonnull 7, 3) := by decide +kernel
theorem dX5_count_44 : decode cX5_count 44 = .ok (.iconst (-1), 1) := by decide +kernel
theorem dX5_count_45 : decode cX5_count 45 = .ok (.goto 7, 3) := by decide +kernel
theorem dX5_count_48 : decode cX5_count 48 = .ok (.aload_n 2, 1) := by decide +kernel
theorem dX5_count_49 : decode cX5_count 49 = .ok (.getfield 78, 3) := by decide +kernel
theorem dX5_count_52 : decode cX5_count 52 = .ok (.ireturn, 1) := by decide +kernel
theorem dX5_partitionAt_0 : decode cX5_partitionAt 0 = .ok (.iload_n 1, 1) := by decide +kernel
theorem dX5_partitionAt_1 : decode cX5_partitionAt 1 = .ok (.ifCond .lt 8, 3) := by decide +kernel
theorem dX5_partitionAt_4 : decode cX5_partitionAt 4 = .ok (.iload_n 1, 1) := by decide +kernel
theorem dX5_partitionAt_5 : decode cX5_partitionAt 5 = .ok (.iconst 4, 1) := by decide +kernel
theorem dX5_partitionAt_6 : decode cX5_partitionAt 6 = .ok (.if_icmp .lt 7, 3) := by decide +kernel
theorem dX5_partitionAt_9 : decode cX5_partitionAt 9 = .ok (.aconst_null, 1) := by decide +kernel
theorem dX5_partitionAt_10 : decode cX5_partitionAt 10 = .ok (.goto 9, 3) := by decide +kernel
theorem dX5_partitionAt_13 : decode cX5_partitionAt 13 = .ok (.aload_n 0, 1) := by decide +kernel
theorem dX5_partitionAt_14 : decode cX5_partitionAt 14 = .ok (.getfield 11, 3) := by decide +kernel
theorem dX5_partitionAt_17 : decode cX5_partitionAt 17 = .ok (.iload_n 1, 1) := by decide +kernel
theorem dX5_partitionAt_18 : decode cX5_partitionAt 18 = .ok (.aaload, 1) := by decide +kernel
theorem dX5_partitionAt_19 : decode cX5_partitionAt 19 = .ok (.areturn, 1) := by decide +kernel
set_option maxRecDepth 20000 in
theorem ggX5_replicaOf_X5_partitionAt : GoodIn wsX5_replicaOf wsX5_partitionAt := goodIn_r _ [5, 6, 13, 14, 15, 16, 17, 18] (by rfl) (by decide +kernel)
set_option maxRecDepth 20000 in
theorem gX5_replicaOf_X5_partitionAt : GoodIn wsX5_replicaOf (wsV RX5 54 RX5 yX5_partitionAt wsX5_partitionAt) := goodIn_app (goodIn_of _ (by decide +kernel)) ggX5_replicaOf_X5_partitionAt
set_option maxRecDepth 20000 in
theorem ggX5_replicaOf_X2_replicaAt : GoodIn wsX5_replicaOf wsX2_replicaAt := goodIn_r _ [11, 12, 19, 20, 21, 22, 23, 24] (by rfl) (by decide +kernel)
set_option maxRecDepth 20000 in
theorem gX5_replicaOf_X2_replicaAt : GoodIn wsX5_replicaOf (wsV RX5 149 RX2 yX2_replicaAt wsX2_replicaAt) := goodIn_app (goodIn_of _ (by decide +kernel)) ggX5_replicaOf_X2_replicaAt
theorem dX5_replicaOf_0 : decode cX5_replicaOf 0 = .ok (.aload_n 0, 1) := by decide +kernel
theorem dX5_replicaOf_1 : decode cX5_replicaOf 1 = .ok (.iload_n 2, 1) := by decide +kernel
theorem dX5_replicaOf_2 : decode cX5_replicaOf 2 = .ok (.invokevirtual 54, 3) := by decide +kernel
theorem dX5_replicaOf_5 : decode cX5_replicaOf 5 = .ok (.astore_n 3, 1) := by decide +kernel
theorem dX5_replicaOf_6 : decode cX5_replicaOf 6 = .ok (.aload_n 3, 1) := by decide +kernel
theorem dX5_replicaOf_7 : decode cX5_replicaOf 7 = .ok (.ifnonnull 7, 3) := by decide +kernel
theorem dX5_replicaOf_10 : decode cX5_replicaOf 10 = .ok (.aconst_null, 1) := by decide +kernel
theorem dX5_replicaOf_11 : decode cX5_replicaOf 11 = .ok (.goto 8, 3) := by decide +kernel
theorem dX5_replicaOf_14 : decode cX5_replicaOf 14 = .ok (.aload_n 3, 1) := by decide +kernel
theorem dX5_replicaOf_15 : decode cX5_replicaOf 15 = .ok (.iload_n 1, 1) := by decide +kernel
theorem dX5_replicaOf_16 : decode cX5_replicaOf 16 = .ok (.invokevirtual 149, 3) := by decide +kernel
theorem dX5_replicaOf_19 : decode cX5_replicaOf 19 = .ok (.areturn, 1) := by decide +kernel
theorem dX5_producerAt_0 : decode cX5_producerAt 0 = .ok (.iload_n 1, 1) := by decide +kernel
theorem dX5_producerAt_1 : decode cX5_producerAt 1 = .ok (.ifCond .lt 9, 3) := by decide +kernel
theorem dX5_producerAt_4 : decode cX5_producerAt 4 = .ok (.iload_n 1, 1) := by decide +kernel
theorem dX5_producerAt_5 : decode cX5_producerAt 5 = .ok (.bipush 6, 2) := by decide +kernel
theorem dX5_producerAt_7 : decode cX5_producerAt 7 = .ok (.if_icmp .lt 7, 3) := by decide +kernel
theorem dX5_producerAt_10 : decode cX5_producerAt 10 = .ok (.aconst_null, 1) := by decide +kernel
theorem dX5_producerAt_11 : decode cX5_producerAt 11 = .ok (.goto 9, 3) := by decide +kernel
theorem dX5_producerAt_14 : decode cX5_producerAt 14 = .ok (.aload_n 0, 1) := by decide +kernel
theorem dX5_producerAt_15 : decode cX5_producerAt 15 = .ok (.getfield 17, 3) := by decide +kernel
theorem dX5_producerAt_18 : decode cX5_producerAt 18 = .ok (.iload_n 1, 1) := by decide +kernel
theorem dX5_producerAt_19 : decode cX5_producerAt 19 = .ok (.aaload, 1) := by decide +kernel
theorem dX5_producerAt_20 : decode cX5_producerAt 20 = .ok (.areturn, 1) := by decide +kernel
set_option maxRecDepth 20000 in
theorem ggX5_producerOf_X5_producerAt : GoodIn wsX5_producerOf wsX5_producerAt := goodIn_r _ [5, 6, 7, 8, 9, 10, 11, 12] (by rfl) (by decide +kernel)
set_option maxRecDepth 20000 in
theorem gX5_producerOf_X5_producerAt : GoodIn wsX5_producerOf (wsV RX5 71 RX5 yX5_producerAt wsX5_producerAt) := goodIn_app (goodIn_of _ (by decide +kernel)) ggX5_producerOf_X5_producerAt
theorem dX5_producerOf_0 : decode cX5_producerOf 0 = .ok (.iload_n 1, 1) := by decide +kernel
theorem dX5_producerOf_1 : decode cX5_producerOf 1 = .ok (.ifCond .ge 7, 3) := by decide +kernel
theorem dX5_producerOf_4 : decode cX5_producerOf 4 = .ok (.aconst_null, 1) := by decide +kernel
theorem dX5_producerOf_5 : decode cX5_producerOf 5 = .ok (.goto 11, 3) := by decide +kernel
theorem dX5_producerOf_8 : decode cX5_producerOf 8 = .ok (.aload_n 0, 1) := by decide +kernel
theorem dX5_producerOf_9 : decode cX5_producerOf 9 = .ok (.iload_n 1, 1) := by decide +kernel
theorem dX5_producerOf_10 : decode cX5_producerOf 10 = .ok (.bipush 8, 2) := by decide +kernel
theorem dX5_producerOf_12 : decode cX5_producerOf 12 = .ok (.irem, 1) := by decide +kernel
theorem dX5_producerOf_13 : decode cX5_producerOf 13 = .ok (.invokevirtual 71, 3) := by decide +kernel
theorem dX5_producerOf_16 : decode cX5_producerOf 16 = .ok (.areturn, 1) := by decide +kernel
theorem dX5_generationOf_0 : decode cX5_generationOf 0 = .ok (.iload_n 0, 1) := by decide +kernel
theorem dX5_generationOf_1 : decode cX5_generationOf 1 = .ok (.bipush 8, 2) := by decide +kernel
theorem dX5_generationOf_3 : decode cX5_generationOf 3 = .ok (.idiv, 1) := by decide +kernel
theorem dX5_generationOf_4 : decode cX5_generationOf 4 = .ok (.ireturn, 1) := by decide +kernel
theorem dX5_groupAt_0 : decode cX5_groupAt 0 = .ok (.iload_n 1, 1) := by decide +kernel
theorem dX5_groupAt_1 : decode cX5_groupAt 1 = .ok (.ifCond .lt 8, 3) := by decide +kernel
theorem dX5_groupAt_4 : decode cX5_groupAt 4 = .ok (.iload_n 1, 1) := by decide +kernel
theorem dX5_groupAt_5 : decode cX5_groupAt 5 = .ok (.iconst 4, 1) := by decide +kernel
theorem dX5_groupAt_6 : decode cX5_groupAt 6 = .ok (.if_icmp .lt 7, 3) := by decide +kernel
theorem dX5_groupAt_9 : decode cX5_groupAt 9 = .ok (.aconst_null, 1) := by decide +kernel
theorem dX5_groupAt_10 : decode cX5_groupAt 10 = .ok (.goto 9, 3) := by decide +kernel
theorem dX5_groupAt_13 : decode cX5_groupAt 13 = .ok (.aload_n 0, 1) := by decide +kernel
theorem dX5_groupAt_14 : decode cX5_groupAt 14 = .ok (.getfield 23, 3) := by decide +kernel
theorem dX5_groupAt_17 : decode cX5_groupAt 17 = .ok (.iload_n 1, 1) := by decide +kernel
theorem dX5_groupAt_18 : decode cX5_groupAt 18 = .ok (.aaload, 1) := by decide +kernel
theorem dX5_groupAt_19 : decode cX5_groupAt 19 = .ok (.areturn, 1) := by decide +kernel
theorem dX5_placeOf_0 : decode cX5_placeOf 0 = .ok (.iconst 0, 1) := by decide +kernel
theorem dX5_placeOf_1 : decode cX5_placeOf 1 = .ok (.istore_n 2, 1) := by decide +kernel
theorem dX5_placeOf_2 : decode cX5_placeOf 2 = .ok (.iconst 0, 1) := by decide +kernel
theorem dX5_placeOf_3 : decode cX5_placeOf 3 = .ok (.istore_n 3, 1) := by decide +kernel
theorem dX5_placeOf_4 : decode cX5_placeOf 4 = .ok (.iload_n 3, 1) := by decide +kernel
theorem dX5_placeOf_5 : decode cX5_placeOf 5 = .ok (.iconst 4, 1) := by decide +kernel
theorem dX5_placeOf_6 : decode cX5_placeOf 6 = .ok (.if_icmp .ge 31, 3) := by decide +kernel
theorem dX5_placeOf_9 : decode cX5_placeOf 9 = .ok (.iload_n 3, 1) := by decide +kernel
theorem dX5_placeOf_10 : decode cX5_placeOf 10 = .ok (.iload_n 1, 1) := by decide +kernel
theorem dX5_placeOf_11 : decode cX5_placeOf 11 = .ok (.if_icmp .ge 26, 3) := by decide +kernel
theorem dX5_placeOf_14 : decode cX5_placeOf 14 = .ok (.iload_n 2, 1) := by decide +kernel
theorem dX5_placeOf_15 : decode cX5_placeOf 15 = .ok (.aload_n 0, 1) := by decide +kernel
theorem dX5_placeOf_16 : decode cX5_placeOf 16 = .ok (.getfield 11, 3) := by decide +kernel
theorem dX5_placeOf_19 : decode cX5_placeOf 19 = .ok (.iload_n 3, 1) := by decide +kernel
theorem dX5_placeOf_20 : decode cX5_placeOf 20 = .ok (.aaload, 1) := by decide +kernel
theorem dX5_placeOf_21 : decode cX5_placeOf 21 = .ok (.ifnonnull 7, 3) := by decide +kernel
theorem dX5_placeOf_24 : decode cX5_placeOf 24 = .ok (.iconst 0, 1) := by decide +kernel
theorem dX5_placeOf_25 : decode cX5_placeOf 25 = .ok (.goto 4, 3) := by decide +kernel
theorem dX5_placeOf_28 : decode cX5_placeOf 28 = .ok (.iconst 1, 1) := by decide +kernel
theorem dX5_placeOf_29 : decode cX5_placeOf 29 = .ok (.iadd, 1) := by decide +kernel
theorem dX5_placeOf_30 : decode cX5_placeOf 30 = .ok (.istore_n 2, 1) := by decide +kernel
theorem dX5_placeOf_31 : decode cX5_placeOf 31 = .ok (.iinc 3 1, 3) := by decide +kernel
theorem dX5_placeOf_34 : decode cX5_placeOf 34 = .ok (.goto (-30), 3) := by decide +kernel
theorem dX5_placeOf_37 : decode cX5_placeOf 37 = .ok (.iload_n 2, 1) := by decide +kernel
theorem dX5_placeOf_38 : decode cX5_placeOf 38 = .ok (.ireturn, 1) := by decide +kernel
set_option maxRecDepth 20000 in
theorem ggX5_newData_X0_init : GoodIn wsX5_newData wsX0_init := goodIn_r _ [9, 10, 11, 12, 13, 14, 15, 16, 17, 18, 19, 20, 21, 22, 23, 24, 25, 26, 27, 28] (by rfl) (by decide +kernel)
set_option maxRecDepth 20000 in
theorem gX5_newData_X0_init : GoodIn wsX5_newData (wsX0_init) := ggX5_newData_X0_init
theorem dX5_newData_0 : decode cX5_newData 0 = .ok (.aload_n 1, 1) := by decide +kernel
theorem dX5_newData_1 : decode cX5_newData 1 = .ok (.ifnonnull 19, 3) := by decide +kernel
theorem dX5_newData_4 : decode cX5_newData 4 = .ok (.new 179, 3) := by decide +kernel
theorem dX5_newData_7 : decode cX5_newData 7 = .ok (.dup, 1) := by decide +kernel
theorem dX5_newData_8 : decode cX5_newData 8 = .ok (.iload_n 0, 1) := by decide +kernel
theorem dX5_newData_9 : decode cX5_newData 9 = .ok (.iconst (-1), 1) := by decide +kernel
theorem dX5_newData_10 : decode cX5_newData 10 = .ok (.iconst (-1), 1) := by decide +kernel
theorem dX5_newData_11 : decode cX5_newData 11 = .ok (.iconst (-1), 1) := by decide +kernel
theorem dX5_newData_12 : decode cX5_newData 12 = .ok (.iload_n 3, 1) := by decide +kernel
theorem dX5_newData_13 : decode cX5_newData 13 = .ok (.iload 4, 2) := by decide +kernel
theorem dX5_newData_15 : decode cX5_newData 15 = .ok (.iconst 0, 1) := by decide +kernel
theorem dX5_newData_16 : decode cX5_newData 16 = .ok (.invokespecial 251, 3) := by decide +kernel
theorem dX5_newData_19 : decode cX5_newData 19 = .ok (.areturn, 1) := by decide +kernel
theorem dX5_newData_20 : decode cX5_newData 20 = .ok (.new 179, 3) := by decide +kernel
theorem dX5_newData_23 : decode cX5_newData 23 = .ok (.dup, 1) := by decide +kernel
theorem dX5_newData_24 : decode cX5_newData 24 = .ok (.iload_n 0, 1) := by decide +kernel
theorem dX5_newData_25 : decode cX5_newData 25 = .ok (.aload_n 1, 1) := by decide +kernel
theorem dX5_newData_26 : decode cX5_newData 26 = .ok (.getfield 98, 3) := by decide +kernel
theorem dX5_newData_29 : decode cX5_newData 29 = .ok (.aload_n 1, 1) := by decide +kernel
theorem dX5_newData_30 : decode cX5_newData 30 = .ok (.getfield 75, 3) := by decide +kernel
theorem dX5_newData_33 : decode cX5_newData 33 = .ok (.iload_n 2, 1) := by decide +kernel
theorem dX5_newData_34 : decode cX5_newData 34 = .ok (.iload_n 3, 1) := by decide +kernel
theorem dX5_newData_35 : decode cX5_newData 35 = .ok (.iload 4, 2) := by decide +kernel
theorem dX5_newData_37 : decode cX5_newData 37 = .ok (.aload_n 1, 1) := by decide +kernel
theorem dX5_newData_38 : decode cX5_newData 38 = .ok (.getfield 78, 3) := by decide +kernel
theorem dX5_newData_41 : decode cX5_newData 41 = .ok (.iconst 1, 1) := by decide +kernel
theorem dX5_newData_42 : decode cX5_newData 42 = .ok (.if_icmp .ne 7, 3) := by decide +kernel
theorem dX5_newData_45 : decode cX5_newData 45 = .ok (.iconst 1, 1) := by decide +kernel
theorem dX5_newData_46 : decode cX5_newData 46 = .ok (.goto 4, 3) := by decide +kernel
theorem dX5_newData_49 : decode cX5_newData 49 = .ok (.iconst 0, 1) := by decide +kernel
theorem dX5_newData_50 : decode cX5_newData 50 = .ok (.invokespecial 251, 3) := by decide +kernel
theorem dX5_newData_53 : decode cX5_newData 53 = .ok (.areturn, 1) := by decide +kernel
set_option maxRecDepth 20000 in
theorem ggX5_markEnd_X2_leading : GoodIn wsX5_markEnd wsX2_leading := goodIn_r _ [12, 13, 14, 15, 16, 11, 17, 18, 84, 85, 86, 87, 88, 89] (by rfl) (by decide +kernel)
set_option maxRecDepth 20000 in
theorem gX5_markEnd_X2_leading : GoodIn wsX5_markEnd (wsV RX5 88 RX2 yX2_leading wsX2_leading) := goodIn_app (goodIn_of _ (by decide +kernel)) ggX5_markEnd_X2_leading
set_option maxRecDepth 20000 in
theorem ggX5_markEnd_X4_isFull : GoodIn wsX5_markEnd wsX4_isFull := goodIn_r _ [23, 24, 25, 26, 22, 27, 28, 29, 96, 97, 98, 99, 100, 101, 102] (by rfl) (by decide +kernel)
set_option maxRecDepth 20000 in
theorem gX5_markEnd_X4_isFull : GoodIn wsX5_markEnd (wsV RX5 111 RX4 yX4_isFull wsX4_isFull) := goodIn_app (goodIn_of _ (by decide +kernel)) ggX5_markEnd_X4_isFull
set_option maxRecDepth 20000 in
theorem ggX5_markEnd_X0_init_ : GoodIn wsX5_markEnd wsX0_init_ := goodIn_r _ [32, 33, 34, 35, 36, 37, 38, 39, 40, 41, 42, 43, 76, 77, 78, 79, 80, 81, 82, 83] (by rfl) (by decide +kernel)
set_option maxRecDepth 20000 in
theorem gX5_markEnd_X0_init_ : GoodIn wsX5_markEnd (wsX0_init_) := ggX5_markEnd_X0_init_
set_option maxRecDepth 20000 in
theorem ggX5_markEnd_X4_append : GoodIn wsX5_markEnd wsX4_append := goodIn_r _ [47, 48, 28, 49, 50, 51, 52, 96, 97, 98, 99, 100, 101, 102] (by rfl) (by decide +kernel)
set_option maxRecDepth 20000 in
theorem gX5_markEnd_X4_append : GoodIn wsX5_markEnd (wsV RX5 122 RX4 yX4_append wsX4_append) := goodIn_app (goodIn_of _ (by decide +kernel)) ggX5_markEnd_X4_append
set_option maxRecDepth 20000 in
theorem ggX5_markEnd_X2_raiseHw : GoodIn wsX5_markEnd wsX2_raiseHw := goodIn_r _ [56, 57, 58, 59, 60, 61, 62, 63, 64, 65, 66, 67, 9, 10, 11, 12, 13, 14, 15, 16, 17, 18, 68, 69, 70, 71, 72, 73, 74, 75, 96, 97, 98, 99, 100, 101, 102, 84, 85, 86, 87, 88, 89] (by rfl) (by decide +kernel)
set_option maxRecDepth 20000 in
theorem gX5_markEnd_X2_raiseHw : GoodIn wsX5_markEnd (wsV RX5 129 RX2 yX2_raiseHw wsX2_raiseHw) := goodIn_app (goodIn_of _ (by decide +kernel)) ggX5_markEnd_X2_raiseHw
theorem dX5_markEnd_0 : decode cX5_markEnd 0 = .ok (.aload_n 0, 1) := by decide +kernel
theorem dX5_markEnd_1 : decode cX5_markEnd 1 = .ok (.ifnonnull 5, 3) := by decide +kernel
theorem dX5_markEnd_4 : decode cX5_markEnd 4 = .ok (.iconst 0, 1) := by decide +kernel
theorem dX5_markEnd_5 : decode cX5_markEnd 5 = .ok (.ireturn, 1) := by decide +kernel
theorem dX5_markEnd_6 : decode cX5_markEnd 6 = .ok (.aload_n 0, 1) := by decide +kernel
theorem dX5_markEnd_7 : decode cX5_markEnd 7 = .ok (.invokevirtual 88, 3) := by decide +kernel
theorem dX5_markEnd_10 : decode cX5_markEnd 10 = .ok (.astore_n 2, 1) := by decide +kernel
theorem dX5_markEnd_11 : decode cX5_markEnd 11 = .ok (.aload_n 2, 1) := by decide +kernel
theorem dX5_markEnd_12 : decode cX5_markEnd 12 = .ok (.ifnull 10, 3) := by decide +kernel
theorem dX5_markEnd_15 : decode cX5_markEnd 15 = .ok (.aload_n 2, 1) := by decide +kernel
theorem dX5_markEnd_16 : decode cX5_markEnd 16 = .ok (.invokevirtual 111, 3) := by decide +kernel
theorem dX5_markEnd_19 : decode cX5_markEnd 19 = .ok (.ifCond .eq 5, 3) := by decide +kernel
theorem dX5_markEnd_22 : decode cX5_markEnd 22 = .ok (.iconst 0, 1) := by decide +kernel
theorem dX5_markEnd_23 : decode cX5_markEnd 23 = .ok (.ireturn, 1) := by decide +kernel
theorem dX5_markEnd_24 : decode cX5_markEnd 24 = .ok (.aload_n 2, 1) := by decide +kernel
theorem dX5_markEnd_25 : decode cX5_markEnd 25 = .ok (.new 179, 3) := by decide +kernel
theorem dX5_markEnd_28 : decode cX5_markEnd 28 = .ok (.dup, 1) := by decide +kernel
theorem dX5_markEnd_29 : decode cX5_markEnd 29 = .ok (.aload_n 0, 1) := by decide +kernel
theorem dX5_markEnd_30 : decode cX5_markEnd 30 = .ok (.getfield 115, 3) := by decide +kernel
theorem dX5_markEnd_33 : decode cX5_markEnd 33 = .ok (.aload_n 1, 1) := by decide +kernel
theorem dX5_markEnd_34 : decode cX5_markEnd 34 = .ok (.getfield 254, 3) := by decide +kernel
theorem dX5_markEnd_37 : decode cX5_markEnd 37 = .ok (.ifCond .eq 7, 3) := by decide +kernel
theorem dX5_markEnd_40 : decode cX5_markEnd 40 = .ok (.iconst 1, 1) := by decide +kernel
theorem dX5_markEnd_41 : decode cX5_markEnd 41 = .ok (.goto 4, 3) := by decide +kernel
theorem dX5_markEnd_44 : decode cX5_markEnd 44 = .ok (.iconst 2, 1) := by decide +kernel
theorem dX5_markEnd_45 : decode cX5_markEnd 45 = .ok (.aload_n 1, 1) := by decide +kernel
theorem dX5_markEnd_46 : decode cX5_markEnd 46 = .ok (.getfield 98, 3) := by decide +kernel
theorem dX5_markEnd_49 : decode cX5_markEnd 49 = .ok (.aload_n 1, 1) := by decide +kernel
theorem dX5_markEnd_50 : decode cX5_markEnd 50 = .ok (.getfield 257, 3) := by decide +kernel
theorem dX5_markEnd_53 : decode cX5_markEnd 53 = .ok (.invokespecial 260, 3) := by decide +kernel
theorem dX5_markEnd_56 : decode cX5_markEnd 56 = .ok (.invokevirtual 122, 3) := by decide +kernel
theorem dX5_markEnd_59 : decode cX5_markEnd 59 = .ok (.aload_n 0, 1) := by decide +kernel
theorem dX5_markEnd_60 : decode cX5_markEnd 60 = .ok (.invokevirtual 129, 3) := by decide +kernel
theorem dX5_markEnd_63 : decode cX5_markEnd 63 = .ok (.iconst 1, 1) := by decide +kernel
theorem dX5_markEnd_64 : decode cX5_markEnd 64 = .ok (.ireturn, 1) := by decide +kernel
set_option maxRecDepth 20000 in
theorem ggX5_firstOpenOf_X4_firstOpen : GoodIn wsX5_firstOpenOf wsX4_firstOpen := goodIn_r _ [5, 6, 7, 8, 9, 10, 11, 4, 12, 13, 14, 15, 16, 17, 18, 19, 20, 21, 22, 23, 24, 25, 26, 27, 28, 29, 30, 31, 32, 33, 34, 35, 36, 37, 38, 39, 40, 41, 42, 43, 44, 45] (by rfl) (by decide +kernel)
set_option maxRecDepth 20000 in
theorem gX5_firstOpenOf_X4_firstOpen : GoodIn wsX5_firstOpenOf (wsV RX5 261 RX4 yX4_firstOpen wsX4_firstOpen) := goodIn_app (goodIn_of _ (by decide +kernel)) ggX5_firstOpenOf_X4_firstOpen
theorem dX5_firstOpenOf_0 : decode cX5_firstOpenOf 0 = .ok (.aload_n 0, 1) := by decide +kernel
theorem dX5_firstOpenOf_1 : decode cX5_firstOpenOf 1 = .ok (.ifnonnull 7, 3) := by decide +kernel
theorem dX5_firstOpenOf_4 : decode cX5_firstOpenOf 4 = .ok (.iconst (-1), 1) := by decide +kernel
theorem dX5_firstOpenOf_5 : decode cX5_firstOpenOf 5 = .ok (.goto 7, 3) := by decide +kernel
theorem dX5_firstOpenOf_8 : decode cX5_firstOpenOf 8 = .ok (.aload_n 0, 1) := by decide +kernel
theorem dX5_firstOpenOf_9 : decode cX5_firstOpenOf 9 = .ok (.invokevirtual 261, 3) := by decide +kernel
theorem dX5_firstOpenOf_12 : decode cX5_firstOpenOf 12 = .ok (.ireturn, 1) := by decide +kernel
theorem dX5_contains_0 : decode cX5_contains 0 = .ok (.iload_n 1, 1) := by decide +kernel
theorem dX5_contains_1 : decode cX5_contains 1 = .ok (.ifCond .lt 22, 3) := by decide +kernel
theorem dX5_contains_4 : decode cX5_contains 4 = .ok (.iload_n 1, 1) := by decide +kernel
theorem dX5_contains_5 : decode cX5_contains 5 = .ok (.bipush 8, 2) := by decide +kernel
theorem dX5_contains_7 : decode cX5_contains 7 = .ok (.if_icmp .ge 16, 3) := by decide +kernel
theorem dX5_contains_10 : decode cX5_contains 10 = .ok (.iload_n 0, 1) := by decide +kernel
theorem dX5_contains_11 : decode cX5_contains 11 = .ok (.iload_n 1, 1) := by decide +kernel
theorem dX5_contains_12 : decode cX5_contains 12 = .ok (.ishr, 1) := by decide +kernel
theorem dX5_contains_13 : decode cX5_contains 13 = .ok (.iconst 1, 1) := by decide +kernel
theorem dX5_contains_14 : decode cX5_contains 14 = .ok (.iand, 1) := by decide +kernel
theorem dX5_contains_15 : decode cX5_contains 15 = .ok (.iconst 1, 1) := by decide +kernel
theorem dX5_contains_16 : decode cX5_contains 16 = .ok (.if_icmp .ne 7, 3) := by decide +kernel
theorem dX5_contains_19 : decode cX5_contains 19 = .ok (.iconst 1, 1) := by decide +kernel
theorem dX5_contains_20 : decode cX5_contains 20 = .ok (.goto 4, 3) := by decide +kernel
theorem dX5_contains_23 : decode cX5_contains 23 = .ok (.iconst 0, 1) := by decide +kernel
theorem dX5_contains_24 : decode cX5_contains 24 = .ok (.ireturn, 1) := by decide +kernel
set_option maxRecDepth 20000 in
theorem ggX5_leastOf_X5_contains : GoodIn wsX5_leastOf wsX5_contains := goodIn_r _ [4] (by rfl) (by decide +kernel)
set_option maxRecDepth 20000 in
theorem gX5_leastOf_X5_contains : GoodIn wsX5_leastOf (va_wsS RX5 138 yX5_contains wsX5_contains) := goodIn_app (goodIn_of _ (by decide +kernel)) ggX5_leastOf_X5_contains
theorem dX5_leastOf_0 : decode cX5_leastOf 0 = .ok (.iconst 0, 1) := by decide +kernel
theorem dX5_leastOf_1 : decode cX5_leastOf 1 = .ok (.istore_n 1, 1) := by decide +kernel
theorem dX5_leastOf_2 : decode cX5_leastOf 2 = .ok (.iload_n 1, 1) := by decide +kernel
theorem dX5_leastOf_3 : decode cX5_leastOf 3 = .ok (.bipush 8, 2) := by decide +kernel
theorem dX5_leastOf_5 : decode cX5_leastOf 5 = .ok (.if_icmp .ge 19, 3) := by decide +kernel
theorem dX5_leastOf_8 : decode cX5_leastOf 8 = .ok (.iload_n 0, 1) := by decide +kernel
theorem dX5_leastOf_9 : decode cX5_leastOf 9 = .ok (.iload_n 1, 1) := by decide +kernel
theorem dX5_leastOf_10 : decode cX5_leastOf 10 = .ok (.invokestatic 138, 3) := by decide +kernel
theorem dX5_leastOf_13 : decode cX5_leastOf 13 = .ok (.ifCond .eq 5, 3) := by decide +kernel
theorem dX5_leastOf_16 : decode cX5_leastOf 16 = .ok (.iload_n 1, 1) := by decide +kernel
theorem dX5_leastOf_17 : decode cX5_leastOf 17 = .ok (.ireturn, 1) := by decide +kernel
theorem dX5_leastOf_18 : decode cX5_leastOf 18 = .ok (.iinc 1 1, 3) := by decide +kernel
theorem dX5_leastOf_21 : decode cX5_leastOf 21 = .ok (.goto (-19), 3) := by decide +kernel
theorem dX5_leastOf_24 : decode cX5_leastOf 24 = .ok (.iconst (-1), 1) := by decide +kernel
theorem dX5_leastOf_25 : decode cX5_leastOf 25 = .ok (.ireturn, 1) := by decide +kernel
