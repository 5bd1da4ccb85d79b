theorem dX7_in_0 : decode cX7_in 0 = .ok (.lload_n 0, 1) := by decide +kernel
theorem dX7_in_1 : decode cX7_in 1 = .ok (.lload_n 2, 1) := by decide +kernel
theorem dX7_in_2 : decode cX7_in 2 = .ok (.lcmp, 1) := by decide +kernel
theorem dX7_in_3 : decode cX7_in 3 = .ok (.ifCond .lt 14, 3) := by decide +kernel
theorem dX7_in_6 : decode cX7_in 6 = .ok (.lload_n 0, 1) := by decide +kernel
theorem dX7_in_7 : decode cX7_in 7 = .ok (.lload 4, 2) := by decide +kernel
theorem dX7_in_9 : decode cX7_in 9 = .ok (.lcmp, 1) := by decide +kernel
theorem dX7_in_10 : decode cX7_in 10 = .ok (.ifCond .gt 7, 3) := by decide +kernel
theorem dX7_in_13 : decode cX7_in 13 = .ok (.iconst 1, 1) := by decide +kernel
theorem dX7_in_14 : decode cX7_in 14 = .ok (.goto 4, 3) := by decide +kernel
theorem dX7_in_17 : decode cX7_in 17 = .ok (.iconst 0, 1) := by decide +kernel
theorem dX7_in_18 : decode cX7_in 18 = .ok (.ireturn, 1) := by decide +kernel
set_option maxRecDepth 20000 in
theorem ggX7_init_X6_init : GoodIn wsX7_init wsX6_init := goodIn_r _ [27, 28, 2, 3, 7, 29, 52, 53, 54, 55, 56, 57, 58] (by rfl) (by decide +kernel)
set_option maxRecDepth 20000 in
theorem gX7_init_X6_init_n67 : GoodIn wsX7_init (wsX6_init) := ggX7_init_X6_init
set_option maxRecDepth 20000 in
theorem ggX7_init_J7_fill_53178 : GoodIn wsX7_init wsJ7_fill_53178 := goodIn_r _ [33] (by rfl) (by decide +kernel)
set_option maxRecDepth 20000 in
theorem gX7_init_J7_fill_53178 : GoodIn wsX7_init (va_wsS RX7 68 yJ7_fill_53178 wsJ7_fill_53178) := goodIn_app (goodIn_of _ (by decide +kernel)) ggX7_init_J7_fill_53178
theorem dX7_init_0 : decode cX7_init 0 = .ok (.aload_n 0, 1) := by decide +kernel
theorem dX7_init_1 : decode cX7_init 1 = .ok (.invokespecial 1, 3) := by decide +kernel
theorem dX7_init_4 : decode cX7_init 4 = .ok (.aload_n 0, 1) := by decide +kernel
theorem dX7_init_5 : decode cX7_init 5 = .ok (.iconst 4, 1) := by decide +kernel
theorem dX7_init_6 : decode cX7_init 6 = .ok (.iconst 5, 1) := by decide +kernel
theorem dX7_init_7 : decode cX7_init 7 = .ok (.multianewarray 9 2, 4) := by decide +kernel
theorem dX7_init_11 : decode cX7_init 11 = .ok (.putfield 11, 3) := by decide +kernel
theorem dX7_init_14 : decode cX7_init 14 = .ok (.aload_n 0, 1) := by decide +kernel
theorem dX7_init_15 : decode cX7_init 15 = .ok (.iconst 4, 1) := by decide +kernel
theorem dX7_init_16 : decode cX7_init 16 = .ok (.newarray .boolean, 2) := by decide +kernel
theorem dX7_init_18 : decode cX7_init 18 = .ok (.putfield 14, 3) := by decide +kernel
theorem dX7_init_21 : decode cX7_init 21 = .ok (.aload_n 0, 1) := by decide +kernel
theorem dX7_init_22 : decode cX7_init 22 = .ok (.iconst 4, 1) := by decide +kernel
theorem dX7_init_23 : decode cX7_init 23 = .ok (.newarray .int, 2) := by decide +kernel
theorem dX7_init_25 : decode cX7_init 25 = .ok (.putfield 18, 3) := by decide +kernel
theorem dX7_init_28 : decode cX7_init 28 = .ok (.aload_n 0, 1) := by decide +kernel
theorem dX7_init_29 : decode cX7_init 29 = .ok (.iconst 4, 1) := by decide +kernel
theorem dX7_init_30 : decode cX7_init 30 = .ok (.newarray .int, 2) := by decide +kernel
theorem dX7_init_32 : decode cX7_init 32 = .ok (.putfield 22, 3) := by decide +kernel
theorem dX7_init_35 : decode cX7_init 35 = .ok (.aload_n 0, 1) := by decide +kernel
theorem dX7_init_36 : decode cX7_init 36 = .ok (.iconst 4, 1) := by decide +kernel
theorem dX7_init_37 : decode cX7_init 37 = .ok (.newarray .int, 2) := by decide +kernel
theorem dX7_init_39 : decode cX7_init 39 = .ok (.putfield 25, 3) := by decide +kernel
theorem dX7_init_42 : decode cX7_init 42 = .ok (.aload_n 0, 1) := by decide +kernel
theorem dX7_init_43 : decode cX7_init 43 = .ok (.iconst 4, 1) := by decide +kernel
theorem dX7_init_44 : decode cX7_init 44 = .ok (.newarray .int, 2) := by decide +kernel
theorem dX7_init_46 : decode cX7_init 46 = .ok (.putfield 28, 3) := by decide +kernel
theorem dX7_init_49 : decode cX7_init 49 = .ok (.aload_n 0, 1) := by decide +kernel
theorem dX7_init_50 : decode cX7_init 50 = .ok (.iconst 4, 1) := by decide +kernel
theorem dX7_init_51 : decode cX7_init 51 = .ok (.newarray .int, 2) := by decide +kernel
theorem dX7_init_53 : decode cX7_init 53 = .ok (.putfield 31, 3) := by decide +kernel
theorem dX7_init_56 : decode cX7_init 56 = .ok (.aload_n 0, 1) := by decide +kernel
theorem dX7_init_57 : decode cX7_init 57 = .ok (.bipush 6, 2) := by decide +kernel
theorem dX7_init_59 : decode cX7_init 59 = .ok (.newarray .int, 2) := by decide +kernel
theorem dX7_init_61 : decode cX7_init 61 = .ok (.putfield 34, 3) := by decide +kernel
theorem dX7_init_64 : decode cX7_init 64 = .ok (.aload_n 0, 1) := by decide +kernel
theorem dX7_init_65 : decode cX7_init 65 = .ok (.bipush 6, 2) := by decide +kernel
theorem dX7_init_67 : decode cX7_init 67 = .ok (.newarray .int, 2) := by decide +kernel
theorem dX7_init_69 : decode cX7_init 69 = .ok (.putfield 37, 3) := by decide +kernel
theorem dX7_init_72 : decode cX7_init 72 = .ok (.aload_n 0, 1) := by decide +kernel
theorem dX7_init_73 : decode cX7_init 73 = .ok (.bipush 6, 2) := by decide +kernel
theorem dX7_init_75 : decode cX7_init 75 = .ok (.newarray .int, 2) := by decide +kernel
theorem dX7_init_77 : decode cX7_init 77 = .ok (.putfield 40, 3) := by decide +kernel
theorem dX7_init_80 : decode cX7_init 80 = .ok (.aload_n 0, 1) := by decide +kernel
theorem dX7_init_81 : decode cX7_init 81 = .ok (.bipush 6, 2) := by decide +kernel
theorem dX7_init_83 : decode cX7_init 83 = .ok (.newarray .int, 2) := by decide +kernel
theorem dX7_init_85 : decode cX7_init 85 = .ok (.putfield 43, 3) := by decide +kernel
theorem dX7_init_88 : decode cX7_init 88 = .ok (.aload_n 0, 1) := by decide +kernel
theorem dX7_init_89 : decode cX7_init 89 = .ok (.bipush 6, 2) := by decide +kernel
theorem dX7_init_91 : decode cX7_init 91 = .ok (.newarray .int, 2) := by decide +kernel
theorem dX7_init_93 : decode cX7_init 93 = .ok (.putfield 46, 3) := by decide +kernel
theorem dX7_init_96 : decode cX7_init 96 = .ok (.aload_n 0, 1) := by decide +kernel
theorem dX7_init_97 : decode cX7_init 97 = .ok (.iconst 4, 1) := by decide +kernel
theorem dX7_init_98 : decode cX7_init 98 = .ok (.newarray .int, 2) := by decide +kernel
theorem dX7_init_100 : decode cX7_init 100 = .ok (.putfield 49, 3) := by decide +kernel
theorem dX7_init_103 : decode cX7_init 103 = .ok (.aload_n 0, 1) := by decide +kernel
theorem dX7_init_104 : decode cX7_init 104 = .ok (.iconst 4, 1) := by decide +kernel
theorem dX7_init_105 : decode cX7_init 105 = .ok (.newarray .int, 2) := by decide +kernel
theorem dX7_init_107 : decode cX7_init 107 = .ok (.putfield 52, 3) := by decide +kernel
theorem dX7_init_110 : decode cX7_init 110 = .ok (.aload_n 0, 1) := by decide +kernel
theorem dX7_init_111 : decode cX7_init 111 = .ok (.bipush 16, 2) := by decide +kernel
theorem dX7_init_113 : decode cX7_init 113 = .ok (.newarray .int, 2) := by decide +kernel
theorem dX7_init_115 : decode cX7_init 115 = .ok (.putfield 55, 3) := by decide +kernel
theorem dX7_init_118 : decode cX7_init 118 = .ok (.aload_n 0, 1) := by decide +kernel
theorem dX7_init_119 : decode cX7_init 119 = .ok (.bipush 6, 2) := by decide +kernel
theorem dX7_init_121 : decode cX7_init 121 = .ok (.newarray .int, 2) := by decide +kernel
theorem dX7_init_123 : decode cX7_init 123 = .ok (.putfield 58, 3) := by decide +kernel
theorem dX7_init_126 : decode cX7_init 126 = .ok (.aload_n 0, 1) := by decide +kernel
theorem dX7_init_127 : decode cX7_init 127 = .ok (.bipush 31, 2) := by decide +kernel
theorem dX7_init_129 : decode cX7_init 129 = .ok (.putfield 61, 3) := by decide +kernel
theorem dX7_init_132 : decode cX7_init 132 = .ok (.iconst 0, 1) := by decide +kernel
theorem dX7_init_133 : decode cX7_init 133 = .ok (.istore_n 1, 1) := by decide +kernel
theorem dX7_init_134 : decode cX7_init 134 = .ok (.iload_n 1, 1) := by decide +kernel
theorem dX7_init_135 : decode cX7_init 135 = .ok (.iconst 4, 1) := by decide +kernel
theorem dX7_init_136 : decode cX7_init 136 = .ok (.if_icmp .ge 37, 3) := by decide +kernel
theorem dX7_init_139 : decode cX7_init 139 = .ok (.iconst 0, 1) := by decide +kernel
theorem dX7_init_140 : decode cX7_init 140 = .ok (.istore_n 2, 1) := by decide +kernel
theorem dX7_init_141 : decode cX7_init 141 = .ok (.iload_n 2, 1) := by decide +kernel
theorem dX7_init_142 : decode cX7_init 142 = .ok (.iconst 5, 1) := by decide +kernel
theorem dX7_init_143 : decode cX7_init 143 = .ok (.if_icmp .ge 24, 3) := by decide +kernel
theorem dX7_init_146 : decode cX7_init 146 = .ok (.aload_n 0, 1) := by decide +kernel
theorem dX7_init_147 : decode cX7_init 147 = .ok (.getfield 11, 3) := by decide +kernel
theorem dX7_init_150 : decode cX7_init 150 = .ok (.iload_n 1, 1) := by decide +kernel
theorem dX7_init_151 : decode cX7_init 151 = .ok (.aaload, 1) := by decide +kernel
theorem dX7_init_152 : decode cX7_init 152 = .ok (.iload_n 2, 1) := by decide +kernel
theorem dX7_init_153 : decode cX7_init 153 = .ok (.new 65, 3) := by decide +kernel
theorem dX7_init_156 : decode cX7_init 156 = .ok (.dup, 1) := by decide +kernel
theorem dX7_init_157 : decode cX7_init 157 = .ok (.invokespecial 67, 3) := by decide +kernel
theorem dX7_init_160 : decode cX7_init 160 = .ok (.aastore, 1) := by decide +kernel
theorem dX7_init_161 : decode cX7_init 161 = .ok (.iinc 2 1, 3) := by decide +kernel
theorem dX7_init_164 : decode cX7_init 164 = .ok (.goto (-23), 3) := by decide +kernel
theorem dX7_init_167 : decode cX7_init 167 = .ok (.iinc 1 1, 3) := by decide +kernel
theorem dX7_init_170 : decode cX7_init 170 = .ok (.goto (-36), 3) := by decide +kernel
theorem dX7_init_173 : decode cX7_init 173 = .ok (.aload_n 0, 1) := by decide +kernel
theorem dX7_init_174 : decode cX7_init 174 = .ok (.getfield 34, 3) := by decide +kernel
theorem dX7_init_177 : decode cX7_init 177 = .ok (.iconst (-1), 1) := by decide +kernel
theorem dX7_init_178 : decode cX7_init 178 = .ok (.invokestatic 68, 3) := by decide +kernel
theorem dX7_init_181 : decode cX7_init 181 = .ok (.aload_n 0, 1) := by decide +kernel
theorem dX7_init_182 : decode cX7_init 182 = .ok (.getfield 22, 3) := by decide +kernel
theorem dX7_init_185 : decode cX7_init 185 = .ok (.iconst (-1), 1) := by decide +kernel
theorem dX7_init_186 : decode cX7_init 186 = .ok (.invokestatic 68, 3) := by decide +kernel
theorem dX7_init_189 : decode cX7_init 189 = .ok (.return_, 1) := by decide +kernel
set_option maxRecDepth 20000 in
theorem ggX7_isUp_X7_in : GoodIn wsX7_isUp wsX7_in := goodIn_r _ [6] (by rfl) (by decide +kernel)
set_option maxRecDepth 20000 in
theorem gX7_isUp_X7_in : GoodIn wsX7_isUp (va_wsS RX7 76 yX7_in wsX7_in) := goodIn_app (goodIn_of _ (by decide +kernel)) ggX7_isUp_X7_in
theorem dX7_isUp_0 : decode cX7_isUp 0 = .ok (.iload_n 1, 1) := by decide +kernel
theorem dX7_isUp_1 : decode cX7_isUp 1 = .ok (.i2l, 1) := by decide +kernel
theorem dX7_isUp_2 : decode cX7_isUp 2 = .ok (.lconst 0, 1) := by decide +kernel
theorem dX7_isUp_3 : decode cX7_isUp 3 = .ok (.ldc2_w 74, 3) := by decide +kernel
theorem dX7_isUp_6 : decode cX7_isUp 6 = .ok (.invokestatic 76, 3) := by decide +kernel
theorem dX7_isUp_9 : decode cX7_isUp 9 = .ok (.ifCond .eq 19, 3) := by decide +kernel
theorem dX7_isUp_12 : decode cX7_isUp 12 = .ok (.aload_n 0, 1) := by decide +kernel
theorem dX7_isUp_13 : decode cX7_isUp 13 = .ok (.getfield 61, 3) := by decide +kernel
theorem dX7_isUp_16 : decode cX7_isUp 16 = .ok (.iload_n 1, 1) := by decide +kernel
theorem dX7_isUp_17 : decode cX7_isUp 17 = .ok (.ishr, 1) := by decide +kernel
theorem dX7_isUp_18 : decode cX7_isUp 18 = .ok (.iconst 1, 1) := by decide +kernel
theorem dX7_isUp_19 : decode cX7_isUp 19 = .ok (.iand, 1) := by decide +kernel
theorem dX7_isUp_20 : decode cX7_isUp 20 = .ok (.iconst 1, 1) := by decide +kernel
theorem dX7_isUp_21 : decode cX7_isUp 21 = .ok (.if_icmp .ne 7, 3) := by decide +kernel
theorem dX7_isUp_24 : decode cX7_isUp 24 = .ok (.iconst 1, 1) := by decide +kernel
theorem dX7_isUp_25 : decode cX7_isUp 25 = .ok (.goto 4, 3) := by decide +kernel
theorem dX7_isUp_28 : decode cX7_isUp 28 = .ok (.iconst 0, 1) := by decide +kernel
theorem dX7_isUp_29 : decode cX7_isUp 29 = .ok (.ireturn, 1) := by decide +kernel
set_option maxRecDepth 20000 in
theorem ggX7_isThere_X7_in : GoodIn wsX7_isThere wsX7_in := goodIn_r _ [6] (by rfl) (by decide +kernel)
set_option maxRecDepth 20000 in
theorem gX7_isThere_X7_in : GoodIn wsX7_isThere (va_wsS RX7 76 yX7_in wsX7_in) := goodIn_app (goodIn_of _ (by decide +kernel)) ggX7_isThere_X7_in
theorem dX7_isThere_0 : decode cX7_isThere 0 = .ok (.iload_n 1, 1) := by decide +kernel
theorem dX7_isThere_1 : decode cX7_isThere 1 = .ok (.i2l, 1) := by decide +kernel
theorem dX7_isThere_2 : decode cX7_isThere 2 = .ok (.lconst 0, 1) := by decide +kernel
theorem dX7_isThere_3 : decode cX7_isThere 3 = .ok (.ldc2_w 80, 3) := by decide +kernel
theorem dX7_isThere_6 : decode cX7_isThere 6 = .ok (.invokestatic 76, 3) := by decide +kernel
theorem dX7_isThere_9 : decode cX7_isThere 9 = .ok (.ifCond .eq 16, 3) := by decide +kernel
theorem dX7_isThere_12 : decode cX7_isThere 12 = .ok (.aload_n 0, 1) := by decide +kernel
theorem dX7_isThere_13 : decode cX7_isThere 13 = .ok (.getfield 14, 3) := by decide +kernel
theorem dX7_isThere_16 : decode cX7_isThere 16 = .ok (.iload_n 1, 1) := by decide +kernel
theorem dX7_isThere_17 : decode cX7_isThere 17 = .ok (.baload, 1) := by decide +kernel
theorem dX7_isThere_18 : decode cX7_isThere 18 = .ok (.ifCond .eq 7, 3) := by decide +kernel
theorem dX7_isThere_21 : decode cX7_isThere 21 = .ok (.iconst 1, 1) := by decide +kernel
theorem dX7_isThere_22 : decode cX7_isThere 22 = .ok (.goto 4, 3) := by decide +kernel
theorem dX7_isThere_25 : decode cX7_isThere 25 = .ok (.iconst 0, 1) := by decide +kernel
theorem dX7_isThere_26 : decode cX7_isThere 26 = .ok (.ireturn, 1) := by decide +kernel
set_option maxRecDepth 20000 in
theorem ggX7_isReplica_X7_isThere : GoodIn wsX7_isReplica wsX7_isThere := goodIn_r _ [7, 8, 9, 10, 11, 6, 12, 13, 14, 15, 16, 17, 18, 19, 20, 21, 22, 23, 24, 25, 26, 27, 28, 29, 30] (by rfl) (by decide +kernel)
set_option maxRecDepth 20000 in
theorem gX7_isReplica_X7_isThere : GoodIn wsX7_isReplica (wsV RX7 82 RX7 yX7_isThere wsX7_isThere) := goodIn_app (goodIn_of _ (by decide +kernel)) ggX7_isReplica_X7_isThere
set_option maxRecDepth 20000 in
theorem ggX7_isReplica_X7_in : GoodIn wsX7_isReplica wsX7_in := goodIn_r _ [12] (by rfl) (by decide +kernel)
set_option maxRecDepth 20000 in
theorem gX7_isReplica_X7_in : GoodIn wsX7_isReplica (va_wsS RX7 76 yX7_in wsX7_in) := goodIn_app (goodIn_of _ (by decide +kernel)) ggX7_isReplica_X7_in
theorem dX7_isReplica_0 : decode cX7_isReplica 0 = .ok (.aload_n 0, 1) := by decide +kernel
theorem dX7_isReplica_1 : decode cX7_isReplica 1 = .ok (.iload_n 2, 1) := by decide +kernel
theorem dX7_isReplica_2 : decode cX7_isReplica 2 = .ok (.invokevirtual 82, 3) := by decide +kernel
theorem dX7_isReplica_5 : decode cX7_isReplica 5 = .ok (.ifCond .eq 33, 3) := by decide +kernel
theorem dX7_isReplica_8 : decode cX7_isReplica 8 = .ok (.iload_n 1, 1) := by decide +kernel
theorem dX7_isReplica_9 : decode cX7_isReplica 9 = .ok (.i2l, 1) := by decide +kernel
theorem dX7_isReplica_10 : decode cX7_isReplica 10 = .ok (.lconst 0, 1) := by decide +kernel
theorem dX7_isReplica_11 : decode cX7_isReplica 11 = .ok (.ldc2_w 74, 3) := by decide +kernel
theorem dX7_isReplica_14 : decode cX7_isReplica 14 = .ok (.invokestatic 76, 3) := by decide +kernel
theorem dX7_isReplica_17 : decode cX7_isReplica 17 = .ok (.ifCond .eq 21, 3) := by decide +kernel
theorem dX7_isReplica_20 : decode cX7_isReplica 20 = .ok (.aload_n 0, 1) := by decide +kernel
theorem dX7_isReplica_21 : decode cX7_isReplica 21 = .ok (.getfield 18, 3) := by decide +kernel
theorem dX7_isReplica_24 : decode cX7_isReplica 24 = .ok (.iload_n 2, 1) := by decide +kernel
theorem dX7_isReplica_25 : decode cX7_isReplica 25 = .ok (.iaload, 1) := by decide +kernel
theorem dX7_isReplica_26 : decode cX7_isReplica 26 = .ok (.iload_n 1, 1) := by decide +kernel
theorem dX7_isReplica_27 : decode cX7_isReplica 27 = .ok (.ishr, 1) := by decide +kernel
theorem dX7_isReplica_28 : decode cX7_isReplica 28 = .ok (.iconst 1, 1) := by decide +kernel
theorem dX7_isReplica_29 : decode cX7_isReplica 29 = .ok (.iand, 1) := by decide +kernel
theorem dX7_isReplica_30 : decode cX7_isReplica 30 = .ok (.iconst 1, 1) := by decide +kernel
theorem dX7_isReplica_31 : decode cX7_isReplica 31 = .ok (.if_icmp .ne 7, 3) := by decide +kernel
theorem dX7_isReplica_34 : decode cX7_isReplica 34 = .ok (.iconst 1, 1) := by decide +kernel
theorem dX7_isReplica_35 : decode cX7_isReplica 35 = .ok (.goto 4, 3) := by decide +kernel
theorem dX7_isReplica_38 : decode cX7_isReplica 38 = .ok (.iconst 0, 1) := by decide +kernel
theorem dX7_isReplica_39 : decode cX7_isReplica 39 = .ok (.ireturn, 1) := by decide +kernel
set_option maxRecDepth 20000 in
theorem ggX7_own_X7_isUp : GoodIn wsX7_own wsX7_isUp := goodIn_r _ [7, 8, 9, 10, 11, 6, 12, 13, 14, 15, 16, 17, 18, 19, 20, 21, 22, 23, 24, 25, 26, 27, 28, 29, 30] (by rfl) (by decide +kernel)
set_option maxRecDepth 20000 in
theorem gX7_own_X7_isUp : GoodIn wsX7_own (wsV RX7 86 RX7 yX7_isUp wsX7_isUp) := goodIn_app (goodIn_of _ (by decide +kernel)) ggX7_own_X7_isUp
theorem dX7_own_0 : decode cX7_own 0 = .ok (.aload_n 0, 1) := by decide +kernel
theorem dX7_own_1 : decode cX7_own 1 = .ok (.getfield 22, 3) := by decide +kernel
theorem dX7_own_4 : decode cX7_own 4 = .ok (.iload_n 1, 1) := by decide +kernel
theorem dX7_own_5 : decode cX7_own 5 = .ok (.iaload, 1) := by decide +kernel
theorem dX7_own_6 : decode cX7_own 6 = .ok (.ifCond .lt 32, 3) := by decide +kernel
theorem dX7_own_9 : decode cX7_own 9 = .ok (.aload_n 0, 1) := by decide +kernel
theorem dX7_own_10 : decode cX7_own 10 = .ok (.aload_n 0, 1) := by decide +kernel
theorem dX7_own_11 : decode cX7_own 11 = .ok (.getfield 22, 3) := by decide +kernel
theorem dX7_own_14 : decode cX7_own 14 = .ok (.iload_n 1, 1) := by decide +kernel
theorem dX7_own_15 : decode cX7_own 15 = .ok (.iaload, 1) := by decide +kernel
theorem dX7_own_16 : decode cX7_own 16 = .ok (.invokevirtual 86, 3) := by decide +kernel
theorem dX7_own_19 : decode cX7_own 19 = .ok (.ifCond .eq 19, 3) := by decide +kernel
theorem dX7_own_22 : decode cX7_own 22 = .ok (.aload_n 0, 1) := by decide +kernel
theorem dX7_own_23 : decode cX7_own 23 = .ok (.getfield 11, 3) := by decide +kernel
theorem dX7_own_26 : decode cX7_own 26 = .ok (.iload_n 1, 1) := by decide +kernel
theorem dX7_own_27 : decode cX7_own 27 = .ok (.aaload, 1) := by decide +kernel
theorem dX7_own_28 : decode cX7_own 28 = .ok (.aload_n 0, 1) := by decide +kernel
theorem dX7_own_29 : decode cX7_own 29 = .ok (.getfield 22, 3) := by decide +kernel
theorem dX7_own_32 : decode cX7_own 32 = .ok (.iload_n 1, 1) := by decide +kernel
theorem dX7_own_33 : decode cX7_own 33 = .ok (.iaload, 1) := by decide +kernel
theorem dX7_own_34 : decode cX7_own 34 = .ok (.aaload, 1) := by decide +kernel
theorem dX7_own_35 : decode cX7_own 35 = .ok (.goto 4, 3) := by decide +kernel
theorem dX7_own_38 : decode cX7_own 38 = .ok (.aconst_null, 1) := by decide +kernel
theorem dX7_own_39 : decode cX7_own 39 = .ok (.areturn, 1) := by decide +kernel
theorem dX7_known_0 : decode cX7_known 0 = .ok (.iload_n 2, 1) := by decide +kernel
theorem dX7_known_1 : decode cX7_known 1 = .ok (.aload_n 0, 1) := by decide +kernel
theorem dX7_known_2 : decode cX7_known 2 = .ok (.getfield 22, 3) := by decide +kernel
theorem dX7_known_5 : decode cX7_known 5 = .ok (.iload_n 1, 1) := by decide +kernel
theorem dX7_known_6 : decode cX7_known 6 = .ok (.iaload, 1) := by decide +kernel
theorem dX7_known_7 : decode cX7_known 7 = .ok (.if_icmp .ne 17, 3) := by decide +kernel
theorem dX7_known_10 : decode cX7_known 10 = .ok (.aload_n 0, 1) := by decide +kernel
theorem dX7_known_11 : decode cX7_known 11 = .ok (.getfield 11, 3) := by decide +kernel
theorem dX7_known_14 : decode cX7_known 14 = .ok (.iload_n 1, 1) := by decide +kernel
theorem dX7_known_15 : decode cX7_known 15 = .ok (.aaload, 1) := by decide +kernel
theorem dX7_known_16 : decode cX7_known 16 = .ok (.iload_n 2, 1) := by decide +kernel
theorem dX7_known_17 : decode cX7_known 17 = .ok (.aaload, 1) := by decide +kernel
theorem dX7_known_18 : decode cX7_known 18 = .ok (.getfield 89, 3) := by decide +kernel
theorem dX7_known_21 : decode cX7_known 21 = .ok (.goto 14, 3) := by decide +kernel
theorem dX7_known_24 : decode cX7_known 24 = .ok (.aload_n 0, 1) := by decide +kernel
theorem dX7_known_25 : decode cX7_known 25 = .ok (.getfield 11, 3) := by decide +kernel
theorem dX7_known_28 : decode cX7_known 28 = .ok (.iload_n 1, 1) := by decide +kernel
theorem dX7_known_29 : decode cX7_known 29 = .ok (.aaload, 1) := by decide +kernel
theorem dX7_known_30 : decode cX7_known 30 = .ok (.iload_n 2, 1) := by decide +kernel
theorem dX7_known_31 : decode cX7_known 31 = .ok (.aaload, 1) := by decide +kernel
theorem dX7_known_32 : decode cX7_known 32 = .ok (.getfield 92, 3) := by decide +kernel
theorem dX7_known_35 : decode cX7_known 35 = .ok (.ireturn, 1) := by decide +kernel
set_option maxRecDepth 20000 in
theorem ggX7_rise_X7_own : GoodIn wsX7_rise wsX7_own := goodIn_r _ [12, 13, 14, 15, 16, 17, 11, 18, 19, 20, 21, 22, 23, 30, 31, 32, 33, 34, 35, 36, 37, 38, 39, 40, 41, 42, 43, 44, 45, 46, 47] (by rfl) (by decide +kernel)
set_option maxRecDepth 20000 in
theorem gX7_rise_X7_own : GoodIn wsX7_rise (wsV RX7 95 RX7 yX7_own wsX7_own) := goodIn_app (goodIn_of _ (by decide +kernel)) ggX7_rise_X7_own
set_option maxRecDepth 20000 in
theorem ggX7_rise_X7_known : GoodIn wsX7_rise wsX7_known := goodIn_r _ [27, 13, 14, 28, 29, 30, 31, 32, 33, 34, 35, 36, 37, 38, 39, 40, 41, 42, 43, 44, 45, 46, 47, 48, 49, 50, 51, 52, 53, 54] (by rfl) (by decide +kernel)
set_option maxRecDepth 20000 in
theorem gX7_rise_X7_known : GoodIn wsX7_rise (wsV RX7 102 RX7 yX7_known wsX7_known) := goodIn_app (goodIn_of _ (by decide +kernel)) ggX7_rise_X7_known
theorem dX7_rise_0 : decode cX7_rise 0 = .ok (.aload_n 0, 1) := by decide +kernel
theorem dX7_rise_1 : decode cX7_rise 1 = .ok (.iload_n 1, 1) := by decide +kernel
theorem dX7_rise_2 : decode cX7_rise 2 = .ok (.invokevirtual 95, 3) := by decide +kernel
theorem dX7_rise_5 : decode cX7_rise 5 = .ok (.astore_n 2, 1) := by decide +kernel
theorem dX7_rise_6 : decode cX7_rise 6 = .ok (.aload_n 2, 1) := by decide +kernel
theorem dX7_rise_7 : decode cX7_rise 7 = .ok (.ifnonnull 4, 3) := by decide +kernel
theorem dX7_rise_10 : decode cX7_rise 10 = .ok (.return_, 1) := by decide +kernel
theorem dX7_rise_11 : decode cX7_rise 11 = .ok (.ldc 101, 2) := by decide +kernel
theorem dX7_rise_13 : decode cX7_rise 13 = .ok (.istore_n 3, 1) := by decide +kernel
theorem dX7_rise_14 : decode cX7_rise 14 = .ok (.iconst 0, 1) := by decide +kernel
theorem dX7_rise_15 : decode cX7_rise 15 = .ok (.istore 4, 2) := by decide +kernel
theorem dX7_rise_17 : decode cX7_rise 17 = .ok (.iload 4, 2) := by decide +kernel
theorem dX7_rise_19 : decode cX7_rise 19 = .ok (.iconst 5, 1) := by decide +kernel
theorem dX7_rise_20 : decode cX7_rise 20 = .ok (.if_icmp .ge 36, 3) := by decide +kernel
theorem dX7_rise_23 : decode cX7_rise 23 = .ok (.aload_n 0, 1) := by decide +kernel
theorem dX7_rise_24 : decode cX7_rise 24 = .ok (.getfield 31, 3) := by decide +kernel
theorem dX7_rise_27 : decode cX7_rise 27 = .ok (.iload_n 1, 1) := by decide +kernel
theorem dX7_rise_28 : decode cX7_rise 28 = .ok (.iaload, 1) := by decide +kernel
theorem dX7_rise_29 : decode cX7_rise 29 = .ok (.iload 4, 2) := by decide +kernel
theorem dX7_rise_31 : decode cX7_rise 31 = .ok (.ishr, 1) := by decide +kernel
theorem dX7_rise_32 : decode cX7_rise 32 = .ok (.iconst 1, 1) := by decide +kernel
theorem dX7_rise_33 : decode cX7_rise 33 = .ok (.iand, 1) := by decide +kernel
theorem dX7_rise_34 : decode cX7_rise 34 = .ok (.iconst 1, 1) := by decide +kernel
theorem dX7_rise_35 : decode cX7_rise 35 = .ok (.if_icmp .ne 15, 3) := by decide +kernel
theorem dX7_rise_38 : decode cX7_rise 38 = .ok (.iload_n 3, 1) := by decide +kernel
theorem dX7_rise_39 : decode cX7_rise 39 = .ok (.aload_n 0, 1) := by decide +kernel
theorem dX7_rise_40 : decode cX7_rise 40 = .ok (.iload_n 1, 1) := by decide +kernel
theorem dX7_rise_41 : decode cX7_rise 41 = .ok (.iload 4, 2) := by decide +kernel
theorem dX7_rise_43 : decode cX7_rise 43 = .ok (.invokevirtual 102, 3) := by decide +kernel
theorem dX7_rise_46 : decode cX7_rise 46 = .ok (.invokestatic 105, 3) := by decide +kernel
theorem dX7_rise_49 : decode cX7_rise 49 = .ok (.istore_n 3, 1) := by decide +kernel
theorem dX7_rise_50 : decode cX7_rise 50 = .ok (.iinc 4 1, 3) := by decide +kernel
theorem dX7_rise_53 : decode cX7_rise 53 = .ok (.goto (-36), 3) := by decide +kernel
theorem dX7_rise_56 : decode cX7_rise 56 = .ok (.iload_n 3, 1) := by decide +kernel
theorem dX7_rise_57 : decode cX7_rise 57 = .ok (.ldc 101, 2) := by decide +kernel
theorem dX7_rise_59 : decode cX7_rise 59 = .ok (.if_icmp .eq 16, 3) := by decide +kernel
theorem dX7_rise_62 : decode cX7_rise 62 = .ok (.iload_n 3, 1) := by decide +kernel
theorem dX7_rise_63 : decode cX7_rise 63 = .ok (.aload_n 2, 1) := by decide +kernel
theorem dX7_rise_64 : decode cX7_rise 64 = .ok (.getfield 109, 3) := by decide +kernel
theorem dX7_rise_67 : decode cX7_rise 67 = .ok (.if_icmp .le 8, 3) := by decide +kernel
theorem dX7_rise_70 : decode cX7_rise 70 = .ok (.aload_n 2, 1) := by decide +kernel
theorem dX7_rise_71 : decode cX7_rise 71 = .ok (.iload_n 3, 1) := by decide +kernel
theorem dX7_rise_72 : decode cX7_rise 72 = .ok (.putfield 109, 3) := by decide +kernel
theorem dX7_rise_75 : decode cX7_rise 75 = .ok (.return_, 1) := by decide +kernel
set_option maxRecDepth 20000 in
theorem ggX7_create_X7_in : GoodIn wsX7_create wsX7_in := goodIn_r _ [16] (by rfl) (by decide +kernel)
set_option maxRecDepth 20000 in
theorem gX7_create_X7_in : GoodIn wsX7_create (va_wsS RX7 76 yX7_in wsX7_in) := goodIn_app (goodIn_of _ (by decide +kernel)) ggX7_create_X7_in
set_option maxRecDepth 20000 in
theorem ggX7_create_J6_bitCount_0f7a4 : GoodIn wsX7_create wsJ6_bitCount_0f7a4 := goodIn_r _ [20, 21, 22, 23] (by rfl) (by decide +kernel)
set_option maxRecDepth 20000 in
theorem gX7_create_J6_bitCount_0f7a4 : GoodIn wsX7_create (va_wsS RX7 112 yJ6_bitCount_0f7a4 wsJ6_bitCount_0f7a4) := goodIn_app (goodIn_of _ (by decide +kernel)) ggX7_create_J6_bitCount_0f7a4
set_option maxRecDepth 20000 in
theorem ggX7_create_J6_numberOfTrailingZeros_0f7a4 : GoodIn wsX7_create wsJ6_numberOfTrailingZeros_0f7a4 := goodIn_r _ [26, 27] (by rfl) (by decide +kernel)
set_option maxRecDepth 20000 in
theorem gX7_create_J6_numberOfTrailingZeros_0f7a4 : GoodIn wsX7_create (va_wsS RX7 116 yJ6_numberOfTrailingZeros_0f7a4 wsJ6_numberOfTrailingZeros_0f7a4) := goodIn_app (goodIn_of _ (by decide +kernel)) ggX7_create_J6_numberOfTrailingZeros_0f7a4
theorem dX7_create_0 : decode cX7_create 0 = .ok (.iload_n 2, 1) := by decide +kernel
theorem dX7_create_1 : decode cX7_create 1 = .ok (.bipush 31, 2) := by decide +kernel
theorem dX7_create_3 : decode cX7_create 3 = .ok (.iand, 1) := by decide +kernel
theorem dX7_create_4 : decode cX7_create 4 = .ok (.istore 4, 2) := by decide +kernel
theorem dX7_create_6 : decode cX7_create 6 = .ok (.iload_n 1, 1) := by decide +kernel
theorem dX7_create_7 : decode cX7_create 7 = .ok (.i2l, 1) := by decide +kernel
theorem dX7_create_8 : decode cX7_create 8 = .ok (.lconst 0, 1) := by decide +kernel
theorem dX7_create_9 : decode cX7_create 9 = .ok (.ldc2_w 80, 3) := by decide +kernel
theorem dX7_create_12 : decode cX7_create 12 = .ok (.invokestatic 76, 3) := by decide +kernel
theorem dX7_create_15 : decode cX7_create 15 = .ok (.ifCond .eq 27, 3) := by decide +kernel
theorem dX7_create_18 : decode cX7_create 18 = .ok (.aload_n 0, 1) := by decide +kernel
theorem dX7_create_19 : decode cX7_create 19 = .ok (.getfield 14, 3) := by decide +kernel
theorem dX7_create_22 : decode cX7_create 22 = .ok (.iload_n 1, 1) := by decide +kernel
theorem dX7_create_23 : decode cX7_create 23 = .ok (.baload, 1) := by decide +kernel
theorem dX7_create_24 : decode cX7_create 24 = .ok (.ifCond .ne 18, 3) := by decide +kernel
theorem dX7_create_27 : decode cX7_create 27 = .ok (.iload_n 3, 1) := by decide +kernel
theorem dX7_create_28 : decode cX7_create 28 = .ok (.i2l, 1) := by decide +kernel
theorem dX7_create_29 : decode cX7_create 29 = .ok (.lconst 1, 1) := by decide +kernel
theorem dX7_create_30 : decode cX7_create 30 = .ok (.iload 4, 2) := by decide +kernel
theorem dX7_create_32 : decode cX7_create 32 = .ok (.invokestatic 112, 3) := by decide +kernel
theorem dX7_create_35 : decode cX7_create 35 = .ok (.i2l, 1) := by decide +kernel
theorem dX7_create_36 : decode cX7_create 36 = .ok (.invokestatic 76, 3) := by decide +kernel
theorem dX7_create_39 : decode cX7_create 39 = .ok (.ifCond .ne 5, 3) := by decide +kernel
theorem dX7_create_42 : decode cX7_create 42 = .ok (.iconst (-1), 1) := by decide +kernel
theorem dX7_create_43 : decode cX7_create 43 = .ok (.ireturn, 1) := by decide +kernel
theorem dX7_create_44 : decode cX7_create 44 = .ok (.iload 4, 2) := by decide +kernel
theorem dX7_create_46 : decode cX7_create 46 = .ok (.aload_n 0, 1) := by decide +kernel
theorem dX7_create_47 : decode cX7_create 47 = .ok (.getfield 61, 3) := by decide +kernel
theorem dX7_create_50 : decode cX7_create 50 = .ok (.iand, 1) := by decide +kernel
theorem dX7_create_51 : decode cX7_create 51 = .ok (.ifCond .ne 6, 3) := by decide +kernel
theorem dX7_create_54 : decode cX7_create 54 = .ok (.bipush (-2), 2) := by decide +kernel
theorem dX7_create_56 : decode cX7_create 56 = .ok (.ireturn, 1) := by decide +kernel
theorem dX7_create_57 : decode cX7_create 57 = .ok (.aload_n 0, 1) := by decide +kernel
theorem dX7_create_58 : decode cX7_create 58 = .ok (.getfield 14, 3) := by decide +kernel
theorem dX7_create_61 : decode cX7_create 61 = .ok (.iload_n 1, 1) := by decide +kernel
theorem dX7_create_62 : decode cX7_create 62 = .ok (.iconst 1, 1) := by decide +kernel
theorem dX7_create_63 : decode cX7_create 63 = .ok (.bastore, 1) := by decide +kernel
theorem dX7_create_64 : decode cX7_create 64 = .ok (.aload_n 0, 1) := by decide +kernel
theorem dX7_create_65 : decode cX7_create 65 = .ok (.getfield 18, 3) := by decide +kernel
theorem dX7_create_68 : decode cX7_create 68 = .ok (.iload_n 1, 1) := by decide +kernel
theorem dX7_create_69 : decode cX7_create 69 = .ok (.iload 4, 2) := by decide +kernel
theorem dX7_create_71 : decode cX7_create 71 = .ok (.iastore, 1) := by decide +kernel
theorem dX7_create_72 : decode cX7_create 72 = .ok (.aload_n 0, 1) := by decide +kernel
theorem dX7_create_73 : decode cX7_create 73 = .ok (.getfield 28, 3) := by decide +kernel
theorem dX7_create_76 : decode cX7_create 76 = .ok (.iload_n 1, 1) := by decide +kernel
theorem dX7_create_77 : decode cX7_create 77 = .ok (.iload_n 3, 1) := by decide +kernel
theorem dX7_create_78 : decode cX7_create 78 = .ok (.iastore, 1) := by decide +kernel
theorem dX7_create_79 : decode cX7_create 79 = .ok (.aload_n 0, 1) := by decide +kernel
theorem dX7_create_80 : decode cX7_create 80 = .ok (.getfield 25, 3) := by decide +kernel
theorem dX7_create_83 : decode cX7_create 83 = .ok (.iload_n 1, 1) := by decide +kernel
theorem dX7_create_84 : decode cX7_create 84 = .ok (.iconst 0, 1) := by decide +kernel
theorem dX7_create_85 : decode cX7_create 85 = .ok (.iastore, 1) := by decide +kernel
theorem dX7_create_86 : decode cX7_create 86 = .ok (.aload_n 0, 1) := by decide +kernel
theorem dX7_create_87 : decode cX7_create 87 = .ok (.getfield 31, 3) := by decide +kernel
theorem dX7_create_90 : decode cX7_create 90 = .ok (.iload_n 1, 1) := by decide +kernel
theorem dX7_create_91 : decode cX7_create 91 = .ok (.iload 4, 2) := by decide +kernel
theorem dX7_create_93 : decode cX7_create 93 = .ok (.aload_n 0, 1) := by decide +kernel
theorem dX7_create_94 : decode cX7_create 94 = .ok (.getfield 61, 3) := by decide +kernel
theorem dX7_create_97 : decode cX7_create 97 = .ok (.iand, 1) := by decide +kernel
theorem dX7_create_98 : decode cX7_create 98 = .ok (.iastore, 1) := by decide +kernel
theorem dX7_create_99 : decode cX7_create 99 = .ok (.aload_n 0, 1) := by decide +kernel
theorem dX7_create_100 : decode cX7_create 100 = .ok (.getfield 22, 3) := by decide +kernel
theorem dX7_create_103 : decode cX7_create 103 = .ok (.iload_n 1, 1) := by decide +kernel
theorem dX7_create_104 : decode cX7_create 104 = .ok (.aload_n 0, 1) := by decide +kernel
theorem dX7_create_105 : decode cX7_create 105 = .ok (.getfield 31, 3) := by decide +kernel
theorem dX7_create_108 : decode cX7_create 108 = .ok (.iload_n 1, 1) := by decide +kernel
theorem dX7_create_109 : decode cX7_create 109 = .ok (.iaload, 1) := by decide +kernel
theorem dX7_create_110 : decode cX7_create 110 = .ok (.invokestatic 116, 3) := by decide +kernel
theorem dX7_create_113 : decode cX7_create 113 = .ok (.iastore, 1) := by decide +kernel
theorem dX7_create_114 : decode cX7_create 114 = .ok (.iconst 0, 1) := by decide +kernel
theorem dX7_create_115 : decode cX7_create 115 = .ok (.istore 5, 2) := by decide +kernel
theorem dX7_create_117 : decode cX7_create 117 = .ok (.iload 5, 2) := by decide +kernel
theorem dX7_create_119 : decode cX7_create 119 = .ok (.iconst 5, 1) := by decide +kernel
theorem dX7_create_120 : decode cX7_create 120 = .ok (.if_icmp .ge 38, 3) := by decide +kernel
theorem dX7_create_123 : decode cX7_create 123 = .ok (.aload_n 0, 1) := by decide +kernel
theorem dX7_create_124 : decode cX7_create 124 = .ok (.getfield 11, 3) := by decide +kernel
theorem dX7_create_127 : decode cX7_create 127 = .ok (.iload_n 1, 1) := by decide +kernel
theorem dX7_create_128 : decode cX7_create 128 = .ok (.aaload, 1) := by decide +kernel
theorem dX7_create_129 : decode cX7_create 129 = .ok (.iload 5, 2) := by decide +kernel
theorem dX7_create_131 : decode cX7_create 131 = .ok (.aaload, 1) := by decide +kernel
theorem dX7_create_132 : decode cX7_create 132 = .ok (.aload_n 0, 1) := by decide +kernel
theorem dX7_create_133 : decode cX7_create 133 = .ok (.getfield 119, 3) := by decide +kernel
theorem dX7_create_136 : decode cX7_create 136 = .ok (.putfield 122, 3) := by decide +kernel
theorem dX7_create_139 : decode cX7_create 139 = .ok (.aload_n 0, 1) := by decide +kernel
theorem dX7_create_140 : decode cX7_create 140 = .ok (.getfield 11, 3) := by decide +kernel
theorem dX7_create_143 : decode cX7_create 143 = .ok (.iload_n 1, 1) := by decide +kernel
theorem dX7_create_144 : decode cX7_create 144 = .ok (.aaload, 1) := by decide +kernel
theorem dX7_create_145 : decode cX7_create 145 = .ok (.iload 5, 2) := by decide +kernel
theorem dX7_create_147 : decode cX7_create 147 = .ok (.aaload, 1) := by decide +kernel
theorem dX7_create_148 : decode cX7_create 148 = .ok (.iconst 0, 1) := by decide +kernel
theorem dX7_create_149 : decode cX7_create 149 = .ok (.putfield 92, 3) := by decide +kernel
theorem dX7_create_152 : decode cX7_create 152 = .ok (.iinc 5 1, 3) := by decide +kernel
theorem dX7_create_155 : decode cX7_create 155 = .ok (.goto (-38), 3) := by decide +kernel
theorem dX7_create_158 : decode cX7_create 158 = .ok (.aload_n 0, 1) := by decide +kernel
theorem dX7_create_159 : decode cX7_create 159 = .ok (.getfield 22, 3) := by decide +kernel
theorem dX7_create_162 : decode cX7_create 162 = .ok (.iload_n 1, 1) := by decide +kernel
theorem dX7_create_163 : decode cX7_create 163 = .ok (.iaload, 1) := by decide +kernel
theorem dX7_create_164 : decode cX7_create 164 = .ok (.ireturn, 1) := by decide +kernel
set_option maxRecDepth 20000 in
theorem ggX7_elect_X7_isThere : GoodIn wsX7_elect wsX7_isThere := goodIn_r _ [14, 15, 16, 17, 18, 13, 19, 49, 50, 51, 52, 53, 54, 55, 56, 57, 58, 59, 60, 61, 62, 63, 64, 65, 66] (by rfl) (by decide +kernel)
set_option maxRecDepth 20000 in
theorem gX7_elect_X7_isThere : GoodIn wsX7_elect (wsV RX7 82 RX7 yX7_isThere wsX7_isThere) := goodIn_app (goodIn_of _ (by decide +kernel)) ggX7_elect_X7_isThere
set_option maxRecDepth 20000 in
theorem ggX7_elect_J6_numberOfTrailingZeros_0f7a4 : GoodIn wsX7_elect wsJ6_numberOfTrailingZeros_0f7a4 := goodIn_r _ [23, 24] (by rfl) (by decide +kernel)
set_option maxRecDepth 20000 in
theorem gX7_elect_J6_numberOfTrailingZeros_0f7a4 : GoodIn wsX7_elect (va_wsS RX7 116 yJ6_numberOfTrailingZeros_0f7a4 wsJ6_numberOfTrailingZeros_0f7a4) := goodIn_app (goodIn_of _ (by decide +kernel)) ggX7_elect_J6_numberOfTrailingZeros_0f7a4
set_option maxRecDepth 20000 in
theorem ggX7_elect_X7_rise : GoodIn wsX7_elect wsX7_rise := goodIn_r _ [28, 29, 1, 30, 31, 32, 33, 34, 35, 36, 37, 13, 38, 4, 6, 39, 40, 41, 42, 43, 2, 17, 18, 19, 44, 45, 46, 47, 48, 7, 49, 50, 51, 52, 53, 54, 55, 56, 57, 58, 59, 60, 61, 62, 63, 64, 65, 66, 67, 68, 69, 70, 71, 72, 73] (by rfl) (by decide +kernel)
set_option maxRecDepth 20000 in
theorem gX7_elect_X7_rise : GoodIn wsX7_elect (wsV RX7 125 RX7 yX7_rise wsX7_rise) := goodIn_app (goodIn_of _ (by decide +kernel)) ggX7_elect_X7_rise
theorem dX7_elect_0 : decode cX7_elect 0 = .ok (.aload_n 0, 1) := by decide +kernel
theorem dX7_elect_1 : decode cX7_elect 1 = .ok (.iload_n 1, 1) := by decide +kernel
theorem dX7_elect_2 : decode cX7_elect 2 = .ok (.invokevirtual 82, 3) := by decide +kernel
theorem dX7_elect_5 : decode cX7_elect 5 = .ok (.ifCond .ne 5, 3) := by decide +kernel
theorem dX7_elect_8 : decode cX7_elect 8 = .ok (.iconst (-1), 1) := by decide +kernel
theorem dX7_elect_9 : decode cX7_elect 9 = .ok (.ireturn, 1) := by decide +kernel
theorem dX7_elect_10 : decode cX7_elect 10 = .ok (.aload_n 0, 1) := by decide +kernel
theorem dX7_elect_11 : decode cX7_elect 11 = .ok (.getfield 31, 3) := by decide +kernel
theorem dX7_elect_14 : decode cX7_elect 14 = .ok (.iload_n 1, 1) := by decide +kernel
theorem dX7_elect_15 : decode cX7_elect 15 = .ok (.iaload, 1) := by decide +kernel
theorem dX7_elect_16 : decode cX7_elect 16 = .ok (.aload_n 0, 1) := by decide +kernel
theorem dX7_elect_17 : decode cX7_elect 17 = .ok (.getfield 61, 3) := by decide +kernel
theorem dX7_elect_20 : decode cX7_elect 20 = .ok (.iand, 1) := by decide +kernel
theorem dX7_elect_21 : decode cX7_elect 21 = .ok (.istore_n 3, 1) := by decide +kernel
theorem dX7_elect_22 : decode cX7_elect 22 = .ok (.iload_n 3, 1) := by decide +kernel
theorem dX7_elect_23 : decode cX7_elect 23 = .ok (.ifCond .ne 19, 3) := by decide +kernel
theorem dX7_elect_26 : decode cX7_elect 26 = .ok (.iload_n 2, 1) := by decide +kernel
theorem dX7_elect_27 : decode cX7_elect 27 = .ok (.ifCond .eq 15, 3) := by decide +kernel
theorem dX7_elect_30 : decode cX7_elect 30 = .ok (.aload_n 0, 1) := by decide +kernel
theorem dX7_elect_31 : decode cX7_elect 31 = .ok (.getfield 18, 3) := by decide +kernel
theorem dX7_elect_34 : decode cX7_elect 34 = .ok (.iload_n 1, 1) := by decide +kernel
theorem dX7_elect_35 : decode cX7_elect 35 = .ok (.iaload, 1) := by decide +kernel
theorem dX7_elect_36 : decode cX7_elect 36 = .ok (.aload_n 0, 1) := by decide +kernel
theorem dX7_elect_37 : decode cX7_elect 37 = .ok (.getfield 61, 3) := by decide +kernel
theorem dX7_elect_40 : decode cX7_elect 40 = .ok (.iand, 1) := by decide +kernel
theorem dX7_elect_41 : decode cX7_elect 41 = .ok (.istore_n 3, 1) := by decide +kernel
theorem dX7_elect_42 : decode cX7_elect 42 = .ok (.iload_n 3, 1) := by decide +kernel
theorem dX7_elect_43 : decode cX7_elect 43 = .ok (.ifCond .ne 6, 3) := by decide +kernel
theorem dX7_elect_46 : decode cX7_elect 46 = .ok (.bipush (-2), 2) := by decide +kernel
theorem dX7_elect_48 : decode cX7_elect 48 = .ok (.ireturn, 1) := by decide +kernel
theorem dX7_elect_49 : decode cX7_elect 49 = .ok (.iload_n 3, 1) := by decide +kernel
theorem dX7_elect_50 : decode cX7_elect 50 = .ok (.invokestatic 116, 3) := by decide +kernel
theorem dX7_elect_53 : decode cX7_elect 53 = .ok (.istore 4, 2) := by decide +kernel
theorem dX7_elect_55 : decode cX7_elect 55 = .ok (.aload_n 0, 1) := by decide +kernel
theorem dX7_elect_56 : decode cX7_elect 56 = .ok (.getfield 31, 3) := by decide +kernel
theorem dX7_elect_59 : decode cX7_elect 59 = .ok (.iload_n 1, 1) := by decide +kernel
theorem dX7_elect_60 : decode cX7_elect 60 = .ok (.iaload, 1) := by decide +kernel
theorem dX7_elect_61 : decode cX7_elect 61 = .ok (.iload 4, 2) := by decide +kernel
theorem dX7_elect_63 : decode cX7_elect 63 = .ok (.ishr, 1) := by decide +kernel
theorem dX7_elect_64 : decode cX7_elect 64 = .ok (.iconst 1, 1) := by decide +kernel
theorem dX7_elect_65 : decode cX7_elect 65 = .ok (.iand, 1) := by decide +kernel
theorem dX7_elect_66 : decode cX7_elect 66 = .ok (.ifCond .ne 13, 3) := by decide +kernel
theorem dX7_elect_69 : decode cX7_elect 69 = .ok (.aload_n 0, 1) := by decide +kernel
theorem dX7_elect_70 : decode cX7_elect 70 = .ok (.getfield 31, 3) := by decide +kernel
theorem dX7_elect_73 : decode cX7_elect 73 = .ok (.iload_n 1, 1) := by decide +kernel
theorem dX7_elect_74 : decode cX7_elect 74 = .ok (.iconst 1, 1) := by decide +kernel
theorem dX7_elect_75 : decode cX7_elect 75 = .ok (.iload 4, 2) := by decide +kernel
theorem dX7_elect_77 : decode cX7_elect 77 = .ok (.ishl, 1) := by decide +kernel
theorem dX7_elect_78 : decode cX7_elect 78 = .ok (.iastore, 1) := by decide +kernel
theorem dX7_elect_79 : decode cX7_elect 79 = .ok (.aload_n 0, 1) := by decide +kernel
theorem dX7_elect_80 : decode cX7_elect 80 = .ok (.getfield 22, 3) := by decide +kernel
theorem dX7_elect_83 : decode cX7_elect 83 = .ok (.iload_n 1, 1) := by decide +kernel
theorem dX7_elect_84 : decode cX7_elect 84 = .ok (.iload 4, 2) := by decide +kernel
theorem dX7_elect_86 : decode cX7_elect 86 = .ok (.iastore, 1) := by decide +kernel
theorem dX7_elect_87 : decode cX7_elect 87 = .ok (.aload_n 0, 1) := by decide +kernel
theorem dX7_elect_88 : decode cX7_elect 88 = .ok (.getfield 25, 3) := by decide +kernel
theorem dX7_elect_91 : decode cX7_elect 91 = .ok (.iload_n 1, 1) := by decide +kernel
theorem dX7_elect_92 : decode cX7_elect 92 = .ok (.dup2, 1) := by decide +kernel
theorem dX7_elect_93 : decode cX7_elect 93 = .ok (.iaload, 1) := by decide +kernel
theorem dX7_elect_94 : decode cX7_elect 94 = .ok (.iconst 1, 1) := by decide +kernel
theorem dX7_elect_95 : decode cX7_elect 95 = .ok (.iadd, 1) := by decide +kernel
theorem dX7_elect_96 : decode cX7_elect 96 = .ok (.iastore, 1) := by decide +kernel
theorem dX7_elect_97 : decode cX7_elect 97 = .ok (.iconst 0, 1) := by decide +kernel
theorem dX7_elect_98 : decode cX7_elect 98 = .ok (.istore 5, 2) := by decide +kernel
theorem dX7_elect_100 : decode cX7_elect 100 = .ok (.iload 5, 2) := by decide +kernel
theorem dX7_elect_102 : decode cX7_elect 102 = .ok (.iconst 5, 1) := by decide +kernel
theorem dX7_elect_103 : decode cX7_elect 103 = .ok (.if_icmp .ge 38, 3) := by decide +kernel
theorem dX7_elect_106 : decode cX7_elect 106 = .ok (.aload_n 0, 1) := by decide +kernel
theorem dX7_elect_107 : decode cX7_elect 107 = .ok (.getfield 11, 3) := by decide +kernel
theorem dX7_elect_110 : decode cX7_elect 110 = .ok (.iload_n 1, 1) := by decide +kernel
theorem dX7_elect_111 : decode cX7_elect 111 = .ok (.aaload, 1) := by decide +kernel
theorem dX7_elect_112 : decode cX7_elect 112 = .ok (.iload 5, 2) := by decide +kernel
theorem dX7_elect_114 : decode cX7_elect 114 = .ok (.aaload, 1) := by decide +kernel
theorem dX7_elect_115 : decode cX7_elect 115 = .ok (.iconst (-1), 1) := by decide +kernel
theorem dX7_elect_116 : decode cX7_elect 116 = .ok (.putfield 92, 3) := by decide +kernel
theorem dX7_elect_119 : decode cX7_elect 119 = .ok (.aload_n 0, 1) := by decide +kernel
theorem dX7_elect_120 : decode cX7_elect 120 = .ok (.getfield 11, 3) := by decide +kernel
theorem dX7_elect_123 : decode cX7_elect 123 = .ok (.iload_n 1, 1) := by decide +kernel
theorem dX7_elect_124 : decode cX7_elect 124 = .ok (.aaload, 1) := by decide +kernel
theorem dX7_elect_125 : decode cX7_elect 125 = .ok (.iload 5, 2) := by decide +kernel
theorem dX7_elect_127 : decode cX7_elect 127 = .ok (.aaload, 1) := by decide +kernel
theorem dX7_elect_128 : decode cX7_elect 128 = .ok (.aload_n 0, 1) := by decide +kernel
theorem dX7_elect_129 : decode cX7_elect 129 = .ok (.getfield 119, 3) := by decide +kernel
theorem dX7_elect_132 : decode cX7_elect 132 = .ok (.putfield 122, 3) := by decide +kernel
theorem dX7_elect_135 : decode cX7_elect 135 = .ok (.iinc 5 1, 3) := by decide +kernel
theorem dX7_elect_138 : decode cX7_elect 138 = .ok (.goto (-38), 3) := by decide +kernel
theorem dX7_elect_141 : decode cX7_elect 141 = .ok (.aload_n 0, 1) := by decide +kernel
theorem dX7_elect_142 : decode cX7_elect 142 = .ok (.iload_n 1, 1) := by decide +kernel
theorem dX7_elect_143 : decode cX7_elect 143 = .ok (.invokevirtual 125, 3) := by decide +kernel
theorem dX7_elect_146 : decode cX7_elect 146 = .ok (.iload 4, 2) := by decide +kernel
theorem dX7_elect_148 : decode cX7_elect 148 = .ok (.ireturn, 1) := by decide +kernel
set_option maxRecDepth 20000 in
theorem ggX7_register_X7_in : GoodIn wsX7_register wsX7_in := goodIn_r _ [9] (by rfl) (by decide +kernel)
set_option maxRecDepth 20000 in
theorem gX7_register_X7_in : GoodIn wsX7_register (va_wsS RX7 76 yX7_in wsX7_in) := goodIn_app (goodIn_of _ (by decide +kernel)) ggX7_register_X7_in
theorem dX7_register_0 : decode cX7_register 0 = .ok (.iload_n 1, 1) := by decide +kernel
theorem dX7_register_1 : decode cX7_register 1 = .ok (.i2l, 1) := by decide +kernel
theorem dX7_register_2 : decode cX7_register 2 = .ok (.lconst 0, 1) := by decide +kernel
theorem dX7_register_3 : decode cX7_register 3 = .ok (.ldc2_w 129, 3) := by decide +kernel
theorem dX7_register_6 : decode cX7_register 6 = .ok (.invokestatic 76, 3) := by decide +kernel
theorem dX7_register_9 : decode cX7_register 9 = .ok (.ifCond .ne 5, 3) := by decide +kernel
theorem dX7_register_12 : decode cX7_register 12 = .ok (.iconst (-1), 1) := by decide +kernel
theorem dX7_register_13 : decode cX7_register 13 = .ok (.ireturn, 1) := by decide +kernel
theorem dX7_register_14 : decode cX7_register 14 = .ok (.aload_n 0, 1) := by decide +kernel
theorem dX7_register_15 : decode cX7_register 15 = .ok (.getfield 37, 3) := by decide +kernel
theorem dX7_register_18 : decode cX7_register 18 = .ok (.iload_n 1, 1) := by decide +kernel
theorem dX7_register_19 : decode cX7_register 19 = .ok (.iaload, 1) := by decide +kernel
theorem dX7_register_20 : decode cX7_register 20 = .ok (.iconst 1, 1) := by decide +kernel
theorem dX7_register_21 : decode cX7_register 21 = .ok (.if_icmp .ne 29, 3) := by decide +kernel
theorem dX7_register_24 : decode cX7_register 24 = .ok (.aload_n 0, 1) := by decide +kernel
theorem dX7_register_25 : decode cX7_register 25 = .ok (.getfield 37, 3) := by decide +kernel
theorem dX7_register_28 : decode cX7_register 28 = .ok (.iload_n 1, 1) := by decide +kernel
theorem dX7_register_29 : decode cX7_register 29 = .ok (.iconst 2, 1) := by decide +kernel
theorem dX7_register_30 : decode cX7_register 30 = .ok (.iastore, 1) := by decide +kernel
theorem dX7_register_31 : decode cX7_register 31 = .ok (.aload_n 0, 1) := by decide +kernel
theorem dX7_register_32 : decode cX7_register 32 = .ok (.getfield 43, 3) := by decide +kernel
theorem dX7_register_35 : decode cX7_register 35 = .ok (.iload_n 1, 1) := by decide +kernel
theorem dX7_register_36 : decode cX7_register 36 = .ok (.aload_n 0, 1) := by decide +kernel
theorem dX7_register_37 : decode cX7_register 37 = .ok (.getfield 34, 3) := by decide +kernel
theorem dX7_register_40 : decode cX7_register 40 = .ok (.iload_n 1, 1) := by decide +kernel
theorem dX7_register_41 : decode cX7_register 41 = .ok (.iaload, 1) := by decide +kernel
theorem dX7_register_42 : decode cX7_register 42 = .ok (.iastore, 1) := by decide +kernel
theorem dX7_register_43 : decode cX7_register 43 = .ok (.aload_n 0, 1) := by decide +kernel
theorem dX7_register_44 : decode cX7_register 44 = .ok (.getfield 46, 3) := by decide +kernel
theorem dX7_register_47 : decode cX7_register 47 = .ok (.iload_n 1, 1) := by decide +kernel
theorem dX7_register_48 : decode cX7_register 48 = .ok (.iconst 2, 1) := by decide +kernel
theorem dX7_register_49 : decode cX7_register 49 = .ok (.iastore, 1) := by decide +kernel
theorem dX7_register_50 : decode cX7_register 50 = .ok (.aload_n 0, 1) := by decide +kernel
theorem dX7_register_51 : decode cX7_register 51 = .ok (.getfield 34, 3) := by decide +kernel
theorem dX7_register_54 : decode cX7_register 54 = .ok (.iload_n 1, 1) := by decide +kernel
theorem dX7_register_55 : decode cX7_register 55 = .ok (.dup2, 1) := by decide +kernel
theorem dX7_register_56 : decode cX7_register 56 = .ok (.iaload, 1) := by decide +kernel
theorem dX7_register_57 : decode cX7_register 57 = .ok (.iconst 1, 1) := by decide +kernel
theorem dX7_register_58 : decode cX7_register 58 = .ok (.iadd, 1) := by decide +kernel
theorem dX7_register_59 : decode cX7_register 59 = .ok (.iastore, 1) := by decide +kernel
theorem dX7_register_60 : decode cX7_register 60 = .ok (.bipush 8, 2) := by decide +kernel
theorem dX7_register_62 : decode cX7_register 62 = .ok (.aload_n 0, 1) := by decide +kernel
theorem dX7_register_63 : decode cX7_register 63 = .ok (.getfield 34, 3) := by decide +kernel
theorem dX7_register_66 : decode cX7_register 66 = .ok (.iload_n 1, 1) := by decide +kernel
theorem dX7_register_67 : decode cX7_register 67 = .ok (.iaload, 1) := by decide +kernel
theorem dX7_register_68 : decode cX7_register 68 = .ok (.imul, 1) := by decide +kernel
theorem dX7_register_69 : decode cX7_register 69 = .ok (.iload_n 1, 1) := by decide +kernel
theorem dX7_register_70 : decode cX7_register 70 = .ok (.iadd, 1) := by decide +kernel
theorem dX7_register_71 : decode cX7_register 71 = .ok (.ireturn, 1) := by decide +kernel
theorem dX7_isHandle_0 : decode cX7_isHandle 0 = .ok (.iload_n 0, 1) := by decide +kernel
theorem dX7_isHandle_1 : decode cX7_isHandle 1 = .ok (.ifCond .lt 16, 3) := by decide +kernel
theorem dX7_isHandle_4 : decode cX7_isHandle 4 = .ok (.iload_n 0, 1) := by decide +kernel
theorem dX7_isHandle_5 : decode cX7_isHandle 5 = .ok (.bipush 8, 2) := by decide +kernel
theorem dX7_isHandle_7 : decode cX7_isHandle 7 = .ok (.irem, 1) := by decide +kernel
theorem dX7_isHandle_8 : decode cX7_isHandle 8 = .ok (.bipush 6, 2) := by decide +kernel
theorem dX7_isHandle_10 : decode cX7_isHandle 10 = .ok (.if_icmp .ge 7, 3) := by decide +kernel
theorem dX7_isHandle_13 : decode cX7_isHandle 13 = .ok (.iconst 1, 1) := by decide +kernel
theorem dX7_isHandle_14 : decode cX7_isHandle 14 = .ok (.goto 4, 3) := by decide +kernel
theorem dX7_isHandle_17 : decode cX7_isHandle 17 = .ok (.iconst 0, 1) := by decide +kernel
theorem dX7_isHandle_18 : decode cX7_isHandle 18 = .ok (.ireturn, 1) := by decide +kernel
set_option maxRecDepth 20000 in
theorem ggX7_produce_X7_isThere : GoodIn wsX7_produce wsX7_isThere := goodIn_r _ [13, 14, 15, 16, 17, 12, 18, 73, 74, 75, 76, 77, 78, 79, 80, 81, 82, 83, 84, 85, 86, 87, 88, 89, 90] (by rfl) (by decide +kernel)
set_option maxRecDepth 20000 in
theorem gX7_produce_X7_isThere : GoodIn wsX7_produce (wsV RX7 82 RX7 yX7_isThere wsX7_isThere) := goodIn_app (goodIn_of _ (by decide +kernel)) ggX7_produce_X7_isThere
set_option maxRecDepth 20000 in
theorem ggX7_produce_X7_isHandle : GoodIn wsX7_produce wsX7_isHandle := goodIn_r _ [21] (by rfl) (by decide +kernel)
set_option maxRecDepth 20000 in
theorem gX7_produce_X7_isHandle : GoodIn wsX7_produce (va_wsS RX7 131 yX7_isHandle wsX7_isHandle) := goodIn_app (goodIn_of _ (by decide +kernel)) ggX7_produce_X7_isHandle
set_option maxRecDepth 20000 in
theorem ggX7_produce_X7_own : GoodIn wsX7_produce wsX7_own := goodIn_r _ [25, 26, 27, 28, 29, 30, 12, 31, 32, 33, 16, 17, 18, 73, 74, 75, 76, 77, 78, 79, 80, 81, 82, 83, 84, 85, 86, 87, 88, 89, 90] (by rfl) (by decide +kernel)
set_option maxRecDepth 20000 in
theorem gX7_produce_X7_own : GoodIn wsX7_produce (wsV RX7 95 RX7 yX7_own wsX7_own) := goodIn_app (goodIn_of _ (by decide +kernel)) ggX7_produce_X7_own
set_option maxRecDepth 20000 in
theorem ggX7_produce_J6_bitCount_0f7a4 : GoodIn wsX7_produce wsJ6_bitCount_0f7a4 := goodIn_r _ [37, 38, 39, 40] (by rfl) (by decide +kernel)
set_option maxRecDepth 20000 in
theorem gX7_produce_J6_bitCount_0f7a4 : GoodIn wsX7_produce (va_wsS RX7 112 yJ6_bitCount_0f7a4 wsJ6_bitCount_0f7a4) := goodIn_app (goodIn_of _ (by decide +kernel)) ggX7_produce_J6_bitCount_0f7a4
set_option maxRecDepth 20000 in
theorem ggX7_produce_X6_get : GoodIn wsX7_produce wsX6_get := goodIn_r _ [45, 46, 47, 91, 92, 93, 94, 95, 96, 97] (by rfl) (by decide +kernel)
set_option maxRecDepth 20000 in
theorem gX7_produce_X6_get : GoodIn wsX7_produce (wsV RX7 137 RX6 yX6_get wsX6_get) := goodIn_app (goodIn_of _ (by decide +kernel)) ggX7_produce_X6_get
set_option maxRecDepth 20000 in
theorem ggX7_produce_X6_many : GoodIn wsX7_produce wsX6_many := goodIn_r _ [51, 52, 47, 91, 92, 93, 94, 95, 96, 97] (by rfl) (by decide +kernel)
set_option maxRecDepth 20000 in
theorem gX7_produce_X6_many : GoodIn wsX7_produce (wsV RX7 140 RX6 yX6_many wsX6_many) := goodIn_app (goodIn_of _ (by decide +kernel)) ggX7_produce_X6_many
set_option maxRecDepth 20000 in
theorem ggX7_produce_X6_add : GoodIn wsX7_produce wsX6_add := goodIn_r _ [56, 46, 52, 57, 49, 50, 44, 51, 47, 91, 92, 93, 94, 95, 96, 97] (by rfl) (by decide +kernel)
set_option maxRecDepth 20000 in
theorem gX7_produce_X6_add : GoodIn wsX7_produce (wsV RX7 144 RX6 yX6_add wsX6_add) := goodIn_app (goodIn_of _ (by decide +kernel)) ggX7_produce_X6_add
set_option maxRecDepth 20000 in
theorem ggX7_produce_X7_rise : GoodIn wsX7_produce wsX7_rise := goodIn_r _ [61, 62, 3, 63, 64, 65, 66, 67, 22, 23, 24, 12, 25, 26, 27, 28, 29, 30, 31, 32, 33, 16, 17, 18, 68, 69, 70, 71, 6, 72, 73, 74, 75, 76, 77, 78, 79, 80, 81, 82, 83, 84, 85, 86, 87, 88, 89, 90, 91, 92, 93, 94, 95, 96, 97] (by rfl) (by decide +kernel)
set_option maxRecDepth 20000 in
theorem gX7_produce_X7_rise : GoodIn wsX7_produce (wsV RX7 125 RX7 yX7_rise wsX7_rise) := goodIn_app (goodIn_of _ (by decide +kernel)) ggX7_produce_X7_rise
theorem dX7_produce_0 : decode cX7_produce 0 = .ok (.aload_n 0, 1) := by decide +kernel
theorem dX7_produce_1 : decode cX7_produce 1 = .ok (.iload_n 1, 1) := by decide +kernel
theorem dX7_produce_2 : decode cX7_produce 2 = .ok (.invokevirtual 82, 3) := by decide +kernel
theorem dX7_produce_5 : decode cX7_produce 5 = .ok (.ifCond .eq 15, 3) := by decide +kernel
theorem dX7_produce_8 : decode cX7_produce 8 = .ok (.iload_n 2, 1) := by decide +kernel
theorem dX7_produce_9 : decode cX7_produce 9 = .ok (.iconst (-1), 1) := by decide +kernel
theorem dX7_produce_10 : decode cX7_produce 10 = .ok (.if_icmp .eq 12, 3) := by decide +kernel
theorem dX7_produce_13 : decode cX7_produce 13 = .ok (.iload_n 2, 1) := by decide +kernel
theorem dX7_produce_14 : decode cX7_produce 14 = .ok (.invokestatic 131, 3) := by decide +kernel
theorem dX7_produce_17 : decode cX7_produce 17 = .ok (.ifCond .ne 5, 3) := by decide +kernel
theorem dX7_produce_20 : decode cX7_produce 20 = .ok (.iconst (-1), 1) := by decide +kernel
theorem dX7_produce_21 : decode cX7_produce 21 = .ok (.ireturn, 1) := by decide +kernel
theorem dX7_produce_22 : decode cX7_produce 22 = .ok (.aload_n 0, 1) := by decide +kernel
theorem dX7_produce_23 : decode cX7_produce 23 = .ok (.iload_n 1, 1) := by decide +kernel
theorem dX7_produce_24 : decode cX7_produce 24 = .ok (.invokevirtual 95, 3) := by decide +kernel
theorem dX7_produce_27 : decode cX7_produce 27 = .ok (.astore 7, 2) := by decide +kernel
theorem dX7_produce_29 : decode cX7_produce 29 = .ok (.aload 7, 2) := by decide +kernel
theorem dX7_produce_31 : decode cX7_produce 31 = .ok (.ifnonnull 6, 3) := by decide +kernel
theorem dX7_produce_34 : decode cX7_produce 34 = .ok (.bipush (-2), 2) := by decide +kernel
theorem dX7_produce_36 : decode cX7_produce 36 = .ok (.ireturn, 1) := by decide +kernel
theorem dX7_produce_37 : decode cX7_produce 37 = .ok (.iload_n 2, 1) := by decide +kernel
theorem dX7_produce_38 : decode cX7_produce 38 = .ok (.ifCond .ge 7, 3) := by decide +kernel
theorem dX7_produce_41 : decode cX7_produce 41 = .ok (.iconst (-1), 1) := by decide +kernel
theorem dX7_produce_42 : decode cX7_produce 42 = .ok (.goto 7, 3) := by decide +kernel
theorem dX7_produce_45 : decode cX7_produce 45 = .ok (.iload_n 2, 1) := by decide +kernel
theorem dX7_produce_46 : decode cX7_produce 46 = .ok (.bipush 8, 2) := by decide +kernel
theorem dX7_produce_48 : decode cX7_produce 48 = .ok (.irem, 1) := by decide +kernel
theorem dX7_produce_49 : decode cX7_produce 49 = .ok (.istore 8, 2) := by decide +kernel
theorem dX7_produce_51 : decode cX7_produce 51 = .ok (.iload_n 2, 1) := by decide +kernel
theorem dX7_produce_52 : decode cX7_produce 52 = .ok (.ifCond .ge 7, 3) := by decide +kernel
theorem dX7_produce_55 : decode cX7_produce 55 = .ok (.iconst (-1), 1) := by decide +kernel
theorem dX7_produce_56 : decode cX7_produce 56 = .ok (.goto 7, 3) := by decide +kernel
theorem dX7_produce_59 : decode cX7_produce 59 = .ok (.iload_n 2, 1) := by decide +kernel
theorem dX7_produce_60 : decode cX7_produce 60 = .ok (.bipush 8, 2) := by decide +kernel
theorem dX7_produce_62 : decode cX7_produce 62 = .ok (.idiv, 1) := by decide +kernel
theorem dX7_produce_63 : decode cX7_produce 63 = .ok (.istore 9, 2) := by decide +kernel
theorem dX7_produce_65 : decode cX7_produce 65 = .ok (.iload 8, 2) := by decide +kernel
theorem dX7_produce_67 : decode cX7_produce 67 = .ok (.ifCond .lt 29, 3) := by decide +kernel
theorem dX7_produce_70 : decode cX7_produce 70 = .ok (.aload_n 0, 1) := by decide +kernel
theorem dX7_produce_71 : decode cX7_produce 71 = .ok (.getfield 34, 3) := by decide +kernel
theorem dX7_produce_74 : decode cX7_produce 74 = .ok (.iload 8, 2) := by decide +kernel
theorem dX7_produce_76 : decode cX7_produce 76 = .ok (.iaload, 1) := by decide +kernel
theorem dX7_produce_77 : decode cX7_produce 77 = .ok (.iload 9, 2) := by decide +kernel
theorem dX7_produce_79 : decode cX7_produce 79 = .ok (.if_icmp .ne 14, 3) := by decide +kernel
theorem dX7_produce_82 : decode cX7_produce 82 = .ok (.aload_n 0, 1) := by decide +kernel
theorem dX7_produce_83 : decode cX7_produce 83 = .ok (.getfield 37, 3) := by decide +kernel
theorem dX7_produce_86 : decode cX7_produce 86 = .ok (.iload 8, 2) := by decide +kernel
theorem dX7_produce_88 : decode cX7_produce 88 = .ok (.iaload, 1) := by decide +kernel
theorem dX7_produce_89 : decode cX7_produce 89 = .ok (.iconst 2, 1) := by decide +kernel
theorem dX7_produce_90 : decode cX7_produce 90 = .ok (.if_icmp .ne 6, 3) := by decide +kernel
theorem dX7_produce_93 : decode cX7_produce 93 = .ok (.bipush (-4), 2) := by decide +kernel
theorem dX7_produce_95 : decode cX7_produce 95 = .ok (.ireturn, 1) := by decide +kernel
theorem dX7_produce_96 : decode cX7_produce 96 = .ok (.iload 6, 2) := by decide +kernel
theorem dX7_produce_98 : decode cX7_produce 98 = .ok (.ifCond .eq 24, 3) := by decide +kernel
theorem dX7_produce_101 : decode cX7_produce 101 = .ok (.aload_n 0, 1) := by decide +kernel
theorem dX7_produce_102 : decode cX7_produce 102 = .ok (.getfield 31, 3) := by decide +kernel
theorem dX7_produce_105 : decode cX7_produce 105 = .ok (.iload_n 1, 1) := by decide +kernel
theorem dX7_produce_106 : decode cX7_produce 106 = .ok (.iaload, 1) := by decide +kernel
theorem dX7_produce_107 : decode cX7_produce 107 = .ok (.invokestatic 112, 3) := by decide +kernel
theorem dX7_produce_110 : decode cX7_produce 110 = .ok (.aload_n 0, 1) := by decide +kernel
theorem dX7_produce_111 : decode cX7_produce 111 = .ok (.getfield 28, 3) := by decide +kernel
theorem dX7_produce_114 : decode cX7_produce 114 = .ok (.iload_n 1, 1) := by decide +kernel
theorem dX7_produce_115 : decode cX7_produce 115 = .ok (.iaload, 1) := by decide +kernel
theorem dX7_produce_116 : decode cX7_produce 116 = .ok (.if_icmp .ge 6, 3) := by decide +kernel
theorem dX7_produce_119 : decode cX7_produce 119 = .ok (.bipush (-5), 2) := by decide +kernel
theorem dX7_produce_121 : decode cX7_produce 121 = .ok (.ireturn, 1) := by decide +kernel
theorem dX7_produce_122 : decode cX7_produce 122 = .ok (.iload 8, 2) := by decide +kernel
theorem dX7_produce_124 : decode cX7_produce 124 = .ok (.ifCond .lt 117, 3) := by decide +kernel
theorem dX7_produce_127 : decode cX7_produce 127 = .ok (.iconst (-1), 1) := by decide +kernel
theorem dX7_produce_128 : decode cX7_produce 128 = .ok (.istore 10, 2) := by decide +kernel
theorem dX7_produce_130 : decode cX7_produce 130 = .ok (.aload 7, 2) := by decide +kernel
theorem dX7_produce_132 : decode cX7_produce 132 = .ok (.getfield 134, 3) := by decide +kernel
theorem dX7_produce_135 : decode cX7_produce 135 = .ok (.istore 11, 2) := by decide +kernel
theorem dX7_produce_137 : decode cX7_produce 137 = .ok (.iload 11, 2) := by decide +kernel
theorem dX7_produce_139 : decode cX7_produce 139 = .ok (.aload 7, 2) := by decide +kernel
theorem dX7_produce_141 : decode cX7_produce 141 = .ok (.getfield 89, 3) := by decide +kernel
theorem dX7_produce_144 : decode cX7_produce 144 = .ok (.if_icmp .ge 68, 3) := by decide +kernel
theorem dX7_produce_147 : decode cX7_produce 147 = .ok (.aload 7, 2) := by decide +kernel
theorem dX7_produce_149 : decode cX7_produce 149 = .ok (.iload 11, 2) := by decide +kernel
theorem dX7_produce_151 : decode cX7_produce 151 = .ok (.iconst 1, 1) := by decide +kernel
theorem dX7_produce_152 : decode cX7_produce 152 = .ok (.invokevirtual 137, 3) := by decide +kernel
theorem dX7_produce_155 : decode cX7_produce 155 = .ok (.ifCond .ne 51, 3) := by decide +kernel
theorem dX7_produce_158 : decode cX7_produce 158 = .ok (.aload 7, 2) := by decide +kernel
theorem dX7_produce_160 : decode cX7_produce 160 = .ok (.iload 11, 2) := by decide +kernel
theorem dX7_produce_162 : decode cX7_produce 162 = .ok (.iconst 2, 1) := by decide +kernel
theorem dX7_produce_163 : decode cX7_produce 163 = .ok (.invokevirtual 137, 3) := by decide +kernel
theorem dX7_produce_166 : decode cX7_produce 166 = .ok (.iload 8, 2) := by decide +kernel
theorem dX7_produce_168 : decode cX7_produce 168 = .ok (.if_icmp .ne 38, 3) := by decide +kernel
theorem dX7_produce_171 : decode cX7_produce 171 = .ok (.aload 7, 2) := by decide +kernel
theorem dX7_produce_173 : decode cX7_produce 173 = .ok (.iload 11, 2) := by decide +kernel
theorem dX7_produce_175 : decode cX7_produce 175 = .ok (.iconst 3, 1) := by decide +kernel
theorem dX7_produce_176 : decode cX7_produce 176 = .ok (.invokevirtual 137, 3) := by decide +kernel
theorem dX7_produce_179 : decode cX7_produce 179 = .ok (.iload 9, 2) := by decide +kernel
theorem dX7_produce_181 : decode cX7_produce 181 = .ok (.if_icmp .eq 6, 3) := by decide +kernel
theorem dX7_produce_184 : decode cX7_produce 184 = .ok (.goto 22, 3) := by decide +kernel
theorem dX7_produce_187 : decode cX7_produce 187 = .ok (.aload 7, 2) := by decide +kernel
theorem dX7_produce_189 : decode cX7_produce 189 = .ok (.iload 11, 2) := by decide +kernel
theorem dX7_produce_191 : decode cX7_produce 191 = .ok (.iconst 4, 1) := by decide +kernel
theorem dX7_produce_192 : decode cX7_produce 192 = .ok (.invokevirtual 137, 3) := by decide +kernel
theorem dX7_produce_195 : decode cX7_produce 195 = .ok (.iload_n 3, 1) := by decide +kernel
theorem dX7_produce_196 : decode cX7_produce 196 = .ok (.if_icmp .ne 6, 3) := by decide +kernel
theorem dX7_produce_199 : decode cX7_produce 199 = .ok (.iload 11, 2) := by decide +kernel
theorem dX7_produce_201 : decode cX7_produce 201 = .ok (.ireturn, 1) := by decide +kernel
theorem dX7_produce_202 : decode cX7_produce 202 = .ok (.iload 11, 2) := by decide +kernel
theorem dX7_produce_204 : decode cX7_produce 204 = .ok (.istore 10, 2) := by decide +kernel
theorem dX7_produce_206 : decode cX7_produce 206 = .ok (.iinc 11 1, 3) := by decide +kernel
theorem dX7_produce_209 : decode cX7_produce 209 = .ok (.goto (-72), 3) := by decide +kernel
theorem dX7_produce_212 : decode cX7_produce 212 = .ok (.iload 10, 2) := by decide +kernel
theorem dX7_produce_214 : decode cX7_produce 214 = .ok (.ifCond .ge 10, 3) := by decide +kernel
theorem dX7_produce_217 : decode cX7_produce 217 = .ok (.iload_n 3, 1) := by decide +kernel
theorem dX7_produce_218 : decode cX7_produce 218 = .ok (.ifCond .eq 23, 3) := by decide +kernel
theorem dX7_produce_221 : decode cX7_produce 221 = .ok (.goto 17, 3) := by decide +kernel
theorem dX7_produce_224 : decode cX7_produce 224 = .ok (.iload_n 3, 1) := by decide +kernel
theorem dX7_produce_225 : decode cX7_produce 225 = .ok (.aload 7, 2) := by decide +kernel
theorem dX7_produce_227 : decode cX7_produce 227 = .ok (.iload 10, 2) := by decide +kernel
theorem dX7_produce_229 : decode cX7_produce 229 = .ok (.iconst 4, 1) := by decide +kernel
theorem dX7_produce_230 : decode cX7_produce 230 = .ok (.invokevirtual 137, 3) := by decide +kernel
theorem dX7_produce_233 : decode cX7_produce 233 = .ok (.iconst 1, 1) := by decide +kernel
theorem dX7_produce_234 : decode cX7_produce 234 = .ok (.iadd, 1) := by decide +kernel
theorem dX7_produce_235 : decode cX7_produce 235 = .ok (.if_icmp .eq 6, 3) := by decide +kernel
theorem dX7_produce_238 : decode cX7_produce 238 = .ok (.bipush (-6), 2) := by decide +kernel
theorem dX7_produce_240 : decode cX7_produce 240 = .ok (.ireturn, 1) := by decide +kernel
theorem dX7_produce_241 : decode cX7_produce 241 = .ok (.aload 7, 2) := by decide +kernel
theorem dX7_produce_243 : decode cX7_produce 243 = .ok (.invokevirtual 140, 3) := by decide +kernel
theorem dX7_produce_246 : decode cX7_produce 246 = .ok (.bipush 60, 2) := by decide +kernel
theorem dX7_produce_248 : decode cX7_produce 248 = .ok (.if_icmp .ne 6, 3) := by decide +kernel
theorem dX7_produce_251 : decode cX7_produce 251 = .ok (.bipush (-3), 2) := by decide +kernel
theorem dX7_produce_253 : decode cX7_produce 253 = .ok (.ireturn, 1) := by decide +kernel
theorem dX7_produce_254 : decode cX7_produce 254 = .ok (.iload 8, 2) := by decide +kernel
theorem dX7_produce_256 : decode cX7_produce 256 = .ok (.ifCond .lt 18, 3) := by decide +kernel
theorem dX7_produce_259 : decode cX7_produce 259 = .ok (.aload_n 0, 1) := by decide +kernel
theorem dX7_produce_260 : decode cX7_produce 260 = .ok (.getfield 37, 3) := by decide +kernel
theorem dX7_produce_263 : decode cX7_produce 263 = .ok (.iload 8, 2) := by decide +kernel
theorem dX7_produce_265 : decode cX7_produce 265 = .ok (.iaload, 1) := by decide +kernel
theorem dX7_produce_266 : decode cX7_produce 266 = .ok (.iconst 1, 1) := by decide +kernel
theorem dX7_produce_267 : decode cX7_produce 267 = .ok (.if_icmp .ne 7, 3) := by decide +kernel
theorem dX7_produce_270 : decode cX7_produce 270 = .ok (.iconst 1, 1) := by decide +kernel
theorem dX7_produce_271 : decode cX7_produce 271 = .ok (.goto 4, 3) := by decide +kernel
theorem dX7_produce_274 : decode cX7_produce 274 = .ok (.iconst 0, 1) := by decide +kernel
theorem dX7_produce_275 : decode cX7_produce 275 = .ok (.istore 10, 2) := by decide +kernel
theorem dX7_produce_277 : decode cX7_produce 277 = .ok (.aload 7, 2) := by decide +kernel
theorem dX7_produce_279 : decode cX7_produce 279 = .ok (.aload_n 0, 1) := by decide +kernel
theorem dX7_produce_280 : decode cX7_produce 280 = .ok (.getfield 25, 3) := by decide +kernel
theorem dX7_produce_283 : decode cX7_produce 283 = .ok (.iload_n 1, 1) := by decide +kernel
theorem dX7_produce_284 : decode cX7_produce 284 = .ok (.iaload, 1) := by decide +kernel
theorem dX7_produce_285 : decode cX7_produce 285 = .ok (.iconst 0, 1) := by decide +kernel
theorem dX7_produce_286 : decode cX7_produce 286 = .ok (.iload 8, 2) := by decide +kernel
theorem dX7_produce_288 : decode cX7_produce 288 = .ok (.iload 9, 2) := by decide +kernel
theorem dX7_produce_290 : decode cX7_produce 290 = .ok (.iload 8, 2) := by decide +kernel
theorem dX7_produce_292 : decode cX7_produce 292 = .ok (.ifCond .ge 7, 3) := by decide +kernel
theorem dX7_produce_295 : decode cX7_produce 295 = .ok (.iconst (-1), 1) := by decide +kernel
theorem dX7_produce_296 : decode cX7_produce 296 = .ok (.goto 4, 3) := by decide +kernel
theorem dX7_produce_299 : decode cX7_produce 299 = .ok (.iload_n 3, 1) := by decide +kernel
theorem dX7_produce_300 : decode cX7_produce 300 = .ok (.iload 4, 2) := by decide +kernel
theorem dX7_produce_302 : decode cX7_produce 302 = .ok (.iload 5, 2) := by decide +kernel
theorem dX7_produce_304 : decode cX7_produce 304 = .ok (.iload 10, 2) := by decide +kernel
theorem dX7_produce_306 : decode cX7_produce 306 = .ok (.ifCond .eq 7, 3) := by decide +kernel
theorem dX7_produce_309 : decode cX7_produce 309 = .ok (.iconst 1, 1) := by decide +kernel
theorem dX7_produce_310 : decode cX7_produce 310 = .ok (.goto 4, 3) := by decide +kernel
theorem dX7_produce_313 : decode cX7_produce 313 = .ok (.iconst 0, 1) := by decide +kernel
theorem dX7_produce_314 : decode cX7_produce 314 = .ok (.invokevirtual 144, 3) := by decide +kernel
theorem dX7_produce_317 : decode cX7_produce 317 = .ok (.iload 10, 2) := by decide +kernel
theorem dX7_produce_319 : decode cX7_produce 319 = .ok (.ifCond .eq 16, 3) := by decide +kernel
theorem dX7_produce_322 : decode cX7_produce 322 = .ok (.aload_n 0, 1) := by decide +kernel
theorem dX7_produce_323 : decode cX7_produce 323 = .ok (.getfield 40, 3) := by decide +kernel
theorem dX7_produce_326 : decode cX7_produce 326 = .ok (.iload 8, 2) := by decide +kernel
theorem dX7_produce_328 : decode cX7_produce 328 = .ok (.dup2, 1) := by decide +kernel
theorem dX7_produce_329 : decode cX7_produce 329 = .ok (.iaload, 1) := by decide +kernel
theorem dX7_produce_330 : decode cX7_produce 330 = .ok (.iconst 1, 1) := by decide +kernel
theorem dX7_produce_331 : decode cX7_produce 331 = .ok (.iload_n 1, 1) := by decide +kernel
theorem dX7_produce_332 : decode cX7_produce 332 = .ok (.ishl, 1) := by decide +kernel
theorem dX7_produce_333 : decode cX7_produce 333 = .ok (.ior, 1) := by decide +kernel
theorem dX7_produce_334 : decode cX7_produce 334 = .ok (.iastore, 1) := by decide +kernel
theorem dX7_produce_335 : decode cX7_produce 335 = .ok (.aload_n 0, 1) := by decide +kernel
theorem dX7_produce_336 : decode cX7_produce 336 = .ok (.iload_n 1, 1) := by decide +kernel
theorem dX7_produce_337 : decode cX7_produce 337 = .ok (.invokevirtual 125, 3) := by decide +kernel
theorem dX7_produce_340 : decode cX7_produce 340 = .ok (.aload 7, 2) := by decide +kernel
theorem dX7_produce_342 : decode cX7_produce 342 = .ok (.getfield 89, 3) := by decide +kernel
theorem dX7_produce_345 : decode cX7_produce 345 = .ok (.iconst 1, 1) := by decide +kernel
theorem dX7_produce_346 : decode cX7_produce 346 = .ok (.isub, 1) := by decide +kernel
theorem dX7_produce_347 : decode cX7_produce 347 = .ok (.ireturn, 1) := by decide +kernel
set_option maxRecDepth 20000 in
theorem ggX7_safe_X7_isThere : GoodIn wsX7_safe wsX7_isThere := goodIn_r _ [6, 7, 8, 9, 10, 5, 11, 31, 32, 33, 34, 35, 36, 37, 38, 39, 40, 41, 42, 43, 44, 45, 46, 47, 48] (by rfl) (by decide +kernel)
set_option maxRecDepth 20000 in
theorem gX7_safe_X7_isThere : GoodIn wsX7_safe (wsV RX7 82 RX7 yX7_isThere wsX7_isThere) := goodIn_app (goodIn_of _ (by decide +kernel)) ggX7_safe_X7_isThere
set_option maxRecDepth 20000 in
theorem ggX7_safe_X7_own : GoodIn wsX7_safe wsX7_own := goodIn_r _ [15, 16, 17, 18, 19, 20, 5, 21, 22, 23, 9, 10, 11, 31, 32, 33, 34, 35, 36, 37, 38, 39, 40, 41, 42, 43, 44, 45, 46, 47, 48] (by rfl) (by decide +kernel)
set_option maxRecDepth 20000 in
theorem gX7_safe_X7_own : GoodIn wsX7_safe (wsV RX7 95 RX7 yX7_own wsX7_own) := goodIn_app (goodIn_of _ (by decide +kernel)) ggX7_safe_X7_own
theorem dX7_safe_0 : decode cX7_safe 0 = .ok (.aload_n 0, 1) := by decide +kernel
theorem dX7_safe_1 : decode cX7_safe 1 = .ok (.iload_n 1, 1) := by decide +kernel
theorem dX7_safe_2 : decode cX7_safe 2 = .ok (.invokevirtual 82, 3) := by decide +kernel
theorem dX7_safe_5 : decode cX7_safe 5 = .ok (.ifCond .ne 5, 3) := by decide +kernel
theorem dX7_safe_8 : decode cX7_safe 8 = .ok (.iconst (-1), 1) := by decide +kernel
theorem dX7_safe_9 : decode cX7_safe 9 = .ok (.ireturn, 1) := by decide +kernel
theorem dX7_safe_10 : decode cX7_safe 10 = .ok (.aload_n 0, 1) := by decide +kernel
theorem dX7_safe_11 : decode cX7_safe 11 = .ok (.iload_n 1, 1) := by decide +kernel
theorem dX7_safe_12 : decode cX7_safe 12 = .ok (.invokevirtual 95, 3) := by decide +kernel
theorem dX7_safe_15 : decode cX7_safe 15 = .ok (.astore_n 3, 1) := by decide +kernel
theorem dX7_safe_16 : decode cX7_safe 16 = .ok (.aload_n 3, 1) := by decide +kernel
theorem dX7_safe_17 : decode cX7_safe 17 = .ok (.ifnonnull 6, 3) := by decide +kernel
theorem dX7_safe_20 : decode cX7_safe 20 = .ok (.bipush (-2), 2) := by decide +kernel
theorem dX7_safe_22 : decode cX7_safe 22 = .ok (.ireturn, 1) := by decide +kernel
theorem dX7_safe_23 : decode cX7_safe 23 = .ok (.iload_n 2, 1) := by decide +kernel
theorem dX7_safe_24 : decode cX7_safe 24 = .ok (.aload_n 3, 1) := by decide +kernel
theorem dX7_safe_25 : decode cX7_safe 25 = .ok (.getfield 109, 3) := by decide +kernel
theorem dX7_safe_28 : decode cX7_safe 28 = .ok (.if_icmp .ge 7, 3) := by decide +kernel
theorem dX7_safe_31 : decode cX7_safe 31 = .ok (.iconst 1, 1) := by decide +kernel
theorem dX7_safe_32 : decode cX7_safe 32 = .ok (.goto 4, 3) := by decide +kernel
theorem dX7_safe_35 : decode cX7_safe 35 = .ok (.iconst 0, 1) := by decide +kernel
theorem dX7_safe_36 : decode cX7_safe 36 = .ok (.ireturn, 1) := by decide +kernel
set_option maxRecDepth 20000 in
theorem ggX7_follow_X7_isReplica : GoodIn wsX7_follow wsX7_isReplica := goodIn_r _ [22, 23, 24, 25, 26, 27, 21, 28, 29, 30, 31, 32, 33, 76, 77, 78, 79, 80, 81, 82, 83, 84, 85, 86, 87, 88, 89, 90, 91, 92, 93] (by rfl) (by decide +kernel)
set_option maxRecDepth 20000 in
theorem gX7_follow_X7_isReplica : GoodIn wsX7_follow (wsV RX7 148 RX7 yX7_isReplica wsX7_isReplica) := goodIn_app (goodIn_of _ (by decide +kernel)) ggX7_follow_X7_isReplica
set_option maxRecDepth 20000 in
theorem ggX7_follow_X7_isUp : GoodIn wsX7_follow wsX7_isUp := goodIn_r _ [37, 23, 38, 31, 32, 21, 33, 76, 77, 78, 79, 80, 81, 82, 83, 84, 85, 86, 87, 88, 89, 90, 91, 92, 93] (by rfl) (by decide +kernel)
set_option maxRecDepth 20000 in
theorem gX7_follow_X7_isUp : GoodIn wsX7_follow (wsV RX7 86 RX7 yX7_isUp wsX7_isUp) := goodIn_app (goodIn_of _ (by decide +kernel)) ggX7_follow_X7_isUp
set_option maxRecDepth 20000 in
theorem ggX7_follow_X7_own : GoodIn wsX7_follow wsX7_own := goodIn_r _ [42, 1, 2, 34, 35, 36, 21, 37, 23, 38, 31, 32, 33, 76, 77, 78, 79, 80, 81, 82, 83, 84, 85, 86, 87, 88, 89, 90, 91, 92, 93] (by rfl) (by decide +kernel)
set_option maxRecDepth 20000 in
theorem gX7_follow_X7_own : GoodIn wsX7_follow (wsV RX7 95 RX7 yX7_own wsX7_own) := goodIn_app (goodIn_of _ (by decide +kernel)) ggX7_follow_X7_own
set_option maxRecDepth 20000 in
theorem ggX7_follow_X6_from : GoodIn wsX7_follow wsX6_from := goodIn_r _ [47, 48, 49, 50, 51, 52, 53, 54, 94, 95, 96, 97, 98, 99, 100] (by rfl) (by decide +kernel)
set_option maxRecDepth 20000 in
theorem gX7_follow_X6_from : GoodIn wsX7_follow (wsV RX7 152 RX6 yX6_from wsX6_from) := goodIn_app (goodIn_of _ (by decide +kernel)) ggX7_follow_X6_from
set_option maxRecDepth 20000 in
theorem ggX7_follow_X6_get : GoodIn wsX7_follow wsX6_get := goodIn_r _ [58, 50, 48, 94, 95, 96, 97, 98, 99, 100] (by rfl) (by decide +kernel)
set_option maxRecDepth 20000 in
theorem gX7_follow_X6_get : GoodIn wsX7_follow (wsV RX7 137 RX6 yX6_get wsX6_get) := goodIn_app (goodIn_of _ (by decide +kernel)) ggX7_follow_X6_get
set_option maxRecDepth 20000 in
theorem ggX7_follow_X7_rise : GoodIn wsX7_follow wsX7_rise := goodIn_r _ [62, 63, 17, 10, 11, 7, 12, 16, 39, 40, 41, 21, 42, 1, 2, 34, 35, 36, 37, 23, 38, 31, 32, 33, 64, 65, 66, 67, 3, 13, 76, 77, 78, 79, 80, 81, 82, 83, 84, 85, 86, 87, 88, 89, 90, 91, 92, 93, 94, 95, 96, 97, 98, 99, 100] (by rfl) (by decide +kernel)
set_option maxRecDepth 20000 in
theorem gX7_follow_X7_rise : GoodIn wsX7_follow (wsV RX7 125 RX7 yX7_rise wsX7_rise) := goodIn_app (goodIn_of _ (by decide +kernel)) ggX7_follow_X7_rise
set_option maxRecDepth 20000 in
theorem ggX7_follow_X6_take : GoodIn wsX7_follow wsX6_take := goodIn_r _ [71, 50, 48, 51, 52, 53, 54, 49, 72, 73, 74, 46, 75, 94, 95, 96, 97, 98, 99, 100] (by rfl) (by decide +kernel)
set_option maxRecDepth 20000 in
theorem gX7_follow_X6_take : GoodIn wsX7_follow (wsV RX7 161 RX6 yX6_take wsX6_take) := goodIn_app (goodIn_of _ (by decide +kernel)) ggX7_follow_X6_take
theorem dX7_follow_0 : decode cX7_follow 0 = .ok (.aload_n 0, 1) := by decide +kernel
theorem dX7_follow_1 : decode cX7_follow 1 = .ok (.iload_n 1, 1) := by decide +kernel
theorem dX7_follow_2 : decode cX7_follow 2 = .ok (.iload_n 2, 1) := by decide +kernel
theorem dX7_follow_3 : decode cX7_follow 3 = .ok (.invokevirtual 148, 3) := by decide +kernel
theorem dX7_follow_6 : decode cX7_follow 6 = .ok (.ifCond .eq 21, 3) := by decide +kernel
theorem dX7_follow_9 : decode cX7_follow 9 = .ok (.aload_n 0, 1) := by decide +kernel
theorem dX7_follow_10 : decode cX7_follow 10 = .ok (.iload_n 1, 1) := by decide +kernel
theorem dX7_follow_11 : decode cX7_follow 11 = .ok (.invokevirtual 86, 3) := by decide +kernel
theorem dX7_follow_14 : decode cX7_follow 14 = .ok (.ifCond .eq 13, 3) := by decide +kernel
theorem dX7_follow_17 : decode cX7_follow 17 = .ok (.aload_n 0, 1) := by decide +kernel
theorem dX7_follow_18 : decode cX7_follow 18 = .ok (.getfield 22, 3) := by decide +kernel
theorem dX7_follow_21 : decode cX7_follow 21 = .ok (.iload_n 2, 1) := by decide +kernel
theorem dX7_follow_22 : decode cX7_follow 22 = .ok (.iaload, 1) := by decide +kernel
theorem dX7_follow_23 : decode cX7_follow 23 = .ok (.iload_n 1, 1) := by decide +kernel
theorem dX7_follow_24 : decode cX7_follow 24 = .ok (.if_icmp .ne 5, 3) := by decide +kernel
theorem dX7_follow_27 : decode cX7_follow 27 = .ok (.iconst (-1), 1) := by decide +kernel
theorem dX7_follow_28 : decode cX7_follow 28 = .ok (.ireturn, 1) := by decide +kernel
theorem dX7_follow_29 : decode cX7_follow 29 = .ok (.aload_n 0, 1) := by decide +kernel
theorem dX7_follow_30 : decode cX7_follow 30 = .ok (.iload_n 2, 1) := by decide +kernel
theorem dX7_follow_31 : decode cX7_follow 31 = .ok (.invokevirtual 95, 3) := by decide +kernel
theorem dX7_follow_34 : decode cX7_follow 34 = .ok (.astore_n 3, 1) := by decide +kernel
theorem dX7_follow_35 : decode cX7_follow 35 = .ok (.aload_n 0, 1) := by decide +kernel
theorem dX7_follow_36 : decode cX7_follow 36 = .ok (.getfield 11, 3) := by decide +kernel
theorem dX7_follow_39 : decode cX7_follow 39 = .ok (.iload_n 2, 1) := by decide +kernel
theorem dX7_follow_40 : decode cX7_follow 40 = .ok (.aaload, 1) := by decide +kernel
theorem dX7_follow_41 : decode cX7_follow 41 = .ok (.iload_n 1, 1) := by decide +kernel
theorem dX7_follow_42 : decode cX7_follow 42 = .ok (.aaload, 1) := by decide +kernel
theorem dX7_follow_43 : decode cX7_follow 43 = .ok (.astore 4, 2) := by decide +kernel
theorem dX7_follow_45 : decode cX7_follow 45 = .ok (.aload_n 3, 1) := by decide +kernel
theorem dX7_follow_46 : decode cX7_follow 46 = .ok (.ifnonnull 6, 3) := by decide +kernel
theorem dX7_follow_49 : decode cX7_follow 49 = .ok (.bipush (-2), 2) := by decide +kernel
theorem dX7_follow_51 : decode cX7_follow 51 = .ok (.ireturn, 1) := by decide +kernel
theorem dX7_follow_52 : decode cX7_follow 52 = .ok (.aload 4, 2) := by decide +kernel
theorem dX7_follow_54 : decode cX7_follow 54 = .ok (.getfield 89, 3) := by decide +kernel
theorem dX7_follow_57 : decode cX7_follow 57 = .ok (.aload_n 3, 1) := by decide +kernel
theorem dX7_follow_58 : decode cX7_follow 58 = .ok (.getfield 134, 3) := by decide +kernel
theorem dX7_follow_61 : decode cX7_follow 61 = .ok (.if_icmp .ge 12, 3) := by decide +kernel
theorem dX7_follow_64 : decode cX7_follow 64 = .ok (.aload 4, 2) := by decide +kernel
theorem dX7_follow_66 : decode cX7_follow 66 = .ok (.aload_n 3, 1) := by decide +kernel
theorem dX7_follow_67 : decode cX7_follow 67 = .ok (.getfield 134, 3) := by decide +kernel
theorem dX7_follow_70 : decode cX7_follow 70 = .ok (.invokevirtual 152, 3) := by decide +kernel
theorem dX7_follow_73 : decode cX7_follow 73 = .ok (.aload 4, 2) := by decide +kernel
theorem dX7_follow_75 : decode cX7_follow 75 = .ok (.getfield 134, 3) := by decide +kernel
theorem dX7_follow_78 : decode cX7_follow 78 = .ok (.aload_n 3, 1) := by decide +kernel
theorem dX7_follow_79 : decode cX7_follow 79 = .ok (.getfield 134, 3) := by decide +kernel
theorem dX7_follow_82 : decode cX7_follow 82 = .ok (.invokestatic 155, 3) := by decide +kernel
theorem dX7_follow_85 : decode cX7_follow 85 = .ok (.istore 5, 2) := by decide +kernel
theorem dX7_follow_87 : decode cX7_follow 87 = .ok (.iload 5, 2) := by decide +kernel
theorem dX7_follow_89 : decode cX7_follow 89 = .ok (.aload 4, 2) := by decide +kernel
theorem dX7_follow_91 : decode cX7_follow 91 = .ok (.getfield 89, 3) := by decide +kernel
theorem dX7_follow_94 : decode cX7_follow 94 = .ok (.if_icmp .ge 36, 3) := by decide +kernel
theorem dX7_follow_97 : decode cX7_follow 97 = .ok (.iload 5, 2) := by decide +kernel
theorem dX7_follow_99 : decode cX7_follow 99 = .ok (.aload_n 3, 1) := by decide +kernel
theorem dX7_follow_100 : decode cX7_follow 100 = .ok (.getfield 89, 3) := by decide +kernel
theorem dX7_follow_103 : decode cX7_follow 103 = .ok (.if_icmp .ge 27, 3) := by decide +kernel
theorem dX7_follow_106 : decode cX7_follow 106 = .ok (.aload 4, 2) := by decide +kernel
theorem dX7_follow_108 : decode cX7_follow 108 = .ok (.iload 5, 2) := by decide +kernel
theorem dX7_follow_110 : decode cX7_follow 110 = .ok (.iconst 0, 1) := by decide +kernel
theorem dX7_follow_111 : decode cX7_follow 111 = .ok (.invokevirtual 137, 3) := by decide +kernel
theorem dX7_follow_114 : decode cX7_follow 114 = .ok (.aload_n 3, 1) := by decide +kernel
theorem dX7_follow_115 : decode cX7_follow 115 = .ok (.iload 5, 2) := by decide +kernel
theorem dX7_follow_117 : decode cX7_follow 117 = .ok (.iconst 0, 1) := by decide +kernel
theorem dX7_follow_118 : decode cX7_follow 118 = .ok (.invokevirtual 137, 3) := by decide +kernel
theorem dX7_follow_121 : decode cX7_follow 121 = .ok (.if_icmp .ne 9, 3) := by decide +kernel
theorem dX7_follow_124 : decode cX7_follow 124 = .ok (.iinc 5 1, 3) := by decide +kernel
theorem dX7_follow_127 : decode cX7_follow 127 = .ok (.goto (-40), 3) := by decide +kernel
theorem dX7_follow_130 : decode cX7_follow 130 = .ok (.iload 5, 2) := by decide +kernel
theorem dX7_follow_132 : decode cX7_follow 132 = .ok (.aload 4, 2) := by decide +kernel
theorem dX7_follow_134 : decode cX7_follow 134 = .ok (.getfield 89, 3) := by decide +kernel
theorem dX7_follow_137 : decode cX7_follow 137 = .ok (.if_icmp .ge 10, 3) := by decide +kernel
theorem dX7_follow_140 : decode cX7_follow 140 = .ok (.aload 4, 2) := by decide +kernel
theorem dX7_follow_142 : decode cX7_follow 142 = .ok (.iload 5, 2) := by decide +kernel
theorem dX7_follow_144 : decode cX7_follow 144 = .ok (.putfield 89, 3) := by decide +kernel
theorem dX7_follow_147 : decode cX7_follow 147 = .ok (.aload 4, 2) := by decide +kernel
theorem dX7_follow_149 : decode cX7_follow 149 = .ok (.aload 4, 2) := by decide +kernel
theorem dX7_follow_151 : decode cX7_follow 151 = .ok (.getfield 158, 3) := by decide +kernel
theorem dX7_follow_154 : decode cX7_follow 154 = .ok (.aload 4, 2) := by decide +kernel
theorem dX7_follow_156 : decode cX7_follow 156 = .ok (.getfield 89, 3) := by decide +kernel
theorem dX7_follow_159 : decode cX7_follow 159 = .ok (.invokestatic 105, 3) := by decide +kernel
theorem dX7_follow_162 : decode cX7_follow 162 = .ok (.putfield 158, 3) := by decide +kernel
theorem dX7_follow_165 : decode cX7_follow 165 = .ok (.aload 4, 2) := by decide +kernel
theorem dX7_follow_167 : decode cX7_follow 167 = .ok (.aload 4, 2) := by decide +kernel
theorem dX7_follow_169 : decode cX7_follow 169 = .ok (.getfield 89, 3) := by decide +kernel
theorem dX7_follow_172 : decode cX7_follow 172 = .ok (.putfield 92, 3) := by decide +kernel
theorem dX7_follow_175 : decode cX7_follow 175 = .ok (.aload 4, 2) := by decide +kernel
theorem dX7_follow_177 : decode cX7_follow 177 = .ok (.getfield 89, 3) := by decide +kernel
theorem dX7_follow_180 : decode cX7_follow 180 = .ok (.aload_n 3, 1) := by decide +kernel
theorem dX7_follow_181 : decode cX7_follow 181 = .ok (.getfield 89, 3) := by decide +kernel
theorem dX7_follow_184 : decode cX7_follow 184 = .ok (.if_icmp .ne 12, 3) := by decide +kernel
theorem dX7_follow_187 : decode cX7_follow 187 = .ok (.aload 4, 2) := by decide +kernel
theorem dX7_follow_189 : decode cX7_follow 189 = .ok (.aload_n 0, 1) := by decide +kernel
theorem dX7_follow_190 : decode cX7_follow 190 = .ok (.getfield 119, 3) := by decide +kernel
theorem dX7_follow_193 : decode cX7_follow 193 = .ok (.putfield 122, 3) := by decide +kernel
theorem dX7_follow_196 : decode cX7_follow 196 = .ok (.aload 4, 2) := by decide +kernel
theorem dX7_follow_198 : decode cX7_follow 198 = .ok (.getfield 89, 3) := by decide +kernel
theorem dX7_follow_201 : decode cX7_follow 201 = .ok (.aload_n 3, 1) := by decide +kernel
theorem dX7_follow_202 : decode cX7_follow 202 = .ok (.getfield 109, 3) := by decide +kernel
theorem dX7_follow_205 : decode cX7_follow 205 = .ok (.if_icmp .lt 15, 3) := by decide +kernel
theorem dX7_follow_208 : decode cX7_follow 208 = .ok (.aload_n 0, 1) := by decide +kernel
theorem dX7_follow_209 : decode cX7_follow 209 = .ok (.getfield 31, 3) := by decide +kernel
theorem dX7_follow_212 : decode cX7_follow 212 = .ok (.iload_n 2, 1) := by decide +kernel
theorem dX7_follow_213 : decode cX7_follow 213 = .ok (.dup2, 1) := by decide +kernel
theorem dX7_follow_214 : decode cX7_follow 214 = .ok (.iaload, 1) := by decide +kernel
theorem dX7_follow_215 : decode cX7_follow 215 = .ok (.iconst 1, 1) := by decide +kernel
theorem dX7_follow_216 : decode cX7_follow 216 = .ok (.iload_n 1, 1) := by decide +kernel
theorem dX7_follow_217 : decode cX7_follow 217 = .ok (.ishl, 1) := by decide +kernel
theorem dX7_follow_218 : decode cX7_follow 218 = .ok (.ior, 1) := by decide +kernel
theorem dX7_follow_219 : decode cX7_follow 219 = .ok (.iastore, 1) := by decide +kernel
theorem dX7_follow_220 : decode cX7_follow 220 = .ok (.aload_n 0, 1) := by decide +kernel
theorem dX7_follow_221 : decode cX7_follow 221 = .ok (.iload_n 2, 1) := by decide +kernel
theorem dX7_follow_222 : decode cX7_follow 222 = .ok (.invokevirtual 125, 3) := by decide +kernel
theorem dX7_follow_225 : decode cX7_follow 225 = .ok (.iconst 0, 1) := by decide +kernel
theorem dX7_follow_226 : decode cX7_follow 226 = .ok (.istore 6, 2) := by decide +kernel
theorem dX7_follow_228 : decode cX7_follow 228 = .ok (.iload 6, 2) := by decide +kernel
theorem dX7_follow_230 : decode cX7_follow 230 = .ok (.iconst 5, 1) := by decide +kernel
theorem dX7_follow_231 : decode cX7_follow 231 = .ok (.if_icmp .ge 32, 3) := by decide +kernel
theorem dX7_follow_234 : decode cX7_follow 234 = .ok (.aload 4, 2) := by decide +kernel
theorem dX7_follow_236 : decode cX7_follow 236 = .ok (.getfield 89, 3) := by decide +kernel
theorem dX7_follow_239 : decode cX7_follow 239 = .ok (.aload_n 3, 1) := by decide +kernel
theorem dX7_follow_240 : decode cX7_follow 240 = .ok (.getfield 89, 3) := by decide +kernel
theorem dX7_follow_243 : decode cX7_follow 243 = .ok (.if_icmp .ge 20, 3) := by decide +kernel
theorem dX7_follow_246 : decode cX7_follow 246 = .ok (.aload 4, 2) := by decide +kernel
theorem dX7_follow_248 : decode cX7_follow 248 = .ok (.aload_n 3, 1) := by decide +kernel
theorem dX7_follow_249 : decode cX7_follow 249 = .ok (.aload 4, 2) := by decide +kernel
theorem dX7_follow_251 : decode cX7_follow 251 = .ok (.getfield 89, 3) := by decide +kernel
theorem dX7_follow_254 : decode cX7_follow 254 = .ok (.invokevirtual 161, 3) := by decide +kernel
theorem dX7_follow_257 : decode cX7_follow 257 = .ok (.iinc 6 1, 3) := by decide +kernel
theorem dX7_follow_260 : decode cX7_follow 260 = .ok (.goto (-32), 3) := by decide +kernel
theorem dX7_follow_263 : decode cX7_follow 263 = .ok (.aload 4, 2) := by decide +kernel
theorem dX7_follow_265 : decode cX7_follow 265 = .ok (.aload_n 3, 1) := by decide +kernel
theorem dX7_follow_266 : decode cX7_follow 266 = .ok (.getfield 134, 3) := by decide +kernel
theorem dX7_follow_269 : decode cX7_follow 269 = .ok (.invokevirtual 152, 3) := by decide +kernel
theorem dX7_follow_272 : decode cX7_follow 272 = .ok (.aload 4, 2) := by decide +kernel
theorem dX7_follow_274 : decode cX7_follow 274 = .ok (.aload_n 3, 1) := by decide +kernel
theorem dX7_follow_275 : decode cX7_follow 275 = .ok (.getfield 109, 3) := by decide +kernel
theorem dX7_follow_278 : decode cX7_follow 278 = .ok (.aload 4, 2) := by decide +kernel
theorem dX7_follow_280 : decode cX7_follow 280 = .ok (.getfield 89, 3) := by decide +kernel
theorem dX7_follow_283 : decode cX7_follow 283 = .ok (.invokestatic 105, 3) := by decide +kernel
theorem dX7_follow_286 : decode cX7_follow 286 = .ok (.putfield 109, 3) := by decide +kernel
theorem dX7_follow_289 : decode cX7_follow 289 = .ok (.aload 4, 2) := by decide +kernel
theorem dX7_follow_291 : decode cX7_follow 291 = .ok (.aload 4, 2) := by decide +kernel
theorem dX7_follow_293 : decode cX7_follow 293 = .ok (.getfield 134, 3) := by decide +kernel
theorem dX7_follow_296 : decode cX7_follow 296 = .ok (.aload 4, 2) := by decide +kernel
theorem dX7_follow_298 : decode cX7_follow 298 = .ok (.getfield 158, 3) := by decide +kernel
theorem dX7_follow_301 : decode cX7_follow 301 = .ok (.aload 4, 2) := by decide +kernel
theorem dX7_follow_303 : decode cX7_follow 303 = .ok (.getfield 89, 3) := by decide +kernel
theorem dX7_follow_306 : decode cX7_follow 306 = .ok (.invokestatic 105, 3) := by decide +kernel
theorem dX7_follow_309 : decode cX7_follow 309 = .ok (.invokestatic 155, 3) := by decide +kernel
theorem dX7_follow_312 : decode cX7_follow 312 = .ok (.putfield 158, 3) := by decide +kernel
theorem dX7_follow_315 : decode cX7_follow 315 = .ok (.iload 6, 2) := by decide +kernel
theorem dX7_follow_317 : decode cX7_follow 317 = .ok (.ireturn, 1) := by decide +kernel
set_option maxRecDepth 20000 in
theorem ggX7_begin_X7_isHandle : GoodIn wsX7_begin wsX7_isHandle := goodIn_r _ [7] (by rfl) (by decide +kernel)
set_option maxRecDepth 20000 in
theorem gX7_begin_X7_isHandle : GoodIn wsX7_begin (va_wsS RX7 131 yX7_isHandle wsX7_isHandle) := goodIn_app (goodIn_of _ (by decide +kernel)) ggX7_begin_X7_isHandle
theorem dX7_begin_0 : decode cX7_begin 0 = .ok (.iload_n 1, 1) := by decide +kernel
theorem dX7_begin_1 : decode cX7_begin 1 = .ok (.invokestatic 131, 3) := by decide +kernel
theorem dX7_begin_4 : decode cX7_begin 4 = .ok (.ifCond .ne 5, 3) := by decide +kernel
theorem dX7_begin_7 : decode cX7_begin 7 = .ok (.iconst (-1), 1) := by decide +kernel
theorem dX7_begin_8 : decode cX7_begin 8 = .ok (.ireturn, 1) := by decide +kernel
theorem dX7_begin_9 : decode cX7_begin 9 = .ok (.iload_n 1, 1) := by decide +kernel
theorem dX7_begin_10 : decode cX7_begin 10 = .ok (.bipush 8, 2) := by decide +kernel
theorem dX7_begin_12 : decode cX7_begin 12 = .ok (.irem, 1) := by decide +kernel
theorem dX7_begin_13 : decode cX7_begin 13 = .ok (.istore_n 2, 1) := by decide +kernel
theorem dX7_begin_14 : decode cX7_begin 14 = .ok (.aload_n 0, 1) := by decide +kernel
theorem dX7_begin_15 : decode cX7_begin 15 = .ok (.getfield 34, 3) := by decide +kernel
theorem dX7_begin_18 : decode cX7_begin 18 = .ok (.iload_n 2, 1) := by decide +kernel
theorem dX7_begin_19 : decode cX7_begin 19 = .ok (.iaload, 1) := by decide +kernel
theorem dX7_begin_20 : decode cX7_begin 20 = .ok (.iload_n 1, 1) := by decide +kernel
theorem dX7_begin_21 : decode cX7_begin 21 = .ok (.bipush 8, 2) := by decide +kernel
theorem dX7_begin_23 : decode cX7_begin 23 = .ok (.idiv, 1) := by decide +kernel
theorem dX7_begin_24 : decode cX7_begin 24 = .ok (.if_icmp .ne 12, 3) := by decide +kernel
theorem dX7_begin_27 : decode cX7_begin 27 = .ok (.aload_n 0, 1) := by decide +kernel
theorem dX7_begin_28 : decode cX7_begin 28 = .ok (.getfield 37, 3) := by decide +kernel
theorem dX7_begin_31 : decode cX7_begin 31 = .ok (.iload_n 2, 1) := by decide +kernel
theorem dX7_begin_32 : decode cX7_begin 32 = .ok (.iaload, 1) := by decide +kernel
theorem dX7_begin_33 : decode cX7_begin 33 = .ok (.ifCond .eq 6, 3) := by decide +kernel
theorem dX7_begin_36 : decode cX7_begin 36 = .ok (.bipush (-4), 2) := by decide +kernel
theorem dX7_begin_38 : decode cX7_begin 38 = .ok (.ireturn, 1) := by decide +kernel
theorem dX7_begin_39 : decode cX7_begin 39 = .ok (.aload_n 0, 1) := by decide +kernel
theorem dX7_begin_40 : decode cX7_begin 40 = .ok (.getfield 37, 3) := by decide +kernel
theorem dX7_begin_43 : decode cX7_begin 43 = .ok (.iload_n 2, 1) := by decide +kernel
theorem dX7_begin_44 : decode cX7_begin 44 = .ok (.iconst 1, 1) := by decide +kernel
theorem dX7_begin_45 : decode cX7_begin 45 = .ok (.iastore, 1) := by decide +kernel
theorem dX7_begin_46 : decode cX7_begin 46 = .ok (.aload_n 0, 1) := by decide +kernel
theorem dX7_begin_47 : decode cX7_begin 47 = .ok (.getfield 40, 3) := by decide +kernel
theorem dX7_begin_50 : decode cX7_begin 50 = .ok (.iload_n 2, 1) := by decide +kernel
theorem dX7_begin_51 : decode cX7_begin 51 = .ok (.iconst 0, 1) := by decide +kernel
theorem dX7_begin_52 : decode cX7_begin 52 = .ok (.iastore, 1) := by decide +kernel
theorem dX7_begin_53 : decode cX7_begin 53 = .ok (.iconst 0, 1) := by decide +kernel
theorem dX7_begin_54 : decode cX7_begin 54 = .ok (.ireturn, 1) := by decide +kernel
set_option maxRecDepth 20000 in
theorem ggX7_finish_X7_isHandle : GoodIn wsX7_finish wsX7_isHandle := goodIn_r _ [9] (by rfl) (by decide +kernel)
set_option maxRecDepth 20000 in
theorem gX7_finish_X7_isHandle : GoodIn wsX7_finish (va_wsS RX7 131 yX7_isHandle wsX7_isHandle) := goodIn_app (goodIn_of _ (by decide +kernel)) ggX7_finish_X7_isHandle
set_option maxRecDepth 20000 in
theorem ggX7_finish_J6_bitCount_0f7a4 : GoodIn wsX7_finish wsJ6_bitCount_0f7a4 := goodIn_r _ [13, 14, 15, 16] (by rfl) (by decide +kernel)
set_option maxRecDepth 20000 in
theorem gX7_finish_J6_bitCount_0f7a4 : GoodIn wsX7_finish (va_wsS RX7 112 yJ6_bitCount_0f7a4 wsJ6_bitCount_0f7a4) := goodIn_app (goodIn_of _ (by decide +kernel)) ggX7_finish_J6_bitCount_0f7a4
theorem dX7_finish_0 : decode cX7_finish 0 = .ok (.iload_n 1, 1) := by decide +kernel
theorem dX7_finish_1 : decode cX7_finish 1 = .ok (.invokestatic 131, 3) := by decide +kernel
theorem dX7_finish_4 : decode cX7_finish 4 = .ok (.ifCond .ne 5, 3) := by decide +kernel
theorem dX7_finish_7 : decode cX7_finish 7 = .ok (.iconst (-1), 1) := by decide +kernel
theorem dX7_finish_8 : decode cX7_finish 8 = .ok (.ireturn, 1) := by decide +kernel
theorem dX7_finish_9 : decode cX7_finish 9 = .ok (.iload_n 1, 1) := by decide +kernel
theorem dX7_finish_10 : decode cX7_finish 10 = .ok (.bipush 8, 2) := by decide +kernel
theorem dX7_finish_12 : decode cX7_finish 12 = .ok (.irem, 1) := by decide +kernel
theorem dX7_finish_13 : decode cX7_finish 13 = .ok (.istore_n 3, 1) := by decide +kernel
theorem dX7_finish_14 : decode cX7_finish 14 = .ok (.aload_n 0, 1) := by decide +kernel
theorem dX7_finish_15 : decode cX7_finish 15 = .ok (.getfield 34, 3) := by decide +kernel
theorem dX7_finish_18 : decode cX7_finish 18 = .ok (.iload_n 3, 1) := by decide +kernel
theorem dX7_finish_19 : decode cX7_finish 19 = .ok (.iaload, 1) := by decide +kernel
theorem dX7_finish_20 : decode cX7_finish 20 = .ok (.iload_n 1, 1) := by decide +kernel
theorem dX7_finish_21 : decode cX7_finish 21 = .ok (.bipush 8, 2) := by decide +kernel
theorem dX7_finish_23 : decode cX7_finish 23 = .ok (.idiv, 1) := by decide +kernel
theorem dX7_finish_24 : decode cX7_finish 24 = .ok (.if_icmp .ne 13, 3) := by decide +kernel
theorem dX7_finish_27 : decode cX7_finish 27 = .ok (.aload_n 0, 1) := by decide +kernel
theorem dX7_finish_28 : decode cX7_finish 28 = .ok (.getfield 37, 3) := by decide +kernel
theorem dX7_finish_31 : decode cX7_finish 31 = .ok (.iload_n 3, 1) := by decide +kernel
theorem dX7_finish_32 : decode cX7_finish 32 = .ok (.iaload, 1) := by decide +kernel
theorem dX7_finish_33 : decode cX7_finish 33 = .ok (.iconst 1, 1) := by decide +kernel
theorem dX7_finish_34 : decode cX7_finish 34 = .ok (.if_icmp .eq 6, 3) := by decide +kernel
theorem dX7_finish_37 : decode cX7_finish 37 = .ok (.bipush (-4), 2) := by decide +kernel
theorem dX7_finish_39 : decode cX7_finish 39 = .ok (.ireturn, 1) := by decide +kernel
theorem dX7_finish_40 : decode cX7_finish 40 = .ok (.aload_n 0, 1) := by decide +kernel
theorem dX7_finish_41 : decode cX7_finish 41 = .ok (.getfield 37, 3) := by decide +kernel
theorem dX7_finish_44 : decode cX7_finish 44 = .ok (.iload_n 3, 1) := by decide +kernel
theorem dX7_finish_45 : decode cX7_finish 45 = .ok (.iconst 2, 1) := by decide +kernel
theorem dX7_finish_46 : decode cX7_finish 46 = .ok (.iastore, 1) := by decide +kernel
theorem dX7_finish_47 : decode cX7_finish 47 = .ok (.aload_n 0, 1) := by decide +kernel
theorem dX7_finish_48 : decode cX7_finish 48 = .ok (.getfield 43, 3) := by decide +kernel
theorem dX7_finish_51 : decode cX7_finish 51 = .ok (.iload_n 3, 1) := by decide +kernel
theorem dX7_finish_52 : decode cX7_finish 52 = .ok (.aload_n 0, 1) := by decide +kernel
theorem dX7_finish_53 : decode cX7_finish 53 = .ok (.getfield 34, 3) := by decide +kernel
theorem dX7_finish_56 : decode cX7_finish 56 = .ok (.iload_n 3, 1) := by decide +kernel
theorem dX7_finish_57 : decode cX7_finish 57 = .ok (.iaload, 1) := by decide +kernel
theorem dX7_finish_58 : decode cX7_finish 58 = .ok (.iastore, 1) := by decide +kernel
theorem dX7_finish_59 : decode cX7_finish 59 = .ok (.aload_n 0, 1) := by decide +kernel
theorem dX7_finish_60 : decode cX7_finish 60 = .ok (.getfield 46, 3) := by decide +kernel
theorem dX7_finish_63 : decode cX7_finish 63 = .ok (.iload_n 3, 1) := by decide +kernel
theorem dX7_finish_64 : decode cX7_finish 64 = .ok (.iload_n 2, 1) := by decide +kernel
theorem dX7_finish_65 : decode cX7_finish 65 = .ok (.ifCond .eq 7, 3) := by decide +kernel
theorem dX7_finish_68 : decode cX7_finish 68 = .ok (.iconst 1, 1) := by decide +kernel
theorem dX7_finish_69 : decode cX7_finish 69 = .ok (.goto 4, 3) := by decide +kernel
theorem dX7_finish_72 : decode cX7_finish 72 = .ok (.iconst 2, 1) := by decide +kernel
theorem dX7_finish_73 : decode cX7_finish 73 = .ok (.iastore, 1) := by decide +kernel
theorem dX7_finish_74 : decode cX7_finish 74 = .ok (.aload_n 0, 1) := by decide +kernel
theorem dX7_finish_75 : decode cX7_finish 75 = .ok (.getfield 40, 3) := by decide +kernel
theorem dX7_finish_78 : decode cX7_finish 78 = .ok (.iload_n 3, 1) := by decide +kernel
theorem dX7_finish_79 : decode cX7_finish 79 = .ok (.iaload, 1) := by decide +kernel
theorem dX7_finish_80 : decode cX7_finish 80 = .ok (.invokestatic 112, 3) := by decide +kernel
theorem dX7_finish_83 : decode cX7_finish 83 = .ok (.ireturn, 1) := by decide +kernel
set_option maxRecDepth 20000 in
theorem ggX7_settle_X7_in : GoodIn wsX7_settle wsX7_in := goodIn_r _ [10] (by rfl) (by decide +kernel)
set_option maxRecDepth 20000 in
theorem gX7_settle_X7_in : GoodIn wsX7_settle (va_wsS RX7 76 yX7_in wsX7_in) := goodIn_app (goodIn_of _ (by decide +kernel)) ggX7_settle_X7_in
set_option maxRecDepth 20000 in
theorem ggX7_settle_X7_own : GoodIn wsX7_settle wsX7_own := goodIn_r _ [14, 15, 16, 17, 18, 19, 9, 20, 21, 22, 7, 8, 10, 60, 61, 62, 63, 64, 65, 66, 67, 68, 69, 70, 71, 72, 73, 74, 75, 76, 77] (by rfl) (by decide +kernel)
set_option maxRecDepth 20000 in
theorem gX7_settle_X7_own : GoodIn wsX7_settle (wsV RX7 95 RX7 yX7_own wsX7_own) := goodIn_app (goodIn_of _ (by decide +kernel)) ggX7_settle_X7_own
set_option maxRecDepth 20000 in
theorem ggX7_settle_X6_many : GoodIn wsX7_settle wsX6_many := goodIn_r _ [27, 28, 29, 78, 79, 80, 81, 82, 83, 84] (by rfl) (by decide +kernel)
set_option maxRecDepth 20000 in
theorem gX7_settle_X6_many : GoodIn wsX7_settle (wsV RX7 140 RX6 yX6_many wsX6_many) := goodIn_app (goodIn_of _ (by decide +kernel)) ggX7_settle_X6_many
set_option maxRecDepth 20000 in
theorem ggX7_settle_X6_add : GoodIn wsX7_settle wsX6_add := goodIn_r _ [33, 34, 28, 35, 24, 25, 26, 27, 29, 78, 79, 80, 81, 82, 83, 84] (by rfl) (by decide +kernel)
set_option maxRecDepth 20000 in
theorem gX7_settle_X6_add : GoodIn wsX7_settle (wsV RX7 144 RX6 yX6_add wsX6_add) := goodIn_app (goodIn_of _ (by decide +kernel)) ggX7_settle_X6_add
set_option maxRecDepth 20000 in
theorem ggX7_settle_X7_rise : GoodIn wsX7_settle wsX7_rise := goodIn_r _ [39, 40, 41, 42, 43, 44, 45, 46, 11, 12, 13, 9, 14, 15, 16, 17, 18, 19, 20, 21, 22, 7, 8, 10, 47, 48, 49, 50, 51, 52, 60, 61, 62, 63, 64, 65, 66, 67, 68, 69, 70, 71, 72, 73, 74, 75, 76, 77, 78, 79, 80, 81, 82, 83, 84] (by rfl) (by decide +kernel)
set_option maxRecDepth 20000 in
theorem gX7_settle_X7_rise : GoodIn wsX7_settle (wsV RX7 125 RX7 yX7_rise wsX7_rise) := goodIn_app (goodIn_of _ (by decide +kernel)) ggX7_settle_X7_rise
set_option maxRecDepth 20000 in
theorem ggX7_settle_J6_bitCount_0f7a4 : GoodIn wsX7_settle wsJ6_bitCount_0f7a4 := goodIn_r _ [56, 57, 58, 59] (by rfl) (by decide +kernel)
set_option maxRecDepth 20000 in
theorem gX7_settle_J6_bitCount_0f7a4 : GoodIn wsX7_settle (va_wsS RX7 112 yJ6_bitCount_0f7a4 wsJ6_bitCount_0f7a4) := goodIn_app (goodIn_of _ (by decide +kernel)) ggX7_settle_J6_bitCount_0f7a4
theorem dX7_settle_0 : decode cX7_settle 0 = .ok (.iload_n 1, 1) := by decide +kernel
theorem dX7_settle_1 : decode cX7_settle 1 = .ok (.i2l, 1) := by decide +kernel
theorem dX7_settle_2 : decode cX7_settle 2 = .ok (.lconst 0, 1) := by decide +kernel
theorem dX7_settle_3 : decode cX7_settle 3 = .ok (.ldc2_w 129, 3) := by decide +kernel
theorem dX7_settle_6 : decode cX7_settle 6 = .ok (.invokestatic 76, 3) := by decide +kernel
theorem dX7_settle_9 : decode cX7_settle 9 = .ok (.ifCond .ne 5, 3) := by decide +kernel
theorem dX7_settle_12 : decode cX7_settle 12 = .ok (.iconst (-1), 1) := by decide +kernel
theorem dX7_settle_13 : decode cX7_settle 13 = .ok (.ireturn, 1) := by decide +kernel
theorem dX7_settle_14 : decode cX7_settle 14 = .ok (.aload_n 0, 1) := by decide +kernel
theorem dX7_settle_15 : decode cX7_settle 15 = .ok (.getfield 37, 3) := by decide +kernel
theorem dX7_settle_18 : decode cX7_settle 18 = .ok (.iload_n 1, 1) := by decide +kernel
theorem dX7_settle_19 : decode cX7_settle 19 = .ok (.iaload, 1) := by decide +kernel
theorem dX7_settle_20 : decode cX7_settle 20 = .ok (.iconst 2, 1) := by decide +kernel
theorem dX7_settle_21 : decode cX7_settle 21 = .ok (.if_icmp .eq 6, 3) := by decide +kernel
theorem dX7_settle_24 : decode cX7_settle 24 = .ok (.bipush (-2), 2) := by decide +kernel
theorem dX7_settle_26 : decode cX7_settle 26 = .ok (.ireturn, 1) := by decide +kernel
theorem dX7_settle_27 : decode cX7_settle 27 = .ok (.iconst 0, 1) := by decide +kernel
theorem dX7_settle_28 : decode cX7_settle 28 = .ok (.istore_n 2, 1) := by decide +kernel
theorem dX7_settle_29 : decode cX7_settle 29 = .ok (.iload_n 2, 1) := by decide +kernel
theorem dX7_settle_30 : decode cX7_settle 30 = .ok (.iconst 4, 1) := by decide +kernel
theorem dX7_settle_31 : decode cX7_settle 31 = .ok (.if_icmp .ge 93, 3) := by decide +kernel
theorem dX7_settle_34 : decode cX7_settle 34 = .ok (.aload_n 0, 1) := by decide +kernel
theorem dX7_settle_35 : decode cX7_settle 35 = .ok (.getfield 40, 3) := by decide +kernel
theorem dX7_settle_38 : decode cX7_settle 38 = .ok (.iload_n 1, 1) := by decide +kernel
theorem dX7_settle_39 : decode cX7_settle 39 = .ok (.iaload, 1) := by decide +kernel
theorem dX7_settle_40 : decode cX7_settle 40 = .ok (.iload_n 2, 1) := by decide +kernel
theorem dX7_settle_41 : decode cX7_settle 41 = .ok (.ishr, 1) := by decide +kernel
theorem dX7_settle_42 : decode cX7_settle 42 = .ok (.iconst 1, 1) := by decide +kernel
theorem dX7_settle_43 : decode cX7_settle 43 = .ok (.iand, 1) := by decide +kernel
theorem dX7_settle_44 : decode cX7_settle 44 = .ok (.ifCond .ne 6, 3) := by decide +kernel
theorem dX7_settle_47 : decode cX7_settle 47 = .ok (.goto 71, 3) := by decide +kernel
theorem dX7_settle_50 : decode cX7_settle 50 = .ok (.aload_n 0, 1) := by decide +kernel
theorem dX7_settle_51 : decode cX7_settle 51 = .ok (.iload_n 2, 1) := by decide +kernel
theorem dX7_settle_52 : decode cX7_settle 52 = .ok (.invokevirtual 95, 3) := by decide +kernel
theorem dX7_settle_55 : decode cX7_settle 55 = .ok (.astore_n 3, 1) := by decide +kernel
theorem dX7_settle_56 : decode cX7_settle 56 = .ok (.aload_n 3, 1) := by decide +kernel
theorem dX7_settle_57 : decode cX7_settle 57 = .ok (.ifnull 61, 3) := by decide +kernel
theorem dX7_settle_60 : decode cX7_settle 60 = .ok (.aload_n 3, 1) := by decide +kernel
theorem dX7_settle_61 : decode cX7_settle 61 = .ok (.invokevirtual 140, 3) := by decide +kernel
theorem dX7_settle_64 : decode cX7_settle 64 = .ok (.bipush 60, 2) := by decide +kernel
theorem dX7_settle_66 : decode cX7_settle 66 = .ok (.if_icmp .lt 6, 3) := by decide +kernel
theorem dX7_settle_69 : decode cX7_settle 69 = .ok (.goto 49, 3) := by decide +kernel
theorem dX7_settle_72 : decode cX7_settle 72 = .ok (.aload_n 3, 1) := by decide +kernel
theorem dX7_settle_73 : decode cX7_settle 73 = .ok (.aload_n 0, 1) := by decide +kernel
theorem dX7_settle_74 : decode cX7_settle 74 = .ok (.getfield 25, 3) := by decide +kernel
theorem dX7_settle_77 : decode cX7_settle 77 = .ok (.iload_n 2, 1) := by decide +kernel
theorem dX7_settle_78 : decode cX7_settle 78 = .ok (.iaload, 1) := by decide +kernel
theorem dX7_settle_79 : decode cX7_settle 79 = .ok (.aload_n 0, 1) := by decide +kernel
theorem dX7_settle_80 : decode cX7_settle 80 = .ok (.getfield 46, 3) := by decide +kernel
theorem dX7_settle_83 : decode cX7_settle 83 = .ok (.iload_n 1, 1) := by decide +kernel
theorem dX7_settle_84 : decode cX7_settle 84 = .ok (.iaload, 1) := by decide +kernel
theorem dX7_settle_85 : decode cX7_settle 85 = .ok (.iload_n 1, 1) := by decide +kernel
theorem dX7_settle_86 : decode cX7_settle 86 = .ok (.aload_n 0, 1) := by decide +kernel
theorem dX7_settle_87 : decode cX7_settle 87 = .ok (.getfield 43, 3) := by decide +kernel
theorem dX7_settle_90 : decode cX7_settle 90 = .ok (.iload_n 1, 1) := by decide +kernel
theorem dX7_settle_91 : decode cX7_settle 91 = .ok (.iaload, 1) := by decide +kernel
theorem dX7_settle_92 : decode cX7_settle 92 = .ok (.iconst (-1), 1) := by decide +kernel
theorem dX7_settle_93 : decode cX7_settle 93 = .ok (.iconst 0, 1) := by decide +kernel
theorem dX7_settle_94 : decode cX7_settle 94 = .ok (.iconst 0, 1) := by decide +kernel
theorem dX7_settle_95 : decode cX7_settle 95 = .ok (.iconst 0, 1) := by decide +kernel
theorem dX7_settle_96 : decode cX7_settle 96 = .ok (.invokevirtual 144, 3) := by decide +kernel
theorem dX7_settle_99 : decode cX7_settle 99 = .ok (.aload_n 0, 1) := by decide +kernel
theorem dX7_settle_100 : decode cX7_settle 100 = .ok (.getfield 40, 3) := by decide +kernel
theorem dX7_settle_103 : decode cX7_settle 103 = .ok (.iload_n 1, 1) := by decide +kernel
theorem dX7_settle_104 : decode cX7_settle 104 = .ok (.dup2, 1) := by decide +kernel
theorem dX7_settle_105 : decode cX7_settle 105 = .ok (.iaload, 1) := by decide +kernel
theorem dX7_settle_106 : decode cX7_settle 106 = .ok (.iconst 1, 1) := by decide +kernel
theorem dX7_settle_107 : decode cX7_settle 107 = .ok (.iload_n 2, 1) := by decide +kernel
theorem dX7_settle_108 : decode cX7_settle 108 = .ok (.ishl, 1) := by decide +kernel
theorem dX7_settle_109 : decode cX7_settle 109 = .ok (.iconst (-1), 1) := by decide +kernel
theorem dX7_settle_110 : decode cX7_settle 110 = .ok (.ixor, 1) := by decide +kernel
theorem dX7_settle_111 : decode cX7_settle 111 = .ok (.iand, 1) := by decide +kernel
theorem dX7_settle_112 : decode cX7_settle 112 = .ok (.iastore, 1) := by decide +kernel
theorem dX7_settle_113 : decode cX7_settle 113 = .ok (.aload_n 0, 1) := by decide +kernel
theorem dX7_settle_114 : decode cX7_settle 114 = .ok (.iload_n 2, 1) := by decide +kernel
theorem dX7_settle_115 : decode cX7_settle 115 = .ok (.invokevirtual 125, 3) := by decide +kernel
theorem dX7_settle_118 : decode cX7_settle 118 = .ok (.iinc 2 1, 3) := by decide +kernel
theorem dX7_settle_121 : decode cX7_settle 121 = .ok (.goto (-92), 3) := by decide +kernel
theorem dX7_settle_124 : decode cX7_settle 124 = .ok (.aload_n 0, 1) := by decide +kernel
theorem dX7_settle_125 : decode cX7_settle 125 = .ok (.getfield 40, 3) := by decide +kernel
theorem dX7_settle_128 : decode cX7_settle 128 = .ok (.iload_n 1, 1) := by decide +kernel
theorem dX7_settle_129 : decode cX7_settle 129 = .ok (.iaload, 1) := by decide +kernel
theorem dX7_settle_130 : decode cX7_settle 130 = .ok (.ifCond .ne 10, 3) := by decide +kernel
theorem dX7_settle_133 : decode cX7_settle 133 = .ok (.aload_n 0, 1) := by decide +kernel
theorem dX7_settle_134 : decode cX7_settle 134 = .ok (.getfield 37, 3) := by decide +kernel
theorem dX7_settle_137 : decode cX7_settle 137 = .ok (.iload_n 1, 1) := by decide +kernel
theorem dX7_settle_138 : decode cX7_settle 138 = .ok (.iconst 0, 1) := by decide +kernel
theorem dX7_settle_139 : decode cX7_settle 139 = .ok (.iastore, 1) := by decide +kernel
theorem dX7_settle_140 : decode cX7_settle 140 = .ok (.aload_n 0, 1) := by decide +kernel
theorem dX7_settle_141 : decode cX7_settle 141 = .ok (.getfield 40, 3) := by decide +kernel
theorem dX7_settle_144 : decode cX7_settle 144 = .ok (.iload_n 1, 1) := by decide +kernel
theorem dX7_settle_145 : decode cX7_settle 145 = .ok (.iaload, 1) := by decide +kernel
theorem dX7_settle_146 : decode cX7_settle 146 = .ok (.invokestatic 112, 3) := by decide +kernel
theorem dX7_settle_149 : decode cX7_settle 149 = .ok (.ireturn, 1) := by decide +kernel
set_option maxRecDepth 20000 in
theorem ggX7_endOf_X6_get : GoodIn wsX7_endOf wsX6_get := goodIn_r _ [6, 7, 8, 9, 10, 11, 12, 13, 14, 15] (by rfl) (by decide +kernel)
set_option maxRecDepth 20000 in
theorem gX7_endOf_X6_get : GoodIn wsX7_endOf (wsV RX7 137 RX6 yX6_get wsX6_get) := goodIn_app (goodIn_of _ (by decide +kernel)) ggX7_endOf_X6_get
theorem dX7_endOf_0 : decode cX7_endOf 0 = .ok (.iload_n 1, 1) := by decide +kernel
theorem dX7_endOf_1 : decode cX7_endOf 1 = .ok (.iconst 1, 1) := by decide +kernel
theorem dX7_endOf_2 : decode cX7_endOf 2 = .ok (.iadd, 1) := by decide +kernel
theorem dX7_endOf_3 : decode cX7_endOf 3 = .ok (.istore_n 2, 1) := by decide +kernel
theorem dX7_endOf_4 : decode cX7_endOf 4 = .ok (.iload_n 2, 1) := by decide +kernel
theorem dX7_endOf_5 : decode cX7_endOf 5 = .ok (.aload_n 0, 1) := by decide +kernel
theorem dX7_endOf_6 : decode cX7_endOf 6 = .ok (.getfield 89, 3) := by decide +kernel
theorem dX7_endOf_9 : decode cX7_endOf 9 = .ok (.if_icmp .ge 55, 3) := by decide +kernel
theorem dX7_endOf_12 : decode cX7_endOf 12 = .ok (.aload_n 0, 1) := by decide +kernel
theorem dX7_endOf_13 : decode cX7_endOf 13 = .ok (.iload_n 2, 1) := by decide +kernel
theorem dX7_endOf_14 : decode cX7_endOf 14 = .ok (.iconst 1, 1) := by decide +kernel
theorem dX7_endOf_15 : decode cX7_endOf 15 = .ok (.invokevirtual 137, 3) := by decide +kernel
theorem dX7_endOf_18 : decode cX7_endOf 18 = .ok (.ifCond .le 40, 3) := by decide +kernel
theorem dX7_endOf_21 : decode cX7_endOf 21 = .ok (.aload_n 0, 1) := by decide +kernel
theorem dX7_endOf_22 : decode cX7_endOf 22 = .ok (.iload_n 2, 1) := by decide +kernel
theorem dX7_endOf_23 : decode cX7_endOf 23 = .ok (.iconst 2, 1) := by decide +kernel
theorem dX7_endOf_24 : decode cX7_endOf 24 = .ok (.invokevirtual 137, 3) := by decide +kernel
theorem dX7_endOf_27 : decode cX7_endOf 27 = .ok (.aload_n 0, 1) := by decide +kernel
theorem dX7_endOf_28 : decode cX7_endOf 28 = .ok (.iload_n 1, 1) := by decide +kernel
theorem dX7_endOf_29 : decode cX7_endOf 29 = .ok (.iconst 2, 1) := by decide +kernel
theorem dX7_endOf_30 : decode cX7_endOf 30 = .ok (.invokevirtual 137, 3) := by decide +kernel
theorem dX7_endOf_33 : decode cX7_endOf 33 = .ok (.if_icmp .ne 25, 3) := by decide +kernel
theorem dX7_endOf_36 : decode cX7_endOf 36 = .ok (.aload_n 0, 1) := by decide +kernel
theorem dX7_endOf_37 : decode cX7_endOf 37 = .ok (.iload_n 2, 1) := by decide +kernel
theorem dX7_endOf_38 : decode cX7_endOf 38 = .ok (.iconst 3, 1) := by decide +kernel
theorem dX7_endOf_39 : decode cX7_endOf 39 = .ok (.invokevirtual 137, 3) := by decide +kernel
theorem dX7_endOf_42 : decode cX7_endOf 42 = .ok (.aload_n 0, 1) := by decide +kernel
theorem dX7_endOf_43 : decode cX7_endOf 43 = .ok (.iload_n 1, 1) := by decide +kernel
theorem dX7_endOf_44 : decode cX7_endOf 44 = .ok (.iconst 3, 1) := by decide +kernel
theorem dX7_endOf_45 : decode cX7_endOf 45 = .ok (.invokevirtual 137, 3) := by decide +kernel
theorem dX7_endOf_48 : decode cX7_endOf 48 = .ok (.if_icmp .ne 10, 3) := by decide +kernel
theorem dX7_endOf_51 : decode cX7_endOf 51 = .ok (.aload_n 0, 1) := by decide +kernel
theorem dX7_endOf_52 : decode cX7_endOf 52 = .ok (.iload_n 2, 1) := by decide +kernel
theorem dX7_endOf_53 : decode cX7_endOf 53 = .ok (.iconst 1, 1) := by decide +kernel
theorem dX7_endOf_54 : decode cX7_endOf 54 = .ok (.invokevirtual 137, 3) := by decide +kernel
theorem dX7_endOf_57 : decode cX7_endOf 57 = .ok (.ireturn, 1) := by decide +kernel
theorem dX7_endOf_58 : decode cX7_endOf 58 = .ok (.iinc 2 1, 3) := by decide +kernel
theorem dX7_endOf_61 : decode cX7_endOf 61 = .ok (.goto (-57), 3) := by decide +kernel
theorem dX7_endOf_64 : decode cX7_endOf 64 = .ok (.iconst 0, 1) := by decide +kernel
theorem dX7_endOf_65 : decode cX7_endOf 65 = .ok (.ireturn, 1) := by decide +kernel
set_option maxRecDepth 20000 in
theorem ggX7_firstOpen_X6_get : GoodIn wsX7_firstOpen wsX6_get := goodIn_r _ [7, 8, 9, 14, 15, 16, 17, 18, 19, 20] (by rfl) (by decide +kernel)
set_option maxRecDepth 20000 in
theorem gX7_firstOpen_X6_get : GoodIn wsX7_firstOpen (wsV RX7 137 RX6 yX6_get wsX6_get) := goodIn_app (goodIn_of _ (by decide +kernel)) ggX7_firstOpen_X6_get
set_option maxRecDepth 20000 in
theorem ggX7_firstOpen_X7_endOf : GoodIn wsX7_firstOpen wsX7_endOf := goodIn_r _ [13, 2, 3, 4, 5, 6, 7, 8, 9, 14, 15, 16, 17, 18, 19, 20] (by rfl) (by decide +kernel)
set_option maxRecDepth 20000 in
theorem gX7_firstOpen_X7_endOf : GoodIn wsX7_firstOpen (va_wsS RX7 165 yX7_endOf wsX7_endOf) := goodIn_app (goodIn_of _ (by decide +kernel)) ggX7_firstOpen_X7_endOf
theorem dX7_firstOpen_0 : decode cX7_firstOpen 0 = .ok (.aload_n 0, 1) := by decide +kernel
theorem dX7_firstOpen_1 : decode cX7_firstOpen 1 = .ok (.getfield 134, 3) := by decide +kernel
theorem dX7_firstOpen_4 : decode cX7_firstOpen 4 = .ok (.istore_n 1, 1) := by decide +kernel
theorem dX7_firstOpen_5 : decode cX7_firstOpen 5 = .ok (.iload_n 1, 1) := by decide +kernel
theorem dX7_firstOpen_6 : decode cX7_firstOpen 6 = .ok (.aload_n 0, 1) := by decide +kernel
theorem dX7_firstOpen_7 : decode cX7_firstOpen 7 = .ok (.getfield 89, 3) := by decide +kernel
theorem dX7_firstOpen_10 : decode cX7_firstOpen 10 = .ok (.if_icmp .ge 39, 3) := by decide +kernel
theorem dX7_firstOpen_13 : decode cX7_firstOpen 13 = .ok (.aload_n 0, 1) := by decide +kernel
theorem dX7_firstOpen_14 : decode cX7_firstOpen 14 = .ok (.iload_n 1, 1) := by decide +kernel
theorem dX7_firstOpen_15 : decode cX7_firstOpen 15 = .ok (.iconst 1, 1) := by decide +kernel
theorem dX7_firstOpen_16 : decode cX7_firstOpen 16 = .ok (.invokevirtual 137, 3) := by decide +kernel
theorem dX7_firstOpen_19 : decode cX7_firstOpen 19 = .ok (.ifCond .ne 24, 3) := by decide +kernel
theorem dX7_firstOpen_22 : decode cX7_firstOpen 22 = .ok (.aload_n 0, 1) := by decide +kernel
theorem dX7_firstOpen_23 : decode cX7_firstOpen 23 = .ok (.iload_n 1, 1) := by decide +kernel
theorem dX7_firstOpen_24 : decode cX7_firstOpen 24 = .ok (.bipush 7, 2) := by decide +kernel
theorem dX7_firstOpen_26 : decode cX7_firstOpen 26 = .ok (.invokevirtual 137, 3) := by decide +kernel
theorem dX7_firstOpen_29 : decode cX7_firstOpen 29 = .ok (.iconst 1, 1) := by decide +kernel
theorem dX7_firstOpen_30 : decode cX7_firstOpen 30 = .ok (.if_icmp .ne 13, 3) := by decide +kernel
theorem dX7_firstOpen_33 : decode cX7_firstOpen 33 = .ok (.aload_n 0, 1) := by decide +kernel
theorem dX7_firstOpen_34 : decode cX7_firstOpen 34 = .ok (.iload_n 1, 1) := by decide +kernel
theorem dX7_firstOpen_35 : decode cX7_firstOpen 35 = .ok (.invokestatic 165, 3) := by decide +kernel
theorem dX7_firstOpen_38 : decode cX7_firstOpen 38 = .ok (.ifCond .ne 5, 3) := by decide +kernel
theorem dX7_firstOpen_41 : decode cX7_firstOpen 41 = .ok (.iload_n 1, 1) := by decide +kernel
theorem dX7_firstOpen_42 : decode cX7_firstOpen 42 = .ok (.ireturn, 1) := by decide +kernel
theorem dX7_firstOpen_43 : decode cX7_firstOpen 43 = .ok (.iinc 1 1, 3) := by decide +kernel
theorem dX7_firstOpen_46 : decode cX7_firstOpen 46 = .ok (.goto (-41), 3) := by decide +kernel
theorem dX7_firstOpen_49 : decode cX7_firstOpen 49 = .ok (.aload_n 0, 1) := by decide +kernel
theorem dX7_firstOpen_50 : decode cX7_firstOpen 50 = .ok (.getfield 89, 3) := by decide +kernel
theorem dX7_firstOpen_53 : decode cX7_firstOpen 53 = .ok (.ireturn, 1) := by decide +kernel
set_option maxRecDepth 20000 in
theorem ggX7_consume_X7_isThere : GoodIn wsX7_consume wsX7_isThere := goodIn_r _ [12, 13, 14, 15, 16, 11, 17, 51, 52, 53, 54, 55, 56, 57, 58, 59, 60, 61, 62, 63, 64, 65, 66, 67, 68] (by rfl) (by decide +kernel)
set_option maxRecDepth 20000 in
theorem gX7_consume_X7_isThere : GoodIn wsX7_consume (wsV RX7 82 RX7 yX7_isThere wsX7_isThere) := goodIn_app (goodIn_of _ (by decide +kernel)) ggX7_consume_X7_isThere
set_option maxRecDepth 20000 in
theorem ggX7_consume_X7_own : GoodIn wsX7_consume wsX7_own := goodIn_r _ [21, 22, 23, 24, 25, 26, 11, 27, 28, 29, 15, 16, 17, 51, 52, 53, 54, 55, 56, 57, 58, 59, 60, 61, 62, 63, 64, 65, 66, 67, 68] (by rfl) (by decide +kernel)
set_option maxRecDepth 20000 in
theorem gX7_consume_X7_own : GoodIn wsX7_consume (wsV RX7 95 RX7 yX7_own wsX7_own) := goodIn_app (goodIn_of _ (by decide +kernel)) ggX7_consume_X7_own
set_option maxRecDepth 20000 in
theorem ggX7_consume_X7_in : GoodIn wsX7_consume wsX7_in := goodIn_r _ [17] (by rfl) (by decide +kernel)
set_option maxRecDepth 20000 in
theorem gX7_consume_X7_in : GoodIn wsX7_consume (va_wsS RX7 76 yX7_in wsX7_in) := goodIn_app (goodIn_of _ (by decide +kernel)) ggX7_consume_X7_in
set_option maxRecDepth 20000 in
theorem ggX7_consume_X7_firstOpen : GoodIn wsX7_consume wsX7_firstOpen := goodIn_r _ [32, 1, 33, 34, 35, 36, 37, 38, 39, 40, 41, 42, 11, 43, 44, 45, 46, 47, 48, 49, 50] (by rfl) (by decide +kernel)
set_option maxRecDepth 20000 in
theorem gX7_consume_X7_firstOpen : GoodIn wsX7_consume (va_wsS RX7 169 yX7_firstOpen wsX7_firstOpen) := goodIn_app (goodIn_of _ (by decide +kernel)) ggX7_consume_X7_firstOpen
set_option maxRecDepth 20000 in
theorem ggX7_consume_X6_get : GoodIn wsX7_consume wsX6_get := goodIn_r _ [38, 39, 40, 44, 45, 46, 47, 48, 49, 50] (by rfl) (by decide +kernel)
set_option maxRecDepth 20000 in
theorem gX7_consume_X6_get : GoodIn wsX7_consume (wsV RX7 137 RX6 yX6_get wsX6_get) := goodIn_app (goodIn_of _ (by decide +kernel)) ggX7_consume_X6_get
set_option maxRecDepth 20000 in
theorem ggX7_consume_X7_endOf : GoodIn wsX7_consume wsX7_endOf := goodIn_r _ [43, 33, 34, 35, 36, 37, 38, 39, 40, 44, 45, 46, 47, 48, 49, 50] (by rfl) (by decide +kernel)
set_option maxRecDepth 20000 in
theorem gX7_consume_X7_endOf : GoodIn wsX7_consume (va_wsS RX7 165 yX7_endOf wsX7_endOf) := goodIn_app (goodIn_of _ (by decide +kernel)) ggX7_consume_X7_endOf
theorem dX7_consume_0 : decode cX7_consume 0 = .ok (.aload_n 0, 1) := by decide +kernel
theorem dX7_consume_1 : decode cX7_consume 1 = .ok (.iload_n 1, 1) := by decide +kernel
theorem dX7_consume_2 : decode cX7_consume 2 = .ok (.invokevirtual 82, 3) := by decide +kernel
theorem dX7_consume_5 : decode cX7_consume 5 = .ok (.ifCond .ne 5, 3) := by decide +kernel
theorem dX7_consume_8 : decode cX7_consume 8 = .ok (.iconst (-1), 1) := by decide +kernel
theorem dX7_consume_9 : decode cX7_consume 9 = .ok (.ireturn, 1) := by decide +kernel
theorem dX7_consume_10 : decode cX7_consume 10 = .ok (.aload_n 0, 1) := by decide +kernel
theorem dX7_consume_11 : decode cX7_consume 11 = .ok (.iload_n 1, 1) := by decide +kernel
theorem dX7_consume_12 : decode cX7_consume 12 = .ok (.invokevirtual 95, 3) := by decide +kernel
theorem dX7_consume_15 : decode cX7_consume 15 = .ok (.astore 4, 2) := by decide +kernel
theorem dX7_consume_17 : decode cX7_consume 17 = .ok (.aload 4, 2) := by decide +kernel
theorem dX7_consume_19 : decode cX7_consume 19 = .ok (.ifnonnull 6, 3) := by decide +kernel
theorem dX7_consume_22 : decode cX7_consume 22 = .ok (.bipush (-2), 2) := by decide +kernel
theorem dX7_consume_24 : decode cX7_consume 24 = .ok (.ireturn, 1) := by decide +kernel
theorem dX7_consume_25 : decode cX7_consume 25 = .ok (.iload_n 2, 1) := by decide +kernel
theorem dX7_consume_26 : decode cX7_consume 26 = .ok (.i2l, 1) := by decide +kernel
theorem dX7_consume_27 : decode cX7_consume 27 = .ok (.aload 4, 2) := by decide +kernel
theorem dX7_consume_29 : decode cX7_consume 29 = .ok (.getfield 134, 3) := by decide +kernel
theorem dX7_consume_32 : decode cX7_consume 32 = .ok (.i2l, 1) := by decide +kernel
theorem dX7_consume_33 : decode cX7_consume 33 = .ok (.aload 4, 2) := by decide +kernel
theorem dX7_consume_35 : decode cX7_consume 35 = .ok (.getfield 109, 3) := by decide +kernel
theorem dX7_consume_38 : decode cX7_consume 38 = .ok (.i2l, 1) := by decide +kernel
theorem dX7_consume_39 : decode cX7_consume 39 = .ok (.invokestatic 76, 3) := by decide +kernel
theorem dX7_consume_42 : decode cX7_consume 42 = .ok (.ifCond .ne 5, 3) := by decide +kernel
theorem dX7_consume_45 : decode cX7_consume 45 = .ok (.iconst (-1), 1) := by decide +kernel
theorem dX7_consume_46 : decode cX7_consume 46 = .ok (.ireturn, 1) := by decide +kernel
theorem dX7_consume_47 : decode cX7_consume 47 = .ok (.iload_n 3, 1) := by decide +kernel
theorem dX7_consume_48 : decode cX7_consume 48 = .ok (.ifCond .eq 19, 3) := by decide +kernel
theorem dX7_consume_51 : decode cX7_consume 51 = .ok (.aload 4, 2) := by decide +kernel
theorem dX7_consume_53 : decode cX7_consume 53 = .ok (.getfield 109, 3) := by decide +kernel
theorem dX7_consume_56 : decode cX7_consume 56 = .ok (.aload 4, 2) := by decide +kernel
theorem dX7_consume_58 : decode cX7_consume 58 = .ok (.invokestatic 169, 3) := by decide +kernel
theorem dX7_consume_61 : decode cX7_consume 61 = .ok (.invokestatic 105, 3) := by decide +kernel
theorem dX7_consume_64 : decode cX7_consume 64 = .ok (.goto 8, 3) := by decide +kernel
theorem dX7_consume_67 : decode cX7_consume 67 = .ok (.aload 4, 2) := by decide +kernel
theorem dX7_consume_69 : decode cX7_consume 69 = .ok (.getfield 109, 3) := by decide +kernel
theorem dX7_consume_72 : decode cX7_consume 72 = .ok (.istore 5, 2) := by decide +kernel
theorem dX7_consume_74 : decode cX7_consume 74 = .ok (.iload_n 2, 1) := by decide +kernel
theorem dX7_consume_75 : decode cX7_consume 75 = .ok (.istore 6, 2) := by decide +kernel
theorem dX7_consume_77 : decode cX7_consume 77 = .ok (.iload 6, 2) := by decide +kernel
theorem dX7_consume_79 : decode cX7_consume 79 = .ok (.iload 5, 2) := by decide +kernel
theorem dX7_consume_81 : decode cX7_consume 81 = .ok (.if_icmp .ge 102, 3) := by decide +kernel
theorem dX7_consume_84 : decode cX7_consume 84 = .ok (.aload 4, 2) := by decide +kernel
theorem dX7_consume_86 : decode cX7_consume 86 = .ok (.iload 6, 2) := by decide +kernel
theorem dX7_consume_88 : decode cX7_consume 88 = .ok (.iconst 1, 1) := by decide +kernel
theorem dX7_consume_89 : decode cX7_consume 89 = .ok (.invokevirtual 137, 3) := by decide +kernel
theorem dX7_consume_92 : decode cX7_consume 92 = .ok (.ifCond .ne 85, 3) := by decide +kernel
theorem dX7_consume_95 : decode cX7_consume 95 = .ok (.iload_n 3, 1) := by decide +kernel
theorem dX7_consume_96 : decode cX7_consume 96 = .ok (.ifCond .eq 30, 3) := by decide +kernel
theorem dX7_consume_99 : decode cX7_consume 99 = .ok (.aload 4, 2) := by decide +kernel
theorem dX7_consume_101 : decode cX7_consume 101 = .ok (.iload 6, 2) := by decide +kernel
theorem dX7_consume_103 : decode cX7_consume 103 = .ok (.bipush 7, 2) := by decide +kernel
theorem dX7_consume_105 : decode cX7_consume 105 = .ok (.invokevirtual 137, 3) := by decide +kernel
theorem dX7_consume_108 : decode cX7_consume 108 = .ok (.iconst 1, 1) := by decide +kernel
theorem dX7_consume_109 : decode cX7_consume 109 = .ok (.if_icmp .ne 17, 3) := by decide +kernel
theorem dX7_consume_112 : decode cX7_consume 112 = .ok (.aload 4, 2) := by decide +kernel
theorem dX7_consume_114 : decode cX7_consume 114 = .ok (.iload 6, 2) := by decide +kernel
theorem dX7_consume_116 : decode cX7_consume 116 = .ok (.invokestatic 165, 3) := by decide +kernel
theorem dX7_consume_119 : decode cX7_consume 119 = .ok (.iconst 2, 1) := by decide +kernel
theorem dX7_consume_120 : decode cX7_consume 120 = .ok (.if_icmp .ne 6, 3) := by decide +kernel
theorem dX7_consume_123 : decode cX7_consume 123 = .ok (.goto 54, 3) := by decide +kernel
theorem dX7_consume_126 : decode cX7_consume 126 = .ok (.aload_n 0, 1) := by decide +kernel
theorem dX7_consume_127 : decode cX7_consume 127 = .ok (.getfield 58, 3) := by decide +kernel
theorem dX7_consume_130 : decode cX7_consume 130 = .ok (.iconst 0, 1) := by decide +kernel
theorem dX7_consume_131 : decode cX7_consume 131 = .ok (.aload 4, 2) := by decide +kernel
theorem dX7_consume_133 : decode cX7_consume 133 = .ok (.iload 6, 2) := by decide +kernel
theorem dX7_consume_135 : decode cX7_consume 135 = .ok (.iconst 0, 1) := by decide +kernel
theorem dX7_consume_136 : decode cX7_consume 136 = .ok (.invokevirtual 137, 3) := by decide +kernel
theorem dX7_consume_139 : decode cX7_consume 139 = .ok (.iastore, 1) := by decide +kernel
theorem dX7_consume_140 : decode cX7_consume 140 = .ok (.iconst 1, 1) := by decide +kernel
theorem dX7_consume_141 : decode cX7_consume 141 = .ok (.istore 7, 2) := by decide +kernel
theorem dX7_consume_143 : decode cX7_consume 143 = .ok (.iload 7, 2) := by decide +kernel
theorem dX7_consume_145 : decode cX7_consume 145 = .ok (.bipush 6, 2) := by decide +kernel
theorem dX7_consume_147 : decode cX7_consume 147 = .ok (.if_icmp .ge 27, 3) := by decide +kernel
theorem dX7_consume_150 : decode cX7_consume 150 = .ok (.aload_n 0, 1) := by decide +kernel
theorem dX7_consume_151 : decode cX7_consume 151 = .ok (.getfield 58, 3) := by decide +kernel
theorem dX7_consume_154 : decode cX7_consume 154 = .ok (.iload 7, 2) := by decide +kernel
theorem dX7_consume_156 : decode cX7_consume 156 = .ok (.aload 4, 2) := by decide +kernel
theorem dX7_consume_158 : decode cX7_consume 158 = .ok (.iload 6, 2) := by decide +kernel
theorem dX7_consume_160 : decode cX7_consume 160 = .ok (.iload 7, 2) := by decide +kernel
theorem dX7_consume_162 : decode cX7_consume 162 = .ok (.iconst 1, 1) := by decide +kernel
theorem dX7_consume_163 : decode cX7_consume 163 = .ok (.iadd, 1) := by decide +kernel
theorem dX7_consume_164 : decode cX7_consume 164 = .ok (.invokevirtual 137, 3) := by decide +kernel
theorem dX7_consume_167 : decode cX7_consume 167 = .ok (.iastore, 1) := by decide +kernel
theorem dX7_consume_168 : decode cX7_consume 168 = .ok (.iinc 7 1, 3) := by decide +kernel
theorem dX7_consume_171 : decode cX7_consume 171 = .ok (.goto (-28), 3) := by decide +kernel
theorem dX7_consume_174 : decode cX7_consume 174 = .ok (.iload 6, 2) := by decide +kernel
theorem dX7_consume_176 : decode cX7_consume 176 = .ok (.ireturn, 1) := by decide +kernel
theorem dX7_consume_177 : decode cX7_consume 177 = .ok (.iinc 6 1, 3) := by decide +kernel
theorem dX7_consume_180 : decode cX7_consume 180 = .ok (.goto (-103), 3) := by decide +kernel
theorem dX7_consume_183 : decode cX7_consume 183 = .ok (.bipush (-2), 2) := by decide +kernel
theorem dX7_consume_185 : decode cX7_consume 185 = .ok (.ireturn, 1) := by decide +kernel
set_option maxRecDepth 20000 in
theorem ggX7_seen_X7_in : GoodIn wsX7_seen wsX7_in := goodIn_r _ [6] (by rfl) (by decide +kernel)
set_option maxRecDepth 20000 in
theorem gX7_seen_X7_in : GoodIn wsX7_seen (va_wsS RX7 76 yX7_in wsX7_in) := goodIn_app (goodIn_of _ (by decide +kernel)) ggX7_seen_X7_in
theorem dX7_seen_0 : decode cX7_seen 0 = .ok (.iload_n 1, 1) := by decide +kernel
theorem dX7_seen_1 : decode cX7_seen 1 = .ok (.i2l, 1) := by decide +kernel
theorem dX7_seen_2 : decode cX7_seen 2 = .ok (.lconst 0, 1) := by decide +kernel
theorem dX7_seen_3 : decode cX7_seen 3 = .ok (.ldc2_w 129, 3) := by decide +kernel
theorem dX7_seen_6 : decode cX7_seen 6 = .ok (.invokestatic 76, 3) := by decide +kernel
theorem dX7_seen_9 : decode cX7_seen 9 = .ok (.ifCond .eq 12, 3) := by decide +kernel
theorem dX7_seen_12 : decode cX7_seen 12 = .ok (.aload_n 0, 1) := by decide +kernel
theorem dX7_seen_13 : decode cX7_seen 13 = .ok (.getfield 58, 3) := by decide +kernel
theorem dX7_seen_16 : decode cX7_seen 16 = .ok (.iload_n 1, 1) := by decide +kernel
theorem dX7_seen_17 : decode cX7_seen 17 = .ok (.iaload, 1) := by decide +kernel
theorem dX7_seen_18 : decode cX7_seen 18 = .ok (.goto 4, 3) := by decide +kernel
theorem dX7_seen_21 : decode cX7_seen 21 = .ok (.iconst 0, 1) := by decide +kernel
theorem dX7_seen_22 : decode cX7_seen 22 = .ok (.ireturn, 1) := by decide +kernel
set_option maxRecDepth 20000 in
theorem ggX7_member_X7_in : GoodIn wsX7_member wsX7_in := goodIn_r _ [8] (by rfl) (by decide +kernel)
set_option maxRecDepth 20000 in
theorem gX7_member_X7_in : GoodIn wsX7_member (va_wsS RX7 76 yX7_in wsX7_in) := goodIn_app (goodIn_of _ (by decide +kernel)) ggX7_member_X7_in
theorem dX7_member_0 : decode cX7_member 0 = .ok (.iload_n 1, 1) := by decide +kernel
theorem dX7_member_1 : decode cX7_member 1 = .ok (.i2l, 1) := by decide +kernel
theorem dX7_member_2 : decode cX7_member 2 = .ok (.lconst 0, 1) := by decide +kernel
theorem dX7_member_3 : decode cX7_member 3 = .ok (.ldc2_w 80, 3) := by decide +kernel
theorem dX7_member_6 : decode cX7_member 6 = .ok (.invokestatic 76, 3) := by decide +kernel
theorem dX7_member_9 : decode cX7_member 9 = .ok (.ifCond .eq 15, 3) := by decide +kernel
theorem dX7_member_12 : decode cX7_member 12 = .ok (.iload_n 2, 1) := by decide +kernel
theorem dX7_member_13 : decode cX7_member 13 = .ok (.i2l, 1) := by decide +kernel
theorem dX7_member_14 : decode cX7_member 14 = .ok (.lconst 0, 1) := by decide +kernel
theorem dX7_member_15 : decode cX7_member 15 = .ok (.ldc2_w 173, 3) := by decide +kernel
theorem dX7_member_18 : decode cX7_member 18 = .ok (.invokestatic 76, 3) := by decide +kernel
theorem dX7_member_21 : decode cX7_member 21 = .ok (.ifCond .ne 5, 3) := by decide +kernel
theorem dX7_member_24 : decode cX7_member 24 = .ok (.iconst (-1), 1) := by decide +kernel
theorem dX7_member_25 : decode cX7_member 25 = .ok (.ireturn, 1) := by decide +kernel
theorem dX7_member_26 : decode cX7_member 26 = .ok (.aload_n 0, 1) := by decide +kernel
theorem dX7_member_27 : decode cX7_member 27 = .ok (.getfield 49, 3) := by decide +kernel
theorem dX7_member_30 : decode cX7_member 30 = .ok (.iload_n 1, 1) := by decide +kernel
theorem dX7_member_31 : decode cX7_member 31 = .ok (.dup2, 1) := by decide +kernel
theorem dX7_member_32 : decode cX7_member 32 = .ok (.iaload, 1) := by decide +kernel
theorem dX7_member_33 : decode cX7_member 33 = .ok (.iconst 1, 1) := by decide +kernel
theorem dX7_member_34 : decode cX7_member 34 = .ok (.iload_n 2, 1) := by decide +kernel
theorem dX7_member_35 : decode cX7_member 35 = .ok (.ishl, 1) := by decide +kernel
theorem dX7_member_36 : decode cX7_member 36 = .ok (.ixor, 1) := by decide +kernel
theorem dX7_member_37 : decode cX7_member 37 = .ok (.iastore, 1) := by decide +kernel
theorem dX7_member_38 : decode cX7_member 38 = .ok (.aload_n 0, 1) := by decide +kernel
theorem dX7_member_39 : decode cX7_member 39 = .ok (.getfield 52, 3) := by decide +kernel
theorem dX7_member_42 : decode cX7_member 42 = .ok (.iload_n 1, 1) := by decide +kernel
theorem dX7_member_43 : decode cX7_member 43 = .ok (.dup2, 1) := by decide +kernel
theorem dX7_member_44 : decode cX7_member 44 = .ok (.iaload, 1) := by decide +kernel
theorem dX7_member_45 : decode cX7_member 45 = .ok (.iconst 1, 1) := by decide +kernel
theorem dX7_member_46 : decode cX7_member 46 = .ok (.iadd, 1) := by decide +kernel
theorem dX7_member_47 : decode cX7_member 47 = .ok (.iastore, 1) := by decide +kernel
theorem dX7_member_48 : decode cX7_member 48 = .ok (.aload_n 0, 1) := by decide +kernel
theorem dX7_member_49 : decode cX7_member 49 = .ok (.getfield 52, 3) := by decide +kernel
theorem dX7_member_52 : decode cX7_member 52 = .ok (.iload_n 1, 1) := by decide +kernel
theorem dX7_member_53 : decode cX7_member 53 = .ok (.iaload, 1) := by decide +kernel
theorem dX7_member_54 : decode cX7_member 54 = .ok (.ireturn, 1) := by decide +kernel
set_option maxRecDepth 20000 in
theorem ggX7_owner_X7_in : GoodIn wsX7_owner wsX7_in := goodIn_r _ [7] (by rfl) (by decide +kernel)
set_option maxRecDepth 20000 in
theorem gX7_owner_X7_in : GoodIn wsX7_owner (va_wsS RX7 76 yX7_in wsX7_in) := goodIn_app (goodIn_of _ (by decide +kernel)) ggX7_owner_X7_in
set_option maxRecDepth 20000 in
theorem ggX7_owner_X7_isThere : GoodIn wsX7_owner wsX7_isThere := goodIn_r _ [11, 1, 3, 4, 5, 6, 7, 19, 20, 21, 22, 23, 24, 25, 26, 27, 28, 29, 30, 31, 32, 33, 34, 35, 36] (by rfl) (by decide +kernel)
set_option maxRecDepth 20000 in
theorem gX7_owner_X7_isThere : GoodIn wsX7_owner (wsV RX7 82 RX7 yX7_isThere wsX7_isThere) := goodIn_app (goodIn_of _ (by decide +kernel)) ggX7_owner_X7_isThere
set_option maxRecDepth 20000 in
theorem ggX7_owner_J6_bitCount_0f7a4 : GoodIn wsX7_owner wsJ6_bitCount_0f7a4 := goodIn_r _ [15, 16, 17, 18] (by rfl) (by decide +kernel)
set_option maxRecDepth 20000 in
theorem gX7_owner_J6_bitCount_0f7a4 : GoodIn wsX7_owner (va_wsS RX7 112 yJ6_bitCount_0f7a4 wsJ6_bitCount_0f7a4) := goodIn_app (goodIn_of _ (by decide +kernel)) ggX7_owner_J6_bitCount_0f7a4
theorem dX7_owner_0 : decode cX7_owner 0 = .ok (.iload_n 1, 1) := by decide +kernel
theorem dX7_owner_1 : decode cX7_owner 1 = .ok (.i2l, 1) := by decide +kernel
theorem dX7_owner_2 : decode cX7_owner 2 = .ok (.lconst 0, 1) := by decide +kernel
theorem dX7_owner_3 : decode cX7_owner 3 = .ok (.ldc2_w 80, 3) := by decide +kernel
theorem dX7_owner_6 : decode cX7_owner 6 = .ok (.invokestatic 76, 3) := by decide +kernel
theorem dX7_owner_9 : decode cX7_owner 9 = .ok (.ifCond .eq 11, 3) := by decide +kernel
theorem dX7_owner_12 : decode cX7_owner 12 = .ok (.aload_n 0, 1) := by decide +kernel
theorem dX7_owner_13 : decode cX7_owner 13 = .ok (.iload_n 2, 1) := by decide +kernel
theorem dX7_owner_14 : decode cX7_owner 14 = .ok (.invokevirtual 82, 3) := by decide +kernel
theorem dX7_owner_17 : decode cX7_owner 17 = .ok (.ifCond .ne 5, 3) := by decide +kernel
theorem dX7_owner_20 : decode cX7_owner 20 = .ok (.iconst (-1), 1) := by decide +kernel
theorem dX7_owner_21 : decode cX7_owner 21 = .ok (.ireturn, 1) := by decide +kernel
theorem dX7_owner_22 : decode cX7_owner 22 = .ok (.aload_n 0, 1) := by decide +kernel
theorem dX7_owner_23 : decode cX7_owner 23 = .ok (.getfield 49, 3) := by decide +kernel
theorem dX7_owner_26 : decode cX7_owner 26 = .ok (.iload_n 1, 1) := by decide +kernel
theorem dX7_owner_27 : decode cX7_owner 27 = .ok (.iaload, 1) := by decide +kernel
theorem dX7_owner_28 : decode cX7_owner 28 = .ok (.invokestatic 112, 3) := by decide +kernel
theorem dX7_owner_31 : decode cX7_owner 31 = .ok (.istore_n 3, 1) := by decide +kernel
theorem dX7_owner_32 : decode cX7_owner 32 = .ok (.iconst 0, 1) := by decide +kernel
theorem dX7_owner_33 : decode cX7_owner 33 = .ok (.istore 4, 2) := by decide +kernel
theorem dX7_owner_35 : decode cX7_owner 35 = .ok (.iload_n 3, 1) := by decide +kernel
theorem dX7_owner_36 : decode cX7_owner 36 = .ok (.ifCond .ne 6, 3) := by decide +kernel
theorem dX7_owner_39 : decode cX7_owner 39 = .ok (.bipush (-2), 2) := by decide +kernel
theorem dX7_owner_41 : decode cX7_owner 41 = .ok (.ireturn, 1) := by decide +kernel
theorem dX7_owner_42 : decode cX7_owner 42 = .ok (.iconst 0, 1) := by decide +kernel
theorem dX7_owner_43 : decode cX7_owner 43 = .ok (.istore 5, 2) := by decide +kernel
theorem dX7_owner_45 : decode cX7_owner 45 = .ok (.iload 5, 2) := by decide +kernel
theorem dX7_owner_47 : decode cX7_owner 47 = .ok (.iload_n 2, 1) := by decide +kernel
theorem dX7_owner_48 : decode cX7_owner 48 = .ok (.if_icmp .ge 22, 3) := by decide +kernel
theorem dX7_owner_51 : decode cX7_owner 51 = .ok (.aload_n 0, 1) := by decide +kernel
theorem dX7_owner_52 : decode cX7_owner 52 = .ok (.getfield 14, 3) := by decide +kernel
theorem dX7_owner_55 : decode cX7_owner 55 = .ok (.iload 5, 2) := by decide +kernel
theorem dX7_owner_57 : decode cX7_owner 57 = .ok (.baload, 1) := by decide +kernel
theorem dX7_owner_58 : decode cX7_owner 58 = .ok (.ifCond .eq 6, 3) := by decide +kernel
theorem dX7_owner_61 : decode cX7_owner 61 = .ok (.iinc 4 1, 3) := by decide +kernel
theorem dX7_owner_64 : decode cX7_owner 64 = .ok (.iinc 5 1, 3) := by decide +kernel
theorem dX7_owner_67 : decode cX7_owner 67 = .ok (.goto (-22), 3) := by decide +kernel
theorem dX7_owner_70 : decode cX7_owner 70 = .ok (.iload 4, 2) := by decide +kernel
theorem dX7_owner_72 : decode cX7_owner 72 = .ok (.iload_n 3, 1) := by decide +kernel
theorem dX7_owner_73 : decode cX7_owner 73 = .ok (.irem, 1) := by decide +kernel
theorem dX7_owner_74 : decode cX7_owner 74 = .ok (.istore 4, 2) := by decide +kernel
theorem dX7_owner_76 : decode cX7_owner 76 = .ok (.iconst 0, 1) := by decide +kernel
theorem dX7_owner_77 : decode cX7_owner 77 = .ok (.istore 5, 2) := by decide +kernel
theorem dX7_owner_79 : decode cX7_owner 79 = .ok (.iload 5, 2) := by decide +kernel
theorem dX7_owner_81 : decode cX7_owner 81 = .ok (.bipush 8, 2) := by decide +kernel
theorem dX7_owner_83 : decode cX7_owner 83 = .ok (.if_icmp .ge 37, 3) := by decide +kernel
theorem dX7_owner_86 : decode cX7_owner 86 = .ok (.aload_n 0, 1) := by decide +kernel
theorem dX7_owner_87 : decode cX7_owner 87 = .ok (.getfield 49, 3) := by decide +kernel
theorem dX7_owner_90 : decode cX7_owner 90 = .ok (.iload_n 1, 1) := by decide +kernel
theorem dX7_owner_91 : decode cX7_owner 91 = .ok (.iaload, 1) := by decide +kernel
theorem dX7_owner_92 : decode cX7_owner 92 = .ok (.iload 5, 2) := by decide +kernel
theorem dX7_owner_94 : decode cX7_owner 94 = .ok (.ishr, 1) := by decide +kernel
theorem dX7_owner_95 : decode cX7_owner 95 = .ok (.iconst 1, 1) := by decide +kernel
theorem dX7_owner_96 : decode cX7_owner 96 = .ok (.iand, 1) := by decide +kernel
theorem dX7_owner_97 : decode cX7_owner 97 = .ok (.ifCond .ne 6, 3) := by decide +kernel
theorem dX7_owner_100 : decode cX7_owner 100 = .ok (.goto 14, 3) := by decide +kernel
theorem dX7_owner_103 : decode cX7_owner 103 = .ok (.iload 4, 2) := by decide +kernel
theorem dX7_owner_105 : decode cX7_owner 105 = .ok (.ifCond .ne 6, 3) := by decide +kernel
theorem dX7_owner_108 : decode cX7_owner 108 = .ok (.iload 5, 2) := by decide +kernel
theorem dX7_owner_110 : decode cX7_owner 110 = .ok (.ireturn, 1) := by decide +kernel
theorem dX7_owner_111 : decode cX7_owner 111 = .ok (.iinc 4 (-1), 3) := by decide +kernel
theorem dX7_owner_114 : decode cX7_owner 114 = .ok (.iinc 5 1, 3) := by decide +kernel
theorem dX7_owner_117 : decode cX7_owner 117 = .ok (.goto (-38), 3) := by decide +kernel
theorem dX7_owner_120 : decode cX7_owner 120 = .ok (.bipush (-2), 2) := by decide +kernel
theorem dX7_owner_122 : decode cX7_owner 122 = .ok (.ireturn, 1) := by decide +kernel
set_option maxRecDepth 20000 in
theorem ggX7_move_X7_in : GoodIn wsX7_move wsX7_in := goodIn_r _ [8] (by rfl) (by decide +kernel)
set_option maxRecDepth 20000 in
theorem gX7_move_X7_in : GoodIn wsX7_move (va_wsS RX7 76 yX7_in wsX7_in) := goodIn_app (goodIn_of _ (by decide +kernel)) ggX7_move_X7_in
set_option maxRecDepth 20000 in
theorem ggX7_move_X7_isThere : GoodIn wsX7_move wsX7_isThere := goodIn_r _ [12, 1, 13, 5, 6, 7, 8, 26, 27, 28, 29, 30, 31, 32, 33, 34, 35, 36, 37, 38, 39, 40, 41, 42, 43] (by rfl) (by decide +kernel)
set_option maxRecDepth 20000 in
theorem gX7_move_X7_isThere : GoodIn wsX7_move (wsV RX7 82 RX7 yX7_isThere wsX7_isThere) := goodIn_app (goodIn_of _ (by decide +kernel)) ggX7_move_X7_isThere
set_option maxRecDepth 20000 in
theorem ggX7_move_X7_owner : GoodIn wsX7_move wsX7_owner := goodIn_r _ [17, 1, 18, 13, 5, 6, 7, 8, 9, 10, 11, 12, 19, 20, 21, 22, 23, 24, 25, 26, 27, 28, 29, 30, 31, 32, 33, 34, 35, 36, 37, 38, 39, 40, 41, 42, 43] (by rfl) (by decide +kernel)
set_option maxRecDepth 20000 in
theorem gX7_move_X7_owner : GoodIn wsX7_move (wsV RX7 175 RX7 yX7_owner wsX7_owner) := goodIn_app (goodIn_of _ (by decide +kernel)) ggX7_move_X7_owner
theorem dX7_move_0 : decode cX7_move 0 = .ok (.iload 5, 2) := by decide +kernel
theorem dX7_move_2 : decode cX7_move 2 = .ok (.ifCond .lt 24, 3) := by decide +kernel
theorem dX7_move_5 : decode cX7_move 5 = .ok (.iload_n 1, 1) := by decide +kernel
theorem dX7_move_6 : decode cX7_move 6 = .ok (.i2l, 1) := by decide +kernel
theorem dX7_move_7 : decode cX7_move 7 = .ok (.lconst 0, 1) := by decide +kernel
theorem dX7_move_8 : decode cX7_move 8 = .ok (.ldc2_w 80, 3) := by decide +kernel
theorem dX7_move_11 : decode cX7_move 11 = .ok (.invokestatic 76, 3) := by decide +kernel
theorem dX7_move_14 : decode cX7_move 14 = .ok (.ifCond .eq 12, 3) := by decide +kernel
theorem dX7_move_17 : decode cX7_move 17 = .ok (.aload_n 0, 1) := by decide +kernel
theorem dX7_move_18 : decode cX7_move 18 = .ok (.iload 4, 2) := by decide +kernel
theorem dX7_move_20 : decode cX7_move 20 = .ok (.invokevirtual 82, 3) := by decide +kernel
theorem dX7_move_23 : decode cX7_move 23 = .ok (.ifCond .ne 5, 3) := by decide +kernel
theorem dX7_move_26 : decode cX7_move 26 = .ok (.iconst (-1), 1) := by decide +kernel
theorem dX7_move_27 : decode cX7_move 27 = .ok (.ireturn, 1) := by decide +kernel
theorem dX7_move_28 : decode cX7_move 28 = .ok (.iload_n 2, 1) := by decide +kernel
theorem dX7_move_29 : decode cX7_move 29 = .ok (.i2l, 1) := by decide +kernel
theorem dX7_move_30 : decode cX7_move 30 = .ok (.lconst 0, 1) := by decide +kernel
theorem dX7_move_31 : decode cX7_move 31 = .ok (.ldc2_w 173, 3) := by decide +kernel
theorem dX7_move_34 : decode cX7_move 34 = .ok (.invokestatic 76, 3) := by decide +kernel
theorem dX7_move_37 : decode cX7_move 37 = .ok (.ifCond .eq 24, 3) := by decide +kernel
theorem dX7_move_40 : decode cX7_move 40 = .ok (.aload_n 0, 1) := by decide +kernel
theorem dX7_move_41 : decode cX7_move 41 = .ok (.iload_n 1, 1) := by decide +kernel
theorem dX7_move_42 : decode cX7_move 42 = .ok (.iload 4, 2) := by decide +kernel
theorem dX7_move_44 : decode cX7_move 44 = .ok (.invokevirtual 175, 3) := by decide +kernel
theorem dX7_move_47 : decode cX7_move 47 = .ok (.iload_n 2, 1) := by decide +kernel
theorem dX7_move_48 : decode cX7_move 48 = .ok (.if_icmp .ne 13, 3) := by decide +kernel
theorem dX7_move_51 : decode cX7_move 51 = .ok (.aload_n 0, 1) := by decide +kernel
theorem dX7_move_52 : decode cX7_move 52 = .ok (.getfield 52, 3) := by decide +kernel
theorem dX7_move_55 : decode cX7_move 55 = .ok (.iload_n 1, 1) := by decide +kernel
theorem dX7_move_56 : decode cX7_move 56 = .ok (.iaload, 1) := by decide +kernel
theorem dX7_move_57 : decode cX7_move 57 = .ok (.iload_n 3, 1) := by decide +kernel
theorem dX7_move_58 : decode cX7_move 58 = .ok (.if_icmp .eq 6, 3) := by decide +kernel
theorem dX7_move_61 : decode cX7_move 61 = .ok (.bipush (-4), 2) := by decide +kernel
theorem dX7_move_63 : decode cX7_move 63 = .ok (.ireturn, 1) := by decide +kernel
theorem dX7_move_64 : decode cX7_move 64 = .ok (.aload_n 0, 1) := by decide +kernel
theorem dX7_move_65 : decode cX7_move 65 = .ok (.getfield 55, 3) := by decide +kernel
theorem dX7_move_68 : decode cX7_move 68 = .ok (.iconst 4, 1) := by decide +kernel
theorem dX7_move_69 : decode cX7_move 69 = .ok (.iload_n 1, 1) := by decide +kernel
theorem dX7_move_70 : decode cX7_move 70 = .ok (.imul, 1) := by decide +kernel
theorem dX7_move_71 : decode cX7_move 71 = .ok (.iload 4, 2) := by decide +kernel
theorem dX7_move_73 : decode cX7_move 73 = .ok (.iadd, 1) := by decide +kernel
theorem dX7_move_74 : decode cX7_move 74 = .ok (.iload 5, 2) := by decide +kernel
theorem dX7_move_76 : decode cX7_move 76 = .ok (.iastore, 1) := by decide +kernel
theorem dX7_move_77 : decode cX7_move 77 = .ok (.iconst 0, 1) := by decide +kernel
theorem dX7_move_78 : decode cX7_move 78 = .ok (.ireturn, 1) := by decide +kernel
set_option maxRecDepth 20000 in
theorem ggX7_position_X7_in : GoodIn wsX7_position wsX7_in := goodIn_r _ [6] (by rfl) (by decide +kernel)
set_option maxRecDepth 20000 in
theorem gX7_position_X7_in : GoodIn wsX7_position (va_wsS RX7 76 yX7_in wsX7_in) := goodIn_app (goodIn_of _ (by decide +kernel)) ggX7_position_X7_in
set_option maxRecDepth 20000 in
theorem ggX7_position_X7_isThere : GoodIn wsX7_position wsX7_isThere := goodIn_r _ [10, 1, 11, 3, 4, 5, 6, 12, 13, 14, 15, 16, 17, 18, 19, 20, 21, 22, 23, 24, 25, 26, 27, 28, 29] (by rfl) (by decide +kernel)
set_option maxRecDepth 20000 in
theorem gX7_position_X7_isThere : GoodIn wsX7_position (wsV RX7 82 RX7 yX7_isThere wsX7_isThere) := goodIn_app (goodIn_of _ (by decide +kernel)) ggX7_position_X7_isThere
theorem dX7_position_0 : decode cX7_position 0 = .ok (.iload_n 1, 1) := by decide +kernel
theorem dX7_position_1 : decode cX7_position 1 = .ok (.i2l, 1) := by decide +kernel
theorem dX7_position_2 : decode cX7_position 2 = .ok (.lconst 0, 1) := by decide +kernel
theorem dX7_position_3 : decode cX7_position 3 = .ok (.ldc2_w 80, 3) := by decide +kernel
theorem dX7_position_6 : decode cX7_position 6 = .ok (.invokestatic 76, 3) := by decide +kernel
theorem dX7_position_9 : decode cX7_position 9 = .ok (.ifCond .eq 24, 3) := by decide +kernel
theorem dX7_position_12 : decode cX7_position 12 = .ok (.aload_n 0, 1) := by decide +kernel
theorem dX7_position_13 : decode cX7_position 13 = .ok (.iload_n 2, 1) := by decide +kernel
theorem dX7_position_14 : decode cX7_position 14 = .ok (.invokevirtual 82, 3) := by decide +kernel
theorem dX7_position_17 : decode cX7_position 17 = .ok (.ifCond .eq 16, 3) := by decide +kernel
theorem dX7_position_20 : decode cX7_position 20 = .ok (.aload_n 0, 1) := by decide +kernel
theorem dX7_position_21 : decode cX7_position 21 = .ok (.getfield 55, 3) := by decide +kernel
theorem dX7_position_24 : decode cX7_position 24 = .ok (.iconst 4, 1) := by decide +kernel
theorem dX7_position_25 : decode cX7_position 25 = .ok (.iload_n 1, 1) := by decide +kernel
theorem dX7_position_26 : decode cX7_position 26 = .ok (.imul, 1) := by decide +kernel
theorem dX7_position_27 : decode cX7_position 27 = .ok (.iload_n 2, 1) := by decide +kernel
theorem dX7_position_28 : decode cX7_position 28 = .ok (.iadd, 1) := by decide +kernel
theorem dX7_position_29 : decode cX7_position 29 = .ok (.iaload, 1) := by decide +kernel
theorem dX7_position_30 : decode cX7_position 30 = .ok (.goto 4, 3) := by decide +kernel
theorem dX7_position_33 : decode cX7_position 33 = .ok (.iconst (-1), 1) := by decide +kernel
theorem dX7_position_34 : decode cX7_position 34 = .ok (.ireturn, 1) := by decide +kernel
set_option maxRecDepth 20000 in
theorem ggX7_tick_X7_in : GoodIn wsX7_tick wsX7_in := goodIn_r _ [11] (by rfl) (by decide +kernel)
set_option maxRecDepth 20000 in
theorem gX7_tick_X7_in : GoodIn wsX7_tick (va_wsS RX7 76 yX7_in wsX7_in) := goodIn_app (goodIn_of _ (by decide +kernel)) ggX7_tick_X7_in
set_option maxRecDepth 20000 in
theorem ggX7_tick_X7_own : GoodIn wsX7_tick wsX7_own := goodIn_r _ [15, 5, 6, 16, 17, 18, 10, 19, 20, 21, 8, 9, 11, 38, 39, 40, 41, 42, 43, 44, 45, 46, 47, 48, 49, 50, 51, 52, 53, 54, 55] (by rfl) (by decide +kernel)
set_option maxRecDepth 20000 in
theorem gX7_tick_X7_own : GoodIn wsX7_tick (wsV RX7 95 RX7 yX7_own wsX7_own) := goodIn_app (goodIn_of _ (by decide +kernel)) ggX7_tick_X7_own
set_option maxRecDepth 20000 in
theorem ggX7_tick_X7_rise : GoodIn wsX7_tick wsX7_rise := goodIn_r _ [25, 26, 4, 27, 28, 29, 30, 31, 12, 13, 14, 10, 15, 5, 6, 16, 17, 18, 19, 20, 21, 8, 9, 11, 32, 33, 34, 35, 36, 37, 38, 39, 40, 41, 42, 43, 44, 45, 46, 47, 48, 49, 50, 51, 52, 53, 54, 55, 56, 57, 58, 59, 60, 61, 62] (by rfl) (by decide +kernel)
set_option maxRecDepth 20000 in
theorem gX7_tick_X7_rise : GoodIn wsX7_tick (wsV RX7 125 RX7 yX7_rise wsX7_rise) := goodIn_app (goodIn_of _ (by decide +kernel)) ggX7_tick_X7_rise
theorem dX7_tick_0 : decode cX7_tick 0 = .ok (.iload_n 1, 1) := by decide +kernel
theorem dX7_tick_1 : decode cX7_tick 1 = .ok (.i2l, 1) := by decide +kernel
theorem dX7_tick_2 : decode cX7_tick 2 = .ok (.lconst 1, 1) := by decide +kernel
theorem dX7_tick_3 : decode cX7_tick 3 = .ok (.ldc2_w 178, 3) := by decide +kernel
theorem dX7_tick_6 : decode cX7_tick 6 = .ok (.invokestatic 76, 3) := by decide +kernel
theorem dX7_tick_9 : decode cX7_tick 9 = .ok (.ifCond .ne 5, 3) := by decide +kernel
theorem dX7_tick_12 : decode cX7_tick 12 = .ok (.iconst (-1), 1) := by decide +kernel
theorem dX7_tick_13 : decode cX7_tick 13 = .ok (.ireturn, 1) := by decide +kernel
theorem dX7_tick_14 : decode cX7_tick 14 = .ok (.aload_n 0, 1) := by decide +kernel
theorem dX7_tick_15 : decode cX7_tick 15 = .ok (.dup, 1) := by decide +kernel
theorem dX7_tick_16 : decode cX7_tick 16 = .ok (.getfield 119, 3) := by decide +kernel
theorem dX7_tick_19 : decode cX7_tick 19 = .ok (.iload_n 1, 1) := by decide +kernel
theorem dX7_tick_20 : decode cX7_tick 20 = .ok (.iadd, 1) := by decide +kernel
theorem dX7_tick_21 : decode cX7_tick 21 = .ok (.putfield 119, 3) := by decide +kernel
theorem dX7_tick_24 : decode cX7_tick 24 = .ok (.iconst 0, 1) := by decide +kernel
theorem dX7_tick_25 : decode cX7_tick 25 = .ok (.istore_n 2, 1) := by decide +kernel
theorem dX7_tick_26 : decode cX7_tick 26 = .ok (.iconst 0, 1) := by decide +kernel
theorem dX7_tick_27 : decode cX7_tick 27 = .ok (.istore_n 3, 1) := by decide +kernel
theorem dX7_tick_28 : decode cX7_tick 28 = .ok (.iload_n 3, 1) := by decide +kernel
theorem dX7_tick_29 : decode cX7_tick 29 = .ok (.iconst 4, 1) := by decide +kernel
theorem dX7_tick_30 : decode cX7_tick 30 = .ok (.if_icmp .ge 117, 3) := by decide +kernel
theorem dX7_tick_33 : decode cX7_tick 33 = .ok (.aload_n 0, 1) := by decide +kernel
theorem dX7_tick_34 : decode cX7_tick 34 = .ok (.getfield 14, 3) := by decide +kernel
theorem dX7_tick_37 : decode cX7_tick 37 = .ok (.iload_n 3, 1) := by decide +kernel
theorem dX7_tick_38 : decode cX7_tick 38 = .ok (.baload, 1) := by decide +kernel
theorem dX7_tick_39 : decode cX7_tick 39 = .ok (.ifCond .eq 102, 3) := by decide +kernel
theorem dX7_tick_42 : decode cX7_tick 42 = .ok (.aload_n 0, 1) := by decide +kernel
theorem dX7_tick_43 : decode cX7_tick 43 = .ok (.iload_n 3, 1) := by decide +kernel
theorem dX7_tick_44 : decode cX7_tick 44 = .ok (.invokevirtual 95, 3) := by decide +kernel
theorem dX7_tick_47 : decode cX7_tick 47 = .ok (.ifnonnull 6, 3) := by decide +kernel
theorem dX7_tick_50 : decode cX7_tick 50 = .ok (.goto 91, 3) := by decide +kernel
theorem dX7_tick_53 : decode cX7_tick 53 = .ok (.iconst 0, 1) := by decide +kernel
theorem dX7_tick_54 : decode cX7_tick 54 = .ok (.istore 4, 2) := by decide +kernel
theorem dX7_tick_56 : decode cX7_tick 56 = .ok (.iload 4, 2) := by decide +kernel
theorem dX7_tick_58 : decode cX7_tick 58 = .ok (.iconst 5, 1) := by decide +kernel
theorem dX7_tick_59 : decode cX7_tick 59 = .ok (.if_icmp .ge 77, 3) := by decide +kernel
theorem dX7_tick_62 : decode cX7_tick 62 = .ok (.aload_n 0, 1) := by decide +kernel
theorem dX7_tick_63 : decode cX7_tick 63 = .ok (.getfield 31, 3) := by decide +kernel
theorem dX7_tick_66 : decode cX7_tick 66 = .ok (.iload_n 3, 1) := by decide +kernel
theorem dX7_tick_67 : decode cX7_tick 67 = .ok (.iaload, 1) := by decide +kernel
theorem dX7_tick_68 : decode cX7_tick 68 = .ok (.iload 4, 2) := by decide +kernel
theorem dX7_tick_70 : decode cX7_tick 70 = .ok (.ishr, 1) := by decide +kernel
theorem dX7_tick_71 : decode cX7_tick 71 = .ok (.iconst 1, 1) := by decide +kernel
theorem dX7_tick_72 : decode cX7_tick 72 = .ok (.iand, 1) := by decide +kernel
theorem dX7_tick_73 : decode cX7_tick 73 = .ok (.ifCond .eq 57, 3) := by decide +kernel
theorem dX7_tick_76 : decode cX7_tick 76 = .ok (.iload 4, 2) := by decide +kernel
theorem dX7_tick_78 : decode cX7_tick 78 = .ok (.aload_n 0, 1) := by decide +kernel
theorem dX7_tick_79 : decode cX7_tick 79 = .ok (.getfield 22, 3) := by decide +kernel
theorem dX7_tick_82 : decode cX7_tick 82 = .ok (.iload_n 3, 1) := by decide +kernel
theorem dX7_tick_83 : decode cX7_tick 83 = .ok (.iaload, 1) := by decide +kernel
theorem dX7_tick_84 : decode cX7_tick 84 = .ok (.if_icmp .eq 46, 3) := by decide +kernel
theorem dX7_tick_87 : decode cX7_tick 87 = .ok (.aload_n 0, 1) := by decide +kernel
theorem dX7_tick_88 : decode cX7_tick 88 = .ok (.getfield 119, 3) := by decide +kernel
theorem dX7_tick_91 : decode cX7_tick 91 = .ok (.aload_n 0, 1) := by decide +kernel
theorem dX7_tick_92 : decode cX7_tick 92 = .ok (.getfield 11, 3) := by decide +kernel
theorem dX7_tick_95 : decode cX7_tick 95 = .ok (.iload_n 3, 1) := by decide +kernel
theorem dX7_tick_96 : decode cX7_tick 96 = .ok (.aaload, 1) := by decide +kernel
theorem dX7_tick_97 : decode cX7_tick 97 = .ok (.iload 4, 2) := by decide +kernel
theorem dX7_tick_99 : decode cX7_tick 99 = .ok (.aaload, 1) := by decide +kernel
theorem dX7_tick_100 : decode cX7_tick 100 = .ok (.getfield 122, 3) := by decide +kernel
theorem dX7_tick_103 : decode cX7_tick 103 = .ok (.isub, 1) := by decide +kernel
theorem dX7_tick_104 : decode cX7_tick 104 = .ok (.bipush 10, 2) := by decide +kernel
theorem dX7_tick_106 : decode cX7_tick 106 = .ok (.if_icmp .gt 6, 3) := by decide +kernel
theorem dX7_tick_109 : decode cX7_tick 109 = .ok (.goto 21, 3) := by decide +kernel
theorem dX7_tick_112 : decode cX7_tick 112 = .ok (.aload_n 0, 1) := by decide +kernel
theorem dX7_tick_113 : decode cX7_tick 113 = .ok (.getfield 31, 3) := by decide +kernel
theorem dX7_tick_116 : decode cX7_tick 116 = .ok (.iload_n 3, 1) := by decide +kernel
theorem dX7_tick_117 : decode cX7_tick 117 = .ok (.dup2, 1) := by decide +kernel
theorem dX7_tick_118 : decode cX7_tick 118 = .ok (.iaload, 1) := by decide +kernel
theorem dX7_tick_119 : decode cX7_tick 119 = .ok (.iconst 1, 1) := by decide +kernel
theorem dX7_tick_120 : decode cX7_tick 120 = .ok (.iload 4, 2) := by decide +kernel
theorem dX7_tick_122 : decode cX7_tick 122 = .ok (.ishl, 1) := by decide +kernel
theorem dX7_tick_123 : decode cX7_tick 123 = .ok (.iconst (-1), 1) := by decide +kernel
theorem dX7_tick_124 : decode cX7_tick 124 = .ok (.ixor, 1) := by decide +kernel
theorem dX7_tick_125 : decode cX7_tick 125 = .ok (.iand, 1) := by decide +kernel
theorem dX7_tick_126 : decode cX7_tick 126 = .ok (.iastore, 1) := by decide +kernel
theorem dX7_tick_127 : decode cX7_tick 127 = .ok (.iinc 2 1, 3) := by decide +kernel
theorem dX7_tick_130 : decode cX7_tick 130 = .ok (.iinc 4 1, 3) := by decide +kernel
theorem dX7_tick_133 : decode cX7_tick 133 = .ok (.goto (-77), 3) := by decide +kernel
theorem dX7_tick_136 : decode cX7_tick 136 = .ok (.aload_n 0, 1) := by decide +kernel
theorem dX7_tick_137 : decode cX7_tick 137 = .ok (.iload_n 3, 1) := by decide +kernel
theorem dX7_tick_138 : decode cX7_tick 138 = .ok (.invokevirtual 125, 3) := by decide +kernel
theorem dX7_tick_141 : decode cX7_tick 141 = .ok (.iinc 3 1, 3) := by decide +kernel
theorem dX7_tick_144 : decode cX7_tick 144 = .ok (.goto (-116), 3) := by decide +kernel
theorem dX7_tick_147 : decode cX7_tick 147 = .ok (.iload_n 2, 1) := by decide +kernel
theorem dX7_tick_148 : decode cX7_tick 148 = .ok (.ireturn, 1) := by decide +kernel
set_option maxRecDepth 20000 in
theorem ggX7_flush_X7_isReplica : GoodIn wsX7_flush wsX7_isReplica := goodIn_r _ [8, 9, 10, 11, 12, 13, 7, 14, 15, 16, 17, 18, 19, 25, 26, 27, 28, 29, 30, 31, 32, 33, 34, 35, 36, 37, 38, 39, 40, 41, 42] (by rfl) (by decide +kernel)
set_option maxRecDepth 20000 in
theorem gX7_flush_X7_isReplica : GoodIn wsX7_flush (wsV RX7 148 RX7 yX7_isReplica wsX7_isReplica) := goodIn_app (goodIn_of _ (by decide +kernel)) ggX7_flush_X7_isReplica
set_option maxRecDepth 20000 in
theorem ggX7_flush_X7_isUp : GoodIn wsX7_flush wsX7_isUp := goodIn_r _ [23, 9, 24, 17, 18, 7, 19, 25, 26, 27, 28, 29, 30, 31, 32, 33, 34, 35, 36, 37, 38, 39, 40, 41, 42] (by rfl) (by decide +kernel)
set_option maxRecDepth 20000 in
theorem gX7_flush_X7_isUp : GoodIn wsX7_flush (wsV RX7 86 RX7 yX7_isUp wsX7_isUp) := goodIn_app (goodIn_of _ (by decide +kernel)) ggX7_flush_X7_isUp
theorem dX7_flush_0 : decode cX7_flush 0 = .ok (.aload_n 0, 1) := by decide +kernel
theorem dX7_flush_1 : decode cX7_flush 1 = .ok (.iload_n 1, 1) := by decide +kernel
theorem dX7_flush_2 : decode cX7_flush 2 = .ok (.iload_n 2, 1) := by decide +kernel
theorem dX7_flush_3 : decode cX7_flush 3 = .ok (.invokevirtual 148, 3) := by decide +kernel
theorem dX7_flush_6 : decode cX7_flush 6 = .ok (.ifCond .eq 11, 3) := by decide +kernel
theorem dX7_flush_9 : decode cX7_flush 9 = .ok (.aload_n 0, 1) := by decide +kernel
theorem dX7_flush_10 : decode cX7_flush 10 = .ok (.iload_n 1, 1) := by decide +kernel
theorem dX7_flush_11 : decode cX7_flush 11 = .ok (.invokevirtual 86, 3) := by decide +kernel
theorem dX7_flush_14 : decode cX7_flush 14 = .ok (.ifCond .ne 5, 3) := by decide +kernel
theorem dX7_flush_17 : decode cX7_flush 17 = .ok (.iconst (-1), 1) := by decide +kernel
theorem dX7_flush_18 : decode cX7_flush 18 = .ok (.ireturn, 1) := by decide +kernel
theorem dX7_flush_19 : decode cX7_flush 19 = .ok (.aload_n 0, 1) := by decide +kernel
theorem dX7_flush_20 : decode cX7_flush 20 = .ok (.getfield 11, 3) := by decide +kernel
theorem dX7_flush_23 : decode cX7_flush 23 = .ok (.iload_n 2, 1) := by decide +kernel
theorem dX7_flush_24 : decode cX7_flush 24 = .ok (.aaload, 1) := by decide +kernel
theorem dX7_flush_25 : decode cX7_flush 25 = .ok (.iload_n 1, 1) := by decide +kernel
theorem dX7_flush_26 : decode cX7_flush 26 = .ok (.aaload, 1) := by decide +kernel
theorem dX7_flush_27 : decode cX7_flush 27 = .ok (.astore_n 3, 1) := by decide +kernel
theorem dX7_flush_28 : decode cX7_flush 28 = .ok (.aload_n 3, 1) := by decide +kernel
theorem dX7_flush_29 : decode cX7_flush 29 = .ok (.getfield 89, 3) := by decide +kernel
theorem dX7_flush_32 : decode cX7_flush 32 = .ok (.aload_n 3, 1) := by decide +kernel
theorem dX7_flush_33 : decode cX7_flush 33 = .ok (.getfield 158, 3) := by decide +kernel
theorem dX7_flush_36 : decode cX7_flush 36 = .ok (.isub, 1) := by decide +kernel
theorem dX7_flush_37 : decode cX7_flush 37 = .ok (.istore 4, 2) := by decide +kernel
theorem dX7_flush_39 : decode cX7_flush 39 = .ok (.aload_n 3, 1) := by decide +kernel
theorem dX7_flush_40 : decode cX7_flush 40 = .ok (.aload_n 3, 1) := by decide +kernel
theorem dX7_flush_41 : decode cX7_flush 41 = .ok (.getfield 89, 3) := by decide +kernel
theorem dX7_flush_44 : decode cX7_flush 44 = .ok (.putfield 158, 3) := by decide +kernel
theorem dX7_flush_47 : decode cX7_flush 47 = .ok (.iload 4, 2) := by decide +kernel
theorem dX7_flush_49 : decode cX7_flush 49 = .ok (.ireturn, 1) := by decide +kernel
set_option maxRecDepth 20000 in
theorem ggX7_crash_X7_isUp : GoodIn wsX7_crash wsX7_isUp := goodIn_r _ [21, 22, 1, 23, 24, 20, 25, 40, 41, 42, 43, 44, 45, 46, 47, 48, 49, 50, 51, 52, 53, 54, 55, 56, 57] (by rfl) (by decide +kernel)
set_option maxRecDepth 20000 in
theorem gX7_crash_X7_isUp : GoodIn wsX7_crash (wsV RX7 86 RX7 yX7_isUp wsX7_isUp) := goodIn_app (goodIn_of _ (by decide +kernel)) ggX7_crash_X7_isUp
set_option maxRecDepth 20000 in
theorem ggX7_crash_X7_rise : GoodIn wsX7_crash wsX7_rise := goodIn_r _ [29, 30, 16, 12, 13, 9, 14, 11, 31, 32, 33, 20, 34, 15, 4, 17, 18, 19, 21, 22, 1, 23, 24, 25, 35, 36, 37, 38, 5, 39, 40, 41, 42, 43, 44, 45, 46, 47, 48, 49, 50, 51, 52, 53, 54, 55, 56, 57, 58, 59, 60, 61, 62, 63, 64] (by rfl) (by decide +kernel)
set_option maxRecDepth 20000 in
theorem gX7_crash_X7_rise : GoodIn wsX7_crash (wsV RX7 125 RX7 yX7_rise wsX7_rise) := goodIn_app (goodIn_of _ (by decide +kernel)) ggX7_crash_X7_rise
theorem dX7_crash_0 : decode cX7_crash 0 = .ok (.aload_n 0, 1) := by decide +kernel
theorem dX7_crash_1 : decode cX7_crash 1 = .ok (.iload_n 1, 1) := by decide +kernel
theorem dX7_crash_2 : decode cX7_crash 2 = .ok (.invokevirtual 86, 3) := by decide +kernel
theorem dX7_crash_5 : decode cX7_crash 5 = .ok (.ifCond .eq 7, 3) := by decide +kernel
theorem dX7_crash_8 : decode cX7_crash 8 = .ok (.iload_n 2, 1) := by decide +kernel
theorem dX7_crash_9 : decode cX7_crash 9 = .ok (.ifCond .ge 5, 3) := by decide +kernel
theorem dX7_crash_12 : decode cX7_crash 12 = .ok (.iconst (-1), 1) := by decide +kernel
theorem dX7_crash_13 : decode cX7_crash 13 = .ok (.ireturn, 1) := by decide +kernel
theorem dX7_crash_14 : decode cX7_crash 14 = .ok (.aload_n 0, 1) := by decide +kernel
theorem dX7_crash_15 : decode cX7_crash 15 = .ok (.dup, 1) := by decide +kernel
theorem dX7_crash_16 : decode cX7_crash 16 = .ok (.getfield 61, 3) := by decide +kernel
theorem dX7_crash_19 : decode cX7_crash 19 = .ok (.iconst 1, 1) := by decide +kernel
theorem dX7_crash_20 : decode cX7_crash 20 = .ok (.iload_n 1, 1) := by decide +kernel
theorem dX7_crash_21 : decode cX7_crash 21 = .ok (.ishl, 1) := by decide +kernel
theorem dX7_crash_22 : decode cX7_crash 22 = .ok (.iconst (-1), 1) := by decide +kernel
theorem dX7_crash_23 : decode cX7_crash 23 = .ok (.ixor, 1) := by decide +kernel
theorem dX7_crash_24 : decode cX7_crash 24 = .ok (.iand, 1) := by decide +kernel
theorem dX7_crash_25 : decode cX7_crash 25 = .ok (.putfield 61, 3) := by decide +kernel
theorem dX7_crash_28 : decode cX7_crash 28 = .ok (.iconst 0, 1) := by decide +kernel
theorem dX7_crash_29 : decode cX7_crash 29 = .ok (.istore_n 3, 1) := by decide +kernel
theorem dX7_crash_30 : decode cX7_crash 30 = .ok (.iconst 0, 1) := by decide +kernel
theorem dX7_crash_31 : decode cX7_crash 31 = .ok (.istore 4, 2) := by decide +kernel
theorem dX7_crash_33 : decode cX7_crash 33 = .ok (.iload 4, 2) := by decide +kernel
theorem dX7_crash_35 : decode cX7_crash 35 = .ok (.iconst 4, 1) := by decide +kernel
theorem dX7_crash_36 : decode cX7_crash 36 = .ok (.if_icmp .ge 159, 3) := by decide +kernel
theorem dX7_crash_39 : decode cX7_crash 39 = .ok (.aload_n 0, 1) := by decide +kernel
theorem dX7_crash_40 : decode cX7_crash 40 = .ok (.getfield 14, 3) := by decide +kernel
theorem dX7_crash_43 : decode cX7_crash 43 = .ok (.iload 4, 2) := by decide +kernel
theorem dX7_crash_45 : decode cX7_crash 45 = .ok (.baload, 1) := by decide +kernel
theorem dX7_crash_46 : decode cX7_crash 46 = .ok (.ifCond .ne 6, 3) := by decide +kernel
theorem dX7_crash_49 : decode cX7_crash 49 = .ok (.goto 140, 3) := by decide +kernel
theorem dX7_crash_52 : decode cX7_crash 52 = .ok (.aload_n 0, 1) := by decide +kernel
theorem dX7_crash_53 : decode cX7_crash 53 = .ok (.getfield 18, 3) := by decide +kernel
theorem dX7_crash_56 : decode cX7_crash 56 = .ok (.iload 4, 2) := by decide +kernel
theorem dX7_crash_58 : decode cX7_crash 58 = .ok (.iaload, 1) := by decide +kernel
theorem dX7_crash_59 : decode cX7_crash 59 = .ok (.iload_n 1, 1) := by decide +kernel
theorem dX7_crash_60 : decode cX7_crash 60 = .ok (.ishr, 1) := by decide +kernel
theorem dX7_crash_61 : decode cX7_crash 61 = .ok (.iconst 1, 1) := by decide +kernel
theorem dX7_crash_62 : decode cX7_crash 62 = .ok (.iand, 1) := by decide +kernel
theorem dX7_crash_63 : decode cX7_crash 63 = .ok (.iconst 1, 1) := by decide +kernel
theorem dX7_crash_64 : decode cX7_crash 64 = .ok (.if_icmp .ne 112, 3) := by decide +kernel
theorem dX7_crash_67 : decode cX7_crash 67 = .ok (.aload_n 0, 1) := by decide +kernel
theorem dX7_crash_68 : decode cX7_crash 68 = .ok (.getfield 11, 3) := by decide +kernel
theorem dX7_crash_71 : decode cX7_crash 71 = .ok (.iload 4, 2) := by decide +kernel
theorem dX7_crash_73 : decode cX7_crash 73 = .ok (.aaload, 1) := by decide +kernel
theorem dX7_crash_74 : decode cX7_crash 74 = .ok (.iload_n 1, 1) := by decide +kernel
theorem dX7_crash_75 : decode cX7_crash 75 = .ok (.aaload, 1) := by decide +kernel
theorem dX7_crash_76 : decode cX7_crash 76 = .ok (.astore 5, 2) := by decide +kernel
theorem dX7_crash_78 : decode cX7_crash 78 = .ok (.aload 5, 2) := by decide +kernel
theorem dX7_crash_80 : decode cX7_crash 80 = .ok (.aload 5, 2) := by decide +kernel
theorem dX7_crash_82 : decode cX7_crash 82 = .ok (.getfield 89, 3) := by decide +kernel
theorem dX7_crash_85 : decode cX7_crash 85 = .ok (.i2l, 1) := by decide +kernel
theorem dX7_crash_86 : decode cX7_crash 86 = .ok (.aload 5, 2) := by decide +kernel
theorem dX7_crash_88 : decode cX7_crash 88 = .ok (.getfield 158, 3) := by decide +kernel
theorem dX7_crash_91 : decode cX7_crash 91 = .ok (.i2l, 1) := by decide +kernel
theorem dX7_crash_92 : decode cX7_crash 92 = .ok (.iload_n 2, 1) := by decide +kernel
theorem dX7_crash_93 : decode cX7_crash 93 = .ok (.i2l, 1) := by decide +kernel
theorem dX7_crash_94 : decode cX7_crash 94 = .ok (.ladd, 1) := by decide +kernel
theorem dX7_crash_95 : decode cX7_crash 95 = .ok (.invokestatic 180, 3) := by decide +kernel
theorem dX7_crash_98 : decode cX7_crash 98 = .ok (.l2i, 1) := by decide +kernel
theorem dX7_crash_99 : decode cX7_crash 99 = .ok (.putfield 89, 3) := by decide +kernel
theorem dX7_crash_102 : decode cX7_crash 102 = .ok (.aload 5, 2) := by decide +kernel
theorem dX7_crash_104 : decode cX7_crash 104 = .ok (.aload 5, 2) := by decide +kernel
theorem dX7_crash_106 : decode cX7_crash 106 = .ok (.getfield 109, 3) := by decide +kernel
theorem dX7_crash_109 : decode cX7_crash 109 = .ok (.aload 5, 2) := by decide +kernel
theorem dX7_crash_111 : decode cX7_crash 111 = .ok (.getfield 89, 3) := by decide +kernel
theorem dX7_crash_114 : decode cX7_crash 114 = .ok (.invokestatic 105, 3) := by decide +kernel
theorem dX7_crash_117 : decode cX7_crash 117 = .ok (.putfield 109, 3) := by decide +kernel
theorem dX7_crash_120 : decode cX7_crash 120 = .ok (.aload_n 0, 1) := by decide +kernel
theorem dX7_crash_121 : decode cX7_crash 121 = .ok (.getfield 22, 3) := by decide +kernel
theorem dX7_crash_124 : decode cX7_crash 124 = .ok (.iload 4, 2) := by decide +kernel
theorem dX7_crash_126 : decode cX7_crash 126 = .ok (.iaload, 1) := by decide +kernel
theorem dX7_crash_127 : decode cX7_crash 127 = .ok (.iload_n 1, 1) := by decide +kernel
theorem dX7_crash_128 : decode cX7_crash 128 = .ok (.if_icmp .ne 11, 3) := by decide +kernel
theorem dX7_crash_131 : decode cX7_crash 131 = .ok (.aload_n 0, 1) := by decide +kernel
theorem dX7_crash_132 : decode cX7_crash 132 = .ok (.getfield 22, 3) := by decide +kernel
theorem dX7_crash_135 : decode cX7_crash 135 = .ok (.iload 4, 2) := by decide +kernel
theorem dX7_crash_137 : decode cX7_crash 137 = .ok (.iconst (-1), 1) := by decide +kernel
theorem dX7_crash_138 : decode cX7_crash 138 = .ok (.iastore, 1) := by decide +kernel
theorem dX7_crash_139 : decode cX7_crash 139 = .ok (.aload_n 0, 1) := by decide +kernel
theorem dX7_crash_140 : decode cX7_crash 140 = .ok (.getfield 31, 3) := by decide +kernel
theorem dX7_crash_143 : decode cX7_crash 143 = .ok (.iload 4, 2) := by decide +kernel
theorem dX7_crash_145 : decode cX7_crash 145 = .ok (.iaload, 1) := by decide +kernel
theorem dX7_crash_146 : decode cX7_crash 146 = .ok (.iconst 1, 1) := by decide +kernel
theorem dX7_crash_147 : decode cX7_crash 147 = .ok (.iload_n 1, 1) := by decide +kernel
theorem dX7_crash_148 : decode cX7_crash 148 = .ok (.ishl, 1) := by decide +kernel
theorem dX7_crash_149 : decode cX7_crash 149 = .ok (.iconst (-1), 1) := by decide +kernel
theorem dX7_crash_150 : decode cX7_crash 150 = .ok (.ixor, 1) := by decide +kernel
theorem dX7_crash_151 : decode cX7_crash 151 = .ok (.iand, 1) := by decide +kernel
theorem dX7_crash_152 : decode cX7_crash 152 = .ok (.ifCond .eq 18, 3) := by decide +kernel
theorem dX7_crash_155 : decode cX7_crash 155 = .ok (.aload_n 0, 1) := by decide +kernel
theorem dX7_crash_156 : decode cX7_crash 156 = .ok (.getfield 31, 3) := by decide +kernel
theorem dX7_crash_159 : decode cX7_crash 159 = .ok (.iload 4, 2) := by decide +kernel
theorem dX7_crash_161 : decode cX7_crash 161 = .ok (.dup2, 1) := by decide +kernel
theorem dX7_crash_162 : decode cX7_crash 162 = .ok (.iaload, 1) := by decide +kernel
theorem dX7_crash_163 : decode cX7_crash 163 = .ok (.iconst 1, 1) := by decide +kernel
theorem dX7_crash_164 : decode cX7_crash 164 = .ok (.iload_n 1, 1) := by decide +kernel
theorem dX7_crash_165 : decode cX7_crash 165 = .ok (.ishl, 1) := by decide +kernel
theorem dX7_crash_166 : decode cX7_crash 166 = .ok (.iconst (-1), 1) := by decide +kernel
theorem dX7_crash_167 : decode cX7_crash 167 = .ok (.ixor, 1) := by decide +kernel
theorem dX7_crash_168 : decode cX7_crash 168 = .ok (.iand, 1) := by decide +kernel
theorem dX7_crash_169 : decode cX7_crash 169 = .ok (.iastore, 1) := by decide +kernel
theorem dX7_crash_170 : decode cX7_crash 170 = .ok (.aload_n 0, 1) := by decide +kernel
theorem dX7_crash_171 : decode cX7_crash 171 = .ok (.iload 4, 2) := by decide +kernel
theorem dX7_crash_173 : decode cX7_crash 173 = .ok (.invokevirtual 125, 3) := by decide +kernel
theorem dX7_crash_176 : decode cX7_crash 176 = .ok (.aload_n 0, 1) := by decide +kernel
theorem dX7_crash_177 : decode cX7_crash 177 = .ok (.getfield 22, 3) := by decide +kernel
theorem dX7_crash_180 : decode cX7_crash 180 = .ok (.iload 4, 2) := by decide +kernel
theorem dX7_crash_182 : decode cX7_crash 182 = .ok (.iaload, 1) := by decide +kernel
theorem dX7_crash_183 : decode cX7_crash 183 = .ok (.ifCond .ge 6, 3) := by decide +kernel
theorem dX7_crash_186 : decode cX7_crash 186 = .ok (.iinc 3 1, 3) := by decide +kernel
theorem dX7_crash_189 : decode cX7_crash 189 = .ok (.iinc 4 1, 3) := by decide +kernel
theorem dX7_crash_192 : decode cX7_crash 192 = .ok (.goto (-159), 3) := by decide +kernel
theorem dX7_crash_195 : decode cX7_crash 195 = .ok (.iload_n 3, 1) := by decide +kernel
theorem dX7_crash_196 : decode cX7_crash 196 = .ok (.ireturn, 1) := by decide +kernel
set_option maxRecDepth 20000 in
theorem ggX7_restart_X7_in : GoodIn wsX7_restart wsX7_in := goodIn_r _ [8] (by rfl) (by decide +kernel)
set_option maxRecDepth 20000 in
theorem gX7_restart_X7_in : GoodIn wsX7_restart (va_wsS RX7 76 yX7_in wsX7_in) := goodIn_app (goodIn_of _ (by decide +kernel)) ggX7_restart_X7_in
set_option maxRecDepth 20000 in
theorem ggX7_restart_X7_isUp : GoodIn wsX7_restart wsX7_isUp := goodIn_r _ [12, 1, 2, 5, 6, 7, 8, 13, 14, 15, 16, 17, 18, 19, 20, 21, 22, 23, 24, 25, 26, 27, 28, 29, 30] (by rfl) (by decide +kernel)
set_option maxRecDepth 20000 in
theorem gX7_restart_X7_isUp : GoodIn wsX7_restart (wsV RX7 86 RX7 yX7_isUp wsX7_isUp) := goodIn_app (goodIn_of _ (by decide +kernel)) ggX7_restart_X7_isUp
theorem dX7_restart_0 : decode cX7_restart 0 = .ok (.iload_n 1, 1) := by decide +kernel
theorem dX7_restart_1 : decode cX7_restart 1 = .ok (.i2l, 1) := by decide +kernel
theorem dX7_restart_2 : decode cX7_restart 2 = .ok (.lconst 0, 1) := by decide +kernel
theorem dX7_restart_3 : decode cX7_restart 3 = .ok (.ldc2_w 74, 3) := by decide +kernel
theorem dX7_restart_6 : decode cX7_restart 6 = .ok (.invokestatic 76, 3) := by decide +kernel
theorem dX7_restart_9 : decode cX7_restart 9 = .ok (.ifCond .eq 11, 3) := by decide +kernel
theorem dX7_restart_12 : decode cX7_restart 12 = .ok (.aload_n 0, 1) := by decide +kernel
theorem dX7_restart_13 : decode cX7_restart 13 = .ok (.iload_n 1, 1) := by decide +kernel
theorem dX7_restart_14 : decode cX7_restart 14 = .ok (.invokevirtual 86, 3) := by decide +kernel
theorem dX7_restart_17 : decode cX7_restart 17 = .ok (.ifCond .eq 5, 3) := by decide +kernel
theorem dX7_restart_20 : decode cX7_restart 20 = .ok (.iconst (-1), 1) := by decide +kernel
theorem dX7_restart_21 : decode cX7_restart 21 = .ok (.ireturn, 1) := by decide +kernel
theorem dX7_restart_22 : decode cX7_restart 22 = .ok (.aload_n 0, 1) := by decide +kernel
theorem dX7_restart_23 : decode cX7_restart 23 = .ok (.dup, 1) := by decide +kernel
theorem dX7_restart_24 : decode cX7_restart 24 = .ok (.getfield 61, 3) := by decide +kernel
theorem dX7_restart_27 : decode cX7_restart 27 = .ok (.iconst 1, 1) := by decide +kernel
theorem dX7_restart_28 : decode cX7_restart 28 = .ok (.iload_n 1, 1) := by decide +kernel
theorem dX7_restart_29 : decode cX7_restart 29 = .ok (.ishl, 1) := by decide +kernel
theorem dX7_restart_30 : decode cX7_restart 30 = .ok (.ior, 1) := by decide +kernel
theorem dX7_restart_31 : decode cX7_restart 31 = .ok (.putfield 61, 3) := by decide +kernel
theorem dX7_restart_34 : decode cX7_restart 34 = .ok (.iconst 0, 1) := by decide +kernel
theorem dX7_restart_35 : decode cX7_restart 35 = .ok (.istore_n 2, 1) := by decide +kernel
theorem dX7_restart_36 : decode cX7_restart 36 = .ok (.iload_n 2, 1) := by decide +kernel
theorem dX7_restart_37 : decode cX7_restart 37 = .ok (.iconst 4, 1) := by decide +kernel
theorem dX7_restart_38 : decode cX7_restart 38 = .ok (.if_icmp .ge 21, 3) := by decide +kernel
theorem dX7_restart_41 : decode cX7_restart 41 = .ok (.aload_n 0, 1) := by decide +kernel
theorem dX7_restart_42 : decode cX7_restart 42 = .ok (.getfield 11, 3) := by decide +kernel
theorem dX7_restart_45 : decode cX7_restart 45 = .ok (.iload_n 2, 1) := by decide +kernel
theorem dX7_restart_46 : decode cX7_restart 46 = .ok (.aaload, 1) := by decide +kernel
theorem dX7_restart_47 : decode cX7_restart 47 = .ok (.iload_n 1, 1) := by decide +kernel
theorem dX7_restart_48 : decode cX7_restart 48 = .ok (.aaload, 1) := by decide +kernel
theorem dX7_restart_49 : decode cX7_restart 49 = .ok (.iconst (-1), 1) := by decide +kernel
theorem dX7_restart_50 : decode cX7_restart 50 = .ok (.putfield 92, 3) := by decide +kernel
theorem dX7_restart_53 : decode cX7_restart 53 = .ok (.iinc 2 1, 3) := by decide +kernel
theorem dX7_restart_56 : decode cX7_restart 56 = .ok (.goto (-20), 3) := by decide +kernel
theorem dX7_restart_59 : decode cX7_restart 59 = .ok (.iconst 0, 1) := by decide +kernel
theorem dX7_restart_60 : decode cX7_restart 60 = .ok (.ireturn, 1) := by decide +kernel
set_option maxRecDepth 20000 in
theorem ggX7_trim_X7_isThere : GoodIn wsX7_trim wsX7_isThere := goodIn_r _ [12, 13, 14, 15, 16, 11, 17, 53, 54, 55, 56, 57, 58, 59, 60, 61, 62, 63, 64, 65, 66, 67, 68, 69, 70] (by rfl) (by decide +kernel)
set_option maxRecDepth 20000 in
theorem gX7_trim_X7_isThere : GoodIn wsX7_trim (wsV RX7 82 RX7 yX7_isThere wsX7_isThere) := goodIn_app (goodIn_of _ (by decide +kernel)) ggX7_trim_X7_isThere
set_option maxRecDepth 20000 in
theorem ggX7_trim_X7_own : GoodIn wsX7_trim wsX7_own := goodIn_r _ [21, 22, 23, 24, 25, 26, 11, 27, 28, 29, 15, 16, 17, 53, 54, 55, 56, 57, 58, 59, 60, 61, 62, 63, 64, 65, 66, 67, 68, 69, 70] (by rfl) (by decide +kernel)
set_option maxRecDepth 20000 in
theorem gX7_trim_X7_own : GoodIn wsX7_trim (wsV RX7 95 RX7 yX7_own wsX7_own) := goodIn_app (goodIn_of _ (by decide +kernel)) ggX7_trim_X7_own
set_option maxRecDepth 20000 in
theorem ggX7_trim_X7_in : GoodIn wsX7_trim wsX7_in := goodIn_r _ [17] (by rfl) (by decide +kernel)
set_option maxRecDepth 20000 in
theorem gX7_trim_X7_in : GoodIn wsX7_trim (va_wsS RX7 76 yX7_in wsX7_in) := goodIn_app (goodIn_of _ (by decide +kernel)) ggX7_trim_X7_in
set_option maxRecDepth 20000 in
theorem ggX7_trim_X6_from : GoodIn wsX7_trim wsX6_from := goodIn_r _ [34, 35, 36, 37, 38, 39, 40, 41, 46, 47, 48, 49, 50, 51, 52] (by rfl) (by decide +kernel)
set_option maxRecDepth 20000 in
theorem gX7_trim_X6_from : GoodIn wsX7_trim (wsV RX7 152 RX6 yX6_from wsX6_from) := goodIn_app (goodIn_of _ (by decide +kernel)) ggX7_trim_X6_from
set_option maxRecDepth 20000 in
theorem ggX7_trim_X6_many : GoodIn wsX7_trim wsX6_many := goodIn_r _ [45, 36, 35, 46, 47, 48, 49, 50, 51, 52] (by rfl) (by decide +kernel)
set_option maxRecDepth 20000 in
theorem gX7_trim_X6_many : GoodIn wsX7_trim (wsV RX7 140 RX6 yX6_many wsX6_many) := goodIn_app (goodIn_of _ (by decide +kernel)) ggX7_trim_X6_many
theorem dX7_trim_0 : decode cX7_trim 0 = .ok (.aload_n 0, 1) := by decide +kernel
theorem dX7_trim_1 : decode cX7_trim 1 = .ok (.iload_n 1, 1) := by decide +kernel
theorem dX7_trim_2 : decode cX7_trim 2 = .ok (.invokevirtual 82, 3) := by decide +kernel
theorem dX7_trim_5 : decode cX7_trim 5 = .ok (.ifCond .ne 5, 3) := by decide +kernel
theorem dX7_trim_8 : decode cX7_trim 8 = .ok (.iconst (-1), 1) := by decide +kernel
theorem dX7_trim_9 : decode cX7_trim 9 = .ok (.ireturn, 1) := by decide +kernel
theorem dX7_trim_10 : decode cX7_trim 10 = .ok (.aload_n 0, 1) := by decide +kernel
theorem dX7_trim_11 : decode cX7_trim 11 = .ok (.iload_n 1, 1) := by decide +kernel
theorem dX7_trim_12 : decode cX7_trim 12 = .ok (.invokevirtual 95, 3) := by decide +kernel
theorem dX7_trim_15 : decode cX7_trim 15 = .ok (.astore_n 3, 1) := by decide +kernel
theorem dX7_trim_16 : decode cX7_trim 16 = .ok (.aload_n 3, 1) := by decide +kernel
theorem dX7_trim_17 : decode cX7_trim 17 = .ok (.ifnonnull 6, 3) := by decide +kernel
theorem dX7_trim_20 : decode cX7_trim 20 = .ok (.bipush (-2), 2) := by decide +kernel
theorem dX7_trim_22 : decode cX7_trim 22 = .ok (.ireturn, 1) := by decide +kernel
theorem dX7_trim_23 : decode cX7_trim 23 = .ok (.iload_n 2, 1) := by decide +kernel
theorem dX7_trim_24 : decode cX7_trim 24 = .ok (.i2l, 1) := by decide +kernel
theorem dX7_trim_25 : decode cX7_trim 25 = .ok (.aload_n 3, 1) := by decide +kernel
theorem dX7_trim_26 : decode cX7_trim 26 = .ok (.getfield 134, 3) := by decide +kernel
theorem dX7_trim_29 : decode cX7_trim 29 = .ok (.i2l, 1) := by decide +kernel
theorem dX7_trim_30 : decode cX7_trim 30 = .ok (.aload_n 3, 1) := by decide +kernel
theorem dX7_trim_31 : decode cX7_trim 31 = .ok (.getfield 109, 3) := by decide +kernel
theorem dX7_trim_34 : decode cX7_trim 34 = .ok (.i2l, 1) := by decide +kernel
theorem dX7_trim_35 : decode cX7_trim 35 = .ok (.invokestatic 76, 3) := by decide +kernel
theorem dX7_trim_38 : decode cX7_trim 38 = .ok (.ifCond .ne 5, 3) := by decide +kernel
theorem dX7_trim_41 : decode cX7_trim 41 = .ok (.iconst (-1), 1) := by decide +kernel
theorem dX7_trim_42 : decode cX7_trim 42 = .ok (.ireturn, 1) := by decide +kernel
theorem dX7_trim_43 : decode cX7_trim 43 = .ok (.aload_n 3, 1) := by decide +kernel
theorem dX7_trim_44 : decode cX7_trim 44 = .ok (.iload_n 2, 1) := by decide +kernel
theorem dX7_trim_45 : decode cX7_trim 45 = .ok (.invokevirtual 152, 3) := by decide +kernel
theorem dX7_trim_48 : decode cX7_trim 48 = .ok (.aload_n 3, 1) := by decide +kernel
theorem dX7_trim_49 : decode cX7_trim 49 = .ok (.aload_n 3, 1) := by decide +kernel
theorem dX7_trim_50 : decode cX7_trim 50 = .ok (.getfield 158, 3) := by decide +kernel
theorem dX7_trim_53 : decode cX7_trim 53 = .ok (.aload_n 3, 1) := by decide +kernel
theorem dX7_trim_54 : decode cX7_trim 54 = .ok (.getfield 134, 3) := by decide +kernel
theorem dX7_trim_57 : decode cX7_trim 57 = .ok (.invokestatic 155, 3) := by decide +kernel
theorem dX7_trim_60 : decode cX7_trim 60 = .ok (.putfield 158, 3) := by decide +kernel
theorem dX7_trim_63 : decode cX7_trim 63 = .ok (.aload_n 3, 1) := by decide +kernel
theorem dX7_trim_64 : decode cX7_trim 64 = .ok (.invokevirtual 140, 3) := by decide +kernel
theorem dX7_trim_67 : decode cX7_trim 67 = .ok (.ireturn, 1) := by decide +kernel
set_option maxRecDepth 20000 in
theorem ggX7_log_X7_isReplica : GoodIn wsX7_log wsX7_isReplica := goodIn_r _ [12, 13, 14, 15, 16, 17, 11, 18, 19, 20, 21, 22, 23, 30, 31, 32, 33, 34, 35, 36, 37, 38, 39, 40, 41, 42, 43, 44, 45, 46, 47] (by rfl) (by decide +kernel)
set_option maxRecDepth 20000 in
theorem gX7_log_X7_isReplica : GoodIn wsX7_log (wsV RX7 148 RX7 yX7_isReplica wsX7_isReplica) := goodIn_app (goodIn_of _ (by decide +kernel)) ggX7_log_X7_isReplica
set_option maxRecDepth 20000 in
theorem ggX7_log_X7_in : GoodIn wsX7_log wsX7_in := goodIn_r _ [23] (by rfl) (by decide +kernel)
set_option maxRecDepth 20000 in
theorem gX7_log_X7_in : GoodIn wsX7_log (va_wsS RX7 76 yX7_in wsX7_in) := goodIn_app (goodIn_of _ (by decide +kernel)) ggX7_log_X7_in
set_option maxRecDepth 20000 in
theorem ggX7_log_X7_known : GoodIn wsX7_log wsX7_known := goodIn_r _ [27, 28, 2, 4, 29, 30, 31, 32, 33, 34, 35, 36, 37, 38, 39, 40, 41, 42, 43, 44, 45, 46, 47, 48, 49, 50, 51, 52, 53, 54] (by rfl) (by decide +kernel)
set_option maxRecDepth 20000 in
theorem gX7_log_X7_known : GoodIn wsX7_log (wsV RX7 102 RX7 yX7_known wsX7_known) := goodIn_app (goodIn_of _ (by decide +kernel)) ggX7_log_X7_known
theorem dX7_log_0 : decode cX7_log 0 = .ok (.aload_n 0, 1) := by decide +kernel
theorem dX7_log_1 : decode cX7_log 1 = .ok (.iload_n 1, 1) := by decide +kernel
theorem dX7_log_2 : decode cX7_log 2 = .ok (.iload_n 2, 1) := by decide +kernel
theorem dX7_log_3 : decode cX7_log 3 = .ok (.invokevirtual 148, 3) := by decide +kernel
theorem dX7_log_6 : decode cX7_log 6 = .ok (.ifCond .eq 15, 3) := by decide +kernel
theorem dX7_log_9 : decode cX7_log 9 = .ok (.iload_n 3, 1) := by decide +kernel
theorem dX7_log_10 : decode cX7_log 10 = .ok (.i2l, 1) := by decide +kernel
theorem dX7_log_11 : decode cX7_log 11 = .ok (.lconst 0, 1) := by decide +kernel
theorem dX7_log_12 : decode cX7_log 12 = .ok (.ldc2_w 129, 3) := by decide +kernel
theorem dX7_log_15 : decode cX7_log 15 = .ok (.invokestatic 76, 3) := by decide +kernel
theorem dX7_log_18 : decode cX7_log 18 = .ok (.ifCond .ne 5, 3) := by decide +kernel
theorem dX7_log_21 : decode cX7_log 21 = .ok (.iconst (-1), 1) := by decide +kernel
theorem dX7_log_22 : decode cX7_log 22 = .ok (.ireturn, 1) := by decide +kernel
theorem dX7_log_23 : decode cX7_log 23 = .ok (.aload_n 0, 1) := by decide +kernel
theorem dX7_log_24 : decode cX7_log 24 = .ok (.getfield 11, 3) := by decide +kernel
theorem dX7_log_27 : decode cX7_log 27 = .ok (.iload_n 2, 1) := by decide +kernel
theorem dX7_log_28 : decode cX7_log 28 = .ok (.aaload, 1) := by decide +kernel
theorem dX7_log_29 : decode cX7_log 29 = .ok (.iload_n 1, 1) := by decide +kernel
theorem dX7_log_30 : decode cX7_log 30 = .ok (.aaload, 1) := by decide +kernel
theorem dX7_log_31 : decode cX7_log 31 = .ok (.astore 4, 2) := by decide +kernel
theorem dX7_log_33 : decode cX7_log 33 = .ok (.iload_n 3, 1) := by decide +kernel
theorem dX7_log_34 : decode cX7_log 34 = .ok (.tableswitch 65 0 4 #[34, 40, 46, 52, 58], 34) := by decide +kernel
theorem dX7_log_68 : decode cX7_log 68 = .ok (.aload 4, 2) := by decide +kernel
theorem dX7_log_70 : decode cX7_log 70 = .ok (.getfield 134, 3) := by decide +kernel
theorem dX7_log_73 : decode cX7_log 73 = .ok (.ireturn, 1) := by decide +kernel
theorem dX7_log_74 : decode cX7_log 74 = .ok (.aload 4, 2) := by decide +kernel
theorem dX7_log_76 : decode cX7_log 76 = .ok (.getfield 89, 3) := by decide +kernel
theorem dX7_log_79 : decode cX7_log 79 = .ok (.ireturn, 1) := by decide +kernel
theorem dX7_log_80 : decode cX7_log 80 = .ok (.aload 4, 2) := by decide +kernel
theorem dX7_log_82 : decode cX7_log 82 = .ok (.getfield 109, 3) := by decide +kernel
theorem dX7_log_85 : decode cX7_log 85 = .ok (.ireturn, 1) := by decide +kernel
theorem dX7_log_86 : decode cX7_log 86 = .ok (.aload 4, 2) := by decide +kernel
theorem dX7_log_88 : decode cX7_log 88 = .ok (.getfield 158, 3) := by decide +kernel
theorem dX7_log_91 : decode cX7_log 91 = .ok (.ireturn, 1) := by decide +kernel
theorem dX7_log_92 : decode cX7_log 92 = .ok (.aload_n 0, 1) := by decide +kernel
theorem dX7_log_93 : decode cX7_log 93 = .ok (.iload_n 2, 1) := by decide +kernel
theorem dX7_log_94 : decode cX7_log 94 = .ok (.iload_n 1, 1) := by decide +kernel
theorem dX7_log_95 : decode cX7_log 95 = .ok (.invokevirtual 102, 3) := by decide +kernel
theorem dX7_log_98 : decode cX7_log 98 = .ok (.ireturn, 1) := by decide +kernel
theorem dX7_log_99 : decode cX7_log 99 = .ok (.aload 4, 2) := by decide +kernel
theorem dX7_log_101 : decode cX7_log 101 = .ok (.getfield 122, 3) := by decide +kernel
theorem dX7_log_104 : decode cX7_log 104 = .ok (.ireturn, 1) := by decide +kernel
set_option maxRecDepth 20000 in
theorem ggX7_record_X7_isReplica : GoodIn wsX7_record wsX7_isReplica := goodIn_r _ [10, 11, 12, 13, 14, 15, 9, 16, 17, 18, 19, 20, 21, 29, 30, 31, 32, 33, 34, 35, 36, 37, 38, 39, 40, 41, 42, 43, 44, 45, 46] (by rfl) (by decide +kernel)
set_option maxRecDepth 20000 in
theorem gX7_record_X7_isReplica : GoodIn wsX7_record (wsV RX7 148 RX7 yX7_isReplica wsX7_isReplica) := goodIn_app (goodIn_of _ (by decide +kernel)) ggX7_record_X7_isReplica
set_option maxRecDepth 20000 in
theorem ggX7_record_X7_in : GoodIn wsX7_record wsX7_in := goodIn_r _ [21] (by rfl) (by decide +kernel)
set_option maxRecDepth 20000 in
theorem gX7_record_X7_in : GoodIn wsX7_record (va_wsS RX7 76 yX7_in wsX7_in) := goodIn_app (goodIn_of _ (by decide +kernel)) ggX7_record_X7_in
set_option maxRecDepth 20000 in
theorem ggX7_record_X6_get : GoodIn wsX7_record wsX6_get := goodIn_r _ [26, 27, 28, 47, 48, 49, 50, 51, 52, 53] (by rfl) (by decide +kernel)
set_option maxRecDepth 20000 in
theorem gX7_record_X6_get : GoodIn wsX7_record (wsV RX7 137 RX6 yX6_get wsX6_get) := goodIn_app (goodIn_of _ (by decide +kernel)) ggX7_record_X6_get
theorem dX7_record_0 : decode cX7_record 0 = .ok (.aload_n 0, 1) := by decide +kernel
theorem dX7_record_1 : decode cX7_record 1 = .ok (.iload_n 1, 1) := by decide +kernel
theorem dX7_record_2 : decode cX7_record 2 = .ok (.iload_n 2, 1) := by decide +kernel
theorem dX7_record_3 : decode cX7_record 3 = .ok (.invokevirtual 148, 3) := by decide +kernel
theorem dX7_record_6 : decode cX7_record 6 = .ok (.ifCond .eq 50, 3) := by decide +kernel
theorem dX7_record_9 : decode cX7_record 9 = .ok (.iload 4, 2) := by decide +kernel
theorem dX7_record_11 : decode cX7_record 11 = .ok (.i2l, 1) := by decide +kernel
theorem dX7_record_12 : decode cX7_record 12 = .ok (.lconst 0, 1) := by decide +kernel
theorem dX7_record_13 : decode cX7_record 13 = .ok (.ldc2_w 183, 3) := by decide +kernel
theorem dX7_record_16 : decode cX7_record 16 = .ok (.invokestatic 76, 3) := by decide +kernel
theorem dX7_record_19 : decode cX7_record 19 = .ok (.ifCond .eq 37, 3) := by decide +kernel
theorem dX7_record_22 : decode cX7_record 22 = .ok (.iload_n 3, 1) := by decide +kernel
theorem dX7_record_23 : decode cX7_record 23 = .ok (.i2l, 1) := by decide +kernel
theorem dX7_record_24 : decode cX7_record 24 = .ok (.aload_n 0, 1) := by decide +kernel
theorem dX7_record_25 : decode cX7_record 25 = .ok (.getfield 11, 3) := by decide +kernel
theorem dX7_record_28 : decode cX7_record 28 = .ok (.iload_n 2, 1) := by decide +kernel
theorem dX7_record_29 : decode cX7_record 29 = .ok (.aaload, 1) := by decide +kernel
theorem dX7_record_30 : decode cX7_record 30 = .ok (.iload_n 1, 1) := by decide +kernel
theorem dX7_record_31 : decode cX7_record 31 = .ok (.aaload, 1) := by decide +kernel
theorem dX7_record_32 : decode cX7_record 32 = .ok (.getfield 134, 3) := by decide +kernel
theorem dX7_record_35 : decode cX7_record 35 = .ok (.i2l, 1) := by decide +kernel
theorem dX7_record_36 : decode cX7_record 36 = .ok (.aload_n 0, 1) := by decide +kernel
theorem dX7_record_37 : decode cX7_record 37 = .ok (.getfield 11, 3) := by decide +kernel
theorem dX7_record_40 : decode cX7_record 40 = .ok (.iload_n 2, 1) := by decide +kernel
theorem dX7_record_41 : decode cX7_record 41 = .ok (.aaload, 1) := by decide +kernel
theorem dX7_record_42 : decode cX7_record 42 = .ok (.iload_n 1, 1) := by decide +kernel
theorem dX7_record_43 : decode cX7_record 43 = .ok (.aaload, 1) := by decide +kernel
theorem dX7_record_44 : decode cX7_record 44 = .ok (.getfield 89, 3) := by decide +kernel
theorem dX7_record_47 : decode cX7_record 47 = .ok (.iconst 1, 1) := by decide +kernel
theorem dX7_record_48 : decode cX7_record 48 = .ok (.isub, 1) := by decide +kernel
theorem dX7_record_49 : decode cX7_record 49 = .ok (.i2l, 1) := by decide +kernel
theorem dX7_record_50 : decode cX7_record 50 = .ok (.invokestatic 76, 3) := by decide +kernel
theorem dX7_record_53 : decode cX7_record 53 = .ok (.ifCond .ne 7, 3) := by decide +kernel
theorem dX7_record_56 : decode cX7_record 56 = .ok (.ldc2_w 185, 3) := by decide +kernel
theorem dX7_record_59 : decode cX7_record 59 = .ok (.lreturn, 1) := by decide +kernel
theorem dX7_record_60 : decode cX7_record 60 = .ok (.aload_n 0, 1) := by decide +kernel
theorem dX7_record_61 : decode cX7_record 61 = .ok (.getfield 11, 3) := by decide +kernel
theorem dX7_record_64 : decode cX7_record 64 = .ok (.iload_n 2, 1) := by decide +kernel
theorem dX7_record_65 : decode cX7_record 65 = .ok (.aaload, 1) := by decide +kernel
theorem dX7_record_66 : decode cX7_record 66 = .ok (.iload_n 1, 1) := by decide +kernel
theorem dX7_record_67 : decode cX7_record 67 = .ok (.aaload, 1) := by decide +kernel
theorem dX7_record_68 : decode cX7_record 68 = .ok (.iload_n 3, 1) := by decide +kernel
theorem dX7_record_69 : decode cX7_record 69 = .ok (.iload 4, 2) := by decide +kernel
theorem dX7_record_71 : decode cX7_record 71 = .ok (.iconst 3, 1) := by decide +kernel
theorem dX7_record_72 : decode cX7_record 72 = .ok (.if_icmp .ge 8, 3) := by decide +kernel
theorem dX7_record_75 : decode cX7_record 75 = .ok (.iload 4, 2) := by decide +kernel
theorem dX7_record_77 : decode cX7_record 77 = .ok (.goto 7, 3) := by decide +kernel
theorem dX7_record_80 : decode cX7_record 80 = .ok (.iload 4, 2) := by decide +kernel
theorem dX7_record_82 : decode cX7_record 82 = .ok (.iconst 1, 1) := by decide +kernel
theorem dX7_record_83 : decode cX7_record 83 = .ok (.iadd, 1) := by decide +kernel
theorem dX7_record_84 : decode cX7_record 84 = .ok (.invokevirtual 137, 3) := by decide +kernel
theorem dX7_record_87 : decode cX7_record 87 = .ok (.i2l, 1) := by decide +kernel
theorem dX7_record_88 : decode cX7_record 88 = .ok (.lreturn, 1) := by decide +kernel
set_option maxRecDepth 20000 in
theorem ggX7_state_X7_isThere : GoodIn wsX7_state wsX7_isThere := goodIn_r _ [9, 1, 10, 11, 12, 8, 13, 40, 41, 42, 43, 44, 45, 46, 47, 48, 49, 50, 51, 52, 53, 54, 55, 56, 57] (by rfl) (by decide +kernel)
set_option maxRecDepth 20000 in
theorem gX7_state_X7_isThere : GoodIn wsX7_state (wsV RX7 82 RX7 yX7_isThere wsX7_isThere) := goodIn_app (goodIn_of _ (by decide +kernel)) ggX7_state_X7_isThere
set_option maxRecDepth 20000 in
theorem ggX7_state_X7_in : GoodIn wsX7_state wsX7_in := goodIn_r _ [13] (by rfl) (by decide +kernel)
set_option maxRecDepth 20000 in
theorem gX7_state_X7_in : GoodIn wsX7_state (va_wsS RX7 76 yX7_in wsX7_in) := goodIn_app (goodIn_of _ (by decide +kernel)) ggX7_state_X7_in
set_option maxRecDepth 20000 in
theorem ggX7_state_X7_own : GoodIn wsX7_state wsX7_own := goodIn_r _ [17, 2, 18, 19, 20, 21, 8, 22, 23, 24, 11, 12, 13, 40, 41, 42, 43, 44, 45, 46, 47, 48, 49, 50, 51, 52, 53, 54, 55, 56, 57] (by rfl) (by decide +kernel)
set_option maxRecDepth 20000 in
theorem gX7_state_X7_own : GoodIn wsX7_state (wsV RX7 95 RX7 yX7_own wsX7_own) := goodIn_app (goodIn_of _ (by decide +kernel)) ggX7_state_X7_own
set_option maxRecDepth 20000 in
theorem ggX7_state_X7_firstOpen : GoodIn wsX7_state wsX7_firstOpen := goodIn_r _ [27, 28, 29, 30, 31, 32, 33, 34, 35, 36, 37, 38, 8, 39, 58, 59, 60, 61, 62, 63, 64] (by rfl) (by decide +kernel)
set_option maxRecDepth 20000 in
theorem gX7_state_X7_firstOpen : GoodIn wsX7_state (va_wsS RX7 169 yX7_firstOpen wsX7_firstOpen) := goodIn_app (goodIn_of _ (by decide +kernel)) ggX7_state_X7_firstOpen
theorem dX7_state_0 : decode cX7_state 0 = .ok (.aload_n 0, 1) := by decide +kernel
theorem dX7_state_1 : decode cX7_state 1 = .ok (.iload_n 1, 1) := by decide +kernel
theorem dX7_state_2 : decode cX7_state 2 = .ok (.invokevirtual 82, 3) := by decide +kernel
theorem dX7_state_5 : decode cX7_state 5 = .ok (.ifCond .eq 15, 3) := by decide +kernel
theorem dX7_state_8 : decode cX7_state 8 = .ok (.iload_n 2, 1) := by decide +kernel
theorem dX7_state_9 : decode cX7_state 9 = .ok (.i2l, 1) := by decide +kernel
theorem dX7_state_10 : decode cX7_state 10 = .ok (.lconst 0, 1) := by decide +kernel
theorem dX7_state_11 : decode cX7_state 11 = .ok (.ldc2_w 80, 3) := by decide +kernel
theorem dX7_state_14 : decode cX7_state 14 = .ok (.invokestatic 76, 3) := by decide +kernel
theorem dX7_state_17 : decode cX7_state 17 = .ok (.ifCond .ne 5, 3) := by decide +kernel
theorem dX7_state_20 : decode cX7_state 20 = .ok (.iconst (-1), 1) := by decide +kernel
theorem dX7_state_21 : decode cX7_state 21 = .ok (.ireturn, 1) := by decide +kernel
theorem dX7_state_22 : decode cX7_state 22 = .ok (.iload_n 2, 1) := by decide +kernel
theorem dX7_state_23 : decode cX7_state 23 = .ok (.tableswitch 46 0 2 #[25, 32, 39], 25) := by decide +kernel
theorem dX7_state_48 : decode cX7_state 48 = .ok (.aload_n 0, 1) := by decide +kernel
theorem dX7_state_49 : decode cX7_state 49 = .ok (.getfield 22, 3) := by decide +kernel
theorem dX7_state_52 : decode cX7_state 52 = .ok (.iload_n 1, 1) := by decide +kernel
theorem dX7_state_53 : decode cX7_state 53 = .ok (.iaload, 1) := by decide +kernel
theorem dX7_state_54 : decode cX7_state 54 = .ok (.ireturn, 1) := by decide +kernel
theorem dX7_state_55 : decode cX7_state 55 = .ok (.aload_n 0, 1) := by decide +kernel
theorem dX7_state_56 : decode cX7_state 56 = .ok (.getfield 25, 3) := by decide +kernel
theorem dX7_state_59 : decode cX7_state 59 = .ok (.iload_n 1, 1) := by decide +kernel
theorem dX7_state_60 : decode cX7_state 60 = .ok (.iaload, 1) := by decide +kernel
theorem dX7_state_61 : decode cX7_state 61 = .ok (.ireturn, 1) := by decide +kernel
theorem dX7_state_62 : decode cX7_state 62 = .ok (.aload_n 0, 1) := by decide +kernel
theorem dX7_state_63 : decode cX7_state 63 = .ok (.getfield 31, 3) := by decide +kernel
theorem dX7_state_66 : decode cX7_state 66 = .ok (.iload_n 1, 1) := by decide +kernel
theorem dX7_state_67 : decode cX7_state 67 = .ok (.iaload, 1) := by decide +kernel
theorem dX7_state_68 : decode cX7_state 68 = .ok (.ireturn, 1) := by decide +kernel
theorem dX7_state_69 : decode cX7_state 69 = .ok (.aload_n 0, 1) := by decide +kernel
theorem dX7_state_70 : decode cX7_state 70 = .ok (.iload_n 1, 1) := by decide +kernel
theorem dX7_state_71 : decode cX7_state 71 = .ok (.invokevirtual 95, 3) := by decide +kernel
theorem dX7_state_74 : decode cX7_state 74 = .ok (.ifnonnull 7, 3) := by decide +kernel
theorem dX7_state_77 : decode cX7_state 77 = .ok (.iconst (-1), 1) := by decide +kernel
theorem dX7_state_78 : decode cX7_state 78 = .ok (.goto 11, 3) := by decide +kernel
theorem dX7_state_81 : decode cX7_state 81 = .ok (.aload_n 0, 1) := by decide +kernel
theorem dX7_state_82 : decode cX7_state 82 = .ok (.iload_n 1, 1) := by decide +kernel
theorem dX7_state_83 : decode cX7_state 83 = .ok (.invokevirtual 95, 3) := by decide +kernel
theorem dX7_state_86 : decode cX7_state 86 = .ok (.invokestatic 169, 3) := by decide +kernel
theorem dX7_state_89 : decode cX7_state 89 = .ok (.ireturn, 1) := by decide +kernel
set_option maxRecDepth 20000 in
theorem ggX7_count_X7_in : GoodIn wsX7_count wsX7_in := goodIn_r _ [8] (by rfl) (by decide +kernel)
set_option maxRecDepth 20000 in
theorem gX7_count_X7_in : GoodIn wsX7_count (va_wsS RX7 76 yX7_in wsX7_in) := goodIn_app (goodIn_of _ (by decide +kernel)) ggX7_count_X7_in
theorem dX7_count_0 : decode cX7_count 0 = .ok (.iload_n 1, 1) := by decide +kernel
theorem dX7_count_1 : decode cX7_count 1 = .ok (.i2l, 1) := by decide +kernel
theorem dX7_count_2 : decode cX7_count 2 = .ok (.lconst 0, 1) := by decide +kernel
theorem dX7_count_3 : decode cX7_count 3 = .ok (.ldc2_w 173, 3) := by decide +kernel
theorem dX7_count_6 : decode cX7_count 6 = .ok (.invokestatic 76, 3) := by decide +kernel
theorem dX7_count_9 : decode cX7_count 9 = .ok (.ifCond .ne 5, 3) := by decide +kernel
theorem dX7_count_12 : decode cX7_count 12 = .ok (.iconst (-1), 1) := by decide +kernel
theorem dX7_count_13 : decode cX7_count 13 = .ok (.ireturn, 1) := by decide +kernel
theorem dX7_count_14 : decode cX7_count 14 = .ok (.iload_n 1, 1) := by decide +kernel
theorem dX7_count_15 : decode cX7_count 15 = .ok (.ifCond .ne 10, 3) := by decide +kernel
theorem dX7_count_18 : decode cX7_count 18 = .ok (.aload_n 0, 1) := by decide +kernel
theorem dX7_count_19 : decode cX7_count 19 = .ok (.getfield 119, 3) := by decide +kernel
theorem dX7_count_22 : decode cX7_count 22 = .ok (.goto 23, 3) := by decide +kernel
theorem dX7_count_25 : decode cX7_count 25 = .ok (.iload_n 1, 1) := by decide +kernel
theorem dX7_count_26 : decode cX7_count 26 = .ok (.iconst 1, 1) := by decide +kernel
theorem dX7_count_27 : decode cX7_count 27 = .ok (.if_icmp .ne 10, 3) := by decide +kernel
theorem dX7_count_30 : decode cX7_count 30 = .ok (.aload_n 0, 1) := by decide +kernel
theorem dX7_count_31 : decode cX7_count 31 = .ok (.getfield 61, 3) := by decide +kernel
theorem dX7_count_34 : decode cX7_count 34 = .ok (.goto 11, 3) := by decide +kernel
theorem dX7_count_37 : decode cX7_count 37 = .ok (.aload_n 0, 1) := by decide +kernel
theorem dX7_count_38 : decode cX7_count 38 = .ok (.getfield 37, 3) := by decide +kernel
theorem dX7_count_41 : decode cX7_count 41 = .ok (.iload_n 1, 1) := by decide +kernel
theorem dX7_count_42 : decode cX7_count 42 = .ok (.iconst 2, 1) := by decide +kernel
theorem dX7_count_43 : decode cX7_count 43 = .ok (.isub, 1) := by decide +kernel
theorem dX7_count_44 : decode cX7_count 44 = .ok (.iaload, 1) := by decide +kernel
theorem dX7_count_45 : decode cX7_count 45 = .ok (.ireturn, 1) := by decide +kernel
