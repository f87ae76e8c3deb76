theorem dX0_init_0 : decode cX0_init 0 = .ok (.aload_n 0, 1) := by decide +kernel
theorem dX0_init_1 : decode cX0_init 1 = .ok (.invokespecial 3, 3) := by decide +kernel
theorem dX0_init_4 : decode cX0_init 4 = .ok (.aload_n 0, 1) := by decide +kernel
theorem dX0_init_5 : decode cX0_init 5 = .ok (.ldc 11, 2) := by decide +kernel
theorem dX0_init_7 : decode cX0_init 7 = .ok (.newarray .long, 2) := by decide +kernel
theorem dX0_init_9 : decode cX0_init 9 = .ok (.putfield 12, 3) := by decide +kernel
theorem dX0_init_12 : decode cX0_init 12 = .ok (.aload_n 0, 1) := by decide +kernel
theorem dX0_init_13 : decode cX0_init 13 = .ok (.sipush 2561, 3) := by decide +kernel
theorem dX0_init_16 : decode cX0_init 16 = .ok (.newarray .long, 2) := by decide +kernel
theorem dX0_init_18 : decode cX0_init 18 = .ok (.putfield 18, 3) := by decide +kernel
theorem dX0_init_21 : decode cX0_init 21 = .ok (.aload_n 0, 1) := by decide +kernel
theorem dX0_init_22 : decode cX0_init 22 = .ok (.sipush 2561, 3) := by decide +kernel
theorem dX0_init_25 : decode cX0_init 25 = .ok (.newarray .int, 2) := by decide +kernel
theorem dX0_init_27 : decode cX0_init 27 = .ok (.putfield 21, 3) := by decide +kernel
theorem dX0_init_30 : decode cX0_init 30 = .ok (.aload_n 0, 1) := by decide +kernel
theorem dX0_init_31 : decode cX0_init 31 = .ok (.sipush 2561, 3) := by decide +kernel
theorem dX0_init_34 : decode cX0_init 34 = .ok (.newarray .int, 2) := by decide +kernel
theorem dX0_init_36 : decode cX0_init 36 = .ok (.putfield 25, 3) := by decide +kernel
theorem dX0_init_39 : decode cX0_init 39 = .ok (.aload_n 0, 1) := by decide +kernel
theorem dX0_init_40 : decode cX0_init 40 = .ok (.aload_n 1, 1) := by decide +kernel
theorem dX0_init_41 : decode cX0_init 41 = .ok (.putfield 28, 3) := by decide +kernel
theorem dX0_init_44 : decode cX0_init 44 = .ok (.return_, 1) := by decide +kernel
set_option maxHeartbeats 4000000 in
set_option maxRecDepth 100000 in
theorem ggX0_keepUp_X1_keepUp : GoodIn wsX0_keepUp wsX1_keepUp := goodIn_r _ [10, 11, 12, 13, 14, 15, 16, 17, 18, 19, 20, 21, 22, 23, 24, 25, 26, 27, 9, 28, 29, 30, 31, 32, 33, 34, 35, 36, 37, 38, 39, 40, 41, 42, 43, 44, 45, 46, 47, 48, 49, 50, 51, 52, 53, 54, 55, 56, 57, 58, 59, 60, 89, 90, 91, 92, 93, 94, 95, 96, 97, 98, 99, 100, 101, 102, 103, 104, 105] (by first | rfl | decide +kernel) (by decide +kernel)
set_option maxRecDepth 20000 in
theorem gX0_keepUp_X1_keepUp : GoodIn wsX0_keepUp (wsV RX0 32 RX1 yX1_keepUp wsX1_keepUp) := goodIn_app (goodIn_of _ (by decide +kernel)) ggX0_keepUp_X1_keepUp
set_option maxHeartbeats 4000000 in
set_option maxRecDepth 100000 in
theorem ggX0_keepUp_X0_fillRow : GoodIn wsX0_keepUp wsX0_fillRow := goodIn_r _ [65, 1, 66, 67, 5, 68, 69, 70, 9, 71, 31, 72, 73, 74, 64, 75, 2, 76, 54, 55, 56, 29, 77, 78, 79, 80, 81, 82, 83, 84, 85, 86, 87, 88, 89, 90, 91, 92, 93, 94, 95] (by first | rfl | decide +kernel) (by decide +kernel)
set_option maxRecDepth 20000 in
theorem gX0_keepUp_X0_fillRow : GoodIn wsX0_keepUp (wsV RX0 46 RX0 yX0_fillRow wsX0_fillRow) := goodIn_app (goodIn_of _ (by decide +kernel)) ggX0_keepUp_X0_fillRow
theorem dX0_keepUp_0 : decode cX0_keepUp 0 = .ok (.aload_n 0, 1) := by decide +kernel
theorem dX0_keepUp_1 : decode cX0_keepUp 1 = .ok (.getfield 28, 3) := by decide +kernel
theorem dX0_keepUp_4 : decode cX0_keepUp 4 = .ok (.invokevirtual 32, 3) := by decide +kernel
theorem dX0_keepUp_7 : decode cX0_keepUp 7 = .ok (.aload_n 0, 1) := by decide +kernel
theorem dX0_keepUp_8 : decode cX0_keepUp 8 = .ok (.iload_n 1, 1) := by decide +kernel
theorem dX0_keepUp_9 : decode cX0_keepUp 9 = .ok (.putfield 35, 3) := by decide +kernel
theorem dX0_keepUp_12 : decode cX0_keepUp 12 = .ok (.aload_n 0, 1) := by decide +kernel
theorem dX0_keepUp_13 : decode cX0_keepUp 13 = .ok (.getfield 39, 3) := by decide +kernel
theorem dX0_keepUp_16 : decode cX0_keepUp 16 = .ok (.aload_n 0, 1) := by decide +kernel
theorem dX0_keepUp_17 : decode cX0_keepUp 17 = .ok (.getfield 28, 3) := by decide +kernel
theorem dX0_keepUp_20 : decode cX0_keepUp 20 = .ok (.getfield 42, 3) := by decide +kernel
theorem dX0_keepUp_23 : decode cX0_keepUp 23 = .ok (.if_icmp .eq 19, 3) := by decide +kernel
theorem dX0_keepUp_26 : decode cX0_keepUp 26 = .ok (.aload_n 0, 1) := by decide +kernel
theorem dX0_keepUp_27 : decode cX0_keepUp 27 = .ok (.aload_n 0, 1) := by decide +kernel
theorem dX0_keepUp_28 : decode cX0_keepUp 28 = .ok (.getfield 28, 3) := by decide +kernel
theorem dX0_keepUp_31 : decode cX0_keepUp 31 = .ok (.getfield 42, 3) := by decide +kernel
theorem dX0_keepUp_34 : decode cX0_keepUp 34 = .ok (.putfield 39, 3) := by decide +kernel
theorem dX0_keepUp_37 : decode cX0_keepUp 37 = .ok (.aload_n 0, 1) := by decide +kernel
theorem dX0_keepUp_38 : decode cX0_keepUp 38 = .ok (.iconst 0, 1) := by decide +kernel
theorem dX0_keepUp_39 : decode cX0_keepUp 39 = .ok (.putfield 43, 3) := by decide +kernel
theorem dX0_keepUp_42 : decode cX0_keepUp 42 = .ok (.aload_n 0, 1) := by decide +kernel
theorem dX0_keepUp_43 : decode cX0_keepUp 43 = .ok (.getfield 43, 3) := by decide +kernel
theorem dX0_keepUp_46 : decode cX0_keepUp 46 = .ok (.iload_n 2, 1) := by decide +kernel
theorem dX0_keepUp_47 : decode cX0_keepUp 47 = .ok (.if_icmp .gt 20, 3) := by decide +kernel
theorem dX0_keepUp_50 : decode cX0_keepUp 50 = .ok (.aload_n 0, 1) := by decide +kernel
theorem dX0_keepUp_51 : decode cX0_keepUp 51 = .ok (.invokevirtual 46, 3) := by decide +kernel
theorem dX0_keepUp_54 : decode cX0_keepUp 54 = .ok (.aload_n 0, 1) := by decide +kernel
theorem dX0_keepUp_55 : decode cX0_keepUp 55 = .ok (.dup, 1) := by decide +kernel
theorem dX0_keepUp_56 : decode cX0_keepUp 56 = .ok (.getfield 43, 3) := by decide +kernel
theorem dX0_keepUp_59 : decode cX0_keepUp 59 = .ok (.iconst 1, 1) := by decide +kernel
theorem dX0_keepUp_60 : decode cX0_keepUp 60 = .ok (.iadd, 1) := by decide +kernel
theorem dX0_keepUp_61 : decode cX0_keepUp 61 = .ok (.putfield 43, 3) := by decide +kernel
theorem dX0_keepUp_64 : decode cX0_keepUp 64 = .ok (.goto (-22), 3) := by decide +kernel
theorem dX0_keepUp_67 : decode cX0_keepUp 67 = .ok (.return_, 1) := by decide +kernel
theorem dX0_ofLength_0 : decode cX0_ofLength 0 = .ok (.aload_n 0, 1) := by decide +kernel
theorem dX0_ofLength_1 : decode cX0_ofLength 1 = .ok (.getfield 12, 3) := by decide +kernel
theorem dX0_ofLength_4 : decode cX0_ofLength 4 = .ok (.iload_n 1, 1) := by decide +kernel
theorem dX0_ofLength_5 : decode cX0_ofLength 5 = .ok (.aload_n 0, 1) := by decide +kernel
theorem dX0_ofLength_6 : decode cX0_ofLength 6 = .ok (.getfield 28, 3) := by decide +kernel
theorem dX0_ofLength_9 : decode cX0_ofLength 9 = .ok (.getfield 49, 3) := by decide +kernel
theorem dX0_ofLength_12 : decode cX0_ofLength 12 = .ok (.imul, 1) := by decide +kernel
theorem dX0_ofLength_13 : decode cX0_ofLength 13 = .ok (.iconst 0, 1) := by decide +kernel
theorem dX0_ofLength_14 : decode cX0_ofLength 14 = .ok (.iadd, 1) := by decide +kernel
theorem dX0_ofLength_15 : decode cX0_ofLength 15 = .ok (.laload, 1) := by decide +kernel
theorem dX0_ofLength_16 : decode cX0_ofLength 16 = .ok (.lreturn, 1) := by decide +kernel
set_option maxHeartbeats 4000000 in
set_option maxRecDepth 100000 in
theorem ggX0_ofAnyLength_X0_countEntries : GoodIn wsX0_ofAnyLength wsX0_countEntries := goodIn_r _ [12, 1, 4, 5, 6, 7, 13, 14, 15, 16, 17, 18, 19, 20, 21, 22, 23, 24, 25, 26, 27, 28, 29, 30, 31, 32, 33, 37, 38, 39, 40, 41, 42, 43, 44, 45, 46, 47, 48, 49, 50, 51, 52, 53, 54, 55] (by first | rfl | decide +kernel) (by decide +kernel)
set_option maxRecDepth 20000 in
theorem gX0_ofAnyLength_X0_countEntries : GoodIn wsX0_ofAnyLength (wsV RX0 52 RX0 yX0_countEntries wsX0_countEntries) := goodIn_app (goodIn_of _ (by decide +kernel)) ggX0_ofAnyLength_X0_countEntries
set_option maxHeartbeats 4000000 in
set_option maxRecDepth 100000 in
theorem ggX0_ofAnyLength_J7_fill_bad5a : GoodIn wsX0_ofAnyLength wsJ7_fill_bad5a := goodIn_r _ [36, 17, 18, 15, 19, 20, 21, 22, 52, 53, 54, 55] (by first | rfl | decide +kernel) (by decide +kernel)
set_option maxRecDepth 20000 in
theorem gX0_ofAnyLength_J7_fill_bad5a : GoodIn wsX0_ofAnyLength (va_wsS RX0 58 yJ7_fill_bad5a wsJ7_fill_bad5a) := goodIn_app (goodIn_of _ (by decide +kernel)) ggX0_ofAnyLength_J7_fill_bad5a
set_option maxHeartbeats 4000000 in
set_option maxRecDepth 100000 in
theorem ggX0_ofAnyLength_X1_after : GoodIn wsX0_ofAnyLength wsX1_after := goodIn_r _ [27, 28, 45, 46, 47, 48, 49, 50, 51] (by first | rfl | decide +kernel) (by decide +kernel)
set_option maxRecDepth 20000 in
theorem gX0_ofAnyLength_X1_after : GoodIn wsX0_ofAnyLength (wsV RX0 64 RX1 yX1_after wsX1_after) := goodIn_app (goodIn_of _ (by decide +kernel)) ggX0_ofAnyLength_X1_after
set_option maxHeartbeats 4000000 in
set_option maxRecDepth 100000 in
theorem ggX0_ofAnyLength_X1_isFree : GoodIn wsX0_ofAnyLength wsX1_isFree := goodIn_r _ [32, 33, 45, 46, 47, 48, 49, 50, 51] (by first | rfl | decide +kernel) (by decide +kernel)
set_option maxRecDepth 20000 in
theorem gX0_ofAnyLength_X1_isFree : GoodIn wsX0_ofAnyLength (wsV RX0 68 RX1 yX1_isFree wsX1_isFree) := goodIn_app (goodIn_of _ (by decide +kernel)) ggX0_ofAnyLength_X1_isFree
theorem dX0_ofAnyLength_0 : decode cX0_ofAnyLength 0 = .ok (.aload_n 0, 1) := by decide +kernel
theorem dX0_ofAnyLength_1 : decode cX0_ofAnyLength 1 = .ok (.invokevirtual 52, 3) := by decide +kernel
theorem dX0_ofAnyLength_4 : decode cX0_ofAnyLength 4 = .ok (.istore_n 1, 1) := by decide +kernel
theorem dX0_ofAnyLength_5 : decode cX0_ofAnyLength 5 = .ok (.aload_n 0, 1) := by decide +kernel
theorem dX0_ofAnyLength_6 : decode cX0_ofAnyLength 6 = .ok (.getfield 21, 3) := by decide +kernel
theorem dX0_ofAnyLength_9 : decode cX0_ofAnyLength 9 = .ok (.iconst 0, 1) := by decide +kernel
theorem dX0_ofAnyLength_10 : decode cX0_ofAnyLength 10 = .ok (.iaload, 1) := by decide +kernel
theorem dX0_ofAnyLength_11 : decode cX0_ofAnyLength 11 = .ok (.ifCond .le 7, 3) := by decide +kernel
theorem dX0_ofAnyLength_14 : decode cX0_ofAnyLength 14 = .ok (.ldc2_w 56, 3) := by decide +kernel
theorem dX0_ofAnyLength_17 : decode cX0_ofAnyLength 17 = .ok (.lreturn, 1) := by decide +kernel
theorem dX0_ofAnyLength_18 : decode cX0_ofAnyLength 18 = .ok (.aload_n 0, 1) := by decide +kernel
theorem dX0_ofAnyLength_19 : decode cX0_ofAnyLength 19 = .ok (.getfield 18, 3) := by decide +kernel
theorem dX0_ofAnyLength_22 : decode cX0_ofAnyLength 22 = .ok (.iconst 0, 1) := by decide +kernel
theorem dX0_ofAnyLength_23 : decode cX0_ofAnyLength 23 = .ok (.aload_n 0, 1) := by decide +kernel
theorem dX0_ofAnyLength_24 : decode cX0_ofAnyLength 24 = .ok (.getfield 28, 3) := by decide +kernel
theorem dX0_ofAnyLength_27 : decode cX0_ofAnyLength 27 = .ok (.getfield 49, 3) := by decide +kernel
theorem dX0_ofAnyLength_30 : decode cX0_ofAnyLength 30 = .ok (.lconst 0, 1) := by decide +kernel
theorem dX0_ofAnyLength_31 : decode cX0_ofAnyLength 31 = .ok (.invokestatic 58, 3) := by decide +kernel
theorem dX0_ofAnyLength_34 : decode cX0_ofAnyLength 34 = .ok (.aload_n 0, 1) := by decide +kernel
theorem dX0_ofAnyLength_35 : decode cX0_ofAnyLength 35 = .ok (.getfield 18, 3) := by decide +kernel
theorem dX0_ofAnyLength_38 : decode cX0_ofAnyLength 38 = .ok (.iconst 0, 1) := by decide +kernel
theorem dX0_ofAnyLength_39 : decode cX0_ofAnyLength 39 = .ok (.lconst 1, 1) := by decide +kernel
theorem dX0_ofAnyLength_40 : decode cX0_ofAnyLength 40 = .ok (.lastore, 1) := by decide +kernel
theorem dX0_ofAnyLength_41 : decode cX0_ofAnyLength 41 = .ok (.aload_n 0, 1) := by decide +kernel
theorem dX0_ofAnyLength_42 : decode cX0_ofAnyLength 42 = .ok (.getfield 25, 3) := by decide +kernel
theorem dX0_ofAnyLength_45 : decode cX0_ofAnyLength 45 = .ok (.iconst 0, 1) := by decide +kernel
theorem dX0_ofAnyLength_46 : decode cX0_ofAnyLength 46 = .ok (.iconst 0, 1) := by decide +kernel
theorem dX0_ofAnyLength_47 : decode cX0_ofAnyLength 47 = .ok (.iastore, 1) := by decide +kernel
theorem dX0_ofAnyLength_48 : decode cX0_ofAnyLength 48 = .ok (.iconst 1, 1) := by decide +kernel
theorem dX0_ofAnyLength_49 : decode cX0_ofAnyLength 49 = .ok (.istore_n 2, 1) := by decide +kernel
theorem dX0_ofAnyLength_50 : decode cX0_ofAnyLength 50 = .ok (.lconst 0, 1) := by decide +kernel
theorem dX0_ofAnyLength_51 : decode cX0_ofAnyLength 51 = .ok (.lstore_n 3, 1) := by decide +kernel
theorem dX0_ofAnyLength_52 : decode cX0_ofAnyLength 52 = .ok (.iconst 0, 1) := by decide +kernel
theorem dX0_ofAnyLength_53 : decode cX0_ofAnyLength 53 = .ok (.istore 5, 2) := by decide +kernel
theorem dX0_ofAnyLength_55 : decode cX0_ofAnyLength 55 = .ok (.iload 5, 2) := by decide +kernel
theorem dX0_ofAnyLength_57 : decode cX0_ofAnyLength 57 = .ok (.iload_n 2, 1) := by decide +kernel
theorem dX0_ofAnyLength_58 : decode cX0_ofAnyLength 58 = .ok (.if_icmp .ge 132, 3) := by decide +kernel
theorem dX0_ofAnyLength_61 : decode cX0_ofAnyLength 61 = .ok (.iload 5, 2) := by decide +kernel
theorem dX0_ofAnyLength_63 : decode cX0_ofAnyLength 63 = .ok (.aload_n 0, 1) := by decide +kernel
theorem dX0_ofAnyLength_64 : decode cX0_ofAnyLength 64 = .ok (.getfield 28, 3) := by decide +kernel
theorem dX0_ofAnyLength_67 : decode cX0_ofAnyLength 67 = .ok (.getfield 49, 3) := by decide +kernel
theorem dX0_ofAnyLength_70 : decode cX0_ofAnyLength 70 = .ok (.if_icmp .ge 120, 3) := by decide +kernel
theorem dX0_ofAnyLength_73 : decode cX0_ofAnyLength 73 = .ok (.aload_n 0, 1) := by decide +kernel
theorem dX0_ofAnyLength_74 : decode cX0_ofAnyLength 74 = .ok (.getfield 25, 3) := by decide +kernel
theorem dX0_ofAnyLength_77 : decode cX0_ofAnyLength 77 = .ok (.iload 5, 2) := by decide +kernel
theorem dX0_ofAnyLength_79 : decode cX0_ofAnyLength 79 = .ok (.iaload, 1) := by decide +kernel
theorem dX0_ofAnyLength_80 : decode cX0_ofAnyLength 80 = .ok (.istore 6, 2) := by decide +kernel
theorem dX0_ofAnyLength_82 : decode cX0_ofAnyLength 82 = .ok (.lload_n 3, 1) := by decide +kernel
theorem dX0_ofAnyLength_83 : decode cX0_ofAnyLength 83 = .ok (.aload_n 0, 1) := by decide +kernel
theorem dX0_ofAnyLength_84 : decode cX0_ofAnyLength 84 = .ok (.getfield 18, 3) := by decide +kernel
theorem dX0_ofAnyLength_87 : decode cX0_ofAnyLength 87 = .ok (.iload 6, 2) := by decide +kernel
theorem dX0_ofAnyLength_89 : decode cX0_ofAnyLength 89 = .ok (.laload, 1) := by decide +kernel
theorem dX0_ofAnyLength_90 : decode cX0_ofAnyLength 90 = .ok (.ladd, 1) := by decide +kernel
theorem dX0_ofAnyLength_91 : decode cX0_ofAnyLength 91 = .ok (.lstore_n 3, 1) := by decide +kernel
theorem dX0_ofAnyLength_92 : decode cX0_ofAnyLength 92 = .ok (.iconst 0, 1) := by decide +kernel
theorem dX0_ofAnyLength_93 : decode cX0_ofAnyLength 93 = .ok (.istore 7, 2) := by decide +kernel
theorem dX0_ofAnyLength_95 : decode cX0_ofAnyLength 95 = .ok (.iload 7, 2) := by decide +kernel
theorem dX0_ofAnyLength_97 : decode cX0_ofAnyLength 97 = .ok (.aload_n 0, 1) := by decide +kernel
theorem dX0_ofAnyLength_98 : decode cX0_ofAnyLength 98 = .ok (.getfield 35, 3) := by decide +kernel
theorem dX0_ofAnyLength_101 : decode cX0_ofAnyLength 101 = .ok (.if_icmp .ge 83, 3) := by decide +kernel
theorem dX0_ofAnyLength_104 : decode cX0_ofAnyLength 104 = .ok (.aload_n 0, 1) := by decide +kernel
theorem dX0_ofAnyLength_105 : decode cX0_ofAnyLength 105 = .ok (.getfield 28, 3) := by decide +kernel
theorem dX0_ofAnyLength_108 : decode cX0_ofAnyLength 108 = .ok (.iload 6, 2) := by decide +kernel
theorem dX0_ofAnyLength_110 : decode cX0_ofAnyLength 110 = .ok (.iload 7, 2) := by decide +kernel
theorem dX0_ofAnyLength_112 : decode cX0_ofAnyLength 112 = .ok (.invokevirtual 64, 3) := by decide +kernel
theorem dX0_ofAnyLength_115 : decode cX0_ofAnyLength 115 = .ok (.istore 8, 2) := by decide +kernel
theorem dX0_ofAnyLength_117 : decode cX0_ofAnyLength 117 = .ok (.aload_n 0, 1) := by decide +kernel
theorem dX0_ofAnyLength_118 : decode cX0_ofAnyLength 118 = .ok (.getfield 28, 3) := by decide +kernel
theorem dX0_ofAnyLength_121 : decode cX0_ofAnyLength 121 = .ok (.iload 8, 2) := by decide +kernel
theorem dX0_ofAnyLength_123 : decode cX0_ofAnyLength 123 = .ok (.invokevirtual 68, 3) := by decide +kernel
theorem dX0_ofAnyLength_126 : decode cX0_ofAnyLength 126 = .ok (.ifCond .eq 52, 3) := by decide +kernel
theorem dX0_ofAnyLength_129 : decode cX0_ofAnyLength 129 = .ok (.aload_n 0, 1) := by decide +kernel
theorem dX0_ofAnyLength_130 : decode cX0_ofAnyLength 130 = .ok (.getfield 18, 3) := by decide +kernel
theorem dX0_ofAnyLength_133 : decode cX0_ofAnyLength 133 = .ok (.iload 8, 2) := by decide +kernel
theorem dX0_ofAnyLength_135 : decode cX0_ofAnyLength 135 = .ok (.dup2, 1) := by decide +kernel
theorem dX0_ofAnyLength_136 : decode cX0_ofAnyLength 136 = .ok (.laload, 1) := by decide +kernel
theorem dX0_ofAnyLength_137 : decode cX0_ofAnyLength 137 = .ok (.aload_n 0, 1) := by decide +kernel
theorem dX0_ofAnyLength_138 : decode cX0_ofAnyLength 138 = .ok (.getfield 18, 3) := by decide +kernel
theorem dX0_ofAnyLength_141 : decode cX0_ofAnyLength 141 = .ok (.iload 6, 2) := by decide +kernel
theorem dX0_ofAnyLength_143 : decode cX0_ofAnyLength 143 = .ok (.laload, 1) := by decide +kernel
theorem dX0_ofAnyLength_144 : decode cX0_ofAnyLength 144 = .ok (.ladd, 1) := by decide +kernel
theorem dX0_ofAnyLength_145 : decode cX0_ofAnyLength 145 = .ok (.lastore, 1) := by decide +kernel
theorem dX0_ofAnyLength_146 : decode cX0_ofAnyLength 146 = .ok (.aload_n 0, 1) := by decide +kernel
theorem dX0_ofAnyLength_147 : decode cX0_ofAnyLength 147 = .ok (.getfield 21, 3) := by decide +kernel
theorem dX0_ofAnyLength_150 : decode cX0_ofAnyLength 150 = .ok (.iload 8, 2) := by decide +kernel
theorem dX0_ofAnyLength_152 : decode cX0_ofAnyLength 152 = .ok (.dup2, 1) := by decide +kernel
theorem dX0_ofAnyLength_153 : decode cX0_ofAnyLength 153 = .ok (.iaload, 1) := by decide +kernel
theorem dX0_ofAnyLength_154 : decode cX0_ofAnyLength 154 = .ok (.iconst 1, 1) := by decide +kernel
theorem dX0_ofAnyLength_155 : decode cX0_ofAnyLength 155 = .ok (.isub, 1) := by decide +kernel
theorem dX0_ofAnyLength_156 : decode cX0_ofAnyLength 156 = .ok (.iastore, 1) := by decide +kernel
theorem dX0_ofAnyLength_157 : decode cX0_ofAnyLength 157 = .ok (.aload_n 0, 1) := by decide +kernel
theorem dX0_ofAnyLength_158 : decode cX0_ofAnyLength 158 = .ok (.getfield 21, 3) := by decide +kernel
theorem dX0_ofAnyLength_161 : decode cX0_ofAnyLength 161 = .ok (.iload 8, 2) := by decide +kernel
theorem dX0_ofAnyLength_163 : decode cX0_ofAnyLength 163 = .ok (.iaload, 1) := by decide +kernel
theorem dX0_ofAnyLength_164 : decode cX0_ofAnyLength 164 = .ok (.ifCond .ne 14, 3) := by decide +kernel
theorem dX0_ofAnyLength_167 : decode cX0_ofAnyLength 167 = .ok (.aload_n 0, 1) := by decide +kernel
theorem dX0_ofAnyLength_168 : decode cX0_ofAnyLength 168 = .ok (.getfield 25, 3) := by decide +kernel
theorem dX0_ofAnyLength_171 : decode cX0_ofAnyLength 171 = .ok (.iload_n 2, 1) := by decide +kernel
theorem dX0_ofAnyLength_172 : decode cX0_ofAnyLength 172 = .ok (.iload 8, 2) := by decide +kernel
theorem dX0_ofAnyLength_174 : decode cX0_ofAnyLength 174 = .ok (.iastore, 1) := by decide +kernel
theorem dX0_ofAnyLength_175 : decode cX0_ofAnyLength 175 = .ok (.iinc 2 1, 3) := by decide +kernel
theorem dX0_ofAnyLength_178 : decode cX0_ofAnyLength 178 = .ok (.iinc 7 1, 3) := by decide +kernel
theorem dX0_ofAnyLength_181 : decode cX0_ofAnyLength 181 = .ok (.goto (-86), 3) := by decide +kernel
theorem dX0_ofAnyLength_184 : decode cX0_ofAnyLength 184 = .ok (.iinc 5 1, 3) := by decide +kernel
theorem dX0_ofAnyLength_187 : decode cX0_ofAnyLength 187 = .ok (.goto (-132), 3) := by decide +kernel
theorem dX0_ofAnyLength_190 : decode cX0_ofAnyLength 190 = .ok (.iload_n 2, 1) := by decide +kernel
theorem dX0_ofAnyLength_191 : decode cX0_ofAnyLength 191 = .ok (.iload_n 1, 1) := by decide +kernel
theorem dX0_ofAnyLength_192 : decode cX0_ofAnyLength 192 = .ok (.if_icmp .ne 7, 3) := by decide +kernel
theorem dX0_ofAnyLength_195 : decode cX0_ofAnyLength 195 = .ok (.lload_n 3, 1) := by decide +kernel
theorem dX0_ofAnyLength_196 : decode cX0_ofAnyLength 196 = .ok (.goto 6, 3) := by decide +kernel
theorem dX0_ofAnyLength_199 : decode cX0_ofAnyLength 199 = .ok (.ldc2_w 56, 3) := by decide +kernel
theorem dX0_ofAnyLength_202 : decode cX0_ofAnyLength 202 = .ok (.lreturn, 1) := by decide +kernel
set_option maxHeartbeats 4000000 in
set_option maxRecDepth 100000 in
theorem ggX0_spell_X6_clear : GoodIn wsX0_spell wsX6_clear := goodIn_r _ [7, 8, 35, 36] (by first | rfl | decide +kernel) (by decide +kernel)
set_option maxRecDepth 20000 in
theorem gX0_spell_X6_clear : GoodIn wsX0_spell (wsV RX0 72 RX6 yX6_clear wsX6_clear) := goodIn_app (goodIn_of _ (by decide +kernel)) ggX0_spell_X6_clear
set_option maxHeartbeats 4000000 in
set_option maxRecDepth 100000 in
theorem ggX0_spell_X1_after : GoodIn wsX0_spell wsX1_after := goodIn_r _ [13, 14, 37, 38, 39, 40, 41, 42, 43] (by first | rfl | decide +kernel) (by decide +kernel)
set_option maxRecDepth 20000 in
theorem gX0_spell_X1_after : GoodIn wsX0_spell (wsV RX0 64 RX1 yX1_after wsX1_after) := goodIn_app (goodIn_of _ (by decide +kernel)) ggX0_spell_X1_after
set_option maxHeartbeats 4000000 in
set_option maxRecDepth 100000 in
theorem ggX0_spell_X0_following : GoodIn wsX0_spell wsX0_following := goodIn_r _ [19, 20, 1, 21, 27, 28, 29, 30, 31, 32, 33, 34, 37, 38, 39, 40, 41, 42, 43] (by first | rfl | decide +kernel) (by decide +kernel)
set_option maxRecDepth 20000 in
theorem gX0_spell_X0_following : GoodIn wsX0_spell (wsV RX0 77 RX0 yX0_following wsX0_following) := goodIn_app (goodIn_of _ (by decide +kernel)) ggX0_spell_X0_following
set_option maxHeartbeats 4000000 in
set_option maxRecDepth 100000 in
theorem ggX0_spell_X6_push : GoodIn wsX0_spell wsX6_push := goodIn_r _ [25, 8, 26, 35, 36] (by first | rfl | decide +kernel) (by decide +kernel)
set_option maxRecDepth 20000 in
theorem gX0_spell_X6_push : GoodIn wsX0_spell (wsV RX0 81 RX6 yX6_push wsX6_push) := goodIn_app (goodIn_of _ (by decide +kernel)) ggX0_spell_X6_push
theorem dX0_spell_0 : decode cX0_spell 0 = .ok (.aload_n 1, 1) := by decide +kernel
theorem dX0_spell_1 : decode cX0_spell 1 = .ok (.invokevirtual 72, 3) := by decide +kernel
theorem dX0_spell_4 : decode cX0_spell 4 = .ok (.iconst 0, 1) := by decide +kernel
theorem dX0_spell_5 : decode cX0_spell 5 = .ok (.istore 5, 2) := by decide +kernel
theorem dX0_spell_7 : decode cX0_spell 7 = .ok (.lload_n 3, 1) := by decide +kernel
theorem dX0_spell_8 : decode cX0_spell 8 = .ok (.lstore 6, 2) := by decide +kernel
theorem dX0_spell_10 : decode cX0_spell 10 = .ok (.iload_n 2, 1) := by decide +kernel
theorem dX0_spell_11 : decode cX0_spell 11 = .ok (.iconst 1, 1) := by decide +kernel
theorem dX0_spell_12 : decode cX0_spell 12 = .ok (.isub, 1) := by decide +kernel
theorem dX0_spell_13 : decode cX0_spell 13 = .ok (.istore 8, 2) := by decide +kernel
theorem dX0_spell_15 : decode cX0_spell 15 = .ok (.iload 8, 2) := by decide +kernel
theorem dX0_spell_17 : decode cX0_spell 17 = .ok (.ifCond .lt 102, 3) := by decide +kernel
theorem dX0_spell_20 : decode cX0_spell 20 = .ok (.iconst 0, 1) := by decide +kernel
theorem dX0_spell_21 : decode cX0_spell 21 = .ok (.istore 9, 2) := by decide +kernel
theorem dX0_spell_23 : decode cX0_spell 23 = .ok (.aload_n 0, 1) := by decide +kernel
theorem dX0_spell_24 : decode cX0_spell 24 = .ok (.iload 8, 2) := by decide +kernel
theorem dX0_spell_26 : decode cX0_spell 26 = .ok (.aload_n 0, 1) := by decide +kernel
theorem dX0_spell_27 : decode cX0_spell 27 = .ok (.getfield 28, 3) := by decide +kernel
theorem dX0_spell_30 : decode cX0_spell 30 = .ok (.iload 5, 2) := by decide +kernel
theorem dX0_spell_32 : decode cX0_spell 32 = .ok (.iload 9, 2) := by decide +kernel
theorem dX0_spell_34 : decode cX0_spell 34 = .ok (.invokevirtual 64, 3) := by decide +kernel
theorem dX0_spell_37 : decode cX0_spell 37 = .ok (.invokevirtual 77, 3) := by decide +kernel
theorem dX0_spell_40 : decode cX0_spell 40 = .ok (.lstore 10, 2) := by decide +kernel
theorem dX0_spell_42 : decode cX0_spell 42 = .ok (.iload 9, 2) := by decide +kernel
theorem dX0_spell_44 : decode cX0_spell 44 = .ok (.aload_n 0, 1) := by decide +kernel
theorem dX0_spell_45 : decode cX0_spell 45 = .ok (.getfield 35, 3) := by decide +kernel
theorem dX0_spell_48 : decode cX0_spell 48 = .ok (.iconst 1, 1) := by decide +kernel
theorem dX0_spell_49 : decode cX0_spell 49 = .ok (.isub, 1) := by decide +kernel
theorem dX0_spell_50 : decode cX0_spell 50 = .ok (.if_icmp .ge 43, 3) := by decide +kernel
theorem dX0_spell_53 : decode cX0_spell 53 = .ok (.lload 6, 2) := by decide +kernel
theorem dX0_spell_55 : decode cX0_spell 55 = .ok (.lload 10, 2) := by decide +kernel
theorem dX0_spell_57 : decode cX0_spell 57 = .ok (.lcmp, 1) := by decide +kernel
theorem dX0_spell_58 : decode cX0_spell 58 = .ok (.ifCond .lt 35, 3) := by decide +kernel
theorem dX0_spell_61 : decode cX0_spell 61 = .ok (.lload 6, 2) := by decide +kernel
theorem dX0_spell_63 : decode cX0_spell 63 = .ok (.lload 10, 2) := by decide +kernel
theorem dX0_spell_65 : decode cX0_spell 65 = .ok (.lsub, 1) := by decide +kernel
theorem dX0_spell_66 : decode cX0_spell 66 = .ok (.lstore 6, 2) := by decide +kernel
theorem dX0_spell_68 : decode cX0_spell 68 = .ok (.iinc 9 1, 3) := by decide +kernel
theorem dX0_spell_71 : decode cX0_spell 71 = .ok (.aload_n 0, 1) := by decide +kernel
theorem dX0_spell_72 : decode cX0_spell 72 = .ok (.iload 8, 2) := by decide +kernel
theorem dX0_spell_74 : decode cX0_spell 74 = .ok (.aload_n 0, 1) := by decide +kernel
theorem dX0_spell_75 : decode cX0_spell 75 = .ok (.getfield 28, 3) := by decide +kernel
theorem dX0_spell_78 : decode cX0_spell 78 = .ok (.iload 5, 2) := by decide +kernel
theorem dX0_spell_80 : decode cX0_spell 80 = .ok (.iload 9, 2) := by decide +kernel
theorem dX0_spell_82 : decode cX0_spell 82 = .ok (.invokevirtual 64, 3) := by decide +kernel
theorem dX0_spell_85 : decode cX0_spell 85 = .ok (.invokevirtual 77, 3) := by decide +kernel
theorem dX0_spell_88 : decode cX0_spell 88 = .ok (.lstore 10, 2) := by decide +kernel
theorem dX0_spell_90 : decode cX0_spell 90 = .ok (.goto (-48), 3) := by decide +kernel
theorem dX0_spell_93 : decode cX0_spell 93 = .ok (.aload_n 1, 1) := by decide +kernel
theorem dX0_spell_94 : decode cX0_spell 94 = .ok (.iload 9, 2) := by decide +kernel
theorem dX0_spell_96 : decode cX0_spell 96 = .ok (.invokevirtual 81, 3) := by decide +kernel
theorem dX0_spell_99 : decode cX0_spell 99 = .ok (.pop, 1) := by decide +kernel
theorem dX0_spell_100 : decode cX0_spell 100 = .ok (.aload_n 0, 1) := by decide +kernel
theorem dX0_spell_101 : decode cX0_spell 101 = .ok (.getfield 28, 3) := by decide +kernel
theorem dX0_spell_104 : decode cX0_spell 104 = .ok (.iload 5, 2) := by decide +kernel
theorem dX0_spell_106 : decode cX0_spell 106 = .ok (.iload 9, 2) := by decide +kernel
theorem dX0_spell_108 : decode cX0_spell 108 = .ok (.invokevirtual 64, 3) := by decide +kernel
theorem dX0_spell_111 : decode cX0_spell 111 = .ok (.istore 5, 2) := by decide +kernel
theorem dX0_spell_113 : decode cX0_spell 113 = .ok (.iinc 8 (-1), 3) := by decide +kernel
theorem dX0_spell_116 : decode cX0_spell 116 = .ok (.goto (-101), 3) := by decide +kernel
theorem dX0_spell_119 : decode cX0_spell 119 = .ok (.return_, 1) := by decide +kernel
set_option maxHeartbeats 4000000 in
set_option maxRecDepth 100000 in
theorem ggX0_lesserOfItsLength_X1_after : GoodIn wsX0_lesserOfItsLength wsX1_after := goodIn_r _ [8, 9, 27, 28, 29, 30, 31, 32, 33] (by first | rfl | decide +kernel) (by decide +kernel)
set_option maxRecDepth 20000 in
theorem gX0_lesserOfItsLength_X1_after : GoodIn wsX0_lesserOfItsLength (wsV RX0 64 RX1 yX1_after wsX1_after) := goodIn_app (goodIn_of _ (by decide +kernel)) ggX0_lesserOfItsLength_X1_after
set_option maxHeartbeats 4000000 in
set_option maxRecDepth 100000 in
theorem ggX0_lesserOfItsLength_X0_following : GoodIn wsX0_lesserOfItsLength wsX0_following := goodIn_r _ [14, 15, 3, 16, 19, 20, 21, 22, 23, 24, 25, 26, 27, 28, 29, 30, 31, 32, 33] (by first | rfl | decide +kernel) (by decide +kernel)
set_option maxRecDepth 20000 in
theorem gX0_lesserOfItsLength_X0_following : GoodIn wsX0_lesserOfItsLength (wsV RX0 77 RX0 yX0_following wsX0_following) := goodIn_app (goodIn_of _ (by decide +kernel)) ggX0_lesserOfItsLength_X0_following
theorem dX0_lesserOfItsLength_0 : decode cX0_lesserOfItsLength 0 = .ok (.iconst 0, 1) := by decide +kernel
theorem dX0_lesserOfItsLength_1 : decode cX0_lesserOfItsLength 1 = .ok (.istore_n 2, 1) := by decide +kernel
theorem dX0_lesserOfItsLength_2 : decode cX0_lesserOfItsLength 2 = .ok (.lconst 0, 1) := by decide +kernel
theorem dX0_lesserOfItsLength_3 : decode cX0_lesserOfItsLength 3 = .ok (.lstore_n 3, 1) := by decide +kernel
theorem dX0_lesserOfItsLength_4 : decode cX0_lesserOfItsLength 4 = .ok (.iconst 0, 1) := by decide +kernel
theorem dX0_lesserOfItsLength_5 : decode cX0_lesserOfItsLength 5 = .ok (.istore 5, 2) := by decide +kernel
theorem dX0_lesserOfItsLength_7 : decode cX0_lesserOfItsLength 7 = .ok (.iload 5, 2) := by decide +kernel
theorem dX0_lesserOfItsLength_9 : decode cX0_lesserOfItsLength 9 = .ok (.aload_n 1, 1) := by decide +kernel
theorem dX0_lesserOfItsLength_10 : decode cX0_lesserOfItsLength 10 = .ok (.getfield 84, 3) := by decide +kernel
theorem dX0_lesserOfItsLength_13 : decode cX0_lesserOfItsLength 13 = .ok (.if_icmp .ge 72, 3) := by decide +kernel
theorem dX0_lesserOfItsLength_16 : decode cX0_lesserOfItsLength 16 = .ok (.iconst 0, 1) := by decide +kernel
theorem dX0_lesserOfItsLength_17 : decode cX0_lesserOfItsLength 17 = .ok (.istore 6, 2) := by decide +kernel
theorem dX0_lesserOfItsLength_19 : decode cX0_lesserOfItsLength 19 = .ok (.iload 6, 2) := by decide +kernel
theorem dX0_lesserOfItsLength_21 : decode cX0_lesserOfItsLength 21 = .ok (.aload_n 1, 1) := by decide +kernel
theorem dX0_lesserOfItsLength_22 : decode cX0_lesserOfItsLength 22 = .ok (.getfield 87, 3) := by decide +kernel
theorem dX0_lesserOfItsLength_25 : decode cX0_lesserOfItsLength 25 = .ok (.iload 5, 2) := by decide +kernel
theorem dX0_lesserOfItsLength_27 : decode cX0_lesserOfItsLength 27 = .ok (.baload, 1) := by decide +kernel
theorem dX0_lesserOfItsLength_28 : decode cX0_lesserOfItsLength 28 = .ok (.if_icmp .ge 35, 3) := by decide +kernel
theorem dX0_lesserOfItsLength_31 : decode cX0_lesserOfItsLength 31 = .ok (.lload_n 3, 1) := by decide +kernel
theorem dX0_lesserOfItsLength_32 : decode cX0_lesserOfItsLength 32 = .ok (.aload_n 0, 1) := by decide +kernel
theorem dX0_lesserOfItsLength_33 : decode cX0_lesserOfItsLength 33 = .ok (.aload_n 1, 1) := by decide +kernel
theorem dX0_lesserOfItsLength_34 : decode cX0_lesserOfItsLength 34 = .ok (.getfield 84, 3) := by decide +kernel
theorem dX0_lesserOfItsLength_37 : decode cX0_lesserOfItsLength 37 = .ok (.iconst 1, 1) := by decide +kernel
theorem dX0_lesserOfItsLength_38 : decode cX0_lesserOfItsLength 38 = .ok (.isub, 1) := by decide +kernel
theorem dX0_lesserOfItsLength_39 : decode cX0_lesserOfItsLength 39 = .ok (.iload 5, 2) := by decide +kernel
theorem dX0_lesserOfItsLength_41 : decode cX0_lesserOfItsLength 41 = .ok (.isub, 1) := by decide +kernel
theorem dX0_lesserOfItsLength_42 : decode cX0_lesserOfItsLength 42 = .ok (.aload_n 0, 1) := by decide +kernel
theorem dX0_lesserOfItsLength_43 : decode cX0_lesserOfItsLength 43 = .ok (.getfield 28, 3) := by decide +kernel
theorem dX0_lesserOfItsLength_46 : decode cX0_lesserOfItsLength 46 = .ok (.iload_n 2, 1) := by decide +kernel
theorem dX0_lesserOfItsLength_47 : decode cX0_lesserOfItsLength 47 = .ok (.iload 6, 2) := by decide +kernel
theorem dX0_lesserOfItsLength_49 : decode cX0_lesserOfItsLength 49 = .ok (.invokevirtual 64, 3) := by decide +kernel
theorem dX0_lesserOfItsLength_52 : decode cX0_lesserOfItsLength 52 = .ok (.invokevirtual 77, 3) := by decide +kernel
theorem dX0_lesserOfItsLength_55 : decode cX0_lesserOfItsLength 55 = .ok (.ladd, 1) := by decide +kernel
theorem dX0_lesserOfItsLength_56 : decode cX0_lesserOfItsLength 56 = .ok (.lstore_n 3, 1) := by decide +kernel
theorem dX0_lesserOfItsLength_57 : decode cX0_lesserOfItsLength 57 = .ok (.iinc 6 1, 3) := by decide +kernel
theorem dX0_lesserOfItsLength_60 : decode cX0_lesserOfItsLength 60 = .ok (.goto (-41), 3) := by decide +kernel
theorem dX0_lesserOfItsLength_63 : decode cX0_lesserOfItsLength 63 = .ok (.aload_n 0, 1) := by decide +kernel
theorem dX0_lesserOfItsLength_64 : decode cX0_lesserOfItsLength 64 = .ok (.getfield 28, 3) := by decide +kernel
theorem dX0_lesserOfItsLength_67 : decode cX0_lesserOfItsLength 67 = .ok (.iload_n 2, 1) := by decide +kernel
theorem dX0_lesserOfItsLength_68 : decode cX0_lesserOfItsLength 68 = .ok (.aload_n 1, 1) := by decide +kernel
theorem dX0_lesserOfItsLength_69 : decode cX0_lesserOfItsLength 69 = .ok (.getfield 87, 3) := by decide +kernel
theorem dX0_lesserOfItsLength_72 : decode cX0_lesserOfItsLength 72 = .ok (.iload 5, 2) := by decide +kernel
theorem dX0_lesserOfItsLength_74 : decode cX0_lesserOfItsLength 74 = .ok (.baload, 1) := by decide +kernel
theorem dX0_lesserOfItsLength_75 : decode cX0_lesserOfItsLength 75 = .ok (.invokevirtual 64, 3) := by decide +kernel
theorem dX0_lesserOfItsLength_78 : decode cX0_lesserOfItsLength 78 = .ok (.istore_n 2, 1) := by decide +kernel
theorem dX0_lesserOfItsLength_79 : decode cX0_lesserOfItsLength 79 = .ok (.iinc 5 1, 3) := by decide +kernel
theorem dX0_lesserOfItsLength_82 : decode cX0_lesserOfItsLength 82 = .ok (.goto (-75), 3) := by decide +kernel
theorem dX0_lesserOfItsLength_85 : decode cX0_lesserOfItsLength 85 = .ok (.lload_n 3, 1) := by decide +kernel
theorem dX0_lesserOfItsLength_86 : decode cX0_lesserOfItsLength 86 = .ok (.lreturn, 1) := by decide +kernel
theorem dX0_following_0 : decode cX0_following 0 = .ok (.aload_n 0, 1) := by decide +kernel
theorem dX0_following_1 : decode cX0_following 1 = .ok (.getfield 12, 3) := by decide +kernel
theorem dX0_following_4 : decode cX0_following 4 = .ok (.iload_n 1, 1) := by decide +kernel
theorem dX0_following_5 : decode cX0_following 5 = .ok (.aload_n 0, 1) := by decide +kernel
theorem dX0_following_6 : decode cX0_following 6 = .ok (.getfield 28, 3) := by decide +kernel
theorem dX0_following_9 : decode cX0_following 9 = .ok (.getfield 49, 3) := by decide +kernel
theorem dX0_following_12 : decode cX0_following 12 = .ok (.imul, 1) := by decide +kernel
theorem dX0_following_13 : decode cX0_following 13 = .ok (.iload_n 2, 1) := by decide +kernel
theorem dX0_following_14 : decode cX0_following 14 = .ok (.iadd, 1) := by decide +kernel
theorem dX0_following_15 : decode cX0_following 15 = .ok (.laload, 1) := by decide +kernel
theorem dX0_following_16 : decode cX0_following 16 = .ok (.lreturn, 1) := by decide +kernel
set_option maxHeartbeats 4000000 in
set_option maxRecDepth 100000 in
theorem ggX0_fillRow_X1_isFree : GoodIn wsX0_fillRow wsX1_isFree := goodIn_r _ [9, 10, 34, 35, 36, 37, 38, 39, 40] (by first | rfl | decide +kernel) (by decide +kernel)
set_option maxRecDepth 20000 in
theorem gX0_fillRow_X1_isFree : GoodIn wsX0_fillRow (wsV RX0 68 RX1 yX1_isFree wsX1_isFree) := goodIn_app (goodIn_of _ (by decide +kernel)) ggX0_fillRow_X1_isFree
set_option maxHeartbeats 4000000 in
set_option maxRecDepth 100000 in
theorem ggX0_fillRow_X0_followersOf : GoodIn wsX0_fillRow wsX0_followersOf := goodIn_r _ [15, 4, 16, 1, 17, 18, 19, 8, 20, 21, 22, 23, 24, 14, 25, 3, 2, 26, 27, 28, 29, 30, 31, 32, 33, 34, 35, 36, 37, 38, 39, 40] (by first | rfl | decide +kernel) (by decide +kernel)
set_option maxRecDepth 20000 in
theorem gX0_fillRow_X0_followersOf : GoodIn wsX0_fillRow (wsV RX0 90 RX0 yX0_followersOf wsX0_followersOf) := goodIn_app (goodIn_of _ (by decide +kernel)) ggX0_fillRow_X0_followersOf
theorem dX0_fillRow_0 : decode cX0_fillRow 0 = .ok (.aload_n 0, 1) := by decide +kernel
theorem dX0_fillRow_1 : decode cX0_fillRow 1 = .ok (.getfield 28, 3) := by decide +kernel
theorem dX0_fillRow_4 : decode cX0_fillRow 4 = .ok (.getfield 49, 3) := by decide +kernel
theorem dX0_fillRow_7 : decode cX0_fillRow 7 = .ok (.istore_n 1, 1) := by decide +kernel
theorem dX0_fillRow_8 : decode cX0_fillRow 8 = .ok (.iconst 0, 1) := by decide +kernel
theorem dX0_fillRow_9 : decode cX0_fillRow 9 = .ok (.istore_n 2, 1) := by decide +kernel
theorem dX0_fillRow_10 : decode cX0_fillRow 10 = .ok (.iload_n 2, 1) := by decide +kernel
theorem dX0_fillRow_11 : decode cX0_fillRow 11 = .ok (.iload_n 1, 1) := by decide +kernel
theorem dX0_fillRow_12 : decode cX0_fillRow 12 = .ok (.if_icmp .ge 42, 3) := by decide +kernel
theorem dX0_fillRow_15 : decode cX0_fillRow 15 = .ok (.aload_n 0, 1) := by decide +kernel
theorem dX0_fillRow_16 : decode cX0_fillRow 16 = .ok (.getfield 12, 3) := by decide +kernel
theorem dX0_fillRow_19 : decode cX0_fillRow 19 = .ok (.aload_n 0, 1) := by decide +kernel
theorem dX0_fillRow_20 : decode cX0_fillRow 20 = .ok (.getfield 43, 3) := by decide +kernel
theorem dX0_fillRow_23 : decode cX0_fillRow 23 = .ok (.iload_n 1, 1) := by decide +kernel
theorem dX0_fillRow_24 : decode cX0_fillRow 24 = .ok (.imul, 1) := by decide +kernel
theorem dX0_fillRow_25 : decode cX0_fillRow 25 = .ok (.iload_n 2, 1) := by decide +kernel
theorem dX0_fillRow_26 : decode cX0_fillRow 26 = .ok (.iadd, 1) := by decide +kernel
theorem dX0_fillRow_27 : decode cX0_fillRow 27 = .ok (.aload_n 0, 1) := by decide +kernel
theorem dX0_fillRow_28 : decode cX0_fillRow 28 = .ok (.getfield 28, 3) := by decide +kernel
theorem dX0_fillRow_31 : decode cX0_fillRow 31 = .ok (.iload_n 2, 1) := by decide +kernel
theorem dX0_fillRow_32 : decode cX0_fillRow 32 = .ok (.invokevirtual 68, 3) := by decide +kernel
theorem dX0_fillRow_35 : decode cX0_fillRow 35 = .ok (.ifCond .eq 11, 3) := by decide +kernel
theorem dX0_fillRow_38 : decode cX0_fillRow 38 = .ok (.aload_n 0, 1) := by decide +kernel
theorem dX0_fillRow_39 : decode cX0_fillRow 39 = .ok (.iload_n 2, 1) := by decide +kernel
theorem dX0_fillRow_40 : decode cX0_fillRow 40 = .ok (.invokevirtual 90, 3) := by decide +kernel
theorem dX0_fillRow_43 : decode cX0_fillRow 43 = .ok (.goto 4, 3) := by decide +kernel
theorem dX0_fillRow_46 : decode cX0_fillRow 46 = .ok (.lconst 0, 1) := by decide +kernel
theorem dX0_fillRow_47 : decode cX0_fillRow 47 = .ok (.lastore, 1) := by decide +kernel
theorem dX0_fillRow_48 : decode cX0_fillRow 48 = .ok (.iinc 2 1, 3) := by decide +kernel
theorem dX0_fillRow_51 : decode cX0_fillRow 51 = .ok (.goto (-41), 3) := by decide +kernel
theorem dX0_fillRow_54 : decode cX0_fillRow 54 = .ok (.return_, 1) := by decide +kernel
set_option maxHeartbeats 4000000 in
set_option maxRecDepth 100000 in
theorem ggX0_followersOf_X1_after : GoodIn wsX0_followersOf wsX1_after := goodIn_r _ [8, 9, 25, 26, 27, 28, 29, 30, 31] (by first | rfl | decide +kernel) (by decide +kernel)
set_option maxRecDepth 20000 in
theorem gX0_followersOf_X1_after : GoodIn wsX0_followersOf (wsV RX0 64 RX1 yX1_after wsX1_after) := goodIn_app (goodIn_of _ (by decide +kernel)) ggX0_followersOf_X1_after
set_option maxHeartbeats 4000000 in
set_option maxRecDepth 100000 in
theorem ggX0_followersOf_X0_following : GoodIn wsX0_followersOf wsX0_following := goodIn_r _ [14, 15, 3, 16, 17, 18, 19, 20, 21, 22, 23, 24, 25, 26, 27, 28, 29, 30, 31] (by first | rfl | decide +kernel) (by decide +kernel)
set_option maxRecDepth 20000 in
theorem gX0_followersOf_X0_following : GoodIn wsX0_followersOf (wsV RX0 77 RX0 yX0_following wsX0_following) := goodIn_app (goodIn_of _ (by decide +kernel)) ggX0_followersOf_X0_following
theorem dX0_followersOf_0 : decode cX0_followersOf 0 = .ok (.aload_n 0, 1) := by decide +kernel
theorem dX0_followersOf_1 : decode cX0_followersOf 1 = .ok (.getfield 43, 3) := by decide +kernel
theorem dX0_followersOf_4 : decode cX0_followersOf 4 = .ok (.ifCond .ne 5, 3) := by decide +kernel
theorem dX0_followersOf_7 : decode cX0_followersOf 7 = .ok (.lconst 1, 1) := by decide +kernel
theorem dX0_followersOf_8 : decode cX0_followersOf 8 = .ok (.lreturn, 1) := by decide +kernel
theorem dX0_followersOf_9 : decode cX0_followersOf 9 = .ok (.lconst 0, 1) := by decide +kernel
theorem dX0_followersOf_10 : decode cX0_followersOf 10 = .ok (.lstore_n 2, 1) := by decide +kernel
theorem dX0_followersOf_11 : decode cX0_followersOf 11 = .ok (.iconst 0, 1) := by decide +kernel
theorem dX0_followersOf_12 : decode cX0_followersOf 12 = .ok (.istore 4, 2) := by decide +kernel
theorem dX0_followersOf_14 : decode cX0_followersOf 14 = .ok (.iload 4, 2) := by decide +kernel
theorem dX0_followersOf_16 : decode cX0_followersOf 16 = .ok (.aload_n 0, 1) := by decide +kernel
theorem dX0_followersOf_17 : decode cX0_followersOf 17 = .ok (.getfield 35, 3) := by decide +kernel
theorem dX0_followersOf_20 : decode cX0_followersOf 20 = .ok (.if_icmp .ge 32, 3) := by decide +kernel
theorem dX0_followersOf_23 : decode cX0_followersOf 23 = .ok (.lload_n 2, 1) := by decide +kernel
theorem dX0_followersOf_24 : decode cX0_followersOf 24 = .ok (.aload_n 0, 1) := by decide +kernel
theorem dX0_followersOf_25 : decode cX0_followersOf 25 = .ok (.aload_n 0, 1) := by decide +kernel
theorem dX0_followersOf_26 : decode cX0_followersOf 26 = .ok (.getfield 43, 3) := by decide +kernel
theorem dX0_followersOf_29 : decode cX0_followersOf 29 = .ok (.iconst 1, 1) := by decide +kernel
theorem dX0_followersOf_30 : decode cX0_followersOf 30 = .ok (.isub, 1) := by decide +kernel
theorem dX0_followersOf_31 : decode cX0_followersOf 31 = .ok (.aload_n 0, 1) := by decide +kernel
theorem dX0_followersOf_32 : decode cX0_followersOf 32 = .ok (.getfield 28, 3) := by decide +kernel
theorem dX0_followersOf_35 : decode cX0_followersOf 35 = .ok (.iload_n 1, 1) := by decide +kernel
theorem dX0_followersOf_36 : decode cX0_followersOf 36 = .ok (.iload 4, 2) := by decide +kernel
theorem dX0_followersOf_38 : decode cX0_followersOf 38 = .ok (.invokevirtual 64, 3) := by decide +kernel
theorem dX0_followersOf_41 : decode cX0_followersOf 41 = .ok (.invokevirtual 77, 3) := by decide +kernel
theorem dX0_followersOf_44 : decode cX0_followersOf 44 = .ok (.ladd, 1) := by decide +kernel
theorem dX0_followersOf_45 : decode cX0_followersOf 45 = .ok (.lstore_n 2, 1) := by decide +kernel
theorem dX0_followersOf_46 : decode cX0_followersOf 46 = .ok (.iinc 4 1, 3) := by decide +kernel
theorem dX0_followersOf_49 : decode cX0_followersOf 49 = .ok (.goto (-35), 3) := by decide +kernel
theorem dX0_followersOf_52 : decode cX0_followersOf 52 = .ok (.lload_n 2, 1) := by decide +kernel
theorem dX0_followersOf_53 : decode cX0_followersOf 53 = .ok (.lreturn, 1) := by decide +kernel
set_option maxHeartbeats 4000000 in
set_option maxRecDepth 100000 in
theorem ggX0_countEntries_J7_fill_fda19 : GoodIn wsX0_countEntries wsJ7_fill_fda19 := goodIn_r _ [9, 10, 11, 8, 12, 13, 14, 15, 42, 43, 44, 45] (by first | rfl | decide +kernel) (by decide +kernel)
set_option maxRecDepth 20000 in
theorem gX0_countEntries_J7_fill_fda19 : GoodIn wsX0_countEntries (va_wsS RX0 94 yJ7_fill_fda19 wsJ7_fill_fda19) := goodIn_app (goodIn_of _ (by decide +kernel)) ggX0_countEntries_J7_fill_fda19
set_option maxHeartbeats 4000000 in
set_option maxRecDepth 100000 in
theorem ggX0_countEntries_X1_after : GoodIn wsX0_countEntries wsX1_after := goodIn_r _ [20, 21, 35, 36, 37, 38, 39, 40, 41] (by first | rfl | decide +kernel) (by decide +kernel)
set_option maxRecDepth 20000 in
theorem gX0_countEntries_X1_after : GoodIn wsX0_countEntries (wsV RX0 64 RX1 yX1_after wsX1_after) := goodIn_app (goodIn_of _ (by decide +kernel)) ggX0_countEntries_X1_after
set_option maxHeartbeats 4000000 in
set_option maxRecDepth 100000 in
theorem ggX0_countEntries_X1_isFree : GoodIn wsX0_countEntries wsX1_isFree := goodIn_r _ [25, 26, 35, 36, 37, 38, 39, 40, 41] (by first | rfl | decide +kernel) (by decide +kernel)
set_option maxRecDepth 20000 in
theorem gX0_countEntries_X1_isFree : GoodIn wsX0_countEntries (wsV RX0 68 RX1 yX1_isFree wsX1_isFree) := goodIn_app (goodIn_of _ (by decide +kernel)) ggX0_countEntries_X1_isFree
theorem dX0_countEntries_0 : decode cX0_countEntries 0 = .ok (.aload_n 0, 1) := by decide +kernel
theorem dX0_countEntries_1 : decode cX0_countEntries 1 = .ok (.getfield 21, 3) := by decide +kernel
theorem dX0_countEntries_4 : decode cX0_countEntries 4 = .ok (.iconst 0, 1) := by decide +kernel
theorem dX0_countEntries_5 : decode cX0_countEntries 5 = .ok (.aload_n 0, 1) := by decide +kernel
theorem dX0_countEntries_6 : decode cX0_countEntries 6 = .ok (.getfield 28, 3) := by decide +kernel
theorem dX0_countEntries_9 : decode cX0_countEntries 9 = .ok (.getfield 49, 3) := by decide +kernel
theorem dX0_countEntries_12 : decode cX0_countEntries 12 = .ok (.iconst (-1), 1) := by decide +kernel
theorem dX0_countEntries_13 : decode cX0_countEntries 13 = .ok (.invokestatic 94, 3) := by decide +kernel
theorem dX0_countEntries_16 : decode cX0_countEntries 16 = .ok (.aload_n 0, 1) := by decide +kernel
theorem dX0_countEntries_17 : decode cX0_countEntries 17 = .ok (.getfield 21, 3) := by decide +kernel
theorem dX0_countEntries_20 : decode cX0_countEntries 20 = .ok (.iconst 0, 1) := by decide +kernel
theorem dX0_countEntries_21 : decode cX0_countEntries 21 = .ok (.iconst 0, 1) := by decide +kernel
theorem dX0_countEntries_22 : decode cX0_countEntries 22 = .ok (.iastore, 1) := by decide +kernel
theorem dX0_countEntries_23 : decode cX0_countEntries 23 = .ok (.aload_n 0, 1) := by decide +kernel
theorem dX0_countEntries_24 : decode cX0_countEntries 24 = .ok (.getfield 25, 3) := by decide +kernel
theorem dX0_countEntries_27 : decode cX0_countEntries 27 = .ok (.iconst 0, 1) := by decide +kernel
theorem dX0_countEntries_28 : decode cX0_countEntries 28 = .ok (.iconst 0, 1) := by decide +kernel
theorem dX0_countEntries_29 : decode cX0_countEntries 29 = .ok (.iastore, 1) := by decide +kernel
theorem dX0_countEntries_30 : decode cX0_countEntries 30 = .ok (.iconst 1, 1) := by decide +kernel
theorem dX0_countEntries_31 : decode cX0_countEntries 31 = .ok (.istore_n 1, 1) := by decide +kernel
theorem dX0_countEntries_32 : decode cX0_countEntries 32 = .ok (.iconst 0, 1) := by decide +kernel
theorem dX0_countEntries_33 : decode cX0_countEntries 33 = .ok (.istore_n 2, 1) := by decide +kernel
theorem dX0_countEntries_34 : decode cX0_countEntries 34 = .ok (.iload_n 2, 1) := by decide +kernel
theorem dX0_countEntries_35 : decode cX0_countEntries 35 = .ok (.iload_n 1, 1) := by decide +kernel
theorem dX0_countEntries_36 : decode cX0_countEntries 36 = .ok (.if_icmp .ge 105, 3) := by decide +kernel
theorem dX0_countEntries_39 : decode cX0_countEntries 39 = .ok (.iload_n 2, 1) := by decide +kernel
theorem dX0_countEntries_40 : decode cX0_countEntries 40 = .ok (.aload_n 0, 1) := by decide +kernel
theorem dX0_countEntries_41 : decode cX0_countEntries 41 = .ok (.getfield 28, 3) := by decide +kernel
theorem dX0_countEntries_44 : decode cX0_countEntries 44 = .ok (.getfield 49, 3) := by decide +kernel
theorem dX0_countEntries_47 : decode cX0_countEntries 47 = .ok (.if_icmp .ge 94, 3) := by decide +kernel
theorem dX0_countEntries_50 : decode cX0_countEntries 50 = .ok (.iconst 0, 1) := by decide +kernel
theorem dX0_countEntries_51 : decode cX0_countEntries 51 = .ok (.istore_n 3, 1) := by decide +kernel
theorem dX0_countEntries_52 : decode cX0_countEntries 52 = .ok (.iload_n 3, 1) := by decide +kernel
theorem dX0_countEntries_53 : decode cX0_countEntries 53 = .ok (.aload_n 0, 1) := by decide +kernel
theorem dX0_countEntries_54 : decode cX0_countEntries 54 = .ok (.getfield 35, 3) := by decide +kernel
theorem dX0_countEntries_57 : decode cX0_countEntries 57 = .ok (.if_icmp .ge 78, 3) := by decide +kernel
theorem dX0_countEntries_60 : decode cX0_countEntries 60 = .ok (.aload_n 0, 1) := by decide +kernel
theorem dX0_countEntries_61 : decode cX0_countEntries 61 = .ok (.getfield 28, 3) := by decide +kernel
theorem dX0_countEntries_64 : decode cX0_countEntries 64 = .ok (.aload_n 0, 1) := by decide +kernel
theorem dX0_countEntries_65 : decode cX0_countEntries 65 = .ok (.getfield 25, 3) := by decide +kernel
theorem dX0_countEntries_68 : decode cX0_countEntries 68 = .ok (.iload_n 2, 1) := by decide +kernel
theorem dX0_countEntries_69 : decode cX0_countEntries 69 = .ok (.iaload, 1) := by decide +kernel
theorem dX0_countEntries_70 : decode cX0_countEntries 70 = .ok (.iload_n 3, 1) := by decide +kernel
theorem dX0_countEntries_71 : decode cX0_countEntries 71 = .ok (.invokevirtual 64, 3) := by decide +kernel
theorem dX0_countEntries_74 : decode cX0_countEntries 74 = .ok (.istore 4, 2) := by decide +kernel
theorem dX0_countEntries_76 : decode cX0_countEntries 76 = .ok (.aload_n 0, 1) := by decide +kernel
theorem dX0_countEntries_77 : decode cX0_countEntries 77 = .ok (.getfield 28, 3) := by decide +kernel
theorem dX0_countEntries_80 : decode cX0_countEntries 80 = .ok (.iload 4, 2) := by decide +kernel
theorem dX0_countEntries_82 : decode cX0_countEntries 82 = .ok (.invokevirtual 68, 3) := by decide +kernel
theorem dX0_countEntries_85 : decode cX0_countEntries 85 = .ok (.ifCond .eq 44, 3) := by decide +kernel
theorem dX0_countEntries_88 : decode cX0_countEntries 88 = .ok (.aload_n 0, 1) := by decide +kernel
theorem dX0_countEntries_89 : decode cX0_countEntries 89 = .ok (.getfield 21, 3) := by decide +kernel
theorem dX0_countEntries_92 : decode cX0_countEntries 92 = .ok (.iload 4, 2) := by decide +kernel
theorem dX0_countEntries_94 : decode cX0_countEntries 94 = .ok (.iaload, 1) := by decide +kernel
theorem dX0_countEntries_95 : decode cX0_countEntries 95 = .ok (.iconst (-1), 1) := by decide +kernel
theorem dX0_countEntries_96 : decode cX0_countEntries 96 = .ok (.if_icmp .ne 22, 3) := by decide +kernel
theorem dX0_countEntries_99 : decode cX0_countEntries 99 = .ok (.aload_n 0, 1) := by decide +kernel
theorem dX0_countEntries_100 : decode cX0_countEntries 100 = .ok (.getfield 21, 3) := by decide +kernel
theorem dX0_countEntries_103 : decode cX0_countEntries 103 = .ok (.iload 4, 2) := by decide +kernel
theorem dX0_countEntries_105 : decode cX0_countEntries 105 = .ok (.iconst 0, 1) := by decide +kernel
theorem dX0_countEntries_106 : decode cX0_countEntries 106 = .ok (.iastore, 1) := by decide +kernel
theorem dX0_countEntries_107 : decode cX0_countEntries 107 = .ok (.aload_n 0, 1) := by decide +kernel
theorem dX0_countEntries_108 : decode cX0_countEntries 108 = .ok (.getfield 25, 3) := by decide +kernel
theorem dX0_countEntries_111 : decode cX0_countEntries 111 = .ok (.iload_n 1, 1) := by decide +kernel
theorem dX0_countEntries_112 : decode cX0_countEntries 112 = .ok (.iload 4, 2) := by decide +kernel
theorem dX0_countEntries_114 : decode cX0_countEntries 114 = .ok (.iastore, 1) := by decide +kernel
theorem dX0_countEntries_115 : decode cX0_countEntries 115 = .ok (.iinc 1 1, 3) := by decide +kernel
theorem dX0_countEntries_118 : decode cX0_countEntries 118 = .ok (.aload_n 0, 1) := by decide +kernel
theorem dX0_countEntries_119 : decode cX0_countEntries 119 = .ok (.getfield 21, 3) := by decide +kernel
theorem dX0_countEntries_122 : decode cX0_countEntries 122 = .ok (.iload 4, 2) := by decide +kernel
theorem dX0_countEntries_124 : decode cX0_countEntries 124 = .ok (.dup2, 1) := by decide +kernel
theorem dX0_countEntries_125 : decode cX0_countEntries 125 = .ok (.iaload, 1) := by decide +kernel
theorem dX0_countEntries_126 : decode cX0_countEntries 126 = .ok (.iconst 1, 1) := by decide +kernel
theorem dX0_countEntries_127 : decode cX0_countEntries 127 = .ok (.iadd, 1) := by decide +kernel
theorem dX0_countEntries_128 : decode cX0_countEntries 128 = .ok (.iastore, 1) := by decide +kernel
theorem dX0_countEntries_129 : decode cX0_countEntries 129 = .ok (.iinc 3 1, 3) := by decide +kernel
theorem dX0_countEntries_132 : decode cX0_countEntries 132 = .ok (.goto (-80), 3) := by decide +kernel
theorem dX0_countEntries_135 : decode cX0_countEntries 135 = .ok (.iinc 2 1, 3) := by decide +kernel
theorem dX0_countEntries_138 : decode cX0_countEntries 138 = .ok (.goto (-104), 3) := by decide +kernel
theorem dX0_countEntries_141 : decode cX0_countEntries 141 = .ok (.iload_n 1, 1) := by decide +kernel
theorem dX0_countEntries_142 : decode cX0_countEntries 142 = .ok (.ireturn, 1) := by decide +kernel
