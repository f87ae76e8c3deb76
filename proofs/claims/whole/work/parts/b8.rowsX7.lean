set_option maxHeartbeats 4000000 in
set_option maxRecDepth 100000 in
theorem ggX7_size_X0_keepUp : GoodIn wsX7_size wsX0_keepUp := goodIn_r _ [7, 8, 9, 10, 11, 12, 13, 14, 15, 16, 17, 18, 19, 20, 21, 22, 23, 24, 25, 26, 27, 28, 29, 30, 31, 32, 33, 34, 35, 36, 37, 38, 39, 40, 41, 42, 43, 44, 45, 46, 47, 48, 49, 50, 51, 52, 53, 54, 55, 56, 57, 58, 59, 60, 61, 62, 63, 64, 65, 66, 67, 68, 69, 70, 6, 71, 72, 73, 74, 75, 76, 77, 78, 79, 80, 81, 82, 83, 84, 85, 86, 118, 119, 120, 121, 122, 123, 124, 125, 126, 127, 128, 129, 130, 131, 132, 133, 134, 135, 136, 137, 138, 139, 140, 141, 142] (by first | rfl | decide +kernel) (by decide +kernel)
set_option maxRecDepth 20000 in
theorem gX7_size_X0_keepUp : GoodIn wsX7_size (wsV RX7 172 RX0 yX0_keepUp wsX0_keepUp) := goodIn_app (goodIn_of _ (by decide +kernel)) ggX7_size_X0_keepUp
set_option maxHeartbeats 4000000 in
set_option maxRecDepth 100000 in
theorem ggX7_size_X0_ofAnyLength : GoodIn wsX7_size wsX0_ofAnyLength := goodIn_r _ [90, 91, 92, 93, 8, 72, 94, 9, 95, 96, 97, 6, 98, 99, 40, 41, 42, 43, 44, 45, 46, 47, 48, 82, 61, 62, 16, 63, 36, 74, 75, 76, 77, 38, 100, 101, 102, 118, 119, 120, 121, 122, 123, 124, 125, 126, 127, 128, 129, 130, 131, 132, 139, 140, 141, 142] (by first | rfl | decide +kernel) (by decide +kernel)
set_option maxRecDepth 20000 in
theorem gX7_size_X0_ofAnyLength : GoodIn wsX7_size (wsV RX7 179 RX0 yX0_ofAnyLength wsX0_ofAnyLength) := goodIn_app (goodIn_of _ (by decide +kernel)) ggX7_size_X0_ofAnyLength
theorem dX7_size_0 : decode cX7_size 0 = .ok (.aload_n 0, 1) := by decide +kernel
theorem dX7_size_1 : decode cX7_size 1 = .ok (.getfield 68, 3) := by decide +kernel
theorem dX7_size_4 : decode cX7_size 4 = .ok (.aload_n 0, 1) := by decide +kernel
theorem dX7_size_5 : decode cX7_size 5 = .ok (.getfield 72, 3) := by decide +kernel
theorem dX7_size_8 : decode cX7_size 8 = .ok (.iconst 0, 1) := by decide +kernel
theorem dX7_size_9 : decode cX7_size 9 = .ok (.invokevirtual 172, 3) := by decide +kernel
theorem dX7_size_12 : decode cX7_size 12 = .ok (.aload_n 0, 1) := by decide +kernel
theorem dX7_size_13 : decode cX7_size 13 = .ok (.getfield 68, 3) := by decide +kernel
theorem dX7_size_16 : decode cX7_size 16 = .ok (.invokevirtual 179, 3) := by decide +kernel
theorem dX7_size_19 : decode cX7_size 19 = .ok (.lreturn, 1) := by decide +kernel
set_option maxHeartbeats 4000000 in
set_option maxRecDepth 100000 in
theorem ggX7_find_X0_keepUp : GoodIn wsX7_find wsX0_keepUp := goodIn_r _ [8, 9, 10, 11, 12, 13, 14, 15, 16, 17, 18, 19, 20, 21, 22, 23, 24, 25, 26, 27, 28, 29, 30, 31, 32, 33, 34, 35, 36, 37, 38, 39, 40, 41, 42, 43, 44, 45, 46, 47, 48, 49, 50, 51, 52, 53, 54, 55, 56, 57, 58, 59, 60, 61, 62, 63, 64, 65, 66, 67, 68, 69, 70, 71, 7, 72, 73, 74, 75, 76, 77, 78, 79, 80, 81, 82, 83, 84, 85, 86, 87, 122, 123, 124, 125, 126, 127, 128, 129, 130, 131, 132, 133, 134, 135, 136, 137, 138, 139, 140, 141, 142, 143, 144, 145, 146] (by first | rfl | decide +kernel) (by decide +kernel)
set_option maxRecDepth 20000 in
theorem gX7_find_X0_keepUp : GoodIn wsX7_find (wsV RX7 172 RX0 yX0_keepUp wsX0_keepUp) := goodIn_app (goodIn_of _ (by decide +kernel)) ggX7_find_X0_keepUp
set_option maxHeartbeats 4000000 in
set_option maxRecDepth 100000 in
theorem ggX7_find_X0_ofLength : GoodIn wsX7_find wsX0_ofLength := goodIn_r _ [91, 74, 9, 73, 122, 123, 124, 125, 126, 127, 128, 129, 130, 131, 132, 133, 134, 135, 136] (by first | rfl | decide +kernel) (by decide +kernel)
set_option maxRecDepth 20000 in
theorem gX7_find_X0_ofLength : GoodIn wsX7_find (wsV RX7 175 RX0 yX0_ofLength wsX0_ofLength) := goodIn_app (goodIn_of _ (by decide +kernel)) ggX7_find_X0_ofLength
set_option maxHeartbeats 4000000 in
set_option maxRecDepth 100000 in
theorem ggX7_find_X0_spell : GoodIn wsX7_find wsX0_spell := goodIn_r _ [95, 9, 10, 96, 97, 98, 99, 100, 101, 83, 62, 63, 17, 64, 37, 84, 85, 86, 7, 87, 74, 73, 102, 103, 104, 105, 106, 122, 123, 124, 125, 126, 127, 128, 129, 141, 142, 130, 131, 132, 133, 134, 135, 136] (by first | rfl | decide +kernel) (by decide +kernel)
set_option maxRecDepth 20000 in
theorem gX7_find_X0_spell : GoodIn wsX7_find (wsV RX7 183 RX0 yX0_spell wsX0_spell) := goodIn_app (goodIn_of _ (by decide +kernel)) ggX7_find_X0_spell
theorem dX7_find_0 : decode cX7_find 0 = .ok (.lload_n 1, 1) := by decide +kernel
theorem dX7_find_1 : decode cX7_find 1 = .ok (.lconst 0, 1) := by decide +kernel
theorem dX7_find_2 : decode cX7_find 2 = .ok (.lcmp, 1) := by decide +kernel
theorem dX7_find_3 : decode cX7_find 3 = .ok (.ifCond .ge 5, 3) := by decide +kernel
theorem dX7_find_6 : decode cX7_find 6 = .ok (.iconst (-1), 1) := by decide +kernel
theorem dX7_find_7 : decode cX7_find 7 = .ok (.ireturn, 1) := by decide +kernel
theorem dX7_find_8 : decode cX7_find 8 = .ok (.lload_n 1, 1) := by decide +kernel
theorem dX7_find_9 : decode cX7_find 9 = .ok (.lstore_n 3, 1) := by decide +kernel
theorem dX7_find_10 : decode cX7_find 10 = .ok (.iconst 0, 1) := by decide +kernel
theorem dX7_find_11 : decode cX7_find 11 = .ok (.istore 5, 2) := by decide +kernel
theorem dX7_find_13 : decode cX7_find 13 = .ok (.iload 5, 2) := by decide +kernel
theorem dX7_find_15 : decode cX7_find 15 = .ok (.bipush 20, 2) := by decide +kernel
theorem dX7_find_17 : decode cX7_find 17 = .ok (.if_icmp .gt 62, 3) := by decide +kernel
theorem dX7_find_20 : decode cX7_find 20 = .ok (.aload_n 0, 1) := by decide +kernel
theorem dX7_find_21 : decode cX7_find 21 = .ok (.getfield 68, 3) := by decide +kernel
theorem dX7_find_24 : decode cX7_find 24 = .ok (.aload_n 0, 1) := by decide +kernel
theorem dX7_find_25 : decode cX7_find 25 = .ok (.getfield 72, 3) := by decide +kernel
theorem dX7_find_28 : decode cX7_find 28 = .ok (.iload 5, 2) := by decide +kernel
theorem dX7_find_30 : decode cX7_find 30 = .ok (.invokevirtual 172, 3) := by decide +kernel
theorem dX7_find_33 : decode cX7_find 33 = .ok (.aload_n 0, 1) := by decide +kernel
theorem dX7_find_34 : decode cX7_find 34 = .ok (.getfield 68, 3) := by decide +kernel
theorem dX7_find_37 : decode cX7_find 37 = .ok (.iload 5, 2) := by decide +kernel
theorem dX7_find_39 : decode cX7_find 39 = .ok (.invokevirtual 175, 3) := by decide +kernel
theorem dX7_find_42 : decode cX7_find 42 = .ok (.lstore 6, 2) := by decide +kernel
theorem dX7_find_44 : decode cX7_find 44 = .ok (.lload_n 3, 1) := by decide +kernel
theorem dX7_find_45 : decode cX7_find 45 = .ok (.lload 6, 2) := by decide +kernel
theorem dX7_find_47 : decode cX7_find 47 = .ok (.lcmp, 1) := by decide +kernel
theorem dX7_find_48 : decode cX7_find 48 = .ok (.ifCond .ge 20, 3) := by decide +kernel
theorem dX7_find_51 : decode cX7_find 51 = .ok (.aload_n 0, 1) := by decide +kernel
theorem dX7_find_52 : decode cX7_find 52 = .ok (.getfield 68, 3) := by decide +kernel
theorem dX7_find_55 : decode cX7_find 55 = .ok (.aload_n 0, 1) := by decide +kernel
theorem dX7_find_56 : decode cX7_find 56 = .ok (.getfield 10, 3) := by decide +kernel
theorem dX7_find_59 : decode cX7_find 59 = .ok (.iload 5, 2) := by decide +kernel
theorem dX7_find_61 : decode cX7_find 61 = .ok (.lload_n 3, 1) := by decide +kernel
theorem dX7_find_62 : decode cX7_find 62 = .ok (.invokevirtual 183, 3) := by decide +kernel
theorem dX7_find_65 : decode cX7_find 65 = .ok (.iload 5, 2) := by decide +kernel
theorem dX7_find_67 : decode cX7_find 67 = .ok (.ireturn, 1) := by decide +kernel
theorem dX7_find_68 : decode cX7_find 68 = .ok (.lload_n 3, 1) := by decide +kernel
theorem dX7_find_69 : decode cX7_find 69 = .ok (.lload 6, 2) := by decide +kernel
theorem dX7_find_71 : decode cX7_find 71 = .ok (.lsub, 1) := by decide +kernel
theorem dX7_find_72 : decode cX7_find 72 = .ok (.lstore_n 3, 1) := by decide +kernel
theorem dX7_find_73 : decode cX7_find 73 = .ok (.iinc 5 1, 3) := by decide +kernel
theorem dX7_find_76 : decode cX7_find 76 = .ok (.goto (-63), 3) := by decide +kernel
theorem dX7_find_79 : decode cX7_find 79 = .ok (.iconst (-1), 1) := by decide +kernel
theorem dX7_find_80 : decode cX7_find 80 = .ok (.ireturn, 1) := by decide +kernel
set_option maxHeartbeats 4000000 in
set_option maxRecDepth 100000 in
theorem ggX7_index_X6_copy : GoodIn wsX7_index wsX6_copy := goodIn_r _ [12, 13, 14, 15, 16, 17, 18, 218, 219] (by first | rfl | decide +kernel) (by decide +kernel)
set_option maxRecDepth 20000 in
theorem gX7_index_X6_copy : GoodIn wsX7_index (wsV RX7 152 RX6 yX6_copy wsX6_copy) := goodIn_app (goodIn_of _ (by decide +kernel)) ggX7_index_X6_copy
set_option maxHeartbeats 4000000 in
set_option maxRecDepth 100000 in
theorem ggX7_index_X3_lessen : GoodIn wsX7_index wsX3_lessen := goodIn_r _ [23, 24, 25, 26, 27, 28, 29, 30, 31, 32, 33, 34, 35, 36, 37, 38, 39, 40, 41, 42, 43, 44, 45, 46, 47, 48, 49, 50, 51, 52, 53, 54, 55, 56, 57, 58, 59, 60, 61, 62, 63, 64, 65, 66, 67, 68, 69, 70, 71, 72, 73, 74, 75, 76, 77, 78, 79, 80, 81, 82, 83, 84, 85, 86, 87, 11, 88, 14, 13, 89, 90, 91, 92, 93, 94, 95, 22, 96, 97, 98, 99, 100, 101, 102, 103, 104, 105, 106, 107, 108, 109, 110, 111, 112, 113, 114, 115, 116, 117, 118, 119, 120, 121, 122, 123, 124, 125, 126, 127, 128, 129, 130, 131, 132, 133, 134, 135, 136, 137, 138, 139, 140, 141, 142, 143, 144, 145, 146, 147, 148, 149, 150, 151, 152, 153, 154, 155, 156, 157, 158, 159, 160, 161, 162, 220, 221, 222, 223, 224, 225, 226, 227, 228, 229, 230, 231, 232, 233, 234, 235, 236, 237, 238, 218, 219, 239, 240, 241, 242, 243, 244, 245, 246, 247, 248, 249, 250, 251] (by first | rfl | decide +kernel) (by decide +kernel)
set_option maxRecDepth 20000 in
theorem gX7_index_X3_lessen : GoodIn wsX7_index (wsV RX7 148 RX3 yX3_lessen wsX3_lessen) := goodIn_app (goodIn_of _ (by decide +kernel)) ggX7_index_X3_lessen
set_option maxHeartbeats 4000000 in
set_option maxRecDepth 100000 in
theorem ggX7_index_X0_keepUp : GoodIn wsX7_index wsX0_keepUp := goodIn_r _ [167, 168, 169, 170, 171, 172, 173, 31, 32, 33, 34, 35, 36, 37, 38, 39, 40, 41, 42, 43, 44, 45, 46, 47, 48, 49, 50, 51, 52, 53, 54, 55, 56, 57, 58, 59, 60, 61, 62, 63, 64, 65, 66, 67, 68, 69, 70, 71, 72, 73, 74, 75, 76, 77, 78, 79, 80, 81, 82, 83, 84, 174, 175, 176, 166, 177, 178, 179, 180, 181, 182, 183, 184, 185, 186, 187, 188, 189, 190, 191, 192, 252, 253, 254, 255, 256, 257, 258, 259, 228, 229, 230, 231, 232, 233, 234, 235, 236, 237, 238, 218, 219, 239, 240, 241, 242] (by first | rfl | decide +kernel) (by decide +kernel)
set_option maxRecDepth 20000 in
theorem gX7_index_X0_keepUp : GoodIn wsX7_index (wsV RX7 172 RX0 yX0_keepUp wsX0_keepUp) := goodIn_app (goodIn_of _ (by decide +kernel)) ggX7_index_X0_keepUp
set_option maxHeartbeats 4000000 in
set_option maxRecDepth 100000 in
theorem ggX7_index_X0_lesserOfItsLength : GoodIn wsX7_index wsX0_lesserOfItsLength := goodIn_r _ [196, 197, 198, 168, 188, 78, 79, 33, 80, 53, 189, 190, 191, 166, 192, 179, 178, 218, 219, 252, 253, 254, 255, 256, 257, 258, 259, 228, 229, 230, 231, 232, 233, 234] (by first | rfl | decide +kernel) (by decide +kernel)
set_option maxRecDepth 20000 in
theorem gX7_index_X0_lesserOfItsLength : GoodIn wsX7_index (wsV RX7 189 RX0 yX0_lesserOfItsLength wsX0_lesserOfItsLength) := goodIn_app (goodIn_of _ (by decide +kernel)) ggX7_index_X0_lesserOfItsLength
set_option maxHeartbeats 4000000 in
set_option maxRecDepth 100000 in
theorem ggX7_index_X0_ofLength : GoodIn wsX7_index wsX0_ofLength := goodIn_r _ [202, 179, 168, 178, 252, 253, 254, 255, 256, 257, 258, 259, 228, 229, 230, 231, 232, 233, 234] (by first | rfl | decide +kernel) (by decide +kernel)
set_option maxRecDepth 20000 in
theorem gX7_index_X0_ofLength : GoodIn wsX7_index (wsV RX7 175 RX0 yX0_ofLength wsX0_ofLength) := goodIn_app (goodIn_of _ (by decide +kernel)) ggX7_index_X0_ofLength
theorem dX7_index_0 : decode cX7_index 0 = .ok (.aload_n 0, 1) := by decide +kernel
theorem dX7_index_1 : decode cX7_index 1 = .ok (.getfield 19, 3) := by decide +kernel
theorem dX7_index_4 : decode cX7_index 4 = .ok (.aload_n 0, 1) := by decide +kernel
theorem dX7_index_5 : decode cX7_index 5 = .ok (.getfield 10, 3) := by decide +kernel
theorem dX7_index_8 : decode cX7_index 8 = .ok (.invokevirtual 152, 3) := by decide +kernel
theorem dX7_index_11 : decode cX7_index 11 = .ok (.aload_n 0, 1) := by decide +kernel
theorem dX7_index_12 : decode cX7_index 12 = .ok (.getfield 59, 3) := by decide +kernel
theorem dX7_index_15 : decode cX7_index 15 = .ok (.aload_n 0, 1) := by decide +kernel
theorem dX7_index_16 : decode cX7_index 16 = .ok (.getfield 19, 3) := by decide +kernel
theorem dX7_index_19 : decode cX7_index 19 = .ok (.invokevirtual 148, 3) := by decide +kernel
theorem dX7_index_22 : decode cX7_index 22 = .ok (.aload_n 0, 1) := by decide +kernel
theorem dX7_index_23 : decode cX7_index 23 = .ok (.getfield 19, 3) := by decide +kernel
theorem dX7_index_26 : decode cX7_index 26 = .ok (.getfield 116, 3) := by decide +kernel
theorem dX7_index_29 : decode cX7_index 29 = .ok (.bipush 20, 2) := by decide +kernel
theorem dX7_index_31 : decode cX7_index 31 = .ok (.if_icmp .le 7, 3) := by decide +kernel
theorem dX7_index_34 : decode cX7_index 34 = .ok (.ldc2_w 187, 3) := by decide +kernel
theorem dX7_index_37 : decode cX7_index 37 = .ok (.lreturn, 1) := by decide +kernel
theorem dX7_index_38 : decode cX7_index 38 = .ok (.aload_n 0, 1) := by decide +kernel
theorem dX7_index_39 : decode cX7_index 39 = .ok (.getfield 68, 3) := by decide +kernel
theorem dX7_index_42 : decode cX7_index 42 = .ok (.aload_n 0, 1) := by decide +kernel
theorem dX7_index_43 : decode cX7_index 43 = .ok (.getfield 72, 3) := by decide +kernel
theorem dX7_index_46 : decode cX7_index 46 = .ok (.aload_n 0, 1) := by decide +kernel
theorem dX7_index_47 : decode cX7_index 47 = .ok (.getfield 19, 3) := by decide +kernel
theorem dX7_index_50 : decode cX7_index 50 = .ok (.getfield 116, 3) := by decide +kernel
theorem dX7_index_53 : decode cX7_index 53 = .ok (.invokevirtual 172, 3) := by decide +kernel
theorem dX7_index_56 : decode cX7_index 56 = .ok (.aload_n 0, 1) := by decide +kernel
theorem dX7_index_57 : decode cX7_index 57 = .ok (.getfield 68, 3) := by decide +kernel
theorem dX7_index_60 : decode cX7_index 60 = .ok (.aload_n 0, 1) := by decide +kernel
theorem dX7_index_61 : decode cX7_index 61 = .ok (.getfield 19, 3) := by decide +kernel
theorem dX7_index_64 : decode cX7_index 64 = .ok (.invokevirtual 189, 3) := by decide +kernel
theorem dX7_index_67 : decode cX7_index 67 = .ok (.lstore_n 1, 1) := by decide +kernel
theorem dX7_index_68 : decode cX7_index 68 = .ok (.iconst 0, 1) := by decide +kernel
theorem dX7_index_69 : decode cX7_index 69 = .ok (.istore_n 3, 1) := by decide +kernel
theorem dX7_index_70 : decode cX7_index 70 = .ok (.iload_n 3, 1) := by decide +kernel
theorem dX7_index_71 : decode cX7_index 71 = .ok (.aload_n 0, 1) := by decide +kernel
theorem dX7_index_72 : decode cX7_index 72 = .ok (.getfield 19, 3) := by decide +kernel
theorem dX7_index_75 : decode cX7_index 75 = .ok (.getfield 116, 3) := by decide +kernel
theorem dX7_index_78 : decode cX7_index 78 = .ok (.if_icmp .ge 20, 3) := by decide +kernel
theorem dX7_index_81 : decode cX7_index 81 = .ok (.lload_n 1, 1) := by decide +kernel
theorem dX7_index_82 : decode cX7_index 82 = .ok (.aload_n 0, 1) := by decide +kernel
theorem dX7_index_83 : decode cX7_index 83 = .ok (.getfield 68, 3) := by decide +kernel
theorem dX7_index_86 : decode cX7_index 86 = .ok (.iload_n 3, 1) := by decide +kernel
theorem dX7_index_87 : decode cX7_index 87 = .ok (.invokevirtual 175, 3) := by decide +kernel
theorem dX7_index_90 : decode cX7_index 90 = .ok (.ladd, 1) := by decide +kernel
theorem dX7_index_91 : decode cX7_index 91 = .ok (.lstore_n 1, 1) := by decide +kernel
theorem dX7_index_92 : decode cX7_index 92 = .ok (.iinc 3 1, 3) := by decide +kernel
theorem dX7_index_95 : decode cX7_index 95 = .ok (.goto (-25), 3) := by decide +kernel
theorem dX7_index_98 : decode cX7_index 98 = .ok (.lload_n 1, 1) := by decide +kernel
theorem dX7_index_99 : decode cX7_index 99 = .ok (.lreturn, 1) := by decide +kernel
