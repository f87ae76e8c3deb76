set_option maxHeartbeats 4000000 in
set_option maxRecDepth 100000 in
theorem ggX7_same_X6_copy : GoodIn wsX7_same wsX6_copy := goodIn_r _ [10, 11, 12, 13, 14, 15, 16, 192, 193] (by first | rfl | decide +kernel) (by decide +kernel)
set_option maxRecDepth 20000 in
theorem gX7_same_X6_copy : GoodIn wsX7_same (wsV RX7 152 RX6 yX6_copy wsX6_copy) := goodIn_app (goodIn_of _ (by decide +kernel)) ggX7_same_X6_copy
set_option maxHeartbeats 4000000 in
set_option maxRecDepth 100000 in
theorem ggX7_same_X3_lessen : GoodIn wsX7_same wsX3_lessen := goodIn_r _ [21, 22, 23, 24, 25, 26, 27, 28, 29, 30, 31, 32, 33, 34, 35, 36, 37, 38, 39, 40, 41, 42, 43, 44, 45, 46, 47, 48, 49, 50, 51, 52, 53, 54, 55, 56, 57, 58, 59, 60, 61, 62, 63, 64, 65, 66, 67, 68, 69, 70, 71, 72, 73, 74, 75, 76, 77, 78, 79, 80, 81, 82, 83, 84, 85, 9, 86, 12, 11, 87, 88, 89, 90, 91, 92, 93, 20, 94, 95, 96, 97, 98, 99, 100, 101, 102, 103, 104, 105, 106, 107, 108, 109, 110, 111, 112, 113, 114, 115, 116, 117, 118, 119, 120, 121, 122, 123, 124, 125, 126, 127, 128, 129, 130, 131, 132, 133, 134, 135, 136, 137, 138, 139, 140, 141, 142, 143, 144, 145, 146, 147, 148, 149, 150, 151, 152, 153, 154, 155, 156, 157, 158, 159, 160, 194, 195, 196, 197, 198, 199, 200, 201, 202, 203, 204, 205, 206, 207, 208, 209, 210, 211, 212, 192, 193, 213, 214, 215, 216, 217, 218, 219, 220, 221, 222, 223, 224, 225] (by first | rfl | decide +kernel) (by decide +kernel)
set_option maxRecDepth 20000 in
theorem gX7_same_X3_lessen : GoodIn wsX7_same (wsV RX7 148 RX3 yX3_lessen wsX3_lessen) := goodIn_app (goodIn_of _ (by decide +kernel)) ggX7_same_X3_lessen
set_option maxHeartbeats 4000000 in
set_option maxRecDepth 100000 in
theorem ggX7_same_X6_isLike : GoodIn wsX7_same wsX6_isLike := goodIn_r _ [164, 12, 165, 166, 167, 9, 168, 11, 192, 193] (by first | rfl | decide +kernel) (by decide +kernel)
set_option maxRecDepth 20000 in
theorem gX7_same_X6_isLike : GoodIn wsX7_same (wsV RX7 155 RX6 yX6_isLike wsX6_isLike) := goodIn_app (goodIn_of _ (by decide +kernel)) ggX7_same_X6_isLike
set_option maxHeartbeats 4000000 in
set_option maxRecDepth 100000 in
theorem ggX7_same_X7_state : GoodIn wsX7_same wsX7_state := goodIn_r _ [173, 174, 175, 176, 177, 178, 179, 180, 181, 182, 183, 184, 185, 186, 187, 188, 189, 190, 191, 226, 227, 228] (by first | rfl | decide +kernel) (by decide +kernel)
set_option maxRecDepth 20000 in
theorem gX7_same_X7_state : GoodIn wsX7_same (wsV RX7 141 RX7 yX7_state wsX7_state) := goodIn_app (goodIn_of _ (by decide +kernel)) ggX7_same_X7_state
theorem dX7_same_0 : decode cX7_same 0 = .ok (.aload_n 0, 1) := by decide +kernel
theorem dX7_same_1 : decode cX7_same 1 = .ok (.getfield 19, 3) := by decide +kernel
theorem dX7_same_4 : decode cX7_same 4 = .ok (.aload_n 0, 1) := by decide +kernel
theorem dX7_same_5 : decode cX7_same 5 = .ok (.getfield 10, 3) := by decide +kernel
theorem dX7_same_8 : decode cX7_same 8 = .ok (.invokevirtual 152, 3) := by decide +kernel
theorem dX7_same_11 : decode cX7_same 11 = .ok (.aload_n 0, 1) := by decide +kernel
theorem dX7_same_12 : decode cX7_same 12 = .ok (.getfield 22, 3) := by decide +kernel
theorem dX7_same_15 : decode cX7_same 15 = .ok (.aload_n 0, 1) := by decide +kernel
theorem dX7_same_16 : decode cX7_same 16 = .ok (.getfield 16, 3) := by decide +kernel
theorem dX7_same_19 : decode cX7_same 19 = .ok (.invokevirtual 152, 3) := by decide +kernel
theorem dX7_same_22 : decode cX7_same 22 = .ok (.aload_n 0, 1) := by decide +kernel
theorem dX7_same_23 : decode cX7_same 23 = .ok (.getfield 59, 3) := by decide +kernel
theorem dX7_same_26 : decode cX7_same 26 = .ok (.aload_n 0, 1) := by decide +kernel
theorem dX7_same_27 : decode cX7_same 27 = .ok (.getfield 19, 3) := by decide +kernel
theorem dX7_same_30 : decode cX7_same 30 = .ok (.invokevirtual 148, 3) := by decide +kernel
theorem dX7_same_33 : decode cX7_same 33 = .ok (.aload_n 0, 1) := by decide +kernel
theorem dX7_same_34 : decode cX7_same 34 = .ok (.getfield 59, 3) := by decide +kernel
theorem dX7_same_37 : decode cX7_same 37 = .ok (.aload_n 0, 1) := by decide +kernel
theorem dX7_same_38 : decode cX7_same 38 = .ok (.getfield 22, 3) := by decide +kernel
theorem dX7_same_41 : decode cX7_same 41 = .ok (.invokevirtual 148, 3) := by decide +kernel
theorem dX7_same_44 : decode cX7_same 44 = .ok (.aload_n 0, 1) := by decide +kernel
theorem dX7_same_45 : decode cX7_same 45 = .ok (.getfield 19, 3) := by decide +kernel
theorem dX7_same_48 : decode cX7_same 48 = .ok (.aload_n 0, 1) := by decide +kernel
theorem dX7_same_49 : decode cX7_same 49 = .ok (.getfield 22, 3) := by decide +kernel
theorem dX7_same_52 : decode cX7_same 52 = .ok (.invokevirtual 155, 3) := by decide +kernel
theorem dX7_same_55 : decode cX7_same 55 = .ok (.ifCond .eq 5, 3) := by decide +kernel
theorem dX7_same_58 : decode cX7_same 58 = .ok (.iconst 1, 1) := by decide +kernel
theorem dX7_same_59 : decode cX7_same 59 = .ok (.ireturn, 1) := by decide +kernel
theorem dX7_same_60 : decode cX7_same 60 = .ok (.aload_n 0, 1) := by decide +kernel
theorem dX7_same_61 : decode cX7_same 61 = .ok (.invokevirtual 141, 3) := by decide +kernel
theorem dX7_same_64 : decode cX7_same 64 = .ok (.iconst 1, 1) := by decide +kernel
theorem dX7_same_65 : decode cX7_same 65 = .ok (.if_icmp .ne 7, 3) := by decide +kernel
theorem dX7_same_68 : decode cX7_same 68 = .ok (.iconst 0, 1) := by decide +kernel
theorem dX7_same_69 : decode cX7_same 69 = .ok (.goto 4, 3) := by decide +kernel
theorem dX7_same_72 : decode cX7_same 72 = .ok (.iconst (-1), 1) := by decide +kernel
theorem dX7_same_73 : decode cX7_same 73 = .ok (.ireturn, 1) := by decide +kernel
set_option maxHeartbeats 4000000 in
set_option maxRecDepth 100000 in
theorem ggX7_order_X6_clear : GoodIn wsX7_order wsX6_clear := goodIn_r _ [9, 10, 176, 177] (by first | rfl | decide +kernel) (by decide +kernel)
set_option maxRecDepth 20000 in
theorem gX7_order_X6_clear : GoodIn wsX7_order (wsV RX7 89 RX6 yX6_clear wsX6_clear) := goodIn_app (goodIn_of _ (by decide +kernel)) ggX7_order_X6_clear
set_option maxHeartbeats 4000000 in
set_option maxRecDepth 100000 in
theorem ggX7_order_X6_add : GoodIn wsX7_order wsX6_add := goodIn_r _ [14, 10, 15, 16, 17, 18, 19, 176, 177] (by first | rfl | decide +kernel) (by decide +kernel)
set_option maxRecDepth 20000 in
theorem gX7_order_X6_add : GoodIn wsX7_order (wsV RX7 193 RX6 yX6_add wsX6_add) := goodIn_app (goodIn_of _ (by decide +kernel)) ggX7_order_X6_add
set_option maxHeartbeats 4000000 in
set_option maxRecDepth 100000 in
theorem ggX7_order_X3_lessen : GoodIn wsX7_order wsX3_lessen := goodIn_r _ [24, 25, 26, 27, 28, 29, 30, 31, 32, 33, 34, 35, 36, 37, 38, 39, 40, 41, 42, 43, 44, 45, 46, 47, 48, 49, 50, 51, 52, 53, 54, 55, 56, 57, 58, 59, 60, 61, 62, 63, 64, 65, 66, 67, 68, 69, 70, 71, 72, 73, 74, 75, 76, 77, 78, 79, 80, 81, 82, 83, 84, 85, 86, 87, 88, 8, 89, 10, 15, 90, 6, 7, 9, 91, 92, 93, 23, 94, 95, 96, 97, 98, 99, 100, 101, 102, 103, 104, 105, 106, 107, 108, 109, 110, 111, 112, 113, 114, 115, 116, 117, 118, 119, 120, 121, 122, 123, 124, 125, 126, 127, 128, 129, 130, 131, 132, 133, 134, 135, 136, 137, 138, 139, 140, 141, 142, 143, 144, 145, 146, 147, 148, 149, 150, 151, 152, 153, 154, 155, 156, 157, 158, 159, 160, 178, 179, 180, 181, 182, 183, 184, 185, 186, 187, 188, 189, 190, 191, 192, 193, 194, 195, 196, 176, 177, 197, 198, 199, 200, 201, 202, 203, 204, 205, 206, 207, 208, 209] (by first | rfl | decide +kernel) (by decide +kernel)
set_option maxRecDepth 20000 in
theorem gX7_order_X3_lessen : GoodIn wsX7_order (wsV RX7 148 RX3 yX3_lessen wsX3_lessen) := goodIn_app (goodIn_of _ (by decide +kernel)) ggX7_order_X3_lessen
theorem dX7_order_0 : decode cX7_order 0 = .ok (.aload_n 0, 1) := by decide +kernel
theorem dX7_order_1 : decode cX7_order 1 = .ok (.getfield 19, 3) := by decide +kernel
theorem dX7_order_4 : decode cX7_order 4 = .ok (.invokevirtual 89, 3) := by decide +kernel
theorem dX7_order_7 : decode cX7_order 7 = .ok (.iconst 1, 1) := by decide +kernel
theorem dX7_order_8 : decode cX7_order 8 = .ok (.istore_n 1, 1) := by decide +kernel
theorem dX7_order_9 : decode cX7_order 9 = .ok (.iload_n 1, 1) := by decide +kernel
theorem dX7_order_10 : decode cX7_order 10 = .ok (.sipush 200, 3) := by decide +kernel
theorem dX7_order_13 : decode cX7_order 13 = .ok (.if_icmp .gt 73, 3) := by decide +kernel
theorem dX7_order_16 : decode cX7_order 16 = .ok (.aload_n 0, 1) := by decide +kernel
theorem dX7_order_17 : decode cX7_order 17 = .ok (.getfield 19, 3) := by decide +kernel
theorem dX7_order_20 : decode cX7_order 20 = .ok (.getfield 116, 3) := by decide +kernel
theorem dX7_order_23 : decode cX7_order 23 = .ok (.aload_n 0, 1) := by decide +kernel
theorem dX7_order_24 : decode cX7_order 24 = .ok (.getfield 10, 3) := by decide +kernel
theorem dX7_order_27 : decode cX7_order 27 = .ok (.getfield 116, 3) := by decide +kernel
theorem dX7_order_30 : decode cX7_order 30 = .ok (.iadd, 1) := by decide +kernel
theorem dX7_order_31 : decode cX7_order 31 = .ok (.bipush 40, 2) := by decide +kernel
theorem dX7_order_33 : decode cX7_order 33 = .ok (.if_icmp .le 5, 3) := by decide +kernel
theorem dX7_order_36 : decode cX7_order 36 = .ok (.iconst (-1), 1) := by decide +kernel
theorem dX7_order_37 : decode cX7_order 37 = .ok (.ireturn, 1) := by decide +kernel
theorem dX7_order_38 : decode cX7_order 38 = .ok (.aload_n 0, 1) := by decide +kernel
theorem dX7_order_39 : decode cX7_order 39 = .ok (.getfield 19, 3) := by decide +kernel
theorem dX7_order_42 : decode cX7_order 42 = .ok (.aload_n 0, 1) := by decide +kernel
theorem dX7_order_43 : decode cX7_order 43 = .ok (.getfield 10, 3) := by decide +kernel
theorem dX7_order_46 : decode cX7_order 46 = .ok (.iconst 0, 1) := by decide +kernel
theorem dX7_order_47 : decode cX7_order 47 = .ok (.aload_n 0, 1) := by decide +kernel
theorem dX7_order_48 : decode cX7_order 48 = .ok (.getfield 10, 3) := by decide +kernel
theorem dX7_order_51 : decode cX7_order 51 = .ok (.getfield 116, 3) := by decide +kernel
theorem dX7_order_54 : decode cX7_order 54 = .ok (.invokevirtual 193, 3) := by decide +kernel
theorem dX7_order_57 : decode cX7_order 57 = .ok (.aload_n 0, 1) := by decide +kernel
theorem dX7_order_58 : decode cX7_order 58 = .ok (.getfield 59, 3) := by decide +kernel
theorem dX7_order_61 : decode cX7_order 61 = .ok (.aload_n 0, 1) := by decide +kernel
theorem dX7_order_62 : decode cX7_order 62 = .ok (.getfield 19, 3) := by decide +kernel
theorem dX7_order_65 : decode cX7_order 65 = .ok (.invokevirtual 148, 3) := by decide +kernel
theorem dX7_order_68 : decode cX7_order 68 = .ok (.aload_n 0, 1) := by decide +kernel
theorem dX7_order_69 : decode cX7_order 69 = .ok (.getfield 19, 3) := by decide +kernel
theorem dX7_order_72 : decode cX7_order 72 = .ok (.getfield 116, 3) := by decide +kernel
theorem dX7_order_75 : decode cX7_order 75 = .ok (.ifCond .ne 5, 3) := by decide +kernel
theorem dX7_order_78 : decode cX7_order 78 = .ok (.iload_n 1, 1) := by decide +kernel
theorem dX7_order_79 : decode cX7_order 79 = .ok (.ireturn, 1) := by decide +kernel
theorem dX7_order_80 : decode cX7_order 80 = .ok (.iinc 1 1, 3) := by decide +kernel
theorem dX7_order_83 : decode cX7_order 83 = .ok (.goto (-74), 3) := by decide +kernel
theorem dX7_order_86 : decode cX7_order 86 = .ok (.iconst (-1), 1) := by decide +kernel
theorem dX7_order_87 : decode cX7_order 87 = .ok (.ireturn, 1) := by decide +kernel
set_option maxHeartbeats 4000000 in
set_option maxRecDepth 100000 in
theorem ggX7_step_X5_take : GoodIn wsX7_step wsX5_take := goodIn_r _ [13, 14, 15, 16, 17, 18, 19, 20, 21, 22, 23, 24, 25, 26, 27, 28, 29, 30, 31, 32, 279, 280, 281, 282, 283] (by first | rfl | decide +kernel) (by decide +kernel)
set_option maxRecDepth 20000 in
theorem gX7_step_X5_take : GoodIn wsX7_step (wsV RX7 199 RX5 yX5_take wsX5_take) := goodIn_app (goodIn_of _ (by decide +kernel)) ggX7_step_X5_take
set_option maxHeartbeats 4000000 in
set_option maxRecDepth 100000 in
theorem ggX7_step_X3_lessen : GoodIn wsX7_step wsX3_lessen := goodIn_r _ [37, 38, 39, 40, 41, 42, 43, 44, 45, 46, 47, 48, 49, 50, 51, 52, 53, 54, 55, 56, 57, 58, 59, 60, 61, 62, 63, 64, 65, 66, 67, 68, 69, 70, 71, 72, 73, 74, 75, 76, 77, 78, 79, 80, 81, 82, 83, 84, 85, 86, 87, 88, 89, 90, 91, 92, 93, 94, 95, 96, 97, 98, 99, 100, 101, 20, 102, 22, 32, 103, 18, 19, 21, 104, 105, 106, 36, 107, 108, 109, 110, 111, 112, 113, 114, 115, 116, 117, 118, 119, 120, 121, 29, 30, 31, 122, 123, 124, 125, 126, 127, 128, 129, 130, 131, 132, 133, 134, 135, 136, 137, 138, 139, 140, 141, 142, 143, 144, 145, 146, 147, 148, 149, 150, 151, 152, 153, 154, 155, 156, 157, 158, 159, 160, 161, 162, 163, 164, 165, 166, 167, 168, 169, 170, 284, 285, 286, 287, 288, 289, 290, 291, 292, 293, 294, 295, 296, 297, 298, 275, 276, 277, 278, 282, 283, 299, 300, 301, 302, 303, 304, 305, 306, 307, 308, 309, 310, 311] (by first | rfl | decide +kernel) (by decide +kernel)
set_option maxRecDepth 20000 in
theorem gX7_step_X3_lessen : GoodIn wsX7_step (wsV RX7 148 RX3 yX3_lessen wsX3_lessen) := goodIn_app (goodIn_of _ (by decide +kernel)) ggX7_step_X3_lessen
set_option maxHeartbeats 4000000 in
set_option maxRecDepth 100000 in
theorem ggX7_step_X6_isLike : GoodIn wsX7_step wsX6_isLike := goodIn_r _ [174, 22, 175, 176, 177, 20, 178, 32, 282, 283] (by first | rfl | decide +kernel) (by decide +kernel)
set_option maxRecDepth 20000 in
theorem gX7_step_X6_isLike : GoodIn wsX7_step (wsV RX7 155 RX6 yX6_isLike wsX6_isLike) := goodIn_app (goodIn_of _ (by decide +kernel)) ggX7_step_X6_isLike
set_option maxHeartbeats 4000000 in
set_option maxRecDepth 100000 in
theorem ggX7_step_X6_isLesserThan : GoodIn wsX7_step wsX6_isLesserThan := goodIn_r _ [182, 22, 32, 175, 176, 177, 20, 178, 282, 283] (by first | rfl | decide +kernel) (by decide +kernel)
set_option maxRecDepth 20000 in
theorem gX7_step_X6_isLesserThan : GoodIn wsX7_step (wsV RX7 202 RX6 yX6_isLesserThan wsX6_isLesserThan) := goodIn_app (goodIn_of _ (by decide +kernel)) ggX7_step_X6_isLesserThan
set_option maxHeartbeats 4000000 in
set_option maxRecDepth 100000 in
theorem ggX7_step_X4_add : GoodIn wsX7_step wsX4_add := goodIn_r _ [186, 60, 61, 187, 188, 189, 190, 191, 20, 192, 32, 22, 193, 194, 195, 196, 275, 276, 277, 278, 282, 283] (by first | rfl | decide +kernel) (by decide +kernel)
set_option maxRecDepth 20000 in
theorem gX7_step_X4_add : GoodIn wsX7_step (wsV RX7 205 RX4 yX4_add wsX4_add) := goodIn_app (goodIn_of _ (by decide +kernel)) ggX7_step_X4_add
set_option maxHeartbeats 4000000 in
set_option maxRecDepth 100000 in
theorem ggX7_step_X7_putOutOthers : GoodIn wsX7_step wsX7_putOutOthers := goodIn_r _ [201, 6, 7, 202, 2, 203, 204, 8, 205, 206, 207, 20, 208, 22, 209, 210, 211, 212, 32, 213, 214, 215, 12, 216, 14, 217, 218, 219, 220, 15, 16, 221, 222, 100, 101, 102, 223, 224, 225, 58, 226, 61, 187, 60, 188, 260, 261, 262, 263, 264, 265, 266, 267, 268, 269, 270, 271, 272, 273, 274, 275, 276, 277, 278, 282, 283, 279, 280, 281] (by first | rfl | decide +kernel) (by decide +kernel)
set_option maxRecDepth 20000 in
theorem gX7_step_X7_putOutOthers : GoodIn wsX7_step (wsV RX7 206 RX7 yX7_putOutOthers wsX7_putOutOthers) := goodIn_app (goodIn_of _ (by decide +kernel)) ggX7_step_X7_putOutOthers
set_option maxHeartbeats 4000000 in
set_option maxRecDepth 100000 in
theorem ggX7_step_X7_lessenRights : GoodIn wsX7_step wsX7_lessenRights := goodIn_r _ [230, 6, 7, 5, 203, 33, 34, 35, 36, 37, 38, 39, 40, 41, 42, 43, 44, 45, 46, 47, 48, 49, 50, 51, 52, 53, 54, 55, 56, 57, 58, 59, 60, 61, 62, 63, 64, 65, 66, 67, 68, 69, 70, 71, 72, 73, 74, 75, 76, 77, 78, 79, 80, 81, 82, 83, 84, 85, 86, 87, 88, 89, 90, 91, 92, 93, 94, 95, 96, 97, 98, 99, 100, 101, 20, 102, 22, 32, 103, 18, 19, 21, 104, 105, 106, 107, 108, 109, 110, 111, 112, 113, 114, 115, 116, 117, 118, 119, 120, 121, 29, 30, 31, 122, 123, 124, 125, 126, 127, 128, 129, 130, 131, 132, 133, 134, 135, 136, 137, 138, 139, 140, 141, 142, 143, 144, 145, 146, 147, 148, 149, 150, 151, 152, 153, 154, 155, 156, 157, 158, 159, 160, 161, 162, 163, 164, 165, 166, 167, 168, 169, 170, 260, 261, 262, 263, 264, 265, 266, 267, 268, 269, 270, 271, 272, 273, 274, 275, 276, 277, 278, 284, 285, 286, 287, 288, 289, 290, 291, 292, 293, 294, 295, 296, 297, 298, 282, 283, 299, 300, 301, 302, 303, 304, 305, 306, 307, 308, 309, 310, 311] (by first | rfl | decide +kernel) (by decide +kernel)
set_option maxRecDepth 20000 in
theorem gX7_step_X7_lessenRights : GoodIn wsX7_step (wsV RX7 209 RX7 yX7_lessenRights wsX7_lessenRights) := goodIn_app (goodIn_of _ (by decide +kernel)) ggX7_step_X7_lessenRights
set_option maxHeartbeats 4000000 in
set_option maxRecDepth 100000 in
theorem ggX7_step_X7_meetAll : GoodIn wsX7_step wsX7_meetAll := goodIn_r _ [234, 6, 7, 235, 236, 237, 200, 238, 202, 239, 240, 241, 242, 243, 8, 244, 245, 246, 20, 247, 22, 209, 210, 211, 212, 32, 248, 249, 250, 251, 203, 2, 252, 253, 213, 214, 215, 12, 216, 14, 254, 190, 191, 192, 193, 194, 195, 196, 255, 256, 257, 258, 259, 18, 19, 21, 217, 218, 219, 220, 15, 16, 221, 222, 100, 101, 102, 260, 261, 262, 263, 264, 265, 266, 267, 268, 269, 270, 271, 272, 273, 274, 275, 276, 277, 278, 282, 283, 279, 280, 281] (by first | rfl | decide +kernel) (by decide +kernel)
set_option maxRecDepth 20000 in
theorem gX7_step_X7_meetAll : GoodIn wsX7_step (wsV RX7 212 RX7 yX7_meetAll wsX7_meetAll) := goodIn_app (goodIn_of _ (by decide +kernel)) ggX7_step_X7_meetAll
theorem dX7_step_0 : decode cX7_step 0 = .ok (.aload_n 0, 1) := by decide +kernel
theorem dX7_step_1 : decode cX7_step 1 = .ok (.dup, 1) := by decide +kernel
theorem dX7_step_2 : decode cX7_step 2 = .ok (.getfield 94, 3) := by decide +kernel
theorem dX7_step_5 : decode cX7_step 5 = .ok (.iconst 1, 1) := by decide +kernel
theorem dX7_step_6 : decode cX7_step 6 = .ok (.iadd, 1) := by decide +kernel
theorem dX7_step_7 : decode cX7_step 7 = .ok (.putfield 94, 3) := by decide +kernel
theorem dX7_step_10 : decode cX7_step 10 = .ok (.aload_n 0, 1) := by decide +kernel
theorem dX7_step_11 : decode cX7_step 11 = .ok (.getfield 41, 3) := by decide +kernel
theorem dX7_step_14 : decode cX7_step 14 = .ok (.aload_n 0, 1) := by decide +kernel
theorem dX7_step_15 : decode cX7_step 15 = .ok (.getfield 19, 3) := by decide +kernel
theorem dX7_step_18 : decode cX7_step 18 = .ok (.aload_n 0, 1) := by decide +kernel
theorem dX7_step_19 : decode cX7_step 19 = .ok (.getfield 22, 3) := by decide +kernel
theorem dX7_step_22 : decode cX7_step 22 = .ok (.invokevirtual 199, 3) := by decide +kernel
theorem dX7_step_25 : decode cX7_step 25 = .ok (.aload_n 0, 1) := by decide +kernel
theorem dX7_step_26 : decode cX7_step 26 = .ok (.getfield 59, 3) := by decide +kernel
theorem dX7_step_29 : decode cX7_step 29 = .ok (.aload_n 0, 1) := by decide +kernel
theorem dX7_step_30 : decode cX7_step 30 = .ok (.getfield 19, 3) := by decide +kernel
theorem dX7_step_33 : decode cX7_step 33 = .ok (.invokevirtual 148, 3) := by decide +kernel
theorem dX7_step_36 : decode cX7_step 36 = .ok (.aload_n 0, 1) := by decide +kernel
theorem dX7_step_37 : decode cX7_step 37 = .ok (.getfield 59, 3) := by decide +kernel
theorem dX7_step_40 : decode cX7_step 40 = .ok (.aload_n 0, 1) := by decide +kernel
theorem dX7_step_41 : decode cX7_step 41 = .ok (.getfield 22, 3) := by decide +kernel
theorem dX7_step_44 : decode cX7_step 44 = .ok (.invokevirtual 148, 3) := by decide +kernel
theorem dX7_step_47 : decode cX7_step 47 = .ok (.aload_n 0, 1) := by decide +kernel
theorem dX7_step_48 : decode cX7_step 48 = .ok (.getfield 19, 3) := by decide +kernel
theorem dX7_step_51 : decode cX7_step 51 = .ok (.aload_n 0, 1) := by decide +kernel
theorem dX7_step_52 : decode cX7_step 52 = .ok (.getfield 22, 3) := by decide +kernel
theorem dX7_step_55 : decode cX7_step 55 = .ok (.invokevirtual 155, 3) := by decide +kernel
theorem dX7_step_58 : decode cX7_step 58 = .ok (.ifCond .eq 4, 3) := by decide +kernel
theorem dX7_step_61 : decode cX7_step 61 = .ok (.return_, 1) := by decide +kernel
theorem dX7_step_62 : decode cX7_step 62 = .ok (.aload_n 0, 1) := by decide +kernel
theorem dX7_step_63 : decode cX7_step 63 = .ok (.getfield 34, 3) := by decide +kernel
theorem dX7_step_66 : decode cX7_step 66 = .ok (.getfield 86, 3) := by decide +kernel
theorem dX7_step_69 : decode cX7_step 69 = .ok (.bipush 64, 2) := by decide +kernel
theorem dX7_step_71 : decode cX7_step 71 = .ok (.if_icmp .lt 9, 3) := by decide +kernel
theorem dX7_step_74 : decode cX7_step 74 = .ok (.aload_n 0, 1) := by decide +kernel
theorem dX7_step_75 : decode cX7_step 75 = .ok (.iconst 3, 1) := by decide +kernel
theorem dX7_step_76 : decode cX7_step 76 = .ok (.putfield 76, 3) := by decide +kernel
theorem dX7_step_79 : decode cX7_step 79 = .ok (.return_, 1) := by decide +kernel
theorem dX7_step_80 : decode cX7_step 80 = .ok (.aload_n 0, 1) := by decide +kernel
theorem dX7_step_81 : decode cX7_step 81 = .ok (.getfield 19, 3) := by decide +kernel
theorem dX7_step_84 : decode cX7_step 84 = .ok (.aload_n 0, 1) := by decide +kernel
theorem dX7_step_85 : decode cX7_step 85 = .ok (.getfield 22, 3) := by decide +kernel
theorem dX7_step_88 : decode cX7_step 88 = .ok (.invokevirtual 202, 3) := by decide +kernel
theorem dX7_step_91 : decode cX7_step 91 = .ok (.ifCond .eq 21, 3) := by decide +kernel
theorem dX7_step_94 : decode cX7_step 94 = .ok (.aload_n 0, 1) := by decide +kernel
theorem dX7_step_95 : decode cX7_step 95 = .ok (.getfield 34, 3) := by decide +kernel
theorem dX7_step_98 : decode cX7_step 98 = .ok (.aload_n 0, 1) := by decide +kernel
theorem dX7_step_99 : decode cX7_step 99 = .ok (.getfield 22, 3) := by decide +kernel
theorem dX7_step_102 : decode cX7_step 102 = .ok (.aload_n 0, 1) := by decide +kernel
theorem dX7_step_103 : decode cX7_step 103 = .ok (.getfield 19, 3) := by decide +kernel
theorem dX7_step_106 : decode cX7_step 106 = .ok (.invokevirtual 205, 3) := by decide +kernel
theorem dX7_step_109 : decode cX7_step 109 = .ok (.goto 18, 3) := by decide +kernel
theorem dX7_step_112 : decode cX7_step 112 = .ok (.aload_n 0, 1) := by decide +kernel
theorem dX7_step_113 : decode cX7_step 113 = .ok (.getfield 34, 3) := by decide +kernel
theorem dX7_step_116 : decode cX7_step 116 = .ok (.aload_n 0, 1) := by decide +kernel
theorem dX7_step_117 : decode cX7_step 117 = .ok (.getfield 19, 3) := by decide +kernel
theorem dX7_step_120 : decode cX7_step 120 = .ok (.aload_n 0, 1) := by decide +kernel
theorem dX7_step_121 : decode cX7_step 121 = .ok (.getfield 22, 3) := by decide +kernel
theorem dX7_step_124 : decode cX7_step 124 = .ok (.invokevirtual 205, 3) := by decide +kernel
theorem dX7_step_127 : decode cX7_step 127 = .ok (.aload_n 0, 1) := by decide +kernel
theorem dX7_step_128 : decode cX7_step 128 = .ok (.invokevirtual 206, 3) := by decide +kernel
theorem dX7_step_131 : decode cX7_step 131 = .ok (.aload_n 0, 1) := by decide +kernel
theorem dX7_step_132 : decode cX7_step 132 = .ok (.getfield 76, 3) := by decide +kernel
theorem dX7_step_135 : decode cX7_step 135 = .ok (.ifCond .ne 11, 3) := by decide +kernel
theorem dX7_step_138 : decode cX7_step 138 = .ok (.aload_n 0, 1) := by decide +kernel
theorem dX7_step_139 : decode cX7_step 139 = .ok (.invokevirtual 209, 3) := by decide +kernel
theorem dX7_step_142 : decode cX7_step 142 = .ok (.aload_n 0, 1) := by decide +kernel
theorem dX7_step_143 : decode cX7_step 143 = .ok (.invokevirtual 212, 3) := by decide +kernel
theorem dX7_step_146 : decode cX7_step 146 = .ok (.return_, 1) := by decide +kernel
set_option maxHeartbeats 4000000 in
set_option maxRecDepth 100000 in
theorem ggX7_lessenRights_X3_lessen : GoodIn wsX7_lessenRights wsX3_lessen := goodIn_r _ [9, 10, 11, 12, 13, 14, 15, 16, 17, 18, 19, 20, 21, 22, 23, 24, 25, 26, 27, 28, 29, 30, 31, 32, 33, 34, 35, 36, 37, 38, 39, 40, 41, 42, 43, 44, 45, 46, 47, 48, 49, 50, 51, 52, 53, 54, 55, 56, 57, 58, 59, 60, 61, 62, 63, 64, 65, 66, 67, 68, 69, 70, 71, 72, 73, 74, 75, 76, 77, 78, 79, 80, 81, 82, 83, 84, 8, 85, 86, 87, 88, 89, 90, 91, 92, 93, 94, 95, 96, 97, 98, 99, 100, 101, 102, 103, 104, 105, 106, 107, 108, 109, 110, 111, 112, 113, 114, 115, 116, 117, 118, 119, 120, 121, 122, 123, 124, 125, 126, 127, 128, 129, 130, 131, 132, 133, 134, 135, 136, 137, 138, 139, 140, 141, 142, 143, 144, 145, 146, 147, 148, 149, 150, 151, 171, 172, 173, 174, 175, 176, 177, 178, 179, 180, 181, 182, 183, 184, 185, 167, 168, 169, 170, 186, 187, 188, 189, 190, 191, 192, 193, 194, 195, 196, 197, 198, 199, 200] (by first | rfl | decide +kernel) (by decide +kernel)
set_option maxRecDepth 20000 in
theorem gX7_lessenRights_X3_lessen : GoodIn wsX7_lessenRights (wsV RX7 148 RX3 yX3_lessen wsX3_lessen) := goodIn_app (goodIn_of _ (by decide +kernel)) ggX7_lessenRights_X3_lessen
theorem dX7_lessenRights_0 : decode cX7_lessenRights 0 = .ok (.iconst 0, 1) := by decide +kernel
theorem dX7_lessenRights_1 : decode cX7_lessenRights 1 = .ok (.istore_n 1, 1) := by decide +kernel
theorem dX7_lessenRights_2 : decode cX7_lessenRights 2 = .ok (.iload_n 1, 1) := by decide +kernel
theorem dX7_lessenRights_3 : decode cX7_lessenRights 3 = .ok (.aload_n 0, 1) := by decide +kernel
theorem dX7_lessenRights_4 : decode cX7_lessenRights 4 = .ok (.getfield 34, 3) := by decide +kernel
theorem dX7_lessenRights_7 : decode cX7_lessenRights 7 = .ok (.getfield 86, 3) := by decide +kernel
theorem dX7_lessenRights_10 : decode cX7_lessenRights 10 = .ok (.iconst 1, 1) := by decide +kernel
theorem dX7_lessenRights_11 : decode cX7_lessenRights 11 = .ok (.isub, 1) := by decide +kernel
theorem dX7_lessenRights_12 : decode cX7_lessenRights 12 = .ok (.if_icmp .ge 25, 3) := by decide +kernel
theorem dX7_lessenRights_15 : decode cX7_lessenRights 15 = .ok (.aload_n 0, 1) := by decide +kernel
theorem dX7_lessenRights_16 : decode cX7_lessenRights 16 = .ok (.getfield 59, 3) := by decide +kernel
theorem dX7_lessenRights_19 : decode cX7_lessenRights 19 = .ok (.aload_n 0, 1) := by decide +kernel
theorem dX7_lessenRights_20 : decode cX7_lessenRights 20 = .ok (.getfield 34, 3) := by decide +kernel
theorem dX7_lessenRights_23 : decode cX7_lessenRights 23 = .ok (.getfield 167, 3) := by decide +kernel
theorem dX7_lessenRights_26 : decode cX7_lessenRights 26 = .ok (.iload_n 1, 1) := by decide +kernel
theorem dX7_lessenRights_27 : decode cX7_lessenRights 27 = .ok (.aaload, 1) := by decide +kernel
theorem dX7_lessenRights_28 : decode cX7_lessenRights 28 = .ok (.invokevirtual 148, 3) := by decide +kernel
theorem dX7_lessenRights_31 : decode cX7_lessenRights 31 = .ok (.iinc 1 1, 3) := by decide +kernel
theorem dX7_lessenRights_34 : decode cX7_lessenRights 34 = .ok (.goto (-32), 3) := by decide +kernel
theorem dX7_lessenRights_37 : decode cX7_lessenRights 37 = .ok (.return_, 1) := by decide +kernel
