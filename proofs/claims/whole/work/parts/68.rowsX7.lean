theorem dX7_isTold_0 : decode cX7_isTold 0 = .ok (.iload_n 0, 1) := by decide +kernel
theorem dX7_isTold_1 : decode cX7_isTold 1 = .ok (.ifCond .eq 8, 3) := by decide +kernel
theorem dX7_isTold_4 : decode cX7_isTold 4 = .ok (.iload_n 0, 1) := by decide +kernel
theorem dX7_isTold_5 : decode cX7_isTold 5 = .ok (.iconst 1, 1) := by decide +kernel
theorem dX7_isTold_6 : decode cX7_isTold 6 = .ok (.if_icmp .ne 7, 3) := by decide +kernel
theorem dX7_isTold_9 : decode cX7_isTold 9 = .ok (.iconst 1, 1) := by decide +kernel
theorem dX7_isTold_10 : decode cX7_isTold 10 = .ok (.goto 4, 3) := by decide +kernel
theorem dX7_isTold_13 : decode cX7_isTold 13 = .ok (.iconst 0, 1) := by decide +kernel
theorem dX7_isTold_14 : decode cX7_isTold 14 = .ok (.ireturn, 1) := by decide +kernel
theorem dX7_told_0 : decode cX7_told 0 = .ok (.iload_n 1, 1) := by decide +kernel
theorem dX7_told_1 : decode cX7_told 1 = .ok (.ifCond .ne 10, 3) := by decide +kernel
theorem dX7_told_4 : decode cX7_told 4 = .ok (.aload_n 0, 1) := by decide +kernel
theorem dX7_told_5 : decode cX7_told 5 = .ok (.getfield 10, 3) := by decide +kernel
theorem dX7_told_8 : decode cX7_told 8 = .ok (.goto 7, 3) := by decide +kernel
theorem dX7_told_11 : decode cX7_told 11 = .ok (.aload_n 0, 1) := by decide +kernel
theorem dX7_told_12 : decode cX7_told 12 = .ok (.getfield 16, 3) := by decide +kernel
theorem dX7_told_15 : decode cX7_told 15 = .ok (.areturn, 1) := by decide +kernel
theorem dX7_isLetter_0 : decode cX7_isLetter 0 = .ok (.iload_n 1, 1) := by decide +kernel
theorem dX7_isLetter_1 : decode cX7_isLetter 1 = .ok (.ifCond .lt 15, 3) := by decide +kernel
theorem dX7_isLetter_4 : decode cX7_isLetter 4 = .ok (.iload_n 1, 1) := by decide +kernel
theorem dX7_isLetter_5 : decode cX7_isLetter 5 = .ok (.aload_n 0, 1) := by decide +kernel
theorem dX7_isLetter_6 : decode cX7_isLetter 6 = .ok (.getfield 72, 3) := by decide +kernel
theorem dX7_isLetter_9 : decode cX7_isLetter 9 = .ok (.if_icmp .ge 7, 3) := by decide +kernel
theorem dX7_isLetter_12 : decode cX7_isLetter 12 = .ok (.iconst 1, 1) := by decide +kernel
theorem dX7_isLetter_13 : decode cX7_isLetter 13 = .ok (.goto 4, 3) := by decide +kernel
theorem dX7_isLetter_16 : decode cX7_isLetter 16 = .ok (.iconst 0, 1) := by decide +kernel
theorem dX7_isLetter_17 : decode cX7_isLetter 17 = .ok (.ireturn, 1) := by decide +kernel
theorem dX7_state_0 : decode cX7_state 0 = .ok (.aload_n 0, 1) := by decide +kernel
theorem dX7_state_1 : decode cX7_state 1 = .ok (.getfield 76, 3) := by decide +kernel
theorem dX7_state_4 : decode cX7_state 4 = .ok (.ifCond .eq 8, 3) := by decide +kernel
theorem dX7_state_7 : decode cX7_state 7 = .ok (.aload_n 0, 1) := by decide +kernel
theorem dX7_state_8 : decode cX7_state 8 = .ok (.getfield 76, 3) := by decide +kernel
theorem dX7_state_11 : decode cX7_state 11 = .ok (.ireturn, 1) := by decide +kernel
theorem dX7_state_12 : decode cX7_state 12 = .ok (.aload_n 0, 1) := by decide +kernel
theorem dX7_state_13 : decode cX7_state 13 = .ok (.getfield 41, 3) := by decide +kernel
theorem dX7_state_16 : decode cX7_state 16 = .ok (.getfield 132, 3) := by decide +kernel
theorem dX7_state_19 : decode cX7_state 19 = .ok (.ifCond .le 7, 3) := by decide +kernel
theorem dX7_state_22 : decode cX7_state 22 = .ok (.iconst 0, 1) := by decide +kernel
theorem dX7_state_23 : decode cX7_state 23 = .ok (.goto 4, 3) := by decide +kernel
theorem dX7_state_26 : decode cX7_state 26 = .ok (.iconst 1, 1) := by decide +kernel
theorem dX7_state_27 : decode cX7_state 27 = .ok (.ireturn, 1) := by decide +kernel
set_option maxHeartbeats 4000000 in
set_option maxRecDepth 100000 in
theorem ggX7_addUndoing_X6_clear : GoodIn wsX7_addUndoing wsX6_clear := goodIn_r _ [8, 9, 46, 47] (by first | rfl | decide +kernel) (by decide +kernel)
set_option maxRecDepth 20000 in
theorem gX7_addUndoing_X6_clear : GoodIn wsX7_addUndoing (wsV RX7 89 RX6 yX6_clear wsX6_clear) := goodIn_app (goodIn_of _ (by decide +kernel)) ggX7_addUndoing_X6_clear
set_option maxHeartbeats 4000000 in
set_option maxRecDepth 100000 in
theorem ggX7_addUndoing_X6_push : GoodIn wsX7_addUndoing wsX6_push := goodIn_r _ [13, 9, 14, 46, 47] (by first | rfl | decide +kernel) (by decide +kernel)
set_option maxRecDepth 20000 in
theorem gX7_addUndoing_X6_push : GoodIn wsX7_addUndoing (wsV RX7 113 RX6 yX6_push wsX6_push) := goodIn_app (goodIn_of _ (by decide +kernel)) ggX7_addUndoing_X6_push
set_option maxHeartbeats 4000000 in
set_option maxRecDepth 100000 in
theorem ggX7_addUndoing_X5_add : GoodIn wsX7_addUndoing wsX5_add := goodIn_r _ [19, 20, 21, 22, 23, 24, 25, 18, 26, 27, 28, 29, 7, 30, 9, 14, 48, 49, 50, 46, 47] (by first | rfl | decide +kernel) (by decide +kernel)
set_option maxRecDepth 20000 in
theorem gX7_addUndoing_X5_add : GoodIn wsX7_addUndoing (wsV RX7 128 RX5 yX5_add wsX5_add) := goodIn_app (goodIn_of _ (by decide +kernel)) ggX7_addUndoing_X5_add
theorem dX7_addUndoing_0 : decode cX7_addUndoing 0 = .ok (.aload_n 0, 1) := by decide +kernel
theorem dX7_addUndoing_1 : decode cX7_addUndoing 1 = .ok (.getfield 25, 3) := by decide +kernel
theorem dX7_addUndoing_4 : decode cX7_addUndoing 4 = .ok (.invokevirtual 89, 3) := by decide +kernel
theorem dX7_addUndoing_7 : decode cX7_addUndoing 7 = .ok (.aload_n 0, 1) := by decide +kernel
theorem dX7_addUndoing_8 : decode cX7_addUndoing 8 = .ok (.getfield 28, 3) := by decide +kernel
theorem dX7_addUndoing_11 : decode cX7_addUndoing 11 = .ok (.invokevirtual 89, 3) := by decide +kernel
theorem dX7_addUndoing_14 : decode cX7_addUndoing 14 = .ok (.aload_n 0, 1) := by decide +kernel
theorem dX7_addUndoing_15 : decode cX7_addUndoing 15 = .ok (.getfield 25, 3) := by decide +kernel
theorem dX7_addUndoing_18 : decode cX7_addUndoing 18 = .ok (.iload_n 1, 1) := by decide +kernel
theorem dX7_addUndoing_19 : decode cX7_addUndoing 19 = .ok (.invokevirtual 113, 3) := by decide +kernel
theorem dX7_addUndoing_22 : decode cX7_addUndoing 22 = .ok (.pop, 1) := by decide +kernel
theorem dX7_addUndoing_23 : decode cX7_addUndoing 23 = .ok (.aload_n 0, 1) := by decide +kernel
theorem dX7_addUndoing_24 : decode cX7_addUndoing 24 = .ok (.getfield 25, 3) := by decide +kernel
theorem dX7_addUndoing_27 : decode cX7_addUndoing 27 = .ok (.iload_n 2, 1) := by decide +kernel
theorem dX7_addUndoing_28 : decode cX7_addUndoing 28 = .ok (.invokevirtual 113, 3) := by decide +kernel
theorem dX7_addUndoing_31 : decode cX7_addUndoing 31 = .ok (.pop, 1) := by decide +kernel
theorem dX7_addUndoing_32 : decode cX7_addUndoing 32 = .ok (.aload_n 0, 1) := by decide +kernel
theorem dX7_addUndoing_33 : decode cX7_addUndoing 33 = .ok (.getfield 41, 3) := by decide +kernel
theorem dX7_addUndoing_36 : decode cX7_addUndoing 36 = .ok (.aload_n 0, 1) := by decide +kernel
theorem dX7_addUndoing_37 : decode cX7_addUndoing 37 = .ok (.getfield 25, 3) := by decide +kernel
theorem dX7_addUndoing_40 : decode cX7_addUndoing 40 = .ok (.aload_n 0, 1) := by decide +kernel
theorem dX7_addUndoing_41 : decode cX7_addUndoing 41 = .ok (.getfield 28, 3) := by decide +kernel
theorem dX7_addUndoing_44 : decode cX7_addUndoing 44 = .ok (.invokevirtual 128, 3) := by decide +kernel
theorem dX7_addUndoing_47 : decode cX7_addUndoing 47 = .ok (.return_, 1) := by decide +kernel
set_option maxHeartbeats 4000000 in
set_option maxRecDepth 100000 in
theorem ggX7_putOutOthers_X6_holds : GoodIn wsX7_putOutOthers wsX6_holds := goodIn_r _ [12, 13, 14, 15, 16, 11, 17, 18, 64, 65] (by first | rfl | decide +kernel) (by decide +kernel)
set_option maxRecDepth 20000 in
theorem gX7_putOutOthers_X6_holds : GoodIn wsX7_putOutOthers (wsV RX7 215 RX6 yX6_holds wsX6_holds) := goodIn_app (goodIn_of _ (by decide +kernel)) ggX7_putOutOthers_X6_holds
set_option maxHeartbeats 4000000 in
set_option maxRecDepth 100000 in
theorem ggX7_putOutOthers_X5_hasRoom : GoodIn wsX7_putOutOthers wsX5_hasRoom := goodIn_r _ [23, 24, 66, 67, 68] (by first | rfl | decide +kernel) (by decide +kernel)
set_option maxRecDepth 20000 in
theorem gX7_putOutOthers_X5_hasRoom : GoodIn wsX7_putOutOthers (wsV RX7 125 RX5 yX5_hasRoom wsX5_hasRoom) := goodIn_app (goodIn_of _ (by decide +kernel)) ggX7_putOutOthers_X5_hasRoom
set_option maxHeartbeats 4000000 in
set_option maxRecDepth 100000 in
theorem ggX7_putOutOthers_X5_add : GoodIn wsX7_putOutOthers wsX5_add := goodIn_r _ [28, 29, 24, 30, 31, 20, 21, 22, 23, 32, 33, 34, 11, 35, 13, 18, 66, 67, 68, 64, 65] (by first | rfl | decide +kernel) (by decide +kernel)
set_option maxRecDepth 20000 in
theorem gX7_putOutOthers_X5_add : GoodIn wsX7_putOutOthers (wsV RX7 128 RX5 yX5_add wsX5_add) := goodIn_app (goodIn_of _ (by decide +kernel)) ggX7_putOutOthers_X5_add
set_option maxHeartbeats 4000000 in
set_option maxRecDepth 100000 in
theorem ggX7_putOutOthers_X4_remove : GoodIn wsX7_putOutOthers wsX4_remove := goodIn_r _ [40, 41, 42, 43, 44, 60, 61, 62, 63] (by first | rfl | decide +kernel) (by decide +kernel)
set_option maxRecDepth 20000 in
theorem gX7_putOutOthers_X4_remove : GoodIn wsX7_putOutOthers (wsV RX7 218 RX4 yX4_remove wsX4_remove) := goodIn_app (goodIn_of _ (by decide +kernel)) ggX7_putOutOthers_X4_remove
theorem dX7_putOutOthers_0 : decode cX7_putOutOthers 0 = .ok (.aload_n 0, 1) := by decide +kernel
theorem dX7_putOutOthers_1 : decode cX7_putOutOthers 1 = .ok (.getfield 34, 3) := by decide +kernel
theorem dX7_putOutOthers_4 : decode cX7_putOutOthers 4 = .ok (.getfield 86, 3) := by decide +kernel
theorem dX7_putOutOthers_7 : decode cX7_putOutOthers 7 = .ok (.iconst 1, 1) := by decide +kernel
theorem dX7_putOutOthers_8 : decode cX7_putOutOthers 8 = .ok (.isub, 1) := by decide +kernel
theorem dX7_putOutOthers_9 : decode cX7_putOutOthers 9 = .ok (.istore_n 1, 1) := by decide +kernel
theorem dX7_putOutOthers_10 : decode cX7_putOutOthers 10 = .ok (.aload_n 0, 1) := by decide +kernel
theorem dX7_putOutOthers_11 : decode cX7_putOutOthers 11 = .ok (.getfield 34, 3) := by decide +kernel
theorem dX7_putOutOthers_14 : decode cX7_putOutOthers 14 = .ok (.getfield 163, 3) := by decide +kernel
theorem dX7_putOutOthers_17 : decode cX7_putOutOthers 17 = .ok (.iload_n 1, 1) := by decide +kernel
theorem dX7_putOutOthers_18 : decode cX7_putOutOthers 18 = .ok (.aaload, 1) := by decide +kernel
theorem dX7_putOutOthers_19 : decode cX7_putOutOthers 19 = .ok (.astore_n 2, 1) := by decide +kernel
theorem dX7_putOutOthers_20 : decode cX7_putOutOthers 20 = .ok (.iconst 0, 1) := by decide +kernel
theorem dX7_putOutOthers_21 : decode cX7_putOutOthers 21 = .ok (.istore_n 3, 1) := by decide +kernel
theorem dX7_putOutOthers_22 : decode cX7_putOutOthers 22 = .ok (.iconst 0, 1) := by decide +kernel
theorem dX7_putOutOthers_23 : decode cX7_putOutOthers 23 = .ok (.istore 4, 2) := by decide +kernel
theorem dX7_putOutOthers_25 : decode cX7_putOutOthers 25 = .ok (.iload 4, 2) := by decide +kernel
theorem dX7_putOutOthers_27 : decode cX7_putOutOthers 27 = .ok (.iload_n 1, 1) := by decide +kernel
theorem dX7_putOutOthers_28 : decode cX7_putOutOthers 28 = .ok (.if_icmp .ge 94, 3) := by decide +kernel
theorem dX7_putOutOthers_31 : decode cX7_putOutOthers 31 = .ok (.aload_n 0, 1) := by decide +kernel
theorem dX7_putOutOthers_32 : decode cX7_putOutOthers 32 = .ok (.getfield 34, 3) := by decide +kernel
theorem dX7_putOutOthers_35 : decode cX7_putOutOthers 35 = .ok (.getfield 163, 3) := by decide +kernel
theorem dX7_putOutOthers_38 : decode cX7_putOutOthers 38 = .ok (.iload_n 3, 1) := by decide +kernel
theorem dX7_putOutOthers_39 : decode cX7_putOutOthers 39 = .ok (.aaload, 1) := by decide +kernel
theorem dX7_putOutOthers_40 : decode cX7_putOutOthers 40 = .ok (.aload_n 2, 1) := by decide +kernel
theorem dX7_putOutOthers_41 : decode cX7_putOutOthers 41 = .ok (.invokevirtual 215, 3) := by decide +kernel
theorem dX7_putOutOthers_44 : decode cX7_putOutOthers 44 = .ok (.ifCond .ne 9, 3) := by decide +kernel
theorem dX7_putOutOthers_47 : decode cX7_putOutOthers 47 = .ok (.iinc 3 1, 3) := by decide +kernel
theorem dX7_putOutOthers_50 : decode cX7_putOutOthers 50 = .ok (.goto 66, 3) := by decide +kernel
theorem dX7_putOutOthers_53 : decode cX7_putOutOthers 53 = .ok (.aload_n 0, 1) := by decide +kernel
theorem dX7_putOutOthers_54 : decode cX7_putOutOthers 54 = .ok (.getfield 41, 3) := by decide +kernel
theorem dX7_putOutOthers_57 : decode cX7_putOutOthers 57 = .ok (.iconst 1, 1) := by decide +kernel
theorem dX7_putOutOthers_58 : decode cX7_putOutOthers 58 = .ok (.invokevirtual 125, 3) := by decide +kernel
theorem dX7_putOutOthers_61 : decode cX7_putOutOthers 61 = .ok (.ifCond .eq 49, 3) := by decide +kernel
theorem dX7_putOutOthers_64 : decode cX7_putOutOthers 64 = .ok (.aload_n 0, 1) := by decide +kernel
theorem dX7_putOutOthers_65 : decode cX7_putOutOthers 65 = .ok (.getfield 41, 3) := by decide +kernel
theorem dX7_putOutOthers_68 : decode cX7_putOutOthers 68 = .ok (.aload_n 0, 1) := by decide +kernel
theorem dX7_putOutOthers_69 : decode cX7_putOutOthers 69 = .ok (.getfield 34, 3) := by decide +kernel
theorem dX7_putOutOthers_72 : decode cX7_putOutOthers 72 = .ok (.getfield 163, 3) := by decide +kernel
theorem dX7_putOutOthers_75 : decode cX7_putOutOthers 75 = .ok (.iload_n 3, 1) := by decide +kernel
theorem dX7_putOutOthers_76 : decode cX7_putOutOthers 76 = .ok (.aaload, 1) := by decide +kernel
theorem dX7_putOutOthers_77 : decode cX7_putOutOthers 77 = .ok (.aload_n 0, 1) := by decide +kernel
theorem dX7_putOutOthers_78 : decode cX7_putOutOthers 78 = .ok (.getfield 34, 3) := by decide +kernel
theorem dX7_putOutOthers_81 : decode cX7_putOutOthers 81 = .ok (.getfield 167, 3) := by decide +kernel
theorem dX7_putOutOthers_84 : decode cX7_putOutOthers 84 = .ok (.iload_n 3, 1) := by decide +kernel
theorem dX7_putOutOthers_85 : decode cX7_putOutOthers 85 = .ok (.aaload, 1) := by decide +kernel
theorem dX7_putOutOthers_86 : decode cX7_putOutOthers 86 = .ok (.invokevirtual 128, 3) := by decide +kernel
theorem dX7_putOutOthers_89 : decode cX7_putOutOthers 89 = .ok (.aload_n 0, 1) := by decide +kernel
theorem dX7_putOutOthers_90 : decode cX7_putOutOthers 90 = .ok (.getfield 34, 3) := by decide +kernel
theorem dX7_putOutOthers_93 : decode cX7_putOutOthers 93 = .ok (.iload_n 3, 1) := by decide +kernel
theorem dX7_putOutOthers_94 : decode cX7_putOutOthers 94 = .ok (.invokevirtual 218, 3) := by decide +kernel
theorem dX7_putOutOthers_97 : decode cX7_putOutOthers 97 = .ok (.aload_n 0, 1) := by decide +kernel
theorem dX7_putOutOthers_98 : decode cX7_putOutOthers 98 = .ok (.dup, 1) := by decide +kernel
theorem dX7_putOutOthers_99 : decode cX7_putOutOthers 99 = .ok (.getfield 97, 3) := by decide +kernel
theorem dX7_putOutOthers_102 : decode cX7_putOutOthers 102 = .ok (.iconst 1, 1) := by decide +kernel
theorem dX7_putOutOthers_103 : decode cX7_putOutOthers 103 = .ok (.iadd, 1) := by decide +kernel
theorem dX7_putOutOthers_104 : decode cX7_putOutOthers 104 = .ok (.putfield 97, 3) := by decide +kernel
theorem dX7_putOutOthers_107 : decode cX7_putOutOthers 107 = .ok (.goto 9, 3) := by decide +kernel
theorem dX7_putOutOthers_110 : decode cX7_putOutOthers 110 = .ok (.aload_n 0, 1) := by decide +kernel
theorem dX7_putOutOthers_111 : decode cX7_putOutOthers 111 = .ok (.iconst 4, 1) := by decide +kernel
theorem dX7_putOutOthers_112 : decode cX7_putOutOthers 112 = .ok (.putfield 76, 3) := by decide +kernel
theorem dX7_putOutOthers_115 : decode cX7_putOutOthers 115 = .ok (.return_, 1) := by decide +kernel
theorem dX7_putOutOthers_116 : decode cX7_putOutOthers 116 = .ok (.iinc 4 1, 3) := by decide +kernel
theorem dX7_putOutOthers_119 : decode cX7_putOutOthers 119 = .ok (.goto (-94), 3) := by decide +kernel
theorem dX7_putOutOthers_122 : decode cX7_putOutOthers 122 = .ok (.return_, 1) := by decide +kernel
set_option maxHeartbeats 4000000 in
set_option maxRecDepth 100000 in
theorem ggX7_meetAll_X7_meet : GoodIn wsX7_meetAll wsX7_meet := goodIn_r _ [7, 1, 8, 9, 10, 11, 12, 13, 14, 15, 16, 17, 18, 19, 20, 21, 22, 23, 24, 25, 26, 27, 28, 6, 29, 30, 31, 32, 33, 34, 35, 36, 37, 38, 39, 40, 41, 42, 43, 44, 45, 46, 47, 48, 49, 50, 51, 52, 53, 54, 55, 56, 57, 58, 59, 60, 61, 62, 63, 64, 65, 66, 67, 68, 69, 70, 71, 72, 73, 74, 75, 76, 77, 78, 79, 80, 81, 82, 83, 84, 85, 86, 87, 88, 89, 90] (by first | rfl | decide +kernel) (by decide +kernel)
set_option maxRecDepth 20000 in
theorem gX7_meetAll_X7_meet : GoodIn wsX7_meetAll (wsV RX7 222 RX7 yX7_meet wsX7_meet) := goodIn_app (goodIn_of _ (by decide +kernel)) ggX7_meetAll_X7_meet
theorem dX7_meetAll_0 : decode cX7_meetAll 0 = .ok (.aload_n 0, 1) := by decide +kernel
theorem dX7_meetAll_1 : decode cX7_meetAll 1 = .ok (.getfield 34, 3) := by decide +kernel
theorem dX7_meetAll_4 : decode cX7_meetAll 4 = .ok (.getfield 86, 3) := by decide +kernel
theorem dX7_meetAll_7 : decode cX7_meetAll 7 = .ok (.iconst 1, 1) := by decide +kernel
theorem dX7_meetAll_8 : decode cX7_meetAll 8 = .ok (.isub, 1) := by decide +kernel
theorem dX7_meetAll_9 : decode cX7_meetAll 9 = .ok (.istore_n 1, 1) := by decide +kernel
theorem dX7_meetAll_10 : decode cX7_meetAll 10 = .ok (.iconst 0, 1) := by decide +kernel
theorem dX7_meetAll_11 : decode cX7_meetAll 11 = .ok (.istore_n 2, 1) := by decide +kernel
theorem dX7_meetAll_12 : decode cX7_meetAll 12 = .ok (.iload_n 2, 1) := by decide +kernel
theorem dX7_meetAll_13 : decode cX7_meetAll 13 = .ok (.iload_n 1, 1) := by decide +kernel
theorem dX7_meetAll_14 : decode cX7_meetAll 14 = .ok (.if_icmp .gt 26, 3) := by decide +kernel
theorem dX7_meetAll_17 : decode cX7_meetAll 17 = .ok (.aload_n 0, 1) := by decide +kernel
theorem dX7_meetAll_18 : decode cX7_meetAll 18 = .ok (.iload_n 1, 1) := by decide +kernel
theorem dX7_meetAll_19 : decode cX7_meetAll 19 = .ok (.iload_n 2, 1) := by decide +kernel
theorem dX7_meetAll_20 : decode cX7_meetAll 20 = .ok (.invokevirtual 222, 3) := by decide +kernel
theorem dX7_meetAll_23 : decode cX7_meetAll 23 = .ok (.iload_n 2, 1) := by decide +kernel
theorem dX7_meetAll_24 : decode cX7_meetAll 24 = .ok (.iload_n 1, 1) := by decide +kernel
theorem dX7_meetAll_25 : decode cX7_meetAll 25 = .ok (.if_icmp .eq 9, 3) := by decide +kernel
theorem dX7_meetAll_28 : decode cX7_meetAll 28 = .ok (.aload_n 0, 1) := by decide +kernel
theorem dX7_meetAll_29 : decode cX7_meetAll 29 = .ok (.iload_n 2, 1) := by decide +kernel
theorem dX7_meetAll_30 : decode cX7_meetAll 30 = .ok (.iload_n 1, 1) := by decide +kernel
theorem dX7_meetAll_31 : decode cX7_meetAll 31 = .ok (.invokevirtual 222, 3) := by decide +kernel
theorem dX7_meetAll_34 : decode cX7_meetAll 34 = .ok (.iinc 2 1, 3) := by decide +kernel
theorem dX7_meetAll_37 : decode cX7_meetAll 37 = .ok (.goto (-25), 3) := by decide +kernel
theorem dX7_meetAll_40 : decode cX7_meetAll 40 = .ok (.return_, 1) := by decide +kernel
set_option maxHeartbeats 4000000 in
set_option maxRecDepth 100000 in
theorem ggX7_meet_X6_endsAsBegins : GoodIn wsX7_meet wsX6_endsAsBegins := goodIn_r _ [13, 14, 15, 16, 17, 12, 18, 19, 81, 82] (by first | rfl | decide +kernel) (by decide +kernel)
set_option maxRecDepth 20000 in
theorem gX7_meet_X6_endsAsBegins : GoodIn wsX7_meet (wsV RX7 231 RX6 yX6_endsAsBegins wsX6_endsAsBegins) := goodIn_app (goodIn_of _ (by decide +kernel)) ggX7_meet_X6_endsAsBegins
set_option maxHeartbeats 4000000 in
set_option maxRecDepth 100000 in
theorem ggX7_meet_X7_addMeeting : GoodIn wsX7_meet wsX7_addMeeting := goodIn_r _ [24, 1, 2, 25, 3, 8, 26, 27, 28, 29, 30, 31, 32, 33, 34, 35, 36, 37, 12, 38, 19, 14, 39, 40, 41, 42, 43, 44, 45, 46, 47, 48, 49, 50, 51, 52, 53, 54, 55, 56, 57, 58, 59, 60, 61, 62, 63, 64, 65, 66, 67, 68, 69, 70, 71, 72, 73, 74, 75, 76, 77, 78, 79, 80, 81, 82, 83, 84, 85] (by first | rfl | decide +kernel) (by decide +kernel)
set_option maxRecDepth 20000 in
theorem gX7_meet_X7_addMeeting : GoodIn wsX7_meet (wsV RX7 235 RX7 yX7_addMeeting wsX7_addMeeting) := goodIn_app (goodIn_of _ (by decide +kernel)) ggX7_meet_X7_addMeeting
theorem dX7_meet_0 : decode cX7_meet 0 = .ok (.aload_n 0, 1) := by decide +kernel
theorem dX7_meet_1 : decode cX7_meet 1 = .ok (.getfield 34, 3) := by decide +kernel
theorem dX7_meet_4 : decode cX7_meet 4 = .ok (.getfield 163, 3) := by decide +kernel
theorem dX7_meet_7 : decode cX7_meet 7 = .ok (.iload_n 1, 1) := by decide +kernel
theorem dX7_meet_8 : decode cX7_meet 8 = .ok (.aaload, 1) := by decide +kernel
theorem dX7_meet_9 : decode cX7_meet 9 = .ok (.astore_n 3, 1) := by decide +kernel
theorem dX7_meet_10 : decode cX7_meet 10 = .ok (.aload_n 0, 1) := by decide +kernel
theorem dX7_meet_11 : decode cX7_meet 11 = .ok (.getfield 34, 3) := by decide +kernel
theorem dX7_meet_14 : decode cX7_meet 14 = .ok (.getfield 163, 3) := by decide +kernel
theorem dX7_meet_17 : decode cX7_meet 17 = .ok (.iload_n 2, 1) := by decide +kernel
theorem dX7_meet_18 : decode cX7_meet 18 = .ok (.aaload, 1) := by decide +kernel
theorem dX7_meet_19 : decode cX7_meet 19 = .ok (.astore 4, 2) := by decide +kernel
theorem dX7_meet_21 : decode cX7_meet 21 = .ok (.aload_n 3, 1) := by decide +kernel
theorem dX7_meet_22 : decode cX7_meet 22 = .ok (.getfield 116, 3) := by decide +kernel
theorem dX7_meet_25 : decode cX7_meet 25 = .ok (.aload 4, 2) := by decide +kernel
theorem dX7_meet_27 : decode cX7_meet 27 = .ok (.getfield 116, 3) := by decide +kernel
theorem dX7_meet_30 : decode cX7_meet 30 = .ok (.invokestatic 225, 3) := by decide +kernel
theorem dX7_meet_33 : decode cX7_meet 33 = .ok (.istore 5, 2) := by decide +kernel
theorem dX7_meet_35 : decode cX7_meet 35 = .ok (.iconst 1, 1) := by decide +kernel
theorem dX7_meet_36 : decode cX7_meet 36 = .ok (.istore 6, 2) := by decide +kernel
theorem dX7_meet_38 : decode cX7_meet 38 = .ok (.iload 6, 2) := by decide +kernel
theorem dX7_meet_40 : decode cX7_meet 40 = .ok (.iload 5, 2) := by decide +kernel
theorem dX7_meet_42 : decode cX7_meet 42 = .ok (.if_icmp .ge 35, 3) := by decide +kernel
theorem dX7_meet_45 : decode cX7_meet 45 = .ok (.aload_n 0, 1) := by decide +kernel
theorem dX7_meet_46 : decode cX7_meet 46 = .ok (.getfield 76, 3) := by decide +kernel
theorem dX7_meet_49 : decode cX7_meet 49 = .ok (.ifCond .ne 28, 3) := by decide +kernel
theorem dX7_meet_52 : decode cX7_meet 52 = .ok (.aload_n 3, 1) := by decide +kernel
theorem dX7_meet_53 : decode cX7_meet 53 = .ok (.aload 4, 2) := by decide +kernel
theorem dX7_meet_55 : decode cX7_meet 55 = .ok (.iload 6, 2) := by decide +kernel
theorem dX7_meet_57 : decode cX7_meet 57 = .ok (.invokevirtual 231, 3) := by decide +kernel
theorem dX7_meet_60 : decode cX7_meet 60 = .ok (.ifCond .eq 11, 3) := by decide +kernel
theorem dX7_meet_63 : decode cX7_meet 63 = .ok (.aload_n 0, 1) := by decide +kernel
theorem dX7_meet_64 : decode cX7_meet 64 = .ok (.iload_n 1, 1) := by decide +kernel
theorem dX7_meet_65 : decode cX7_meet 65 = .ok (.iload_n 2, 1) := by decide +kernel
theorem dX7_meet_66 : decode cX7_meet 66 = .ok (.iload 6, 2) := by decide +kernel
theorem dX7_meet_68 : decode cX7_meet 68 = .ok (.invokevirtual 235, 3) := by decide +kernel
theorem dX7_meet_71 : decode cX7_meet 71 = .ok (.iinc 6 1, 3) := by decide +kernel
theorem dX7_meet_74 : decode cX7_meet 74 = .ok (.goto (-36), 3) := by decide +kernel
theorem dX7_meet_77 : decode cX7_meet 77 = .ok (.return_, 1) := by decide +kernel
set_option maxHeartbeats 4000000 in
set_option maxRecDepth 100000 in
theorem ggX7_addMeeting_X5_hasRoom : GoodIn wsX7_addMeeting wsX5_hasRoom := goodIn_r _ [13, 14, 66, 67, 68] (by first | rfl | decide +kernel) (by decide +kernel)
set_option maxRecDepth 20000 in
theorem gX7_addMeeting_X5_hasRoom : GoodIn wsX7_addMeeting (wsV RX7 125 RX5 yX5_hasRoom wsX5_hasRoom) := goodIn_app (goodIn_of _ (by decide +kernel)) ggX7_addMeeting_X5_hasRoom
set_option maxHeartbeats 4000000 in
set_option maxRecDepth 100000 in
theorem ggX7_addMeeting_X6_copy : GoodIn wsX7_addMeeting wsX6_copy := goodIn_r _ [19, 20, 21, 22, 23, 24, 25, 64, 65] (by first | rfl | decide +kernel) (by decide +kernel)
set_option maxRecDepth 20000 in
theorem gX7_addMeeting_X6_copy : GoodIn wsX7_addMeeting (wsV RX7 152 RX6 yX6_copy wsX6_copy) := goodIn_app (goodIn_of _ (by decide +kernel)) ggX7_addMeeting_X6_copy
set_option maxHeartbeats 4000000 in
set_option maxRecDepth 100000 in
theorem ggX7_addMeeting_X6_add : GoodIn wsX7_addMeeting wsX6_add := goodIn_r _ [29, 21, 20, 22, 23, 24, 25, 64, 65] (by first | rfl | decide +kernel) (by decide +kernel)
set_option maxRecDepth 20000 in
theorem gX7_addMeeting_X6_add : GoodIn wsX7_addMeeting (wsV RX7 193 RX6 yX6_add wsX6_add) := goodIn_app (goodIn_of _ (by decide +kernel)) ggX7_addMeeting_X6_add
set_option maxHeartbeats 4000000 in
set_option maxRecDepth 100000 in
theorem ggX7_addMeeting_X6_clear : GoodIn wsX7_addMeeting wsX6_clear := goodIn_r _ [33, 21, 64, 65] (by first | rfl | decide +kernel) (by decide +kernel)
set_option maxRecDepth 20000 in
theorem gX7_addMeeting_X6_clear : GoodIn wsX7_addMeeting (wsV RX7 89 RX6 yX6_clear wsX6_clear) := goodIn_app (goodIn_of _ (by decide +kernel)) ggX7_addMeeting_X6_clear
set_option maxHeartbeats 4000000 in
set_option maxRecDepth 100000 in
theorem ggX7_addMeeting_X5_add : GoodIn wsX7_addMeeting wsX5_add := goodIn_r _ [37, 38, 14, 39, 40, 10, 11, 12, 13, 41, 42, 43, 18, 44, 21, 20, 66, 67, 68, 64, 65] (by first | rfl | decide +kernel) (by decide +kernel)
set_option maxRecDepth 20000 in
theorem gX7_addMeeting_X5_add : GoodIn wsX7_addMeeting (wsV RX7 128 RX5 yX5_add wsX5_add) := goodIn_app (goodIn_of _ (by decide +kernel)) ggX7_addMeeting_X5_add
theorem dX7_addMeeting_0 : decode cX7_addMeeting 0 = .ok (.aload_n 0, 1) := by decide +kernel
theorem dX7_addMeeting_1 : decode cX7_addMeeting 1 = .ok (.getfield 34, 3) := by decide +kernel
theorem dX7_addMeeting_4 : decode cX7_addMeeting 4 = .ok (.getfield 163, 3) := by decide +kernel
theorem dX7_addMeeting_7 : decode cX7_addMeeting 7 = .ok (.iload_n 1, 1) := by decide +kernel
theorem dX7_addMeeting_8 : decode cX7_addMeeting 8 = .ok (.aaload, 1) := by decide +kernel
theorem dX7_addMeeting_9 : decode cX7_addMeeting 9 = .ok (.astore 4, 2) := by decide +kernel
theorem dX7_addMeeting_11 : decode cX7_addMeeting 11 = .ok (.aload_n 0, 1) := by decide +kernel
theorem dX7_addMeeting_12 : decode cX7_addMeeting 12 = .ok (.getfield 34, 3) := by decide +kernel
theorem dX7_addMeeting_15 : decode cX7_addMeeting 15 = .ok (.getfield 167, 3) := by decide +kernel
theorem dX7_addMeeting_18 : decode cX7_addMeeting 18 = .ok (.iload_n 1, 1) := by decide +kernel
theorem dX7_addMeeting_19 : decode cX7_addMeeting 19 = .ok (.aaload, 1) := by decide +kernel
theorem dX7_addMeeting_20 : decode cX7_addMeeting 20 = .ok (.astore 5, 2) := by decide +kernel
theorem dX7_addMeeting_22 : decode cX7_addMeeting 22 = .ok (.aload_n 0, 1) := by decide +kernel
theorem dX7_addMeeting_23 : decode cX7_addMeeting 23 = .ok (.getfield 34, 3) := by decide +kernel
theorem dX7_addMeeting_26 : decode cX7_addMeeting 26 = .ok (.getfield 163, 3) := by decide +kernel
theorem dX7_addMeeting_29 : decode cX7_addMeeting 29 = .ok (.iload_n 2, 1) := by decide +kernel
theorem dX7_addMeeting_30 : decode cX7_addMeeting 30 = .ok (.aaload, 1) := by decide +kernel
theorem dX7_addMeeting_31 : decode cX7_addMeeting 31 = .ok (.astore 6, 2) := by decide +kernel
theorem dX7_addMeeting_33 : decode cX7_addMeeting 33 = .ok (.aload_n 0, 1) := by decide +kernel
theorem dX7_addMeeting_34 : decode cX7_addMeeting 34 = .ok (.getfield 34, 3) := by decide +kernel
theorem dX7_addMeeting_37 : decode cX7_addMeeting 37 = .ok (.getfield 167, 3) := by decide +kernel
theorem dX7_addMeeting_40 : decode cX7_addMeeting 40 = .ok (.iload_n 2, 1) := by decide +kernel
theorem dX7_addMeeting_41 : decode cX7_addMeeting 41 = .ok (.aaload, 1) := by decide +kernel
theorem dX7_addMeeting_42 : decode cX7_addMeeting 42 = .ok (.astore 7, 2) := by decide +kernel
theorem dX7_addMeeting_44 : decode cX7_addMeeting 44 = .ok (.aload 5, 2) := by decide +kernel
theorem dX7_addMeeting_46 : decode cX7_addMeeting 46 = .ok (.getfield 116, 3) := by decide +kernel
theorem dX7_addMeeting_49 : decode cX7_addMeeting 49 = .ok (.aload 6, 2) := by decide +kernel
theorem dX7_addMeeting_51 : decode cX7_addMeeting 51 = .ok (.getfield 116, 3) := by decide +kernel
theorem dX7_addMeeting_54 : decode cX7_addMeeting 54 = .ok (.iadd, 1) := by decide +kernel
theorem dX7_addMeeting_55 : decode cX7_addMeeting 55 = .ok (.iload_n 3, 1) := by decide +kernel
theorem dX7_addMeeting_56 : decode cX7_addMeeting 56 = .ok (.isub, 1) := by decide +kernel
theorem dX7_addMeeting_57 : decode cX7_addMeeting 57 = .ok (.bipush 40, 2) := by decide +kernel
theorem dX7_addMeeting_59 : decode cX7_addMeeting 59 = .ok (.if_icmp .gt 21, 3) := by decide +kernel
theorem dX7_addMeeting_62 : decode cX7_addMeeting 62 = .ok (.aload 4, 2) := by decide +kernel
theorem dX7_addMeeting_64 : decode cX7_addMeeting 64 = .ok (.getfield 116, 3) := by decide +kernel
theorem dX7_addMeeting_67 : decode cX7_addMeeting 67 = .ok (.iload_n 3, 1) := by decide +kernel
theorem dX7_addMeeting_68 : decode cX7_addMeeting 68 = .ok (.isub, 1) := by decide +kernel
theorem dX7_addMeeting_69 : decode cX7_addMeeting 69 = .ok (.aload 7, 2) := by decide +kernel
theorem dX7_addMeeting_71 : decode cX7_addMeeting 71 = .ok (.getfield 116, 3) := by decide +kernel
theorem dX7_addMeeting_74 : decode cX7_addMeeting 74 = .ok (.iadd, 1) := by decide +kernel
theorem dX7_addMeeting_75 : decode cX7_addMeeting 75 = .ok (.bipush 40, 2) := by decide +kernel
theorem dX7_addMeeting_77 : decode cX7_addMeeting 77 = .ok (.if_icmp .le 11, 3) := by decide +kernel
theorem dX7_addMeeting_80 : decode cX7_addMeeting 80 = .ok (.aload_n 0, 1) := by decide +kernel
theorem dX7_addMeeting_81 : decode cX7_addMeeting 81 = .ok (.iconst 2, 1) := by decide +kernel
theorem dX7_addMeeting_82 : decode cX7_addMeeting 82 = .ok (.putfield 76, 3) := by decide +kernel
theorem dX7_addMeeting_85 : decode cX7_addMeeting 85 = .ok (.goto 100, 3) := by decide +kernel
theorem dX7_addMeeting_88 : decode cX7_addMeeting 88 = .ok (.aload_n 0, 1) := by decide +kernel
theorem dX7_addMeeting_89 : decode cX7_addMeeting 89 = .ok (.getfield 41, 3) := by decide +kernel
theorem dX7_addMeeting_92 : decode cX7_addMeeting 92 = .ok (.iconst 1, 1) := by decide +kernel
theorem dX7_addMeeting_93 : decode cX7_addMeeting 93 = .ok (.invokevirtual 125, 3) := by decide +kernel
theorem dX7_addMeeting_96 : decode cX7_addMeeting 96 = .ok (.ifCond .ne 11, 3) := by decide +kernel
theorem dX7_addMeeting_99 : decode cX7_addMeeting 99 = .ok (.aload_n 0, 1) := by decide +kernel
theorem dX7_addMeeting_100 : decode cX7_addMeeting 100 = .ok (.iconst 4, 1) := by decide +kernel
theorem dX7_addMeeting_101 : decode cX7_addMeeting 101 = .ok (.putfield 76, 3) := by decide +kernel
theorem dX7_addMeeting_104 : decode cX7_addMeeting 104 = .ok (.goto 81, 3) := by decide +kernel
theorem dX7_addMeeting_107 : decode cX7_addMeeting 107 = .ok (.aload_n 0, 1) := by decide +kernel
theorem dX7_addMeeting_108 : decode cX7_addMeeting 108 = .ok (.getfield 25, 3) := by decide +kernel
theorem dX7_addMeeting_111 : decode cX7_addMeeting 111 = .ok (.aload 5, 2) := by decide +kernel
theorem dX7_addMeeting_113 : decode cX7_addMeeting 113 = .ok (.invokevirtual 152, 3) := by decide +kernel
theorem dX7_addMeeting_116 : decode cX7_addMeeting 116 = .ok (.aload_n 0, 1) := by decide +kernel
theorem dX7_addMeeting_117 : decode cX7_addMeeting 117 = .ok (.getfield 25, 3) := by decide +kernel
theorem dX7_addMeeting_120 : decode cX7_addMeeting 120 = .ok (.aload 6, 2) := by decide +kernel
theorem dX7_addMeeting_122 : decode cX7_addMeeting 122 = .ok (.iload_n 3, 1) := by decide +kernel
theorem dX7_addMeeting_123 : decode cX7_addMeeting 123 = .ok (.aload 6, 2) := by decide +kernel
theorem dX7_addMeeting_125 : decode cX7_addMeeting 125 = .ok (.getfield 116, 3) := by decide +kernel
theorem dX7_addMeeting_128 : decode cX7_addMeeting 128 = .ok (.invokevirtual 193, 3) := by decide +kernel
theorem dX7_addMeeting_131 : decode cX7_addMeeting 131 = .ok (.aload_n 0, 1) := by decide +kernel
theorem dX7_addMeeting_132 : decode cX7_addMeeting 132 = .ok (.getfield 28, 3) := by decide +kernel
theorem dX7_addMeeting_135 : decode cX7_addMeeting 135 = .ok (.invokevirtual 89, 3) := by decide +kernel
theorem dX7_addMeeting_138 : decode cX7_addMeeting 138 = .ok (.aload_n 0, 1) := by decide +kernel
theorem dX7_addMeeting_139 : decode cX7_addMeeting 139 = .ok (.getfield 28, 3) := by decide +kernel
theorem dX7_addMeeting_142 : decode cX7_addMeeting 142 = .ok (.aload 4, 2) := by decide +kernel
theorem dX7_addMeeting_144 : decode cX7_addMeeting 144 = .ok (.iconst 0, 1) := by decide +kernel
theorem dX7_addMeeting_145 : decode cX7_addMeeting 145 = .ok (.aload 4, 2) := by decide +kernel
theorem dX7_addMeeting_147 : decode cX7_addMeeting 147 = .ok (.getfield 116, 3) := by decide +kernel
theorem dX7_addMeeting_150 : decode cX7_addMeeting 150 = .ok (.iload_n 3, 1) := by decide +kernel
theorem dX7_addMeeting_151 : decode cX7_addMeeting 151 = .ok (.isub, 1) := by decide +kernel
theorem dX7_addMeeting_152 : decode cX7_addMeeting 152 = .ok (.invokevirtual 193, 3) := by decide +kernel
theorem dX7_addMeeting_155 : decode cX7_addMeeting 155 = .ok (.aload_n 0, 1) := by decide +kernel
theorem dX7_addMeeting_156 : decode cX7_addMeeting 156 = .ok (.getfield 28, 3) := by decide +kernel
theorem dX7_addMeeting_159 : decode cX7_addMeeting 159 = .ok (.aload 7, 2) := by decide +kernel
theorem dX7_addMeeting_161 : decode cX7_addMeeting 161 = .ok (.iconst 0, 1) := by decide +kernel
theorem dX7_addMeeting_162 : decode cX7_addMeeting 162 = .ok (.aload 7, 2) := by decide +kernel
theorem dX7_addMeeting_164 : decode cX7_addMeeting 164 = .ok (.getfield 116, 3) := by decide +kernel
theorem dX7_addMeeting_167 : decode cX7_addMeeting 167 = .ok (.invokevirtual 193, 3) := by decide +kernel
theorem dX7_addMeeting_170 : decode cX7_addMeeting 170 = .ok (.aload_n 0, 1) := by decide +kernel
theorem dX7_addMeeting_171 : decode cX7_addMeeting 171 = .ok (.getfield 41, 3) := by decide +kernel
theorem dX7_addMeeting_174 : decode cX7_addMeeting 174 = .ok (.aload_n 0, 1) := by decide +kernel
theorem dX7_addMeeting_175 : decode cX7_addMeeting 175 = .ok (.getfield 25, 3) := by decide +kernel
theorem dX7_addMeeting_178 : decode cX7_addMeeting 178 = .ok (.aload_n 0, 1) := by decide +kernel
theorem dX7_addMeeting_179 : decode cX7_addMeeting 179 = .ok (.getfield 28, 3) := by decide +kernel
theorem dX7_addMeeting_182 : decode cX7_addMeeting 182 = .ok (.invokevirtual 128, 3) := by decide +kernel
theorem dX7_addMeeting_185 : decode cX7_addMeeting 185 = .ok (.return_, 1) := by decide +kernel

