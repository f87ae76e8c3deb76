set_option maxHeartbeats 4000000 in
set_option maxRecDepth 100000 in
theorem ggX7_begin_X6_clear : GoodIn wsX7_begin wsX6_clear := goodIn_r _ [16, 17, 51, 52] (by first | rfl | decide +kernel) (by decide +kernel)
set_option maxRecDepth 20000 in
theorem gX7_begin_X6_clear : GoodIn wsX7_begin (wsV RX7 89 RX6 yX6_clear wsX6_clear) := goodIn_app (goodIn_of _ (by decide +kernel)) ggX7_begin_X6_clear
set_option maxHeartbeats 4000000 in
set_option maxRecDepth 100000 in
theorem ggX7_begin_X4_clear : GoodIn wsX7_begin wsX4_clear := goodIn_r _ [22, 23, 24, 47, 48, 49, 50] (by first | rfl | decide +kernel) (by decide +kernel)
set_option maxRecDepth 20000 in
theorem gX7_begin_X4_clear : GoodIn wsX7_begin (wsV RX7 92 RX4 yX4_clear wsX4_clear) := goodIn_app (goodIn_of _ (by decide +kernel)) ggX7_begin_X4_clear
set_option maxHeartbeats 4000000 in
set_option maxRecDepth 100000 in
theorem ggX7_begin_X5_clear : GoodIn wsX7_begin wsX5_clear := goodIn_r _ [29, 30, 31, 53, 54, 55] (by first | rfl | decide +kernel) (by decide +kernel)
set_option maxRecDepth 20000 in
theorem gX7_begin_X5_clear : GoodIn wsX7_begin (wsV RX7 93 RX5 yX5_clear wsX5_clear) := goodIn_app (goodIn_of _ (by decide +kernel)) ggX7_begin_X5_clear
theorem dX7_begin_0 : decode cX7_begin 0 = .ok (.iload_n 1, 1) := by decide +kernel
theorem dX7_begin_1 : decode cX7_begin 1 = .ok (.iconst 1, 1) := by decide +kernel
theorem dX7_begin_2 : decode cX7_begin 2 = .ok (.if_icmp .lt 9, 3) := by decide +kernel
theorem dX7_begin_5 : decode cX7_begin 5 = .ok (.iload_n 1, 1) := by decide +kernel
theorem dX7_begin_6 : decode cX7_begin 6 = .ok (.bipush 6, 2) := by decide +kernel
theorem dX7_begin_8 : decode cX7_begin 8 = .ok (.if_icmp .le 13, 3) := by decide +kernel
theorem dX7_begin_11 : decode cX7_begin 11 = .ok (.new 79, 3) := by decide +kernel
theorem dX7_begin_14 : decode cX7_begin 14 = .ok (.dup, 1) := by decide +kernel
theorem dX7_begin_15 : decode cX7_begin 15 = .ok (.ldc 81, 2) := by decide +kernel
theorem dX7_begin_17 : decode cX7_begin 17 = .ok (.invokespecial 83, 3) := by decide +kernel
theorem dX7_begin_20 : decode cX7_begin 20 = .ok (.athrow, 1) := by decide +kernel
theorem dX7_begin_21 : decode cX7_begin 21 = .ok (.aload_n 0, 1) := by decide +kernel
theorem dX7_begin_22 : decode cX7_begin 22 = .ok (.getfield 34, 3) := by decide +kernel
theorem dX7_begin_25 : decode cX7_begin 25 = .ok (.getfield 86, 3) := by decide +kernel
theorem dX7_begin_28 : decode cX7_begin 28 = .ok (.istore_n 2, 1) := by decide +kernel
theorem dX7_begin_29 : decode cX7_begin 29 = .ok (.aload_n 0, 1) := by decide +kernel
theorem dX7_begin_30 : decode cX7_begin 30 = .ok (.iload_n 1, 1) := by decide +kernel
theorem dX7_begin_31 : decode cX7_begin 31 = .ok (.putfield 72, 3) := by decide +kernel
theorem dX7_begin_34 : decode cX7_begin 34 = .ok (.aload_n 0, 1) := by decide +kernel
theorem dX7_begin_35 : decode cX7_begin 35 = .ok (.getfield 10, 3) := by decide +kernel
theorem dX7_begin_38 : decode cX7_begin 38 = .ok (.invokevirtual 89, 3) := by decide +kernel
theorem dX7_begin_41 : decode cX7_begin 41 = .ok (.aload_n 0, 1) := by decide +kernel
theorem dX7_begin_42 : decode cX7_begin 42 = .ok (.getfield 16, 3) := by decide +kernel
theorem dX7_begin_45 : decode cX7_begin 45 = .ok (.invokevirtual 89, 3) := by decide +kernel
theorem dX7_begin_48 : decode cX7_begin 48 = .ok (.aload_n 0, 1) := by decide +kernel
theorem dX7_begin_49 : decode cX7_begin 49 = .ok (.getfield 34, 3) := by decide +kernel
theorem dX7_begin_52 : decode cX7_begin 52 = .ok (.invokevirtual 92, 3) := by decide +kernel
theorem dX7_begin_55 : decode cX7_begin 55 = .ok (.aload_n 0, 1) := by decide +kernel
theorem dX7_begin_56 : decode cX7_begin 56 = .ok (.getfield 41, 3) := by decide +kernel
theorem dX7_begin_59 : decode cX7_begin 59 = .ok (.invokevirtual 93, 3) := by decide +kernel
theorem dX7_begin_62 : decode cX7_begin 62 = .ok (.aload_n 0, 1) := by decide +kernel
theorem dX7_begin_63 : decode cX7_begin 63 = .ok (.iconst 0, 1) := by decide +kernel
theorem dX7_begin_64 : decode cX7_begin 64 = .ok (.putfield 76, 3) := by decide +kernel
theorem dX7_begin_67 : decode cX7_begin 67 = .ok (.aload_n 0, 1) := by decide +kernel
theorem dX7_begin_68 : decode cX7_begin 68 = .ok (.iconst 0, 1) := by decide +kernel
theorem dX7_begin_69 : decode cX7_begin 69 = .ok (.putfield 94, 3) := by decide +kernel
theorem dX7_begin_72 : decode cX7_begin 72 = .ok (.aload_n 0, 1) := by decide +kernel
theorem dX7_begin_73 : decode cX7_begin 73 = .ok (.iconst 0, 1) := by decide +kernel
theorem dX7_begin_74 : decode cX7_begin 74 = .ok (.putfield 97, 3) := by decide +kernel
theorem dX7_begin_77 : decode cX7_begin 77 = .ok (.iload_n 2, 1) := by decide +kernel
theorem dX7_begin_78 : decode cX7_begin 78 = .ok (.ireturn, 1) := by decide +kernel
set_option maxHeartbeats 4000000 in
set_option maxRecDepth 100000 in
theorem ggX7_letter_X7_isTold : GoodIn wsX7_letter wsX7_isTold := goodIn_r _ [7] (by first | rfl | decide +kernel) (by decide +kernel)
set_option maxRecDepth 20000 in
theorem gX7_letter_X7_isTold : GoodIn wsX7_letter (va_wsS RX7 100 yX7_isTold wsX7_isTold) := goodIn_app (goodIn_of _ (by decide +kernel)) ggX7_letter_X7_isTold
set_option maxHeartbeats 4000000 in
set_option maxRecDepth 100000 in
theorem ggX7_letter_X7_isLetter : GoodIn wsX7_letter wsX7_isLetter := goodIn_r _ [11, 12, 28, 29, 30, 31, 32, 33, 34, 35, 36, 37, 38, 39, 40, 41, 42] (by first | rfl | decide +kernel) (by decide +kernel)
set_option maxRecDepth 20000 in
theorem gX7_letter_X7_isLetter : GoodIn wsX7_letter (wsV RX7 104 RX7 yX7_isLetter wsX7_isLetter) := goodIn_app (goodIn_of _ (by decide +kernel)) ggX7_letter_X7_isLetter
set_option maxHeartbeats 4000000 in
set_option maxRecDepth 100000 in
theorem ggX7_letter_X7_told : GoodIn wsX7_letter wsX7_told := goodIn_r _ [16, 17, 18, 28, 29, 30, 31, 32, 33, 34, 35, 36, 37, 38, 39, 40, 41, 42] (by first | rfl | decide +kernel) (by decide +kernel)
set_option maxRecDepth 20000 in
theorem gX7_letter_X7_told : GoodIn wsX7_letter (wsV RX7 109 RX7 yX7_told wsX7_told) := goodIn_app (goodIn_of _ (by decide +kernel)) ggX7_letter_X7_told
set_option maxHeartbeats 4000000 in
set_option maxRecDepth 100000 in
theorem ggX7_letter_X6_push : GoodIn wsX7_letter wsX6_push := goodIn_r _ [23, 24, 25, 26, 27] (by first | rfl | decide +kernel) (by decide +kernel)
set_option maxRecDepth 20000 in
theorem gX7_letter_X6_push : GoodIn wsX7_letter (wsV RX7 113 RX6 yX6_push wsX6_push) := goodIn_app (goodIn_of _ (by decide +kernel)) ggX7_letter_X6_push
theorem dX7_letter_0 : decode cX7_letter 0 = .ok (.iload_n 1, 1) := by decide +kernel
theorem dX7_letter_1 : decode cX7_letter 1 = .ok (.invokestatic 100, 3) := by decide +kernel
theorem dX7_letter_4 : decode cX7_letter 4 = .ok (.ifCond .eq 11, 3) := by decide +kernel
theorem dX7_letter_7 : decode cX7_letter 7 = .ok (.aload_n 0, 1) := by decide +kernel
theorem dX7_letter_8 : decode cX7_letter 8 = .ok (.iload_n 2, 1) := by decide +kernel
theorem dX7_letter_9 : decode cX7_letter 9 = .ok (.invokevirtual 104, 3) := by decide +kernel
theorem dX7_letter_12 : decode cX7_letter 12 = .ok (.ifCond .ne 13, 3) := by decide +kernel
theorem dX7_letter_15 : decode cX7_letter 15 = .ok (.new 79, 3) := by decide +kernel
theorem dX7_letter_18 : decode cX7_letter 18 = .ok (.dup, 1) := by decide +kernel
theorem dX7_letter_19 : decode cX7_letter 19 = .ok (.ldc 107, 2) := by decide +kernel
theorem dX7_letter_21 : decode cX7_letter 21 = .ok (.invokespecial 83, 3) := by decide +kernel
theorem dX7_letter_24 : decode cX7_letter 24 = .ok (.athrow, 1) := by decide +kernel
theorem dX7_letter_25 : decode cX7_letter 25 = .ok (.aload_n 0, 1) := by decide +kernel
theorem dX7_letter_26 : decode cX7_letter 26 = .ok (.iload_n 1, 1) := by decide +kernel
theorem dX7_letter_27 : decode cX7_letter 27 = .ok (.invokevirtual 109, 3) := by decide +kernel
theorem dX7_letter_30 : decode cX7_letter 30 = .ok (.astore_n 3, 1) := by decide +kernel
theorem dX7_letter_31 : decode cX7_letter 31 = .ok (.aload_n 3, 1) := by decide +kernel
theorem dX7_letter_32 : decode cX7_letter 32 = .ok (.iload_n 2, 1) := by decide +kernel
theorem dX7_letter_33 : decode cX7_letter 33 = .ok (.invokevirtual 113, 3) := by decide +kernel
theorem dX7_letter_36 : decode cX7_letter 36 = .ok (.ifCond .eq 10, 3) := by decide +kernel
theorem dX7_letter_39 : decode cX7_letter 39 = .ok (.aload_n 3, 1) := by decide +kernel
theorem dX7_letter_40 : decode cX7_letter 40 = .ok (.getfield 116, 3) := by decide +kernel
theorem dX7_letter_43 : decode cX7_letter 43 = .ok (.goto 4, 3) := by decide +kernel
theorem dX7_letter_46 : decode cX7_letter 46 = .ok (.iconst (-1), 1) := by decide +kernel
theorem dX7_letter_47 : decode cX7_letter 47 = .ok (.ireturn, 1) := by decide +kernel
set_option maxHeartbeats 4000000 in
set_option maxRecDepth 100000 in
theorem ggX7_erase_X7_isTold : GoodIn wsX7_erase wsX7_isTold := goodIn_r _ [7] (by first | rfl | decide +kernel) (by decide +kernel)
set_option maxRecDepth 20000 in
theorem gX7_erase_X7_isTold : GoodIn wsX7_erase (va_wsS RX7 100 yX7_isTold wsX7_isTold) := goodIn_app (goodIn_of _ (by decide +kernel)) ggX7_erase_X7_isTold
set_option maxHeartbeats 4000000 in
set_option maxRecDepth 100000 in
theorem ggX7_erase_X7_told : GoodIn wsX7_erase wsX7_told := goodIn_r _ [11, 12, 13, 22, 23, 24, 25, 26, 27, 28, 29, 30, 31, 32, 33, 34, 35, 36] (by first | rfl | decide +kernel) (by decide +kernel)
set_option maxRecDepth 20000 in
theorem gX7_erase_X7_told : GoodIn wsX7_erase (wsV RX7 109 RX7 yX7_told wsX7_told) := goodIn_app (goodIn_of _ (by decide +kernel)) ggX7_erase_X7_told
set_option maxHeartbeats 4000000 in
set_option maxRecDepth 100000 in
theorem ggX7_erase_X6_clear : GoodIn wsX7_erase wsX6_clear := goodIn_r _ [18, 19, 20, 21] (by first | rfl | decide +kernel) (by decide +kernel)
set_option maxRecDepth 20000 in
theorem gX7_erase_X6_clear : GoodIn wsX7_erase (wsV RX7 89 RX6 yX6_clear wsX6_clear) := goodIn_app (goodIn_of _ (by decide +kernel)) ggX7_erase_X6_clear
theorem dX7_erase_0 : decode cX7_erase 0 = .ok (.iload_n 1, 1) := by decide +kernel
theorem dX7_erase_1 : decode cX7_erase 1 = .ok (.invokestatic 100, 3) := by decide +kernel
theorem dX7_erase_4 : decode cX7_erase 4 = .ok (.ifCond .ne 13, 3) := by decide +kernel
theorem dX7_erase_7 : decode cX7_erase 7 = .ok (.new 79, 3) := by decide +kernel
theorem dX7_erase_10 : decode cX7_erase 10 = .ok (.dup, 1) := by decide +kernel
theorem dX7_erase_11 : decode cX7_erase 11 = .ok (.ldc 119, 2) := by decide +kernel
theorem dX7_erase_13 : decode cX7_erase 13 = .ok (.invokespecial 83, 3) := by decide +kernel
theorem dX7_erase_16 : decode cX7_erase 16 = .ok (.athrow, 1) := by decide +kernel
theorem dX7_erase_17 : decode cX7_erase 17 = .ok (.aload_n 0, 1) := by decide +kernel
theorem dX7_erase_18 : decode cX7_erase 18 = .ok (.iload_n 1, 1) := by decide +kernel
theorem dX7_erase_19 : decode cX7_erase 19 = .ok (.invokevirtual 109, 3) := by decide +kernel
theorem dX7_erase_22 : decode cX7_erase 22 = .ok (.astore_n 2, 1) := by decide +kernel
theorem dX7_erase_23 : decode cX7_erase 23 = .ok (.aload_n 2, 1) := by decide +kernel
theorem dX7_erase_24 : decode cX7_erase 24 = .ok (.getfield 116, 3) := by decide +kernel
theorem dX7_erase_27 : decode cX7_erase 27 = .ok (.istore_n 3, 1) := by decide +kernel
theorem dX7_erase_28 : decode cX7_erase 28 = .ok (.aload_n 2, 1) := by decide +kernel
theorem dX7_erase_29 : decode cX7_erase 29 = .ok (.invokevirtual 89, 3) := by decide +kernel
theorem dX7_erase_32 : decode cX7_erase 32 = .ok (.iload_n 3, 1) := by decide +kernel
theorem dX7_erase_33 : decode cX7_erase 33 = .ok (.ireturn, 1) := by decide +kernel
set_option maxHeartbeats 4000000 in
set_option maxRecDepth 100000 in
theorem ggX7_equation_X5_hasRoom : GoodIn wsX7_equation wsX5_hasRoom := goodIn_r _ [12, 13, 47, 48, 49] (by first | rfl | decide +kernel) (by decide +kernel)
set_option maxRecDepth 20000 in
theorem gX7_equation_X5_hasRoom : GoodIn wsX7_equation (wsV RX7 125 RX5 yX5_hasRoom wsX5_hasRoom) := goodIn_app (goodIn_of _ (by decide +kernel)) ggX7_equation_X5_hasRoom
set_option maxHeartbeats 4000000 in
set_option maxRecDepth 100000 in
theorem ggX7_equation_X5_add : GoodIn wsX7_equation wsX5_add := goodIn_r _ [17, 18, 13, 19, 20, 9, 10, 11, 12, 21, 22, 23, 24, 25, 26, 27, 47, 48, 49, 50, 51] (by first | rfl | decide +kernel) (by decide +kernel)
set_option maxRecDepth 20000 in
theorem gX7_equation_X5_add : GoodIn wsX7_equation (wsV RX7 128 RX5 yX5_add wsX5_add) := goodIn_app (goodIn_of _ (by decide +kernel)) ggX7_equation_X5_add
set_option maxHeartbeats 4000000 in
set_option maxRecDepth 100000 in
theorem ggX7_equation_X6_clear : GoodIn wsX7_equation wsX6_clear := goodIn_r _ [31, 26, 50, 51] (by first | rfl | decide +kernel) (by decide +kernel)
set_option maxRecDepth 20000 in
theorem gX7_equation_X6_clear : GoodIn wsX7_equation (wsV RX7 89 RX6 yX6_clear wsX6_clear) := goodIn_app (goodIn_of _ (by decide +kernel)) ggX7_equation_X6_clear
theorem dX7_equation_0 : decode cX7_equation 0 = .ok (.aload_n 0, 1) := by decide +kernel
theorem dX7_equation_1 : decode cX7_equation 1 = .ok (.getfield 76, 3) := by decide +kernel
theorem dX7_equation_4 : decode cX7_equation 4 = .ok (.ifCond .eq 13, 3) := by decide +kernel
theorem dX7_equation_7 : decode cX7_equation 7 = .ok (.new 121, 3) := by decide +kernel
theorem dX7_equation_10 : decode cX7_equation 10 = .ok (.dup, 1) := by decide +kernel
theorem dX7_equation_11 : decode cX7_equation 11 = .ok (.ldc 123, 2) := by decide +kernel
theorem dX7_equation_13 : decode cX7_equation 13 = .ok (.invokespecial 124, 3) := by decide +kernel
theorem dX7_equation_16 : decode cX7_equation 16 = .ok (.athrow, 1) := by decide +kernel
theorem dX7_equation_17 : decode cX7_equation 17 = .ok (.aload_n 0, 1) := by decide +kernel
theorem dX7_equation_18 : decode cX7_equation 18 = .ok (.getfield 41, 3) := by decide +kernel
theorem dX7_equation_21 : decode cX7_equation 21 = .ok (.iconst 1, 1) := by decide +kernel
theorem dX7_equation_22 : decode cX7_equation 22 = .ok (.invokevirtual 125, 3) := by decide +kernel
theorem dX7_equation_25 : decode cX7_equation 25 = .ok (.ifCond .ne 5, 3) := by decide +kernel
theorem dX7_equation_28 : decode cX7_equation 28 = .ok (.iconst (-1), 1) := by decide +kernel
theorem dX7_equation_29 : decode cX7_equation 29 = .ok (.ireturn, 1) := by decide +kernel
theorem dX7_equation_30 : decode cX7_equation 30 = .ok (.aload_n 0, 1) := by decide +kernel
theorem dX7_equation_31 : decode cX7_equation 31 = .ok (.getfield 41, 3) := by decide +kernel
theorem dX7_equation_34 : decode cX7_equation 34 = .ok (.aload_n 0, 1) := by decide +kernel
theorem dX7_equation_35 : decode cX7_equation 35 = .ok (.getfield 10, 3) := by decide +kernel
theorem dX7_equation_38 : decode cX7_equation 38 = .ok (.aload_n 0, 1) := by decide +kernel
theorem dX7_equation_39 : decode cX7_equation 39 = .ok (.getfield 16, 3) := by decide +kernel
theorem dX7_equation_42 : decode cX7_equation 42 = .ok (.invokevirtual 128, 3) := by decide +kernel
theorem dX7_equation_45 : decode cX7_equation 45 = .ok (.aload_n 0, 1) := by decide +kernel
theorem dX7_equation_46 : decode cX7_equation 46 = .ok (.getfield 10, 3) := by decide +kernel
theorem dX7_equation_49 : decode cX7_equation 49 = .ok (.invokevirtual 89, 3) := by decide +kernel
theorem dX7_equation_52 : decode cX7_equation 52 = .ok (.aload_n 0, 1) := by decide +kernel
theorem dX7_equation_53 : decode cX7_equation 53 = .ok (.getfield 16, 3) := by decide +kernel
theorem dX7_equation_56 : decode cX7_equation 56 = .ok (.invokevirtual 89, 3) := by decide +kernel
theorem dX7_equation_59 : decode cX7_equation 59 = .ok (.aload_n 0, 1) := by decide +kernel
theorem dX7_equation_60 : decode cX7_equation 60 = .ok (.getfield 41, 3) := by decide +kernel
theorem dX7_equation_63 : decode cX7_equation 63 = .ok (.getfield 132, 3) := by decide +kernel
theorem dX7_equation_66 : decode cX7_equation 66 = .ok (.ireturn, 1) := by decide +kernel
set_option maxHeartbeats 4000000 in
set_option maxRecDepth 100000 in
theorem ggX7_inverse_X7_isLetter : GoodIn wsX7_inverse wsX7_isLetter := goodIn_r _ [12, 13, 48, 49, 50, 51, 52, 53, 54, 55, 56, 57, 58, 59, 60, 61, 62] (by first | rfl | decide +kernel) (by decide +kernel)
set_option maxRecDepth 20000 in
theorem gX7_inverse_X7_isLetter : GoodIn wsX7_inverse (wsV RX7 104 RX7 yX7_isLetter wsX7_isLetter) := goodIn_app (goodIn_of _ (by decide +kernel)) ggX7_inverse_X7_isLetter
set_option maxHeartbeats 4000000 in
set_option maxRecDepth 100000 in
theorem ggX7_inverse_X5_hasRoom : GoodIn wsX7_inverse wsX5_hasRoom := goodIn_r _ [18, 19, 63, 64, 65] (by first | rfl | decide +kernel) (by decide +kernel)
set_option maxRecDepth 20000 in
theorem gX7_inverse_X5_hasRoom : GoodIn wsX7_inverse (wsV RX7 125 RX5 yX5_hasRoom wsX5_hasRoom) := goodIn_app (goodIn_of _ (by decide +kernel)) ggX7_inverse_X5_hasRoom
set_option maxHeartbeats 4000000 in
set_option maxRecDepth 100000 in
theorem ggX7_inverse_X7_addUndoing : GoodIn wsX7_inverse wsX7_addUndoing := goodIn_r _ [23, 24, 25, 6, 26, 27, 28, 29, 30, 31, 32, 33, 34, 35, 36, 37, 38, 39, 17, 40, 41, 19, 42, 43, 15, 16, 18, 44, 45, 46, 47, 48, 49, 50, 51, 52, 53, 54, 55, 56, 57, 58, 59, 60, 61, 62, 66, 67, 63, 64, 65] (by first | rfl | decide +kernel) (by decide +kernel)
set_option maxRecDepth 20000 in
theorem gX7_inverse_X7_addUndoing : GoodIn wsX7_inverse (wsV RX7 135 RX7 yX7_addUndoing wsX7_addUndoing) := goodIn_app (goodIn_of _ (by decide +kernel)) ggX7_inverse_X7_addUndoing
theorem dX7_inverse_0 : decode cX7_inverse 0 = .ok (.aload_n 0, 1) := by decide +kernel
theorem dX7_inverse_1 : decode cX7_inverse 1 = .ok (.getfield 76, 3) := by decide +kernel
theorem dX7_inverse_4 : decode cX7_inverse 4 = .ok (.ifCond .eq 13, 3) := by decide +kernel
theorem dX7_inverse_7 : decode cX7_inverse 7 = .ok (.new 121, 3) := by decide +kernel
theorem dX7_inverse_10 : decode cX7_inverse 10 = .ok (.dup, 1) := by decide +kernel
theorem dX7_inverse_11 : decode cX7_inverse 11 = .ok (.ldc 123, 2) := by decide +kernel
theorem dX7_inverse_13 : decode cX7_inverse 13 = .ok (.invokespecial 124, 3) := by decide +kernel
theorem dX7_inverse_16 : decode cX7_inverse 16 = .ok (.athrow, 1) := by decide +kernel
theorem dX7_inverse_17 : decode cX7_inverse 17 = .ok (.aload_n 0, 1) := by decide +kernel
theorem dX7_inverse_18 : decode cX7_inverse 18 = .ok (.iload_n 1, 1) := by decide +kernel
theorem dX7_inverse_19 : decode cX7_inverse 19 = .ok (.invokevirtual 104, 3) := by decide +kernel
theorem dX7_inverse_22 : decode cX7_inverse 22 = .ok (.ifCond .eq 11, 3) := by decide +kernel
theorem dX7_inverse_25 : decode cX7_inverse 25 = .ok (.aload_n 0, 1) := by decide +kernel
theorem dX7_inverse_26 : decode cX7_inverse 26 = .ok (.iload_n 2, 1) := by decide +kernel
theorem dX7_inverse_27 : decode cX7_inverse 27 = .ok (.invokevirtual 104, 3) := by decide +kernel
theorem dX7_inverse_30 : decode cX7_inverse 30 = .ok (.ifCond .ne 13, 3) := by decide +kernel
theorem dX7_inverse_33 : decode cX7_inverse 33 = .ok (.new 79, 3) := by decide +kernel
theorem dX7_inverse_36 : decode cX7_inverse 36 = .ok (.dup, 1) := by decide +kernel
theorem dX7_inverse_37 : decode cX7_inverse 37 = .ok (.ldc 133, 2) := by decide +kernel
theorem dX7_inverse_39 : decode cX7_inverse 39 = .ok (.invokespecial 83, 3) := by decide +kernel
theorem dX7_inverse_42 : decode cX7_inverse 42 = .ok (.athrow, 1) := by decide +kernel
theorem dX7_inverse_43 : decode cX7_inverse 43 = .ok (.aload_n 0, 1) := by decide +kernel
theorem dX7_inverse_44 : decode cX7_inverse 44 = .ok (.getfield 41, 3) := by decide +kernel
theorem dX7_inverse_47 : decode cX7_inverse 47 = .ok (.iconst 2, 1) := by decide +kernel
theorem dX7_inverse_48 : decode cX7_inverse 48 = .ok (.invokevirtual 125, 3) := by decide +kernel
theorem dX7_inverse_51 : decode cX7_inverse 51 = .ok (.ifCond .ne 5, 3) := by decide +kernel
theorem dX7_inverse_54 : decode cX7_inverse 54 = .ok (.iconst (-1), 1) := by decide +kernel
theorem dX7_inverse_55 : decode cX7_inverse 55 = .ok (.ireturn, 1) := by decide +kernel
theorem dX7_inverse_56 : decode cX7_inverse 56 = .ok (.aload_n 0, 1) := by decide +kernel
theorem dX7_inverse_57 : decode cX7_inverse 57 = .ok (.iload_n 1, 1) := by decide +kernel
theorem dX7_inverse_58 : decode cX7_inverse 58 = .ok (.iload_n 2, 1) := by decide +kernel
theorem dX7_inverse_59 : decode cX7_inverse 59 = .ok (.invokevirtual 135, 3) := by decide +kernel
theorem dX7_inverse_62 : decode cX7_inverse 62 = .ok (.aload_n 0, 1) := by decide +kernel
theorem dX7_inverse_63 : decode cX7_inverse 63 = .ok (.iload_n 2, 1) := by decide +kernel
theorem dX7_inverse_64 : decode cX7_inverse 64 = .ok (.iload_n 1, 1) := by decide +kernel
theorem dX7_inverse_65 : decode cX7_inverse 65 = .ok (.invokevirtual 135, 3) := by decide +kernel
theorem dX7_inverse_68 : decode cX7_inverse 68 = .ok (.aload_n 0, 1) := by decide +kernel
theorem dX7_inverse_69 : decode cX7_inverse 69 = .ok (.getfield 41, 3) := by decide +kernel
theorem dX7_inverse_72 : decode cX7_inverse 72 = .ok (.getfield 132, 3) := by decide +kernel
theorem dX7_inverse_75 : decode cX7_inverse 75 = .ok (.ireturn, 1) := by decide +kernel
set_option maxHeartbeats 4000000 in
set_option maxRecDepth 100000 in
theorem ggX7_run_X7_state : GoodIn wsX7_run wsX7_state := goodIn_r _ [7, 8, 9, 10, 271, 272, 273, 274, 275, 276, 277, 278, 279, 280, 281, 282, 283, 284, 285, 286, 287, 288] (by first | rfl | decide +kernel) (by decide +kernel)
set_option maxRecDepth 20000 in
theorem gX7_run_X7_state : GoodIn wsX7_run (wsV RX7 141 RX7 yX7_state wsX7_state) := goodIn_app (goodIn_of _ (by decide +kernel)) ggX7_run_X7_state
set_option maxHeartbeats 4000000 in
set_option maxRecDepth 100000 in
theorem ggX7_run_X7_step : GoodIn wsX7_run wsX7_step := goodIn_r _ [14, 15, 9, 16, 17, 18, 19, 20, 8, 21, 22, 23, 24, 25, 26, 27, 28, 29, 30, 31, 32, 33, 34, 35, 36, 37, 38, 39, 40, 41, 42, 43, 44, 45, 46, 47, 48, 49, 50, 51, 52, 53, 54, 55, 56, 57, 58, 59, 60, 61, 62, 63, 64, 65, 66, 67, 68, 69, 70, 71, 72, 73, 74, 75, 76, 77, 78, 79, 80, 81, 82, 83, 84, 85, 86, 87, 88, 89, 90, 91, 92, 93, 94, 95, 96, 97, 98, 99, 100, 101, 102, 103, 104, 105, 106, 107, 108, 109, 110, 111, 112, 113, 114, 115, 116, 117, 118, 119, 120, 121, 122, 123, 124, 125, 126, 127, 128, 129, 130, 131, 132, 133, 134, 135, 136, 137, 138, 139, 140, 141, 142, 143, 144, 145, 146, 147, 148, 149, 150, 151, 152, 153, 154, 155, 156, 157, 158, 159, 160, 161, 162, 163, 164, 165, 166, 167, 168, 169, 170, 171, 172, 173, 174, 175, 176, 177, 178, 179, 180, 181, 182, 183, 184, 185, 186, 187, 188, 189, 190, 191, 192, 193, 194, 195, 196, 197, 198, 199, 200, 201, 202, 203, 204, 205, 206, 207, 208, 209, 210, 211, 6, 212, 213, 214, 215, 216, 217, 218, 219, 220, 221, 222, 223, 224, 225, 226, 227, 228, 229, 230, 231, 232, 233, 234, 235, 236, 237, 238, 239, 240, 241, 242, 243, 244, 245, 246, 247, 248, 249, 250, 251, 252, 253, 254, 255, 256, 257, 258, 259, 260, 261, 262, 263, 264, 265, 266, 267, 268, 269, 270, 271, 272, 273, 274, 275, 276, 277, 278, 279, 280, 281, 282, 283, 284, 285, 289, 290, 291, 292, 286, 287, 288, 293, 294, 295, 296, 297, 298, 299, 300, 301, 302, 303, 304, 305, 306, 307, 308, 309, 310, 311, 312, 313, 314, 315, 316, 317, 318, 319, 320, 321, 322] (by first | rfl | decide +kernel) (by decide +kernel)
set_option maxRecDepth 20000 in
theorem gX7_run_X7_step : GoodIn wsX7_run (wsV RX7 145 RX7 yX7_step wsX7_step) := goodIn_app (goodIn_of _ (by decide +kernel)) ggX7_run_X7_step
theorem dX7_run_0 : decode cX7_run 0 = .ok (.iload_n 1, 1) := by decide +kernel
theorem dX7_run_1 : decode cX7_run 1 = .ok (.ifCond .lt 10, 3) := by decide +kernel
theorem dX7_run_4 : decode cX7_run 4 = .ok (.iload_n 1, 1) := by decide +kernel
theorem dX7_run_5 : decode cX7_run 5 = .ok (.sipush 500, 3) := by decide +kernel
theorem dX7_run_8 : decode cX7_run 8 = .ok (.if_icmp .le 13, 3) := by decide +kernel
theorem dX7_run_11 : decode cX7_run 11 = .ok (.new 79, 3) := by decide +kernel
theorem dX7_run_14 : decode cX7_run 14 = .ok (.dup, 1) := by decide +kernel
theorem dX7_run_15 : decode cX7_run 15 = .ok (.ldc 139, 2) := by decide +kernel
theorem dX7_run_17 : decode cX7_run 17 = .ok (.invokespecial 83, 3) := by decide +kernel
theorem dX7_run_20 : decode cX7_run 20 = .ok (.athrow, 1) := by decide +kernel
theorem dX7_run_21 : decode cX7_run 21 = .ok (.iconst 0, 1) := by decide +kernel
theorem dX7_run_22 : decode cX7_run 22 = .ok (.istore_n 2, 1) := by decide +kernel
theorem dX7_run_23 : decode cX7_run 23 = .ok (.iload_n 2, 1) := by decide +kernel
theorem dX7_run_24 : decode cX7_run 24 = .ok (.iload_n 1, 1) := by decide +kernel
theorem dX7_run_25 : decode cX7_run 25 = .ok (.if_icmp .ge 20, 3) := by decide +kernel
theorem dX7_run_28 : decode cX7_run 28 = .ok (.aload_n 0, 1) := by decide +kernel
theorem dX7_run_29 : decode cX7_run 29 = .ok (.invokevirtual 141, 3) := by decide +kernel
theorem dX7_run_32 : decode cX7_run 32 = .ok (.ifCond .ne 13, 3) := by decide +kernel
theorem dX7_run_35 : decode cX7_run 35 = .ok (.aload_n 0, 1) := by decide +kernel
theorem dX7_run_36 : decode cX7_run 36 = .ok (.invokevirtual 145, 3) := by decide +kernel
theorem dX7_run_39 : decode cX7_run 39 = .ok (.iinc 2 1, 3) := by decide +kernel
theorem dX7_run_42 : decode cX7_run 42 = .ok (.goto (-19), 3) := by decide +kernel
theorem dX7_run_45 : decode cX7_run 45 = .ok (.aload_n 0, 1) := by decide +kernel
theorem dX7_run_46 : decode cX7_run 46 = .ok (.invokevirtual 141, 3) := by decide +kernel
theorem dX7_run_49 : decode cX7_run 49 = .ok (.ireturn, 1) := by decide +kernel
set_option maxHeartbeats 4000000 in
set_option maxRecDepth 100000 in
theorem ggX7_reduce_X7_isTold : GoodIn wsX7_reduce wsX7_isTold := goodIn_r _ [8] (by first | rfl | decide +kernel) (by decide +kernel)
set_option maxRecDepth 20000 in
theorem gX7_reduce_X7_isTold : GoodIn wsX7_reduce (va_wsS RX7 100 yX7_isTold wsX7_isTold) := goodIn_app (goodIn_of _ (by decide +kernel)) ggX7_reduce_X7_isTold
set_option maxHeartbeats 4000000 in
set_option maxRecDepth 100000 in
theorem ggX7_reduce_X7_told : GoodIn wsX7_reduce wsX7_told := goodIn_r _ [12, 13, 14, 162, 163, 164, 165, 166, 167, 168, 169, 170, 171, 172, 173, 174, 175, 176] (by first | rfl | decide +kernel) (by decide +kernel)
set_option maxRecDepth 20000 in
theorem gX7_reduce_X7_told : GoodIn wsX7_reduce (wsV RX7 109 RX7 yX7_told wsX7_told) := goodIn_app (goodIn_of _ (by decide +kernel)) ggX7_reduce_X7_told
set_option maxHeartbeats 4000000 in
set_option maxRecDepth 100000 in
theorem ggX7_reduce_X3_lessen : GoodIn wsX7_reduce wsX3_lessen := goodIn_r _ [19, 20, 21, 22, 23, 24, 25, 26, 27, 28, 29, 30, 31, 32, 33, 34, 35, 36, 37, 38, 39, 40, 41, 42, 43, 44, 45, 46, 47, 48, 49, 50, 51, 52, 53, 54, 55, 56, 57, 58, 59, 60, 61, 62, 63, 64, 65, 66, 67, 68, 69, 70, 71, 72, 73, 74, 75, 76, 77, 78, 79, 80, 81, 82, 83, 84, 85, 86, 87, 88, 89, 90, 91, 92, 93, 94, 18, 95, 96, 97, 98, 99, 100, 101, 102, 103, 104, 105, 106, 107, 108, 109, 110, 111, 112, 113, 114, 115, 116, 117, 118, 119, 120, 121, 122, 123, 124, 125, 126, 127, 128, 129, 130, 131, 132, 133, 134, 135, 136, 137, 138, 139, 140, 141, 142, 143, 144, 145, 146, 147, 148, 149, 150, 151, 152, 153, 154, 155, 156, 157, 158, 159, 160, 161, 179, 180, 181, 182, 183, 184, 185, 186, 187, 188, 189, 190, 191, 192, 193, 194, 195, 196, 197, 177, 178, 198, 199, 200, 201, 202, 203, 204, 205, 206, 207, 208, 209, 210] (by first | rfl | decide +kernel) (by decide +kernel)
set_option maxRecDepth 20000 in
theorem gX7_reduce_X3_lessen : GoodIn wsX7_reduce (wsV RX7 148 RX3 yX3_lessen wsX3_lessen) := goodIn_app (goodIn_of _ (by decide +kernel)) ggX7_reduce_X3_lessen
theorem dX7_reduce_0 : decode cX7_reduce 0 = .ok (.iload_n 1, 1) := by decide +kernel
theorem dX7_reduce_1 : decode cX7_reduce 1 = .ok (.invokestatic 100, 3) := by decide +kernel
theorem dX7_reduce_4 : decode cX7_reduce 4 = .ok (.ifCond .ne 13, 3) := by decide +kernel
theorem dX7_reduce_7 : decode cX7_reduce 7 = .ok (.new 79, 3) := by decide +kernel
theorem dX7_reduce_10 : decode cX7_reduce 10 = .ok (.dup, 1) := by decide +kernel
theorem dX7_reduce_11 : decode cX7_reduce 11 = .ok (.ldc 119, 2) := by decide +kernel
theorem dX7_reduce_13 : decode cX7_reduce 13 = .ok (.invokespecial 83, 3) := by decide +kernel
theorem dX7_reduce_16 : decode cX7_reduce 16 = .ok (.athrow, 1) := by decide +kernel
theorem dX7_reduce_17 : decode cX7_reduce 17 = .ok (.aload_n 0, 1) := by decide +kernel
theorem dX7_reduce_18 : decode cX7_reduce 18 = .ok (.iload_n 1, 1) := by decide +kernel
theorem dX7_reduce_19 : decode cX7_reduce 19 = .ok (.invokevirtual 109, 3) := by decide +kernel
theorem dX7_reduce_22 : decode cX7_reduce 22 = .ok (.astore_n 2, 1) := by decide +kernel
theorem dX7_reduce_23 : decode cX7_reduce 23 = .ok (.aload_n 0, 1) := by decide +kernel
theorem dX7_reduce_24 : decode cX7_reduce 24 = .ok (.getfield 59, 3) := by decide +kernel
theorem dX7_reduce_27 : decode cX7_reduce 27 = .ok (.aload_n 2, 1) := by decide +kernel
theorem dX7_reduce_28 : decode cX7_reduce 28 = .ok (.invokevirtual 148, 3) := by decide +kernel
theorem dX7_reduce_31 : decode cX7_reduce 31 = .ok (.aload_n 2, 1) := by decide +kernel
theorem dX7_reduce_32 : decode cX7_reduce 32 = .ok (.getfield 116, 3) := by decide +kernel
theorem dX7_reduce_35 : decode cX7_reduce 35 = .ok (.ireturn, 1) := by decide +kernel
set_option maxHeartbeats 4000000 in
set_option maxRecDepth 100000 in
theorem ggX7_words_X0_keepUp : GoodIn wsX7_words wsX0_keepUp := goodIn_r _ [9, 10, 11, 12, 13, 14, 15, 16, 17, 18, 19, 20, 21, 22, 23, 24, 25, 26, 27, 28, 29, 30, 31, 32, 33, 34, 35, 36, 37, 38, 39, 40, 41, 42, 43, 44, 45, 46, 47, 48, 49, 50, 51, 52, 53, 54, 55, 56, 57, 58, 59, 60, 61, 62, 63, 64, 65, 66, 67, 68, 69, 70, 71, 72, 8, 73, 74, 75, 76, 77, 78, 79, 80, 81, 82, 83, 84, 85, 86, 87, 88, 108, 109, 110, 111, 112, 113, 114, 115, 116, 117, 118, 119, 120, 121, 122, 123, 124, 125, 126, 127, 128, 129, 130, 131, 132] (by first | rfl | decide +kernel) (by decide +kernel)
set_option maxRecDepth 20000 in
theorem gX7_words_X0_keepUp : GoodIn wsX7_words (wsV RX7 172 RX0 yX0_keepUp wsX0_keepUp) := goodIn_app (goodIn_of _ (by decide +kernel)) ggX7_words_X0_keepUp
set_option maxHeartbeats 4000000 in
set_option maxRecDepth 100000 in
theorem ggX7_words_X0_ofLength : GoodIn wsX7_words wsX0_ofLength := goodIn_r _ [92, 75, 10, 74, 108, 109, 110, 111, 112, 113, 114, 115, 116, 117, 118, 119, 120, 121, 122] (by first | rfl | decide +kernel) (by decide +kernel)
set_option maxRecDepth 20000 in
theorem gX7_words_X0_ofLength : GoodIn wsX7_words (wsV RX7 175 RX0 yX0_ofLength wsX0_ofLength) := goodIn_app (goodIn_of _ (by decide +kernel)) ggX7_words_X0_ofLength
theorem dX7_words_0 : decode cX7_words 0 = .ok (.iload_n 1, 1) := by decide +kernel
theorem dX7_words_1 : decode cX7_words 1 = .ok (.ifCond .lt 9, 3) := by decide +kernel
theorem dX7_words_4 : decode cX7_words 4 = .ok (.iload_n 1, 1) := by decide +kernel
theorem dX7_words_5 : decode cX7_words 5 = .ok (.bipush 20, 2) := by decide +kernel
theorem dX7_words_7 : decode cX7_words 7 = .ok (.if_icmp .le 13, 3) := by decide +kernel
theorem dX7_words_10 : decode cX7_words 10 = .ok (.new 79, 3) := by decide +kernel
theorem dX7_words_13 : decode cX7_words 13 = .ok (.dup, 1) := by decide +kernel
theorem dX7_words_14 : decode cX7_words 14 = .ok (.ldc 170, 2) := by decide +kernel
theorem dX7_words_16 : decode cX7_words 16 = .ok (.invokespecial 83, 3) := by decide +kernel
theorem dX7_words_19 : decode cX7_words 19 = .ok (.athrow, 1) := by decide +kernel
theorem dX7_words_20 : decode cX7_words 20 = .ok (.aload_n 0, 1) := by decide +kernel
theorem dX7_words_21 : decode cX7_words 21 = .ok (.getfield 68, 3) := by decide +kernel
theorem dX7_words_24 : decode cX7_words 24 = .ok (.aload_n 0, 1) := by decide +kernel
theorem dX7_words_25 : decode cX7_words 25 = .ok (.getfield 72, 3) := by decide +kernel
theorem dX7_words_28 : decode cX7_words 28 = .ok (.iload_n 1, 1) := by decide +kernel
theorem dX7_words_29 : decode cX7_words 29 = .ok (.invokevirtual 172, 3) := by decide +kernel
theorem dX7_words_32 : decode cX7_words 32 = .ok (.aload_n 0, 1) := by decide +kernel
theorem dX7_words_33 : decode cX7_words 33 = .ok (.getfield 68, 3) := by decide +kernel
theorem dX7_words_36 : decode cX7_words 36 = .ok (.iload_n 1, 1) := by decide +kernel
theorem dX7_words_37 : decode cX7_words 37 = .ok (.invokevirtual 175, 3) := by decide +kernel
theorem dX7_words_40 : decode cX7_words 40 = .ok (.lreturn, 1) := by decide +kernel
