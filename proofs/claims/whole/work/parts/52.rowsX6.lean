theorem dX6_init_0 : decode cX6_init 0 = .ok (.aload_n 0, 1) := by decide +kernel
theorem dX6_init_1 : decode cX6_init 1 = .ok (.invokespecial 3, 3) := by decide +kernel
theorem dX6_init_4 : decode cX6_init 4 = .ok (.aload_n 0, 1) := by decide +kernel
theorem dX6_init_5 : decode cX6_init 5 = .ok (.bipush 40, 2) := by decide +kernel
theorem dX6_init_7 : decode cX6_init 7 = .ok (.newarray .byte, 2) := by decide +kernel
theorem dX6_init_9 : decode cX6_init 9 = .ok (.putfield 9, 3) := by decide +kernel
theorem dX6_init_12 : decode cX6_init 12 = .ok (.return_, 1) := by decide +kernel
theorem dX6_clear_0 : decode cX6_clear 0 = .ok (.aload_n 0, 1) := by decide +kernel
theorem dX6_clear_1 : decode cX6_clear 1 = .ok (.iconst 0, 1) := by decide +kernel
theorem dX6_clear_2 : decode cX6_clear 2 = .ok (.putfield 15, 3) := by decide +kernel
theorem dX6_clear_5 : decode cX6_clear 5 = .ok (.return_, 1) := by decide +kernel
theorem dX6_push_0 : decode cX6_push 0 = .ok (.aload_n 0, 1) := by decide +kernel
theorem dX6_push_1 : decode cX6_push 1 = .ok (.getfield 15, 3) := by decide +kernel
theorem dX6_push_4 : decode cX6_push 4 = .ok (.bipush 40, 2) := by decide +kernel
theorem dX6_push_6 : decode cX6_push 6 = .ok (.if_icmp .lt 5, 3) := by decide +kernel
theorem dX6_push_9 : decode cX6_push 9 = .ok (.iconst 0, 1) := by decide +kernel
theorem dX6_push_10 : decode cX6_push 10 = .ok (.ireturn, 1) := by decide +kernel
theorem dX6_push_11 : decode cX6_push 11 = .ok (.aload_n 0, 1) := by decide +kernel
theorem dX6_push_12 : decode cX6_push 12 = .ok (.getfield 9, 3) := by decide +kernel
theorem dX6_push_15 : decode cX6_push 15 = .ok (.aload_n 0, 1) := by decide +kernel
theorem dX6_push_16 : decode cX6_push 16 = .ok (.getfield 15, 3) := by decide +kernel
theorem dX6_push_19 : decode cX6_push 19 = .ok (.iload_n 1, 1) := by decide +kernel
theorem dX6_push_20 : decode cX6_push 20 = .ok (.i2b, 1) := by decide +kernel
theorem dX6_push_21 : decode cX6_push 21 = .ok (.bastore, 1) := by decide +kernel
theorem dX6_push_22 : decode cX6_push 22 = .ok (.aload_n 0, 1) := by decide +kernel
theorem dX6_push_23 : decode cX6_push 23 = .ok (.dup, 1) := by decide +kernel
theorem dX6_push_24 : decode cX6_push 24 = .ok (.getfield 15, 3) := by decide +kernel
theorem dX6_push_27 : decode cX6_push 27 = .ok (.iconst 1, 1) := by decide +kernel
theorem dX6_push_28 : decode cX6_push 28 = .ok (.iadd, 1) := by decide +kernel
theorem dX6_push_29 : decode cX6_push 29 = .ok (.putfield 15, 3) := by decide +kernel
theorem dX6_push_32 : decode cX6_push 32 = .ok (.iconst 1, 1) := by decide +kernel
theorem dX6_push_33 : decode cX6_push 33 = .ok (.ireturn, 1) := by decide +kernel
theorem dX6_letterAt_0 : decode cX6_letterAt 0 = .ok (.iload_n 1, 1) := by decide +kernel
theorem dX6_letterAt_1 : decode cX6_letterAt 1 = .ok (.ifCond .lt 20, 3) := by decide +kernel
theorem dX6_letterAt_4 : decode cX6_letterAt 4 = .ok (.iload_n 1, 1) := by decide +kernel
theorem dX6_letterAt_5 : decode cX6_letterAt 5 = .ok (.aload_n 0, 1) := by decide +kernel
theorem dX6_letterAt_6 : decode cX6_letterAt 6 = .ok (.getfield 15, 3) := by decide +kernel
theorem dX6_letterAt_9 : decode cX6_letterAt 9 = .ok (.if_icmp .ge 12, 3) := by decide +kernel
theorem dX6_letterAt_12 : decode cX6_letterAt 12 = .ok (.aload_n 0, 1) := by decide +kernel
theorem dX6_letterAt_13 : decode cX6_letterAt 13 = .ok (.getfield 9, 3) := by decide +kernel
theorem dX6_letterAt_16 : decode cX6_letterAt 16 = .ok (.iload_n 1, 1) := by decide +kernel
theorem dX6_letterAt_17 : decode cX6_letterAt 17 = .ok (.baload, 1) := by decide +kernel
theorem dX6_letterAt_18 : decode cX6_letterAt 18 = .ok (.goto 4, 3) := by decide +kernel
theorem dX6_letterAt_21 : decode cX6_letterAt 21 = .ok (.iconst (-1), 1) := by decide +kernel
theorem dX6_letterAt_22 : decode cX6_letterAt 22 = .ok (.ireturn, 1) := by decide +kernel
theorem dX6_copy_0 : decode cX6_copy 0 = .ok (.aload_n 1, 1) := by decide +kernel
theorem dX6_copy_1 : decode cX6_copy 1 = .ok (.getfield 9, 3) := by decide +kernel
theorem dX6_copy_4 : decode cX6_copy 4 = .ok (.iconst 0, 1) := by decide +kernel
theorem dX6_copy_5 : decode cX6_copy 5 = .ok (.aload_n 0, 1) := by decide +kernel
theorem dX6_copy_6 : decode cX6_copy 6 = .ok (.getfield 9, 3) := by decide +kernel
theorem dX6_copy_9 : decode cX6_copy 9 = .ok (.iconst 0, 1) := by decide +kernel
theorem dX6_copy_10 : decode cX6_copy 10 = .ok (.aload_n 1, 1) := by decide +kernel
theorem dX6_copy_11 : decode cX6_copy 11 = .ok (.getfield 15, 3) := by decide +kernel
theorem dX6_copy_14 : decode cX6_copy 14 = .ok (.invokestatic 19, 3) := by decide +kernel
theorem dX6_copy_17 : decode cX6_copy 17 = .ok (.aload_n 0, 1) := by decide +kernel
theorem dX6_copy_18 : decode cX6_copy 18 = .ok (.aload_n 1, 1) := by decide +kernel
theorem dX6_copy_19 : decode cX6_copy 19 = .ok (.getfield 15, 3) := by decide +kernel
theorem dX6_copy_22 : decode cX6_copy 22 = .ok (.putfield 15, 3) := by decide +kernel
theorem dX6_copy_25 : decode cX6_copy 25 = .ok (.return_, 1) := by decide +kernel
theorem dX6_add_0 : decode cX6_add 0 = .ok (.iload_n 3, 1) := by decide +kernel
theorem dX6_add_1 : decode cX6_add 1 = .ok (.iload_n 2, 1) := by decide +kernel
theorem dX6_add_2 : decode cX6_add 2 = .ok (.isub, 1) := by decide +kernel
theorem dX6_add_3 : decode cX6_add 3 = .ok (.istore 4, 2) := by decide +kernel
theorem dX6_add_5 : decode cX6_add 5 = .ok (.iload 4, 2) := by decide +kernel
theorem dX6_add_7 : decode cX6_add 7 = .ok (.ifCond .le 44, 3) := by decide +kernel
theorem dX6_add_10 : decode cX6_add 10 = .ok (.aload_n 0, 1) := by decide +kernel
theorem dX6_add_11 : decode cX6_add 11 = .ok (.getfield 15, 3) := by decide +kernel
theorem dX6_add_14 : decode cX6_add 14 = .ok (.iload 4, 2) := by decide +kernel
theorem dX6_add_16 : decode cX6_add 16 = .ok (.iadd, 1) := by decide +kernel
theorem dX6_add_17 : decode cX6_add 17 = .ok (.bipush 40, 2) := by decide +kernel
theorem dX6_add_19 : decode cX6_add 19 = .ok (.if_icmp .gt 32, 3) := by decide +kernel
theorem dX6_add_22 : decode cX6_add 22 = .ok (.aload_n 1, 1) := by decide +kernel
theorem dX6_add_23 : decode cX6_add 23 = .ok (.getfield 9, 3) := by decide +kernel
theorem dX6_add_26 : decode cX6_add 26 = .ok (.iload_n 2, 1) := by decide +kernel
theorem dX6_add_27 : decode cX6_add 27 = .ok (.aload_n 0, 1) := by decide +kernel
theorem dX6_add_28 : decode cX6_add 28 = .ok (.getfield 9, 3) := by decide +kernel
theorem dX6_add_31 : decode cX6_add 31 = .ok (.aload_n 0, 1) := by decide +kernel
theorem dX6_add_32 : decode cX6_add 32 = .ok (.getfield 15, 3) := by decide +kernel
theorem dX6_add_35 : decode cX6_add 35 = .ok (.iload 4, 2) := by decide +kernel
theorem dX6_add_37 : decode cX6_add 37 = .ok (.invokestatic 19, 3) := by decide +kernel
theorem dX6_add_40 : decode cX6_add 40 = .ok (.aload_n 0, 1) := by decide +kernel
theorem dX6_add_41 : decode cX6_add 41 = .ok (.dup, 1) := by decide +kernel
theorem dX6_add_42 : decode cX6_add 42 = .ok (.getfield 15, 3) := by decide +kernel
theorem dX6_add_45 : decode cX6_add 45 = .ok (.iload 4, 2) := by decide +kernel
theorem dX6_add_47 : decode cX6_add 47 = .ok (.iadd, 1) := by decide +kernel
theorem dX6_add_48 : decode cX6_add 48 = .ok (.putfield 15, 3) := by decide +kernel
theorem dX6_add_51 : decode cX6_add 51 = .ok (.return_, 1) := by decide +kernel
set_option maxHeartbeats 4000000 in
set_option maxRecDepth 100000 in
theorem ggX6_isLike_X6_differsAt : GoodIn wsX6_isLike wsX6_differsAt := goodIn_r _ [6, 1, 7, 8, 9] (by first | rfl | decide +kernel) (by decide +kernel)
set_option maxRecDepth 20000 in
theorem gX6_isLike_X6_differsAt : GoodIn wsX6_isLike (wsV RX6 25 RX6 yX6_differsAt wsX6_differsAt) := goodIn_app (goodIn_of _ (by decide +kernel)) ggX6_isLike_X6_differsAt
theorem dX6_isLike_0 : decode cX6_isLike 0 = .ok (.aload_n 0, 1) := by decide +kernel
theorem dX6_isLike_1 : decode cX6_isLike 1 = .ok (.getfield 15, 3) := by decide +kernel
theorem dX6_isLike_4 : decode cX6_isLike 4 = .ok (.aload_n 1, 1) := by decide +kernel
theorem dX6_isLike_5 : decode cX6_isLike 5 = .ok (.getfield 15, 3) := by decide +kernel
theorem dX6_isLike_8 : decode cX6_isLike 8 = .ok (.if_icmp .ne 19, 3) := by decide +kernel
theorem dX6_isLike_11 : decode cX6_isLike 11 = .ok (.aload_n 0, 1) := by decide +kernel
theorem dX6_isLike_12 : decode cX6_isLike 12 = .ok (.aload_n 1, 1) := by decide +kernel
theorem dX6_isLike_13 : decode cX6_isLike 13 = .ok (.invokevirtual 25, 3) := by decide +kernel
theorem dX6_isLike_16 : decode cX6_isLike 16 = .ok (.aload_n 0, 1) := by decide +kernel
theorem dX6_isLike_17 : decode cX6_isLike 17 = .ok (.getfield 15, 3) := by decide +kernel
theorem dX6_isLike_20 : decode cX6_isLike 20 = .ok (.if_icmp .ne 7, 3) := by decide +kernel
theorem dX6_isLike_23 : decode cX6_isLike 23 = .ok (.iconst 1, 1) := by decide +kernel
theorem dX6_isLike_24 : decode cX6_isLike 24 = .ok (.goto 4, 3) := by decide +kernel
theorem dX6_isLike_27 : decode cX6_isLike 27 = .ok (.iconst 0, 1) := by decide +kernel
theorem dX6_isLike_28 : decode cX6_isLike 28 = .ok (.ireturn, 1) := by decide +kernel
set_option maxHeartbeats 4000000 in
set_option maxRecDepth 100000 in
theorem ggX6_isLesserThan_X6_differsAt : GoodIn wsX6_isLesserThan wsX6_differsAt := goodIn_r _ [7, 1, 2, 8, 9] (by first | rfl | decide +kernel) (by decide +kernel)
set_option maxRecDepth 20000 in
theorem gX6_isLesserThan_X6_differsAt : GoodIn wsX6_isLesserThan (wsV RX6 25 RX6 yX6_differsAt wsX6_differsAt) := goodIn_app (goodIn_of _ (by decide +kernel)) ggX6_isLesserThan_X6_differsAt
theorem dX6_isLesserThan_0 : decode cX6_isLesserThan 0 = .ok (.aload_n 0, 1) := by decide +kernel
theorem dX6_isLesserThan_1 : decode cX6_isLesserThan 1 = .ok (.getfield 15, 3) := by decide +kernel
theorem dX6_isLesserThan_4 : decode cX6_isLesserThan 4 = .ok (.aload_n 1, 1) := by decide +kernel
theorem dX6_isLesserThan_5 : decode cX6_isLesserThan 5 = .ok (.getfield 15, 3) := by decide +kernel
theorem dX6_isLesserThan_8 : decode cX6_isLesserThan 8 = .ok (.if_icmp .eq 20, 3) := by decide +kernel
theorem dX6_isLesserThan_11 : decode cX6_isLesserThan 11 = .ok (.aload_n 0, 1) := by decide +kernel
theorem dX6_isLesserThan_12 : decode cX6_isLesserThan 12 = .ok (.getfield 15, 3) := by decide +kernel
theorem dX6_isLesserThan_15 : decode cX6_isLesserThan 15 = .ok (.aload_n 1, 1) := by decide +kernel
theorem dX6_isLesserThan_16 : decode cX6_isLesserThan 16 = .ok (.getfield 15, 3) := by decide +kernel
theorem dX6_isLesserThan_19 : decode cX6_isLesserThan 19 = .ok (.if_icmp .ge 7, 3) := by decide +kernel
theorem dX6_isLesserThan_22 : decode cX6_isLesserThan 22 = .ok (.iconst 1, 1) := by decide +kernel
theorem dX6_isLesserThan_23 : decode cX6_isLesserThan 23 = .ok (.goto 4, 3) := by decide +kernel
theorem dX6_isLesserThan_26 : decode cX6_isLesserThan 26 = .ok (.iconst 0, 1) := by decide +kernel
theorem dX6_isLesserThan_27 : decode cX6_isLesserThan 27 = .ok (.ireturn, 1) := by decide +kernel
theorem dX6_isLesserThan_28 : decode cX6_isLesserThan 28 = .ok (.aload_n 0, 1) := by decide +kernel
theorem dX6_isLesserThan_29 : decode cX6_isLesserThan 29 = .ok (.aload_n 1, 1) := by decide +kernel
theorem dX6_isLesserThan_30 : decode cX6_isLesserThan 30 = .ok (.invokevirtual 25, 3) := by decide +kernel
theorem dX6_isLesserThan_33 : decode cX6_isLesserThan 33 = .ok (.istore_n 2, 1) := by decide +kernel
theorem dX6_isLesserThan_34 : decode cX6_isLesserThan 34 = .ok (.iload_n 2, 1) := by decide +kernel
theorem dX6_isLesserThan_35 : decode cX6_isLesserThan 35 = .ok (.aload_n 0, 1) := by decide +kernel
theorem dX6_isLesserThan_36 : decode cX6_isLesserThan 36 = .ok (.getfield 15, 3) := by decide +kernel
theorem dX6_isLesserThan_39 : decode cX6_isLesserThan 39 = .ok (.if_icmp .ge 22, 3) := by decide +kernel
theorem dX6_isLesserThan_42 : decode cX6_isLesserThan 42 = .ok (.aload_n 0, 1) := by decide +kernel
theorem dX6_isLesserThan_43 : decode cX6_isLesserThan 43 = .ok (.getfield 9, 3) := by decide +kernel
theorem dX6_isLesserThan_46 : decode cX6_isLesserThan 46 = .ok (.iload_n 2, 1) := by decide +kernel
theorem dX6_isLesserThan_47 : decode cX6_isLesserThan 47 = .ok (.baload, 1) := by decide +kernel
theorem dX6_isLesserThan_48 : decode cX6_isLesserThan 48 = .ok (.aload_n 1, 1) := by decide +kernel
theorem dX6_isLesserThan_49 : decode cX6_isLesserThan 49 = .ok (.getfield 9, 3) := by decide +kernel
theorem dX6_isLesserThan_52 : decode cX6_isLesserThan 52 = .ok (.iload_n 2, 1) := by decide +kernel
theorem dX6_isLesserThan_53 : decode cX6_isLesserThan 53 = .ok (.baload, 1) := by decide +kernel
theorem dX6_isLesserThan_54 : decode cX6_isLesserThan 54 = .ok (.if_icmp .ge 7, 3) := by decide +kernel
theorem dX6_isLesserThan_57 : decode cX6_isLesserThan 57 = .ok (.iconst 1, 1) := by decide +kernel
theorem dX6_isLesserThan_58 : decode cX6_isLesserThan 58 = .ok (.goto 4, 3) := by decide +kernel
theorem dX6_isLesserThan_61 : decode cX6_isLesserThan 61 = .ok (.iconst 0, 1) := by decide +kernel
theorem dX6_isLesserThan_62 : decode cX6_isLesserThan 62 = .ok (.ireturn, 1) := by decide +kernel
theorem dX6_differsAt_0 : decode cX6_differsAt 0 = .ok (.iconst 0, 1) := by decide +kernel
theorem dX6_differsAt_1 : decode cX6_differsAt 1 = .ok (.istore_n 2, 1) := by decide +kernel
theorem dX6_differsAt_2 : decode cX6_differsAt 2 = .ok (.iload_n 2, 1) := by decide +kernel
theorem dX6_differsAt_3 : decode cX6_differsAt 3 = .ok (.aload_n 0, 1) := by decide +kernel
theorem dX6_differsAt_4 : decode cX6_differsAt 4 = .ok (.getfield 15, 3) := by decide +kernel
theorem dX6_differsAt_7 : decode cX6_differsAt 7 = .ok (.if_icmp .ge 24, 3) := by decide +kernel
theorem dX6_differsAt_10 : decode cX6_differsAt 10 = .ok (.aload_n 0, 1) := by decide +kernel
theorem dX6_differsAt_11 : decode cX6_differsAt 11 = .ok (.getfield 9, 3) := by decide +kernel
theorem dX6_differsAt_14 : decode cX6_differsAt 14 = .ok (.iload_n 2, 1) := by decide +kernel
theorem dX6_differsAt_15 : decode cX6_differsAt 15 = .ok (.baload, 1) := by decide +kernel
theorem dX6_differsAt_16 : decode cX6_differsAt 16 = .ok (.aload_n 1, 1) := by decide +kernel
theorem dX6_differsAt_17 : decode cX6_differsAt 17 = .ok (.getfield 9, 3) := by decide +kernel
theorem dX6_differsAt_20 : decode cX6_differsAt 20 = .ok (.iload_n 2, 1) := by decide +kernel
theorem dX6_differsAt_21 : decode cX6_differsAt 21 = .ok (.baload, 1) := by decide +kernel
theorem dX6_differsAt_22 : decode cX6_differsAt 22 = .ok (.if_icmp .ne 9, 3) := by decide +kernel
theorem dX6_differsAt_25 : decode cX6_differsAt 25 = .ok (.iinc 2 1, 3) := by decide +kernel
theorem dX6_differsAt_28 : decode cX6_differsAt 28 = .ok (.goto (-26), 3) := by decide +kernel
theorem dX6_differsAt_31 : decode cX6_differsAt 31 = .ok (.iload_n 2, 1) := by decide +kernel
theorem dX6_differsAt_32 : decode cX6_differsAt 32 = .ok (.ireturn, 1) := by decide +kernel
set_option maxHeartbeats 4000000 in
set_option maxRecDepth 100000 in
theorem ggX6_holds_X6_agrees : GoodIn wsX6_holds wsX6_agrees := goodIn_r _ [6, 7, 8, 9] (by first | rfl | decide +kernel) (by decide +kernel)
set_option maxRecDepth 20000 in
theorem gX6_holds_X6_agrees : GoodIn wsX6_holds (wsV RX6 29 RX6 yX6_agrees wsX6_agrees) := goodIn_app (goodIn_of _ (by decide +kernel)) ggX6_holds_X6_agrees
theorem dX6_holds_0 : decode cX6_holds 0 = .ok (.iconst 0, 1) := by decide +kernel
theorem dX6_holds_1 : decode cX6_holds 1 = .ok (.istore_n 2, 1) := by decide +kernel
theorem dX6_holds_2 : decode cX6_holds 2 = .ok (.iload_n 2, 1) := by decide +kernel
theorem dX6_holds_3 : decode cX6_holds 3 = .ok (.aload_n 1, 1) := by decide +kernel
theorem dX6_holds_4 : decode cX6_holds 4 = .ok (.getfield 15, 3) := by decide +kernel
theorem dX6_holds_7 : decode cX6_holds 7 = .ok (.iadd, 1) := by decide +kernel
theorem dX6_holds_8 : decode cX6_holds 8 = .ok (.aload_n 0, 1) := by decide +kernel
theorem dX6_holds_9 : decode cX6_holds 9 = .ok (.getfield 15, 3) := by decide +kernel
theorem dX6_holds_12 : decode cX6_holds 12 = .ok (.if_icmp .gt 24, 3) := by decide +kernel
theorem dX6_holds_15 : decode cX6_holds 15 = .ok (.aload_n 0, 1) := by decide +kernel
theorem dX6_holds_16 : decode cX6_holds 16 = .ok (.iload_n 2, 1) := by decide +kernel
theorem dX6_holds_17 : decode cX6_holds 17 = .ok (.aload_n 1, 1) := by decide +kernel
theorem dX6_holds_18 : decode cX6_holds 18 = .ok (.aload_n 1, 1) := by decide +kernel
theorem dX6_holds_19 : decode cX6_holds 19 = .ok (.getfield 15, 3) := by decide +kernel
theorem dX6_holds_22 : decode cX6_holds 22 = .ok (.invokevirtual 29, 3) := by decide +kernel
theorem dX6_holds_25 : decode cX6_holds 25 = .ok (.ifCond .eq 5, 3) := by decide +kernel
theorem dX6_holds_28 : decode cX6_holds 28 = .ok (.iconst 1, 1) := by decide +kernel
theorem dX6_holds_29 : decode cX6_holds 29 = .ok (.ireturn, 1) := by decide +kernel
theorem dX6_holds_30 : decode cX6_holds 30 = .ok (.iinc 2 1, 3) := by decide +kernel
theorem dX6_holds_33 : decode cX6_holds 33 = .ok (.goto (-31), 3) := by decide +kernel
theorem dX6_holds_36 : decode cX6_holds 36 = .ok (.iconst 0, 1) := by decide +kernel
theorem dX6_holds_37 : decode cX6_holds 37 = .ok (.ireturn, 1) := by decide +kernel
set_option maxHeartbeats 4000000 in
set_option maxRecDepth 100000 in
theorem ggX6_endsAsBegins_X6_agrees : GoodIn wsX6_endsAsBegins wsX6_agrees := goodIn_r _ [6, 7, 8, 9] (by first | rfl | decide +kernel) (by decide +kernel)
set_option maxRecDepth 20000 in
theorem gX6_endsAsBegins_X6_agrees : GoodIn wsX6_endsAsBegins (wsV RX6 29 RX6 yX6_agrees wsX6_agrees) := goodIn_app (goodIn_of _ (by decide +kernel)) ggX6_endsAsBegins_X6_agrees
theorem dX6_endsAsBegins_0 : decode cX6_endsAsBegins 0 = .ok (.aload_n 0, 1) := by decide +kernel
theorem dX6_endsAsBegins_1 : decode cX6_endsAsBegins 1 = .ok (.aload_n 0, 1) := by decide +kernel
theorem dX6_endsAsBegins_2 : decode cX6_endsAsBegins 2 = .ok (.getfield 15, 3) := by decide +kernel
theorem dX6_endsAsBegins_5 : decode cX6_endsAsBegins 5 = .ok (.iload_n 2, 1) := by decide +kernel
theorem dX6_endsAsBegins_6 : decode cX6_endsAsBegins 6 = .ok (.isub, 1) := by decide +kernel
theorem dX6_endsAsBegins_7 : decode cX6_endsAsBegins 7 = .ok (.aload_n 1, 1) := by decide +kernel
theorem dX6_endsAsBegins_8 : decode cX6_endsAsBegins 8 = .ok (.iload_n 2, 1) := by decide +kernel
theorem dX6_endsAsBegins_9 : decode cX6_endsAsBegins 9 = .ok (.invokevirtual 29, 3) := by decide +kernel
theorem dX6_endsAsBegins_12 : decode cX6_endsAsBegins 12 = .ok (.ireturn, 1) := by decide +kernel
theorem dX6_agrees_0 : decode cX6_agrees 0 = .ok (.iconst 0, 1) := by decide +kernel
theorem dX6_agrees_1 : decode cX6_agrees 1 = .ok (.istore 4, 2) := by decide +kernel
theorem dX6_agrees_3 : decode cX6_agrees 3 = .ok (.iload 4, 2) := by decide +kernel
theorem dX6_agrees_5 : decode cX6_agrees 5 = .ok (.iload_n 3, 1) := by decide +kernel
theorem dX6_agrees_6 : decode cX6_agrees 6 = .ok (.if_icmp .ge 30, 3) := by decide +kernel
theorem dX6_agrees_9 : decode cX6_agrees 9 = .ok (.aload_n 0, 1) := by decide +kernel
theorem dX6_agrees_10 : decode cX6_agrees 10 = .ok (.getfield 9, 3) := by decide +kernel
theorem dX6_agrees_13 : decode cX6_agrees 13 = .ok (.iload_n 1, 1) := by decide +kernel
theorem dX6_agrees_14 : decode cX6_agrees 14 = .ok (.iload 4, 2) := by decide +kernel
theorem dX6_agrees_16 : decode cX6_agrees 16 = .ok (.iadd, 1) := by decide +kernel
theorem dX6_agrees_17 : decode cX6_agrees 17 = .ok (.baload, 1) := by decide +kernel
theorem dX6_agrees_18 : decode cX6_agrees 18 = .ok (.aload_n 2, 1) := by decide +kernel
theorem dX6_agrees_19 : decode cX6_agrees 19 = .ok (.getfield 9, 3) := by decide +kernel
theorem dX6_agrees_22 : decode cX6_agrees 22 = .ok (.iload 4, 2) := by decide +kernel
theorem dX6_agrees_24 : decode cX6_agrees 24 = .ok (.baload, 1) := by decide +kernel
theorem dX6_agrees_25 : decode cX6_agrees 25 = .ok (.if_icmp .eq 5, 3) := by decide +kernel
theorem dX6_agrees_28 : decode cX6_agrees 28 = .ok (.iconst 0, 1) := by decide +kernel
theorem dX6_agrees_29 : decode cX6_agrees 29 = .ok (.ireturn, 1) := by decide +kernel
theorem dX6_agrees_30 : decode cX6_agrees 30 = .ok (.iinc 4 1, 3) := by decide +kernel
theorem dX6_agrees_33 : decode cX6_agrees 33 = .ok (.goto (-30), 3) := by decide +kernel
theorem dX6_agrees_36 : decode cX6_agrees 36 = .ok (.iconst 1, 1) := by decide +kernel
theorem dX6_agrees_37 : decode cX6_agrees 37 = .ok (.ireturn, 1) := by decide +kernel
theorem dX6_packed_0 : decode cX6_packed 0 = .ok (.iload_n 1, 1) := by decide +kernel
theorem dX6_packed_1 : decode cX6_packed 1 = .ok (.bipush 20, 2) := by decide +kernel
theorem dX6_packed_3 : decode cX6_packed 3 = .ok (.iadd, 1) := by decide +kernel
theorem dX6_packed_4 : decode cX6_packed 4 = .ok (.aload_n 0, 1) := by decide +kernel
theorem dX6_packed_5 : decode cX6_packed 5 = .ok (.getfield 15, 3) := by decide +kernel
theorem dX6_packed_8 : decode cX6_packed 8 = .ok (.if_icmp .ge 10, 3) := by decide +kernel
theorem dX6_packed_11 : decode cX6_packed 11 = .ok (.iload_n 1, 1) := by decide +kernel
theorem dX6_packed_12 : decode cX6_packed 12 = .ok (.bipush 20, 2) := by decide +kernel
theorem dX6_packed_14 : decode cX6_packed 14 = .ok (.iadd, 1) := by decide +kernel
theorem dX6_packed_15 : decode cX6_packed 15 = .ok (.goto 7, 3) := by decide +kernel
theorem dX6_packed_18 : decode cX6_packed 18 = .ok (.aload_n 0, 1) := by decide +kernel
theorem dX6_packed_19 : decode cX6_packed 19 = .ok (.getfield 15, 3) := by decide +kernel
theorem dX6_packed_22 : decode cX6_packed 22 = .ok (.istore_n 2, 1) := by decide +kernel
theorem dX6_packed_23 : decode cX6_packed 23 = .ok (.lconst 0, 1) := by decide +kernel
theorem dX6_packed_24 : decode cX6_packed 24 = .ok (.lstore_n 3, 1) := by decide +kernel
theorem dX6_packed_25 : decode cX6_packed 25 = .ok (.iload_n 2, 1) := by decide +kernel
theorem dX6_packed_26 : decode cX6_packed 26 = .ok (.iconst 1, 1) := by decide +kernel
theorem dX6_packed_27 : decode cX6_packed 27 = .ok (.isub, 1) := by decide +kernel
theorem dX6_packed_28 : decode cX6_packed 28 = .ok (.istore 5, 2) := by decide +kernel
theorem dX6_packed_30 : decode cX6_packed 30 = .ok (.iload 5, 2) := by decide +kernel
theorem dX6_packed_32 : decode cX6_packed 32 = .ok (.iload_n 1, 1) := by decide +kernel
theorem dX6_packed_33 : decode cX6_packed 33 = .ok (.if_icmp .lt 24, 3) := by decide +kernel
theorem dX6_packed_36 : decode cX6_packed 36 = .ok (.lload_n 3, 1) := by decide +kernel
theorem dX6_packed_37 : decode cX6_packed 37 = .ok (.iconst 3, 1) := by decide +kernel
theorem dX6_packed_38 : decode cX6_packed 38 = .ok (.lshl, 1) := by decide +kernel
theorem dX6_packed_39 : decode cX6_packed 39 = .ok (.aload_n 0, 1) := by decide +kernel
theorem dX6_packed_40 : decode cX6_packed 40 = .ok (.getfield 9, 3) := by decide +kernel
theorem dX6_packed_43 : decode cX6_packed 43 = .ok (.iload 5, 2) := by decide +kernel
theorem dX6_packed_45 : decode cX6_packed 45 = .ok (.baload, 1) := by decide +kernel
theorem dX6_packed_46 : decode cX6_packed 46 = .ok (.iconst 1, 1) := by decide +kernel
theorem dX6_packed_47 : decode cX6_packed 47 = .ok (.iadd, 1) := by decide +kernel
theorem dX6_packed_48 : decode cX6_packed 48 = .ok (.i2l, 1) := by decide +kernel
theorem dX6_packed_49 : decode cX6_packed 49 = .ok (.lor, 1) := by decide +kernel
theorem dX6_packed_50 : decode cX6_packed 50 = .ok (.lstore_n 3, 1) := by decide +kernel
theorem dX6_packed_51 : decode cX6_packed 51 = .ok (.iinc 5 (-1), 3) := by decide +kernel
theorem dX6_packed_54 : decode cX6_packed 54 = .ok (.goto (-24), 3) := by decide +kernel
theorem dX6_packed_57 : decode cX6_packed 57 = .ok (.lload_n 3, 1) := by decide +kernel
theorem dX6_packed_58 : decode cX6_packed 58 = .ok (.lreturn, 1) := by decide +kernel
set_option maxHeartbeats 4000000 in
set_option maxRecDepth 100000 in
theorem ggX6_pushPacked_X6_push : GoodIn wsX6_pushPacked wsX6_push := goodIn_r _ [6, 7, 8, 9, 10] (by first | rfl | decide +kernel) (by decide +kernel)
set_option maxRecDepth 20000 in
theorem gX6_pushPacked_X6_push : GoodIn wsX6_pushPacked (wsV RX6 35 RX6 yX6_push wsX6_push) := goodIn_app (goodIn_of _ (by decide +kernel)) ggX6_pushPacked_X6_push
theorem dX6_pushPacked_0 : decode cX6_pushPacked 0 = .ok (.lload_n 1, 1) := by decide +kernel
theorem dX6_pushPacked_1 : decode cX6_pushPacked 1 = .ok (.lstore_n 3, 1) := by decide +kernel
theorem dX6_pushPacked_2 : decode cX6_pushPacked 2 = .ok (.lload_n 3, 1) := by decide +kernel
theorem dX6_pushPacked_3 : decode cX6_pushPacked 3 = .ok (.lconst 0, 1) := by decide +kernel
theorem dX6_pushPacked_4 : decode cX6_pushPacked 4 = .ok (.lcmp, 1) := by decide +kernel
theorem dX6_pushPacked_5 : decode cX6_pushPacked 5 = .ok (.ifCond .eq 23, 3) := by decide +kernel
theorem dX6_pushPacked_8 : decode cX6_pushPacked 8 = .ok (.aload_n 0, 1) := by decide +kernel
theorem dX6_pushPacked_9 : decode cX6_pushPacked 9 = .ok (.lload_n 3, 1) := by decide +kernel
theorem dX6_pushPacked_10 : decode cX6_pushPacked 10 = .ok (.ldc2_w 33, 3) := by decide +kernel
theorem dX6_pushPacked_13 : decode cX6_pushPacked 13 = .ok (.land, 1) := by decide +kernel
theorem dX6_pushPacked_14 : decode cX6_pushPacked 14 = .ok (.l2i, 1) := by decide +kernel
theorem dX6_pushPacked_15 : decode cX6_pushPacked 15 = .ok (.iconst 1, 1) := by decide +kernel
theorem dX6_pushPacked_16 : decode cX6_pushPacked 16 = .ok (.isub, 1) := by decide +kernel
theorem dX6_pushPacked_17 : decode cX6_pushPacked 17 = .ok (.invokevirtual 35, 3) := by decide +kernel
theorem dX6_pushPacked_20 : decode cX6_pushPacked 20 = .ok (.pop, 1) := by decide +kernel
theorem dX6_pushPacked_21 : decode cX6_pushPacked 21 = .ok (.lload_n 3, 1) := by decide +kernel
theorem dX6_pushPacked_22 : decode cX6_pushPacked 22 = .ok (.iconst 3, 1) := by decide +kernel
theorem dX6_pushPacked_23 : decode cX6_pushPacked 23 = .ok (.lushr, 1) := by decide +kernel
theorem dX6_pushPacked_24 : decode cX6_pushPacked 24 = .ok (.lstore_n 3, 1) := by decide +kernel
theorem dX6_pushPacked_25 : decode cX6_pushPacked 25 = .ok (.goto (-23), 3) := by decide +kernel
theorem dX6_pushPacked_28 : decode cX6_pushPacked 28 = .ok (.return_, 1) := by decide +kernel
