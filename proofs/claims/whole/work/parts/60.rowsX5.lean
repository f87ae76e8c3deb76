theorem dX5_init_0 : decode cX5_init 0 = .ok (.aload_n 0, 1) := by decide +kernel
theorem dX5_init_1 : decode cX5_init 1 = .ok (.invokespecial 3, 3) := by decide +kernel
theorem dX5_init_4 : decode cX5_init 4 = .ok (.aload_n 0, 1) := by decide +kernel
theorem dX5_init_5 : decode cX5_init 5 = .ok (.sipush 4000, 3) := by decide +kernel
theorem dX5_init_8 : decode cX5_init 8 = .ok (.newarray .long, 2) := by decide +kernel
theorem dX5_init_10 : decode cX5_init 10 = .ok (.putfield 11, 3) := by decide +kernel
theorem dX5_init_13 : decode cX5_init 13 = .ok (.return_, 1) := by decide +kernel
theorem dX5_clear_0 : decode cX5_clear 0 = .ok (.aload_n 0, 1) := by decide +kernel
theorem dX5_clear_1 : decode cX5_clear 1 = .ok (.iconst 0, 1) := by decide +kernel
theorem dX5_clear_2 : decode cX5_clear 2 = .ok (.putfield 15, 3) := by decide +kernel
theorem dX5_clear_5 : decode cX5_clear 5 = .ok (.aload_n 0, 1) := by decide +kernel
theorem dX5_clear_6 : decode cX5_clear 6 = .ok (.iconst 0, 1) := by decide +kernel
theorem dX5_clear_7 : decode cX5_clear 7 = .ok (.putfield 19, 3) := by decide +kernel
theorem dX5_clear_10 : decode cX5_clear 10 = .ok (.return_, 1) := by decide +kernel
theorem dX5_hasRoom_0 : decode cX5_hasRoom 0 = .ok (.aload_n 0, 1) := by decide +kernel
theorem dX5_hasRoom_1 : decode cX5_hasRoom 1 = .ok (.getfield 19, 3) := by decide +kernel
theorem dX5_hasRoom_4 : decode cX5_hasRoom 4 = .ok (.iload_n 1, 1) := by decide +kernel
theorem dX5_hasRoom_5 : decode cX5_hasRoom 5 = .ok (.iadd, 1) := by decide +kernel
theorem dX5_hasRoom_6 : decode cX5_hasRoom 6 = .ok (.sipush 1000, 3) := by decide +kernel
theorem dX5_hasRoom_9 : decode cX5_hasRoom 9 = .ok (.if_icmp .gt 7, 3) := by decide +kernel
theorem dX5_hasRoom_12 : decode cX5_hasRoom 12 = .ok (.iconst 1, 1) := by decide +kernel
theorem dX5_hasRoom_13 : decode cX5_hasRoom 13 = .ok (.goto 4, 3) := by decide +kernel
theorem dX5_hasRoom_16 : decode cX5_hasRoom 16 = .ok (.iconst 0, 1) := by decide +kernel
theorem dX5_hasRoom_17 : decode cX5_hasRoom 17 = .ok (.ireturn, 1) := by decide +kernel
set_option maxHeartbeats 4000000 in
set_option maxRecDepth 100000 in
theorem ggX5_add_X5_hasRoom : GoodIn wsX5_add wsX5_hasRoom := goodIn_r _ [8, 2, 16, 17, 18] (by first | rfl | decide +kernel) (by decide +kernel)
set_option maxRecDepth 20000 in
theorem gX5_add_X5_hasRoom : GoodIn wsX5_add (wsV RX5 22 RX5 yX5_hasRoom wsX5_hasRoom) := goodIn_app (goodIn_of _ (by decide +kernel)) ggX5_add_X5_hasRoom
set_option maxHeartbeats 4000000 in
set_option maxRecDepth 100000 in
theorem ggX5_add_X6_packed : GoodIn wsX5_add wsX6_packed := goodIn_r _ [13, 14, 15, 19, 20] (by first | rfl | decide +kernel) (by decide +kernel)
set_option maxRecDepth 20000 in
theorem gX5_add_X6_packed : GoodIn wsX5_add (wsV RX5 26 RX6 yX6_packed wsX6_packed) := goodIn_app (goodIn_of _ (by decide +kernel)) ggX5_add_X6_packed
theorem dX5_add_0 : decode cX5_add 0 = .ok (.aload_n 0, 1) := by decide +kernel
theorem dX5_add_1 : decode cX5_add 1 = .ok (.iconst 1, 1) := by decide +kernel
theorem dX5_add_2 : decode cX5_add 2 = .ok (.invokevirtual 22, 3) := by decide +kernel
theorem dX5_add_5 : decode cX5_add 5 = .ok (.ifCond .eq 81, 3) := by decide +kernel
theorem dX5_add_8 : decode cX5_add 8 = .ok (.aload_n 0, 1) := by decide +kernel
theorem dX5_add_9 : decode cX5_add 9 = .ok (.getfield 15, 3) := by decide +kernel
theorem dX5_add_12 : decode cX5_add 12 = .ok (.aload_n 0, 1) := by decide +kernel
theorem dX5_add_13 : decode cX5_add 13 = .ok (.getfield 19, 3) := by decide +kernel
theorem dX5_add_16 : decode cX5_add 16 = .ok (.iadd, 1) := by decide +kernel
theorem dX5_add_17 : decode cX5_add 17 = .ok (.sipush 1000, 3) := by decide +kernel
theorem dX5_add_20 : decode cX5_add 20 = .ok (.irem, 1) := by decide +kernel
theorem dX5_add_21 : decode cX5_add 21 = .ok (.iconst 4, 1) := by decide +kernel
theorem dX5_add_22 : decode cX5_add 22 = .ok (.imul, 1) := by decide +kernel
theorem dX5_add_23 : decode cX5_add 23 = .ok (.istore_n 3, 1) := by decide +kernel
theorem dX5_add_24 : decode cX5_add 24 = .ok (.aload_n 0, 1) := by decide +kernel
theorem dX5_add_25 : decode cX5_add 25 = .ok (.getfield 11, 3) := by decide +kernel
theorem dX5_add_28 : decode cX5_add 28 = .ok (.iload_n 3, 1) := by decide +kernel
theorem dX5_add_29 : decode cX5_add 29 = .ok (.aload_n 1, 1) := by decide +kernel
theorem dX5_add_30 : decode cX5_add 30 = .ok (.iconst 0, 1) := by decide +kernel
theorem dX5_add_31 : decode cX5_add 31 = .ok (.invokevirtual 26, 3) := by decide +kernel
theorem dX5_add_34 : decode cX5_add 34 = .ok (.lastore, 1) := by decide +kernel
theorem dX5_add_35 : decode cX5_add 35 = .ok (.aload_n 0, 1) := by decide +kernel
theorem dX5_add_36 : decode cX5_add 36 = .ok (.getfield 11, 3) := by decide +kernel
theorem dX5_add_39 : decode cX5_add 39 = .ok (.iload_n 3, 1) := by decide +kernel
theorem dX5_add_40 : decode cX5_add 40 = .ok (.iconst 1, 1) := by decide +kernel
theorem dX5_add_41 : decode cX5_add 41 = .ok (.iadd, 1) := by decide +kernel
theorem dX5_add_42 : decode cX5_add 42 = .ok (.aload_n 1, 1) := by decide +kernel
theorem dX5_add_43 : decode cX5_add 43 = .ok (.bipush 20, 2) := by decide +kernel
theorem dX5_add_45 : decode cX5_add 45 = .ok (.invokevirtual 26, 3) := by decide +kernel
theorem dX5_add_48 : decode cX5_add 48 = .ok (.lastore, 1) := by decide +kernel
theorem dX5_add_49 : decode cX5_add 49 = .ok (.aload_n 0, 1) := by decide +kernel
theorem dX5_add_50 : decode cX5_add 50 = .ok (.getfield 11, 3) := by decide +kernel
theorem dX5_add_53 : decode cX5_add 53 = .ok (.iload_n 3, 1) := by decide +kernel
theorem dX5_add_54 : decode cX5_add 54 = .ok (.iconst 2, 1) := by decide +kernel
theorem dX5_add_55 : decode cX5_add 55 = .ok (.iadd, 1) := by decide +kernel
theorem dX5_add_56 : decode cX5_add 56 = .ok (.aload_n 2, 1) := by decide +kernel
theorem dX5_add_57 : decode cX5_add 57 = .ok (.iconst 0, 1) := by decide +kernel
theorem dX5_add_58 : decode cX5_add 58 = .ok (.invokevirtual 26, 3) := by decide +kernel
theorem dX5_add_61 : decode cX5_add 61 = .ok (.lastore, 1) := by decide +kernel
theorem dX5_add_62 : decode cX5_add 62 = .ok (.aload_n 0, 1) := by decide +kernel
theorem dX5_add_63 : decode cX5_add 63 = .ok (.getfield 11, 3) := by decide +kernel
theorem dX5_add_66 : decode cX5_add 66 = .ok (.iload_n 3, 1) := by decide +kernel
theorem dX5_add_67 : decode cX5_add 67 = .ok (.iconst 3, 1) := by decide +kernel
theorem dX5_add_68 : decode cX5_add 68 = .ok (.iadd, 1) := by decide +kernel
theorem dX5_add_69 : decode cX5_add 69 = .ok (.aload_n 2, 1) := by decide +kernel
theorem dX5_add_70 : decode cX5_add 70 = .ok (.bipush 20, 2) := by decide +kernel
theorem dX5_add_72 : decode cX5_add 72 = .ok (.invokevirtual 26, 3) := by decide +kernel
theorem dX5_add_75 : decode cX5_add 75 = .ok (.lastore, 1) := by decide +kernel
theorem dX5_add_76 : decode cX5_add 76 = .ok (.aload_n 0, 1) := by decide +kernel
theorem dX5_add_77 : decode cX5_add 77 = .ok (.dup, 1) := by decide +kernel
theorem dX5_add_78 : decode cX5_add 78 = .ok (.getfield 19, 3) := by decide +kernel
theorem dX5_add_81 : decode cX5_add 81 = .ok (.iconst 1, 1) := by decide +kernel
theorem dX5_add_82 : decode cX5_add 82 = .ok (.iadd, 1) := by decide +kernel
theorem dX5_add_83 : decode cX5_add 83 = .ok (.putfield 19, 3) := by decide +kernel
theorem dX5_add_86 : decode cX5_add 86 = .ok (.return_, 1) := by decide +kernel
set_option maxHeartbeats 4000000 in
set_option maxRecDepth 100000 in
theorem ggX5_take_X6_clear : GoodIn wsX5_take wsX6_clear := goodIn_r _ [8, 9, 23, 24] (by first | rfl | decide +kernel) (by decide +kernel)
set_option maxRecDepth 20000 in
theorem gX5_take_X6_clear : GoodIn wsX5_take (wsV RX5 32 RX6 yX6_clear wsX6_clear) := goodIn_app (goodIn_of _ (by decide +kernel)) ggX5_take_X6_clear
set_option maxHeartbeats 4000000 in
set_option maxRecDepth 100000 in
theorem ggX5_take_X6_pushPacked : GoodIn wsX5_take wsX6_pushPacked := goodIn_r _ [13, 14, 15, 16, 17, 7, 18, 9, 19, 23, 24] (by first | rfl | decide +kernel) (by decide +kernel)
set_option maxRecDepth 20000 in
theorem gX5_take_X6_pushPacked : GoodIn wsX5_take (wsV RX5 35 RX6 yX6_pushPacked wsX6_pushPacked) := goodIn_app (goodIn_of _ (by decide +kernel)) ggX5_take_X6_pushPacked
theorem dX5_take_0 : decode cX5_take 0 = .ok (.aload_n 1, 1) := by decide +kernel
theorem dX5_take_1 : decode cX5_take 1 = .ok (.invokevirtual 32, 3) := by decide +kernel
theorem dX5_take_4 : decode cX5_take 4 = .ok (.aload_n 2, 1) := by decide +kernel
theorem dX5_take_5 : decode cX5_take 5 = .ok (.invokevirtual 32, 3) := by decide +kernel
theorem dX5_take_8 : decode cX5_take 8 = .ok (.aload_n 0, 1) := by decide +kernel
theorem dX5_take_9 : decode cX5_take 9 = .ok (.getfield 19, 3) := by decide +kernel
theorem dX5_take_12 : decode cX5_take 12 = .ok (.ifCond .le 80, 3) := by decide +kernel
theorem dX5_take_15 : decode cX5_take 15 = .ok (.aload_n 0, 1) := by decide +kernel
theorem dX5_take_16 : decode cX5_take 16 = .ok (.getfield 15, 3) := by decide +kernel
theorem dX5_take_19 : decode cX5_take 19 = .ok (.iconst 4, 1) := by decide +kernel
theorem dX5_take_20 : decode cX5_take 20 = .ok (.imul, 1) := by decide +kernel
theorem dX5_take_21 : decode cX5_take 21 = .ok (.istore_n 3, 1) := by decide +kernel
theorem dX5_take_22 : decode cX5_take 22 = .ok (.aload_n 1, 1) := by decide +kernel
theorem dX5_take_23 : decode cX5_take 23 = .ok (.aload_n 0, 1) := by decide +kernel
theorem dX5_take_24 : decode cX5_take 24 = .ok (.getfield 11, 3) := by decide +kernel
theorem dX5_take_27 : decode cX5_take 27 = .ok (.iload_n 3, 1) := by decide +kernel
theorem dX5_take_28 : decode cX5_take 28 = .ok (.laload, 1) := by decide +kernel
theorem dX5_take_29 : decode cX5_take 29 = .ok (.invokevirtual 35, 3) := by decide +kernel
theorem dX5_take_32 : decode cX5_take 32 = .ok (.aload_n 1, 1) := by decide +kernel
theorem dX5_take_33 : decode cX5_take 33 = .ok (.aload_n 0, 1) := by decide +kernel
theorem dX5_take_34 : decode cX5_take 34 = .ok (.getfield 11, 3) := by decide +kernel
theorem dX5_take_37 : decode cX5_take 37 = .ok (.iload_n 3, 1) := by decide +kernel
theorem dX5_take_38 : decode cX5_take 38 = .ok (.iconst 1, 1) := by decide +kernel
theorem dX5_take_39 : decode cX5_take 39 = .ok (.iadd, 1) := by decide +kernel
theorem dX5_take_40 : decode cX5_take 40 = .ok (.laload, 1) := by decide +kernel
theorem dX5_take_41 : decode cX5_take 41 = .ok (.invokevirtual 35, 3) := by decide +kernel
theorem dX5_take_44 : decode cX5_take 44 = .ok (.aload_n 2, 1) := by decide +kernel
theorem dX5_take_45 : decode cX5_take 45 = .ok (.aload_n 0, 1) := by decide +kernel
theorem dX5_take_46 : decode cX5_take 46 = .ok (.getfield 11, 3) := by decide +kernel
theorem dX5_take_49 : decode cX5_take 49 = .ok (.iload_n 3, 1) := by decide +kernel
theorem dX5_take_50 : decode cX5_take 50 = .ok (.iconst 2, 1) := by decide +kernel
theorem dX5_take_51 : decode cX5_take 51 = .ok (.iadd, 1) := by decide +kernel
theorem dX5_take_52 : decode cX5_take 52 = .ok (.laload, 1) := by decide +kernel
theorem dX5_take_53 : decode cX5_take 53 = .ok (.invokevirtual 35, 3) := by decide +kernel
theorem dX5_take_56 : decode cX5_take 56 = .ok (.aload_n 2, 1) := by decide +kernel
theorem dX5_take_57 : decode cX5_take 57 = .ok (.aload_n 0, 1) := by decide +kernel
theorem dX5_take_58 : decode cX5_take 58 = .ok (.getfield 11, 3) := by decide +kernel
theorem dX5_take_61 : decode cX5_take 61 = .ok (.iload_n 3, 1) := by decide +kernel
theorem dX5_take_62 : decode cX5_take 62 = .ok (.iconst 3, 1) := by decide +kernel
theorem dX5_take_63 : decode cX5_take 63 = .ok (.iadd, 1) := by decide +kernel
theorem dX5_take_64 : decode cX5_take 64 = .ok (.laload, 1) := by decide +kernel
theorem dX5_take_65 : decode cX5_take 65 = .ok (.invokevirtual 35, 3) := by decide +kernel
theorem dX5_take_68 : decode cX5_take 68 = .ok (.aload_n 0, 1) := by decide +kernel
theorem dX5_take_69 : decode cX5_take 69 = .ok (.aload_n 0, 1) := by decide +kernel
theorem dX5_take_70 : decode cX5_take 70 = .ok (.getfield 15, 3) := by decide +kernel
theorem dX5_take_73 : decode cX5_take 73 = .ok (.iconst 1, 1) := by decide +kernel
theorem dX5_take_74 : decode cX5_take 74 = .ok (.iadd, 1) := by decide +kernel
theorem dX5_take_75 : decode cX5_take 75 = .ok (.sipush 1000, 3) := by decide +kernel
theorem dX5_take_78 : decode cX5_take 78 = .ok (.irem, 1) := by decide +kernel
theorem dX5_take_79 : decode cX5_take 79 = .ok (.putfield 15, 3) := by decide +kernel
theorem dX5_take_82 : decode cX5_take 82 = .ok (.aload_n 0, 1) := by decide +kernel
theorem dX5_take_83 : decode cX5_take 83 = .ok (.dup, 1) := by decide +kernel
theorem dX5_take_84 : decode cX5_take 84 = .ok (.getfield 19, 3) := by decide +kernel
theorem dX5_take_87 : decode cX5_take 87 = .ok (.iconst 1, 1) := by decide +kernel
theorem dX5_take_88 : decode cX5_take 88 = .ok (.isub, 1) := by decide +kernel
theorem dX5_take_89 : decode cX5_take 89 = .ok (.putfield 19, 3) := by decide +kernel
theorem dX5_take_92 : decode cX5_take 92 = .ok (.return_, 1) := by decide +kernel
