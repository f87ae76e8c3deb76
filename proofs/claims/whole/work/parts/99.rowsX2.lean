theorem dX2_init_0 : decode cX2_init 0 = .ok (.aload_n 0, 1) := by decide +kernel
theorem dX2_init_1 : decode cX2_init 1 = .ok (.invokespecial 5, 3) := by decide +kernel
theorem dX2_init_4 : decode cX2_init 4 = .ok (.aload_n 0, 1) := by decide +kernel
theorem dX2_init_5 : decode cX2_init 5 = .ok (.sipush 1024, 3) := by decide +kernel
theorem dX2_init_8 : decode cX2_init 8 = .ok (.newarray .int, 2) := by decide +kernel
theorem dX2_init_10 : decode cX2_init 10 = .ok (.putfield 11, 3) := by decide +kernel
theorem dX2_init_13 : decode cX2_init 13 = .ok (.aload_n 0, 1) := by decide +kernel
theorem dX2_init_14 : decode cX2_init 14 = .ok (.sipush 1024, 3) := by decide +kernel
theorem dX2_init_17 : decode cX2_init 17 = .ok (.newarray .long, 2) := by decide +kernel
theorem dX2_init_19 : decode cX2_init 19 = .ok (.putfield 15, 3) := by decide +kernel
theorem dX2_init_22 : decode cX2_init 22 = .ok (.aload_n 0, 1) := by decide +kernel
theorem dX2_init_23 : decode cX2_init 23 = .ok (.sipush 1024, 3) := by decide +kernel
theorem dX2_init_26 : decode cX2_init 26 = .ok (.newarray .long, 2) := by decide +kernel
theorem dX2_init_28 : decode cX2_init 28 = .ok (.putfield 19, 3) := by decide +kernel
theorem dX2_init_31 : decode cX2_init 31 = .ok (.aload_n 0, 1) := by decide +kernel
theorem dX2_init_32 : decode cX2_init 32 = .ok (.sipush 1024, 3) := by decide +kernel
theorem dX2_init_35 : decode cX2_init 35 = .ok (.newarray .int, 2) := by decide +kernel
theorem dX2_init_37 : decode cX2_init 37 = .ok (.putfield 22, 3) := by decide +kernel
theorem dX2_init_40 : decode cX2_init 40 = .ok (.aload_n 0, 1) := by decide +kernel
theorem dX2_init_41 : decode cX2_init 41 = .ok (.sipush 1024, 3) := by decide +kernel
theorem dX2_init_44 : decode cX2_init 44 = .ok (.newarray .long, 2) := by decide +kernel
theorem dX2_init_46 : decode cX2_init 46 = .ok (.putfield 25, 3) := by decide +kernel
theorem dX2_init_49 : decode cX2_init 49 = .ok (.aload_n 0, 1) := by decide +kernel
theorem dX2_init_50 : decode cX2_init 50 = .ok (.sipush 1024, 3) := by decide +kernel
theorem dX2_init_53 : decode cX2_init 53 = .ok (.newarray .long, 2) := by decide +kernel
theorem dX2_init_55 : decode cX2_init 55 = .ok (.putfield 28, 3) := by decide +kernel
theorem dX2_init_58 : decode cX2_init 58 = .ok (.aload_n 0, 1) := by decide +kernel
theorem dX2_init_59 : decode cX2_init 59 = .ok (.sipush 1024, 3) := by decide +kernel
theorem dX2_init_62 : decode cX2_init 62 = .ok (.newarray .long, 2) := by decide +kernel
theorem dX2_init_64 : decode cX2_init 64 = .ok (.putfield 31, 3) := by decide +kernel
theorem dX2_init_67 : decode cX2_init 67 = .ok (.aload_n 0, 1) := by decide +kernel
theorem dX2_init_68 : decode cX2_init 68 = .ok (.lconst 1, 1) := by decide +kernel
theorem dX2_init_69 : decode cX2_init 69 = .ok (.putfield 34, 3) := by decide +kernel
theorem dX2_init_72 : decode cX2_init 72 = .ok (.return_, 1) := by decide +kernel
theorem dX2_forget_0 : decode cX2_forget 0 = .ok (.aload_n 0, 1) := by decide +kernel
theorem dX2_forget_1 : decode cX2_forget 1 = .ok (.dup, 1) := by decide +kernel
theorem dX2_forget_2 : decode cX2_forget 2 = .ok (.getfield 34, 3) := by decide +kernel
theorem dX2_forget_5 : decode cX2_forget 5 = .ok (.lconst 1, 1) := by decide +kernel
theorem dX2_forget_6 : decode cX2_forget 6 = .ok (.ladd, 1) := by decide +kernel
theorem dX2_forget_7 : decode cX2_forget 7 = .ok (.putfield 34, 3) := by decide +kernel
theorem dX2_forget_10 : decode cX2_forget 10 = .ok (.return_, 1) := by decide +kernel
set_option maxHeartbeats 4000000 in
set_option maxRecDepth 100000 in
theorem ggX2_placeOf_X2_home : GoodIn wsX2_placeOf wsX2_home := goodIn_r _ [10, 11] (by first | rfl | decide +kernel) (by decide +kernel)
set_option maxRecDepth 20000 in
theorem gX2_placeOf_X2_home : GoodIn wsX2_placeOf (wsV RX2 38 RX2 yX2_home wsX2_home) := goodIn_app (goodIn_of _ (by decide +kernel)) ggX2_placeOf_X2_home
theorem dX2_placeOf_0 : decode cX2_placeOf 0 = .ok (.aload_n 0, 1) := by decide +kernel
theorem dX2_placeOf_1 : decode cX2_placeOf 1 = .ok (.iload_n 1, 1) := by decide +kernel
theorem dX2_placeOf_2 : decode cX2_placeOf 2 = .ok (.lload_n 2, 1) := by decide +kernel
theorem dX2_placeOf_3 : decode cX2_placeOf 3 = .ok (.lload 4, 2) := by decide +kernel
theorem dX2_placeOf_5 : decode cX2_placeOf 5 = .ok (.invokevirtual 38, 3) := by decide +kernel
theorem dX2_placeOf_8 : decode cX2_placeOf 8 = .ok (.istore 6, 2) := by decide +kernel
theorem dX2_placeOf_10 : decode cX2_placeOf 10 = .ok (.iconst 0, 1) := by decide +kernel
theorem dX2_placeOf_11 : decode cX2_placeOf 11 = .ok (.istore 7, 2) := by decide +kernel
theorem dX2_placeOf_13 : decode cX2_placeOf 13 = .ok (.iload 7, 2) := by decide +kernel
theorem dX2_placeOf_15 : decode cX2_placeOf 15 = .ok (.bipush 8, 2) := by decide +kernel
theorem dX2_placeOf_17 : decode cX2_placeOf 17 = .ok (.if_icmp .ge 74, 3) := by decide +kernel
theorem dX2_placeOf_20 : decode cX2_placeOf 20 = .ok (.iload 6, 2) := by decide +kernel
theorem dX2_placeOf_22 : decode cX2_placeOf 22 = .ok (.iload 7, 2) := by decide +kernel
theorem dX2_placeOf_24 : decode cX2_placeOf 24 = .ok (.iadd, 1) := by decide +kernel
theorem dX2_placeOf_25 : decode cX2_placeOf 25 = .ok (.sipush 1024, 3) := by decide +kernel
theorem dX2_placeOf_28 : decode cX2_placeOf 28 = .ok (.irem, 1) := by decide +kernel
theorem dX2_placeOf_29 : decode cX2_placeOf 29 = .ok (.istore 8, 2) := by decide +kernel
theorem dX2_placeOf_31 : decode cX2_placeOf 31 = .ok (.aload_n 0, 1) := by decide +kernel
theorem dX2_placeOf_32 : decode cX2_placeOf 32 = .ok (.getfield 31, 3) := by decide +kernel
theorem dX2_placeOf_35 : decode cX2_placeOf 35 = .ok (.iload 8, 2) := by decide +kernel
theorem dX2_placeOf_37 : decode cX2_placeOf 37 = .ok (.laload, 1) := by decide +kernel
theorem dX2_placeOf_38 : decode cX2_placeOf 38 = .ok (.aload_n 0, 1) := by decide +kernel
theorem dX2_placeOf_39 : decode cX2_placeOf 39 = .ok (.getfield 34, 3) := by decide +kernel
theorem dX2_placeOf_42 : decode cX2_placeOf 42 = .ok (.lcmp, 1) := by decide +kernel
theorem dX2_placeOf_43 : decode cX2_placeOf 43 = .ok (.ifCond .ne 42, 3) := by decide +kernel
theorem dX2_placeOf_46 : decode cX2_placeOf 46 = .ok (.aload_n 0, 1) := by decide +kernel
theorem dX2_placeOf_47 : decode cX2_placeOf 47 = .ok (.getfield 11, 3) := by decide +kernel
theorem dX2_placeOf_50 : decode cX2_placeOf 50 = .ok (.iload 8, 2) := by decide +kernel
theorem dX2_placeOf_52 : decode cX2_placeOf 52 = .ok (.iaload, 1) := by decide +kernel
theorem dX2_placeOf_53 : decode cX2_placeOf 53 = .ok (.iload_n 1, 1) := by decide +kernel
theorem dX2_placeOf_54 : decode cX2_placeOf 54 = .ok (.if_icmp .ne 31, 3) := by decide +kernel
theorem dX2_placeOf_57 : decode cX2_placeOf 57 = .ok (.aload_n 0, 1) := by decide +kernel
theorem dX2_placeOf_58 : decode cX2_placeOf 58 = .ok (.getfield 15, 3) := by decide +kernel
theorem dX2_placeOf_61 : decode cX2_placeOf 61 = .ok (.iload 8, 2) := by decide +kernel
theorem dX2_placeOf_63 : decode cX2_placeOf 63 = .ok (.laload, 1) := by decide +kernel
theorem dX2_placeOf_64 : decode cX2_placeOf 64 = .ok (.lload_n 2, 1) := by decide +kernel
theorem dX2_placeOf_65 : decode cX2_placeOf 65 = .ok (.lcmp, 1) := by decide +kernel
theorem dX2_placeOf_66 : decode cX2_placeOf 66 = .ok (.ifCond .ne 19, 3) := by decide +kernel
theorem dX2_placeOf_69 : decode cX2_placeOf 69 = .ok (.aload_n 0, 1) := by decide +kernel
theorem dX2_placeOf_70 : decode cX2_placeOf 70 = .ok (.getfield 19, 3) := by decide +kernel
theorem dX2_placeOf_73 : decode cX2_placeOf 73 = .ok (.iload 8, 2) := by decide +kernel
theorem dX2_placeOf_75 : decode cX2_placeOf 75 = .ok (.laload, 1) := by decide +kernel
theorem dX2_placeOf_76 : decode cX2_placeOf 76 = .ok (.lload 4, 2) := by decide +kernel
theorem dX2_placeOf_78 : decode cX2_placeOf 78 = .ok (.lcmp, 1) := by decide +kernel
theorem dX2_placeOf_79 : decode cX2_placeOf 79 = .ok (.ifCond .ne 6, 3) := by decide +kernel
theorem dX2_placeOf_82 : decode cX2_placeOf 82 = .ok (.iload 8, 2) := by decide +kernel
theorem dX2_placeOf_84 : decode cX2_placeOf 84 = .ok (.ireturn, 1) := by decide +kernel
theorem dX2_placeOf_85 : decode cX2_placeOf 85 = .ok (.iinc 7 1, 3) := by decide +kernel
theorem dX2_placeOf_88 : decode cX2_placeOf 88 = .ok (.goto (-75), 3) := by decide +kernel
theorem dX2_placeOf_91 : decode cX2_placeOf 91 = .ok (.iconst (-1), 1) := by decide +kernel
theorem dX2_placeOf_92 : decode cX2_placeOf 92 = .ok (.ireturn, 1) := by decide +kernel
set_option maxHeartbeats 4000000 in
set_option maxRecDepth 100000 in
theorem ggX2_add_X2_placeOf : GoodIn wsX2_add wsX2_placeOf := goodIn_r _ [13, 1, 2, 3, 4, 5, 14, 15, 16, 12, 17, 18, 24, 25, 26, 27, 28, 29, 30, 31, 32] (by first | rfl | decide +kernel) (by decide +kernel)
set_option maxRecDepth 20000 in
theorem gX2_add_X2_placeOf : GoodIn wsX2_add (wsV RX2 42 RX2 yX2_placeOf wsX2_placeOf) := goodIn_app (goodIn_of _ (by decide +kernel)) ggX2_add_X2_placeOf
set_option maxHeartbeats 4000000 in
set_option maxRecDepth 100000 in
theorem ggX2_add_X2_home : GoodIn wsX2_add wsX2_home := goodIn_r _ [17, 18] (by first | rfl | decide +kernel) (by decide +kernel)
set_option maxRecDepth 20000 in
theorem gX2_add_X2_home : GoodIn wsX2_add (wsV RX2 38 RX2 yX2_home wsX2_home) := goodIn_app (goodIn_of _ (by decide +kernel)) ggX2_add_X2_home
set_option maxHeartbeats 4000000 in
set_option maxRecDepth 100000 in
theorem ggX2_add_X2_roomNear : GoodIn wsX2_add wsX2_roomNear := goodIn_r _ [22, 1, 2, 23, 24, 25, 26, 27, 28, 29, 30, 31, 32] (by first | rfl | decide +kernel) (by decide +kernel)
set_option maxRecDepth 20000 in
theorem gX2_add_X2_roomNear : GoodIn wsX2_add (wsV RX2 45 RX2 yX2_roomNear wsX2_roomNear) := goodIn_app (goodIn_of _ (by decide +kernel)) ggX2_add_X2_roomNear
theorem dX2_add_0 : decode cX2_add 0 = .ok (.aload_n 0, 1) := by decide +kernel
theorem dX2_add_1 : decode cX2_add 1 = .ok (.iload_n 1, 1) := by decide +kernel
theorem dX2_add_2 : decode cX2_add 2 = .ok (.lload_n 2, 1) := by decide +kernel
theorem dX2_add_3 : decode cX2_add 3 = .ok (.lload 4, 2) := by decide +kernel
theorem dX2_add_5 : decode cX2_add 5 = .ok (.invokevirtual 42, 3) := by decide +kernel
theorem dX2_add_8 : decode cX2_add 8 = .ok (.iconst (-1), 1) := by decide +kernel
theorem dX2_add_9 : decode cX2_add 9 = .ok (.if_icmp .ne 80, 3) := by decide +kernel
theorem dX2_add_12 : decode cX2_add 12 = .ok (.aload_n 0, 1) := by decide +kernel
theorem dX2_add_13 : decode cX2_add 13 = .ok (.aload_n 0, 1) := by decide +kernel
theorem dX2_add_14 : decode cX2_add 14 = .ok (.iload_n 1, 1) := by decide +kernel
theorem dX2_add_15 : decode cX2_add 15 = .ok (.lload_n 2, 1) := by decide +kernel
theorem dX2_add_16 : decode cX2_add 16 = .ok (.lload 4, 2) := by decide +kernel
theorem dX2_add_18 : decode cX2_add 18 = .ok (.invokevirtual 38, 3) := by decide +kernel
theorem dX2_add_21 : decode cX2_add 21 = .ok (.invokevirtual 45, 3) := by decide +kernel
theorem dX2_add_24 : decode cX2_add 24 = .ok (.istore 11, 2) := by decide +kernel
theorem dX2_add_26 : decode cX2_add 26 = .ok (.aload_n 0, 1) := by decide +kernel
theorem dX2_add_27 : decode cX2_add 27 = .ok (.getfield 31, 3) := by decide +kernel
theorem dX2_add_30 : decode cX2_add 30 = .ok (.iload 11, 2) := by decide +kernel
theorem dX2_add_32 : decode cX2_add 32 = .ok (.aload_n 0, 1) := by decide +kernel
theorem dX2_add_33 : decode cX2_add 33 = .ok (.getfield 34, 3) := by decide +kernel
theorem dX2_add_36 : decode cX2_add 36 = .ok (.lastore, 1) := by decide +kernel
theorem dX2_add_37 : decode cX2_add 37 = .ok (.aload_n 0, 1) := by decide +kernel
theorem dX2_add_38 : decode cX2_add 38 = .ok (.getfield 11, 3) := by decide +kernel
theorem dX2_add_41 : decode cX2_add 41 = .ok (.iload 11, 2) := by decide +kernel
theorem dX2_add_43 : decode cX2_add 43 = .ok (.iload_n 1, 1) := by decide +kernel
theorem dX2_add_44 : decode cX2_add 44 = .ok (.iastore, 1) := by decide +kernel
theorem dX2_add_45 : decode cX2_add 45 = .ok (.aload_n 0, 1) := by decide +kernel
theorem dX2_add_46 : decode cX2_add 46 = .ok (.getfield 15, 3) := by decide +kernel
theorem dX2_add_49 : decode cX2_add 49 = .ok (.iload 11, 2) := by decide +kernel
theorem dX2_add_51 : decode cX2_add 51 = .ok (.lload_n 2, 1) := by decide +kernel
theorem dX2_add_52 : decode cX2_add 52 = .ok (.lastore, 1) := by decide +kernel
theorem dX2_add_53 : decode cX2_add 53 = .ok (.aload_n 0, 1) := by decide +kernel
theorem dX2_add_54 : decode cX2_add 54 = .ok (.getfield 19, 3) := by decide +kernel
theorem dX2_add_57 : decode cX2_add 57 = .ok (.iload 11, 2) := by decide +kernel
theorem dX2_add_59 : decode cX2_add 59 = .ok (.lload 4, 2) := by decide +kernel
theorem dX2_add_61 : decode cX2_add 61 = .ok (.lastore, 1) := by decide +kernel
theorem dX2_add_62 : decode cX2_add 62 = .ok (.aload_n 0, 1) := by decide +kernel
theorem dX2_add_63 : decode cX2_add 63 = .ok (.getfield 22, 3) := by decide +kernel
theorem dX2_add_66 : decode cX2_add 66 = .ok (.iload 11, 2) := by decide +kernel
theorem dX2_add_68 : decode cX2_add 68 = .ok (.iload 6, 2) := by decide +kernel
theorem dX2_add_70 : decode cX2_add 70 = .ok (.iastore, 1) := by decide +kernel
theorem dX2_add_71 : decode cX2_add 71 = .ok (.aload_n 0, 1) := by decide +kernel
theorem dX2_add_72 : decode cX2_add 72 = .ok (.getfield 25, 3) := by decide +kernel
theorem dX2_add_75 : decode cX2_add 75 = .ok (.iload 11, 2) := by decide +kernel
theorem dX2_add_77 : decode cX2_add 77 = .ok (.lload 7, 2) := by decide +kernel
theorem dX2_add_79 : decode cX2_add 79 = .ok (.lastore, 1) := by decide +kernel
theorem dX2_add_80 : decode cX2_add 80 = .ok (.aload_n 0, 1) := by decide +kernel
theorem dX2_add_81 : decode cX2_add 81 = .ok (.getfield 28, 3) := by decide +kernel
theorem dX2_add_84 : decode cX2_add 84 = .ok (.iload 11, 2) := by decide +kernel
theorem dX2_add_86 : decode cX2_add 86 = .ok (.lload 9, 2) := by decide +kernel
theorem dX2_add_88 : decode cX2_add 88 = .ok (.lastore, 1) := by decide +kernel
theorem dX2_add_89 : decode cX2_add 89 = .ok (.return_, 1) := by decide +kernel
theorem dX2_home_0 : decode cX2_home 0 = .ok (.lload_n 2, 1) := by decide +kernel
theorem dX2_home_1 : decode cX2_home 1 = .ok (.ldc2_w 49, 3) := by decide +kernel
theorem dX2_home_4 : decode cX2_home 4 = .ok (.lmul, 1) := by decide +kernel
theorem dX2_home_5 : decode cX2_home 5 = .ok (.lload 4, 2) := by decide +kernel
theorem dX2_home_7 : decode cX2_home 7 = .ok (.lxor, 1) := by decide +kernel
theorem dX2_home_8 : decode cX2_home 8 = .ok (.ldc2_w 49, 3) := by decide +kernel
theorem dX2_home_11 : decode cX2_home 11 = .ok (.lmul, 1) := by decide +kernel
theorem dX2_home_12 : decode cX2_home 12 = .ok (.iload_n 1, 1) := by decide +kernel
theorem dX2_home_13 : decode cX2_home 13 = .ok (.i2l, 1) := by decide +kernel
theorem dX2_home_14 : decode cX2_home 14 = .ok (.lxor, 1) := by decide +kernel
theorem dX2_home_15 : decode cX2_home 15 = .ok (.ldc2_w 49, 3) := by decide +kernel
theorem dX2_home_18 : decode cX2_home 18 = .ok (.lmul, 1) := by decide +kernel
theorem dX2_home_19 : decode cX2_home 19 = .ok (.lstore 6, 2) := by decide +kernel
theorem dX2_home_21 : decode cX2_home 21 = .ok (.lload 6, 2) := by decide +kernel
theorem dX2_home_23 : decode cX2_home 23 = .ok (.bipush 54, 2) := by decide +kernel
theorem dX2_home_25 : decode cX2_home 25 = .ok (.lushr, 1) := by decide +kernel
theorem dX2_home_26 : decode cX2_home 26 = .ok (.l2i, 1) := by decide +kernel
theorem dX2_home_27 : decode cX2_home 27 = .ok (.ireturn, 1) := by decide +kernel
theorem dX2_roomNear_0 : decode cX2_roomNear 0 = .ok (.iconst 0, 1) := by decide +kernel
theorem dX2_roomNear_1 : decode cX2_roomNear 1 = .ok (.istore_n 2, 1) := by decide +kernel
theorem dX2_roomNear_2 : decode cX2_roomNear 2 = .ok (.iload_n 2, 1) := by decide +kernel
theorem dX2_roomNear_3 : decode cX2_roomNear 3 = .ok (.bipush 8, 2) := by decide +kernel
theorem dX2_roomNear_5 : decode cX2_roomNear 5 = .ok (.if_icmp .ge 33, 3) := by decide +kernel
theorem dX2_roomNear_8 : decode cX2_roomNear 8 = .ok (.iload_n 1, 1) := by decide +kernel
theorem dX2_roomNear_9 : decode cX2_roomNear 9 = .ok (.iload_n 2, 1) := by decide +kernel
theorem dX2_roomNear_10 : decode cX2_roomNear 10 = .ok (.iadd, 1) := by decide +kernel
theorem dX2_roomNear_11 : decode cX2_roomNear 11 = .ok (.sipush 1024, 3) := by decide +kernel
theorem dX2_roomNear_14 : decode cX2_roomNear 14 = .ok (.irem, 1) := by decide +kernel
theorem dX2_roomNear_15 : decode cX2_roomNear 15 = .ok (.istore_n 3, 1) := by decide +kernel
theorem dX2_roomNear_16 : decode cX2_roomNear 16 = .ok (.aload_n 0, 1) := by decide +kernel
theorem dX2_roomNear_17 : decode cX2_roomNear 17 = .ok (.getfield 31, 3) := by decide +kernel
theorem dX2_roomNear_20 : decode cX2_roomNear 20 = .ok (.iload_n 3, 1) := by decide +kernel
theorem dX2_roomNear_21 : decode cX2_roomNear 21 = .ok (.laload, 1) := by decide +kernel
theorem dX2_roomNear_22 : decode cX2_roomNear 22 = .ok (.aload_n 0, 1) := by decide +kernel
theorem dX2_roomNear_23 : decode cX2_roomNear 23 = .ok (.getfield 34, 3) := by decide +kernel
theorem dX2_roomNear_26 : decode cX2_roomNear 26 = .ok (.lcmp, 1) := by decide +kernel
theorem dX2_roomNear_27 : decode cX2_roomNear 27 = .ok (.ifCond .eq 5, 3) := by decide +kernel
theorem dX2_roomNear_30 : decode cX2_roomNear 30 = .ok (.iload_n 3, 1) := by decide +kernel
theorem dX2_roomNear_31 : decode cX2_roomNear 31 = .ok (.ireturn, 1) := by decide +kernel
theorem dX2_roomNear_32 : decode cX2_roomNear 32 = .ok (.iinc 2 1, 3) := by decide +kernel
theorem dX2_roomNear_35 : decode cX2_roomNear 35 = .ok (.goto (-33), 3) := by decide +kernel
theorem dX2_roomNear_38 : decode cX2_roomNear 38 = .ok (.aload_n 0, 1) := by decide +kernel
theorem dX2_roomNear_39 : decode cX2_roomNear 39 = .ok (.aload_n 0, 1) := by decide +kernel
theorem dX2_roomNear_40 : decode cX2_roomNear 40 = .ok (.getfield 51, 3) := by decide +kernel
theorem dX2_roomNear_43 : decode cX2_roomNear 43 = .ok (.iconst 1, 1) := by decide +kernel
theorem dX2_roomNear_44 : decode cX2_roomNear 44 = .ok (.iadd, 1) := by decide +kernel
theorem dX2_roomNear_45 : decode cX2_roomNear 45 = .ok (.bipush 8, 2) := by decide +kernel
theorem dX2_roomNear_47 : decode cX2_roomNear 47 = .ok (.irem, 1) := by decide +kernel
theorem dX2_roomNear_48 : decode cX2_roomNear 48 = .ok (.putfield 51, 3) := by decide +kernel
theorem dX2_roomNear_51 : decode cX2_roomNear 51 = .ok (.iload_n 1, 1) := by decide +kernel
theorem dX2_roomNear_52 : decode cX2_roomNear 52 = .ok (.aload_n 0, 1) := by decide +kernel
theorem dX2_roomNear_53 : decode cX2_roomNear 53 = .ok (.getfield 51, 3) := by decide +kernel
theorem dX2_roomNear_56 : decode cX2_roomNear 56 = .ok (.iadd, 1) := by decide +kernel
theorem dX2_roomNear_57 : decode cX2_roomNear 57 = .ok (.sipush 1024, 3) := by decide +kernel
theorem dX2_roomNear_60 : decode cX2_roomNear 60 = .ok (.irem, 1) := by decide +kernel
theorem dX2_roomNear_61 : decode cX2_roomNear 61 = .ok (.ireturn, 1) := by decide +kernel
