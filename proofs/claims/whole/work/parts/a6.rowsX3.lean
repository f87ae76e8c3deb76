set_option maxHeartbeats 4000000 in
set_option maxRecDepth 100000 in
theorem ggX3_init_X2_init : GoodIn wsX3_init wsX2_init := goodIn_r _ [16, 17, 2, 3, 8, 18, 10, 19, 20, 21, 22, 23, 24, 25, 26, 27, 28, 29, 30, 31, 32, 33, 34] (by first | rfl | decide +kernel) (by decide +kernel)
set_option maxRecDepth 20000 in
theorem gX3_init_X2_init_n13 : GoodIn wsX3_init (wsX2_init) := ggX3_init_X2_init
theorem dX3_init_0 : decode cX3_init 0 = .ok (.aload_n 0, 1) := by decide +kernel
theorem dX3_init_1 : decode cX3_init 1 = .ok (.invokespecial 5, 3) := by decide +kernel
theorem dX3_init_4 : decode cX3_init 4 = .ok (.aload_n 0, 1) := by decide +kernel
theorem dX3_init_5 : decode cX3_init 5 = .ok (.new 11, 3) := by decide +kernel
theorem dX3_init_8 : decode cX3_init 8 = .ok (.dup, 1) := by decide +kernel
theorem dX3_init_9 : decode cX3_init 9 = .ok (.invokespecial 13, 3) := by decide +kernel
theorem dX3_init_12 : decode cX3_init 12 = .ok (.putfield 14, 3) := by decide +kernel
theorem dX3_init_15 : decode cX3_init 15 = .ok (.aload_n 0, 1) := by decide +kernel
theorem dX3_init_16 : decode cX3_init 16 = .ok (.bipush 41, 2) := by decide +kernel
theorem dX3_init_18 : decode cX3_init 18 = .ok (.newarray .int, 2) := by decide +kernel
theorem dX3_init_20 : decode cX3_init 20 = .ok (.putfield 20, 3) := by decide +kernel
theorem dX3_init_23 : decode cX3_init 23 = .ok (.aload_n 0, 1) := by decide +kernel
theorem dX3_init_24 : decode cX3_init 24 = .ok (.bipush 41, 2) := by decide +kernel
theorem dX3_init_26 : decode cX3_init 26 = .ok (.newarray .long, 2) := by decide +kernel
theorem dX3_init_28 : decode cX3_init 28 = .ok (.putfield 24, 3) := by decide +kernel
theorem dX3_init_31 : decode cX3_init 31 = .ok (.aload_n 0, 1) := by decide +kernel
theorem dX3_init_32 : decode cX3_init 32 = .ok (.bipush 41, 2) := by decide +kernel
theorem dX3_init_34 : decode cX3_init 34 = .ok (.newarray .long, 2) := by decide +kernel
theorem dX3_init_36 : decode cX3_init 36 = .ok (.putfield 28, 3) := by decide +kernel
theorem dX3_init_39 : decode cX3_init 39 = .ok (.aload_n 0, 1) := by decide +kernel
theorem dX3_init_40 : decode cX3_init 40 = .ok (.aload_n 1, 1) := by decide +kernel
theorem dX3_init_41 : decode cX3_init 41 = .ok (.putfield 31, 3) := by decide +kernel
theorem dX3_init_44 : decode cX3_init 44 = .ok (.aload_n 0, 1) := by decide +kernel
theorem dX3_init_45 : decode cX3_init 45 = .ok (.aload_n 2, 1) := by decide +kernel
theorem dX3_init_46 : decode cX3_init 46 = .ok (.putfield 35, 3) := by decide +kernel
theorem dX3_init_49 : decode cX3_init 49 = .ok (.return_, 1) := by decide +kernel
set_option maxHeartbeats 4000000 in
set_option maxRecDepth 100000 in
theorem ggX3_lessen_X1_keepUp : GoodIn wsX3_lessen wsX1_keepUp := goodIn_r _ [11, 12, 13, 14, 15, 16, 17, 18, 19, 20, 21, 22, 23, 24, 25, 26, 27, 28, 10, 29, 30, 31, 32, 33, 34, 35, 36, 37, 38, 39, 40, 41, 42, 43, 44, 45, 46, 47, 48, 49, 50, 51, 52, 53, 54, 55, 56, 57, 58, 59, 60, 61, 152, 153, 154, 155, 156, 157, 158, 159, 160, 161, 162, 163, 164, 165, 166, 167, 168] (by first | rfl | decide +kernel) (by decide +kernel)
set_option maxRecDepth 20000 in
theorem gX3_lessen_X1_keepUp : GoodIn wsX3_lessen (wsV RX3 39 RX1 yX1_keepUp wsX1_keepUp) := goodIn_app (goodIn_of _ (by decide +kernel)) ggX3_lessen_X1_keepUp
set_option maxHeartbeats 4000000 in
set_option maxRecDepth 100000 in
theorem ggX3_lessen_X6_packed : GoodIn wsX3_lessen wsX6_packed := goodIn_r _ [66, 67, 68, 163, 164] (by first | rfl | decide +kernel) (by decide +kernel)
set_option maxRecDepth 20000 in
theorem gX3_lessen_X6_packed : GoodIn wsX3_lessen (wsV RX3 44 RX6 yX6_packed wsX6_packed) := goodIn_app (goodIn_of _ (by decide +kernel)) ggX3_lessen_X6_packed
set_option maxHeartbeats 4000000 in
set_option maxRecDepth 100000 in
theorem ggX3_lessen_X6_clear : GoodIn wsX3_lessen wsX6_clear := goodIn_r _ [72, 67, 163, 164] (by first | rfl | decide +kernel) (by decide +kernel)
set_option maxRecDepth 20000 in
theorem gX3_lessen_X6_clear : GoodIn wsX3_lessen (wsV RX3 55 RX6 yX6_clear wsX6_clear) := goodIn_app (goodIn_of _ (by decide +kernel)) ggX3_lessen_X6_clear
set_option maxHeartbeats 4000000 in
set_option maxRecDepth 100000 in
theorem ggX3_lessen_X3_read : GoodIn wsX3_lessen wsX3_read := goodIn_r _ [77, 1, 4, 78, 79, 80, 2, 81, 3, 82, 83, 84, 85, 86, 87, 76, 88, 89, 90, 55, 56, 10, 57, 30, 91, 92, 93, 65, 94, 67, 68, 95, 96, 97, 98, 99, 100, 144, 145, 146, 147, 148, 149, 150, 151, 163, 164, 152, 153, 154, 155, 156, 157, 158, 159, 160, 161, 162] (by first | rfl | decide +kernel) (by decide +kernel)
set_option maxRecDepth 20000 in
theorem gX3_lessen_X3_read : GoodIn wsX3_lessen (wsV RX3 58 RX3 yX3_read wsX3_read) := goodIn_app (goodIn_of _ (by decide +kernel)) ggX3_lessen_X3_read
set_option maxHeartbeats 4000000 in
set_option maxRecDepth 100000 in
theorem ggX3_lessen_X2_forget : GoodIn wsX3_lessen wsX2_forget := goodIn_r _ [105, 106, 169, 170, 171, 172, 173, 174, 175, 176, 177] (by first | rfl | decide +kernel) (by decide +kernel)
set_option maxRecDepth 20000 in
theorem gX3_lessen_X2_forget : GoodIn wsX3_lessen (wsV RX3 62 RX2 yX2_forget wsX2_forget) := goodIn_app (goodIn_of _ (by decide +kernel)) ggX3_lessen_X2_forget
set_option maxHeartbeats 4000000 in
set_option maxRecDepth 100000 in
theorem ggX3_lessen_X3_readAndRemember : GoodIn wsX3_lessen wsX3_readAndRemember := goodIn_r _ [110, 78, 5, 4, 80, 81, 2, 3, 73, 74, 75, 76, 77, 1, 79, 82, 83, 84, 85, 86, 87, 88, 89, 90, 55, 56, 10, 57, 30, 91, 92, 93, 65, 94, 67, 68, 95, 96, 97, 98, 99, 100, 111, 112, 113, 114, 115, 116, 117, 118, 119, 120, 104, 121, 122, 106, 123, 124, 125, 126, 127, 128, 129, 130, 131, 132, 133, 134, 135, 136, 137, 138, 139, 140, 141, 142, 143, 163, 164, 144, 145, 146, 147, 148, 149, 150, 151, 152, 153, 154, 155, 156, 157, 158, 159, 160, 161, 162, 169, 170, 171, 172, 173, 174, 175, 176, 177] (by first | rfl | decide +kernel) (by decide +kernel)
set_option maxRecDepth 20000 in
theorem gX3_lessen_X3_readAndRemember : GoodIn wsX3_lessen (wsV RX3 67 RX3 yX3_readAndRemember wsX3_readAndRemember) := goodIn_app (goodIn_of _ (by decide +kernel)) ggX3_lessen_X3_readAndRemember
theorem dX3_lessen_0 : decode cX3_lessen 0 = .ok (.aload_n 0, 1) := by decide +kernel
theorem dX3_lessen_1 : decode cX3_lessen 1 = .ok (.getfield 35, 3) := by decide +kernel
theorem dX3_lessen_4 : decode cX3_lessen 4 = .ok (.invokevirtual 39, 3) := by decide +kernel
theorem dX3_lessen_7 : decode cX3_lessen 7 = .ok (.aload_n 0, 1) := by decide +kernel
theorem dX3_lessen_8 : decode cX3_lessen 8 = .ok (.aload_n 1, 1) := by decide +kernel
theorem dX3_lessen_9 : decode cX3_lessen 9 = .ok (.iconst 0, 1) := by decide +kernel
theorem dX3_lessen_10 : decode cX3_lessen 10 = .ok (.invokevirtual 44, 3) := by decide +kernel
theorem dX3_lessen_13 : decode cX3_lessen 13 = .ok (.putfield 48, 3) := by decide +kernel
theorem dX3_lessen_16 : decode cX3_lessen 16 = .ok (.aload_n 0, 1) := by decide +kernel
theorem dX3_lessen_17 : decode cX3_lessen 17 = .ok (.aload_n 1, 1) := by decide +kernel
theorem dX3_lessen_18 : decode cX3_lessen 18 = .ok (.bipush 20, 2) := by decide +kernel
theorem dX3_lessen_20 : decode cX3_lessen 20 = .ok (.invokevirtual 44, 3) := by decide +kernel
theorem dX3_lessen_23 : decode cX3_lessen 23 = .ok (.putfield 52, 3) := by decide +kernel
theorem dX3_lessen_26 : decode cX3_lessen 26 = .ok (.aload_n 1, 1) := by decide +kernel
theorem dX3_lessen_27 : decode cX3_lessen 27 = .ok (.invokevirtual 55, 3) := by decide +kernel
theorem dX3_lessen_30 : decode cX3_lessen 30 = .ok (.aload_n 0, 1) := by decide +kernel
theorem dX3_lessen_31 : decode cX3_lessen 31 = .ok (.getfield 20, 3) := by decide +kernel
theorem dX3_lessen_34 : decode cX3_lessen 34 = .ok (.iconst 0, 1) := by decide +kernel
theorem dX3_lessen_35 : decode cX3_lessen 35 = .ok (.iconst 0, 1) := by decide +kernel
theorem dX3_lessen_36 : decode cX3_lessen 36 = .ok (.iastore, 1) := by decide +kernel
theorem dX3_lessen_37 : decode cX3_lessen 37 = .ok (.iconst 0, 1) := by decide +kernel
theorem dX3_lessen_38 : decode cX3_lessen 38 = .ok (.istore_n 2, 1) := by decide +kernel
theorem dX3_lessen_39 : decode cX3_lessen 39 = .ok (.iload_n 2, 1) := by decide +kernel
theorem dX3_lessen_40 : decode cX3_lessen 40 = .ok (.sipush 1000, 3) := by decide +kernel
theorem dX3_lessen_43 : decode cX3_lessen 43 = .ok (.if_icmp .ge 23, 3) := by decide +kernel
theorem dX3_lessen_46 : decode cX3_lessen 46 = .ok (.aload_n 0, 1) := by decide +kernel
theorem dX3_lessen_47 : decode cX3_lessen 47 = .ok (.getfield 48, 3) := by decide +kernel
theorem dX3_lessen_50 : decode cX3_lessen 50 = .ok (.lconst 0, 1) := by decide +kernel
theorem dX3_lessen_51 : decode cX3_lessen 51 = .ok (.lcmp, 1) := by decide +kernel
theorem dX3_lessen_52 : decode cX3_lessen 52 = .ok (.ifCond .eq 14, 3) := by decide +kernel
theorem dX3_lessen_55 : decode cX3_lessen 55 = .ok (.aload_n 0, 1) := by decide +kernel
theorem dX3_lessen_56 : decode cX3_lessen 56 = .ok (.aload_n 1, 1) := by decide +kernel
theorem dX3_lessen_57 : decode cX3_lessen 57 = .ok (.invokevirtual 58, 3) := by decide +kernel
theorem dX3_lessen_60 : decode cX3_lessen 60 = .ok (.iinc 2 1, 3) := by decide +kernel
theorem dX3_lessen_63 : decode cX3_lessen 63 = .ok (.goto (-24), 3) := by decide +kernel
theorem dX3_lessen_66 : decode cX3_lessen 66 = .ok (.aload_n 0, 1) := by decide +kernel
theorem dX3_lessen_67 : decode cX3_lessen 67 = .ok (.getfield 14, 3) := by decide +kernel
theorem dX3_lessen_70 : decode cX3_lessen 70 = .ok (.invokevirtual 62, 3) := by decide +kernel
theorem dX3_lessen_73 : decode cX3_lessen 73 = .ok (.lconst 0, 1) := by decide +kernel
theorem dX3_lessen_74 : decode cX3_lessen 74 = .ok (.lstore_n 2, 1) := by decide +kernel
theorem dX3_lessen_75 : decode cX3_lessen 75 = .ok (.lload_n 2, 1) := by decide +kernel
theorem dX3_lessen_76 : decode cX3_lessen 76 = .ok (.ldc2_w 65, 3) := by decide +kernel
theorem dX3_lessen_79 : decode cX3_lessen 79 = .ok (.lcmp, 1) := by decide +kernel
theorem dX3_lessen_80 : decode cX3_lessen 80 = .ok (.ifCond .ge 54, 3) := by decide +kernel
theorem dX3_lessen_83 : decode cX3_lessen 83 = .ok (.aload_n 0, 1) := by decide +kernel
theorem dX3_lessen_84 : decode cX3_lessen 84 = .ok (.getfield 48, 3) := by decide +kernel
theorem dX3_lessen_87 : decode cX3_lessen 87 = .ok (.lconst 0, 1) := by decide +kernel
theorem dX3_lessen_88 : decode cX3_lessen 88 = .ok (.lcmp, 1) := by decide +kernel
theorem dX3_lessen_89 : decode cX3_lessen 89 = .ok (.ifCond .eq 45, 3) := by decide +kernel
theorem dX3_lessen_92 : decode cX3_lessen 92 = .ok (.lconst 0, 1) := by decide +kernel
theorem dX3_lessen_93 : decode cX3_lessen 93 = .ok (.lstore 4, 2) := by decide +kernel
theorem dX3_lessen_95 : decode cX3_lessen 95 = .ok (.lload 4, 2) := by decide +kernel
theorem dX3_lessen_97 : decode cX3_lessen 97 = .ok (.ldc2_w 65, 3) := by decide +kernel
theorem dX3_lessen_100 : decode cX3_lessen 100 = .ok (.lcmp, 1) := by decide +kernel
theorem dX3_lessen_101 : decode cX3_lessen 101 = .ok (.ifCond .ge 26, 3) := by decide +kernel
theorem dX3_lessen_104 : decode cX3_lessen 104 = .ok (.aload_n 0, 1) := by decide +kernel
theorem dX3_lessen_105 : decode cX3_lessen 105 = .ok (.getfield 48, 3) := by decide +kernel
theorem dX3_lessen_108 : decode cX3_lessen 108 = .ok (.lconst 0, 1) := by decide +kernel
theorem dX3_lessen_109 : decode cX3_lessen 109 = .ok (.lcmp, 1) := by decide +kernel
theorem dX3_lessen_110 : decode cX3_lessen 110 = .ok (.ifCond .eq 17, 3) := by decide +kernel
theorem dX3_lessen_113 : decode cX3_lessen 113 = .ok (.aload_n 0, 1) := by decide +kernel
theorem dX3_lessen_114 : decode cX3_lessen 114 = .ok (.aload_n 1, 1) := by decide +kernel
theorem dX3_lessen_115 : decode cX3_lessen 115 = .ok (.invokevirtual 67, 3) := by decide +kernel
theorem dX3_lessen_118 : decode cX3_lessen 118 = .ok (.lload 4, 2) := by decide +kernel
theorem dX3_lessen_120 : decode cX3_lessen 120 = .ok (.lconst 1, 1) := by decide +kernel
theorem dX3_lessen_121 : decode cX3_lessen 121 = .ok (.ladd, 1) := by decide +kernel
theorem dX3_lessen_122 : decode cX3_lessen 122 = .ok (.lstore 4, 2) := by decide +kernel
theorem dX3_lessen_124 : decode cX3_lessen 124 = .ok (.goto (-29), 3) := by decide +kernel
theorem dX3_lessen_127 : decode cX3_lessen 127 = .ok (.lload_n 2, 1) := by decide +kernel
theorem dX3_lessen_128 : decode cX3_lessen 128 = .ok (.lconst 1, 1) := by decide +kernel
theorem dX3_lessen_129 : decode cX3_lessen 129 = .ok (.ladd, 1) := by decide +kernel
theorem dX3_lessen_130 : decode cX3_lessen 130 = .ok (.lstore_n 2, 1) := by decide +kernel
theorem dX3_lessen_131 : decode cX3_lessen 131 = .ok (.goto (-56), 3) := by decide +kernel
theorem dX3_lessen_134 : decode cX3_lessen 134 = .ok (.return_, 1) := by decide +kernel
set_option maxHeartbeats 4000000 in
set_option maxRecDepth 100000 in
theorem ggX3_read_X3_takeLetter : GoodIn wsX3_read wsX3_takeLetter := goodIn_r _ [16, 6, 17, 8, 37, 38, 39, 40, 41, 42, 43, 44] (by first | rfl | decide +kernel) (by decide +kernel)
set_option maxRecDepth 20000 in
theorem gX3_read_X3_takeLetter : GoodIn wsX3_read (wsV RX3 70 RX3 yX3_takeLetter wsX3_takeLetter) := goodIn_app (goodIn_of _ (by decide +kernel)) ggX3_read_X3_takeLetter
set_option maxHeartbeats 4000000 in
set_option maxRecDepth 100000 in
theorem ggX3_read_X1_after : GoodIn wsX3_read wsX1_after := goodIn_r _ [22, 23, 47, 48, 49, 50, 51, 52, 53] (by first | rfl | decide +kernel) (by decide +kernel)
set_option maxRecDepth 20000 in
theorem gX3_read_X1_after : GoodIn wsX3_read (wsV RX3 78 RX1 yX1_after wsX1_after) := goodIn_app (goodIn_of _ (by decide +kernel)) ggX3_read_X1_after
set_option maxHeartbeats 4000000 in
set_option maxRecDepth 100000 in
theorem ggX3_read_X6_push : GoodIn wsX3_read wsX6_push := goodIn_r _ [28, 29, 30, 45, 46] (by first | rfl | decide +kernel) (by decide +kernel)
set_option maxRecDepth 20000 in
theorem gX3_read_X6_push : GoodIn wsX3_read (wsV RX3 85 RX6 yX6_push wsX6_push) := goodIn_app (goodIn_of _ (by decide +kernel)) ggX3_read_X6_push
set_option maxHeartbeats 4000000 in
set_option maxRecDepth 100000 in
theorem ggX3_read_X3_putBack : GoodIn wsX3_read wsX3_putBack := goodIn_r _ [34, 3, 8, 6, 35, 36, 45, 46, 37, 38, 39, 40, 41, 42, 43, 44] (by first | rfl | decide +kernel) (by decide +kernel)
set_option maxRecDepth 20000 in
theorem gX3_read_X3_putBack : GoodIn wsX3_read (wsV RX3 98 RX3 yX3_putBack wsX3_putBack) := goodIn_app (goodIn_of _ (by decide +kernel)) ggX3_read_X3_putBack
theorem dX3_read_0 : decode cX3_read 0 = .ok (.aload_n 0, 1) := by decide +kernel
theorem dX3_read_1 : decode cX3_read 1 = .ok (.invokevirtual 70, 3) := by decide +kernel
theorem dX3_read_4 : decode cX3_read 4 = .ok (.istore_n 2, 1) := by decide +kernel
theorem dX3_read_5 : decode cX3_read 5 = .ok (.aload_n 0, 1) := by decide +kernel
theorem dX3_read_6 : decode cX3_read 6 = .ok (.getfield 35, 3) := by decide +kernel
theorem dX3_read_9 : decode cX3_read 9 = .ok (.aload_n 0, 1) := by decide +kernel
theorem dX3_read_10 : decode cX3_read 10 = .ok (.getfield 20, 3) := by decide +kernel
theorem dX3_read_13 : decode cX3_read 13 = .ok (.aload_n 1, 1) := by decide +kernel
theorem dX3_read_14 : decode cX3_read 14 = .ok (.getfield 74, 3) := by decide +kernel
theorem dX3_read_17 : decode cX3_read 17 = .ok (.iaload, 1) := by decide +kernel
theorem dX3_read_18 : decode cX3_read 18 = .ok (.iload_n 2, 1) := by decide +kernel
theorem dX3_read_19 : decode cX3_read 19 = .ok (.invokevirtual 78, 3) := by decide +kernel
theorem dX3_read_22 : decode cX3_read 22 = .ok (.istore_n 3, 1) := by decide +kernel
theorem dX3_read_23 : decode cX3_read 23 = .ok (.aload_n 0, 1) := by decide +kernel
theorem dX3_read_24 : decode cX3_read 24 = .ok (.getfield 35, 3) := by decide +kernel
theorem dX3_read_27 : decode cX3_read 27 = .ok (.getfield 82, 3) := by decide +kernel
theorem dX3_read_30 : decode cX3_read 30 = .ok (.iload_n 3, 1) := by decide +kernel
theorem dX3_read_31 : decode cX3_read 31 = .ok (.iaload, 1) := by decide +kernel
theorem dX3_read_32 : decode cX3_read 32 = .ok (.istore 4, 2) := by decide +kernel
theorem dX3_read_34 : decode cX3_read 34 = .ok (.iload 4, 2) := by decide +kernel
theorem dX3_read_36 : decode cX3_read 36 = .ok (.iconst (-1), 1) := by decide +kernel
theorem dX3_read_37 : decode cX3_read 37 = .ok (.if_icmp .ne 48, 3) := by decide +kernel
theorem dX3_read_40 : decode cX3_read 40 = .ok (.aload_n 1, 1) := by decide +kernel
theorem dX3_read_41 : decode cX3_read 41 = .ok (.iload_n 2, 1) := by decide +kernel
theorem dX3_read_42 : decode cX3_read 42 = .ok (.invokevirtual 85, 3) := by decide +kernel
theorem dX3_read_45 : decode cX3_read 45 = .ok (.pop, 1) := by decide +kernel
theorem dX3_read_46 : decode cX3_read 46 = .ok (.aload_n 0, 1) := by decide +kernel
theorem dX3_read_47 : decode cX3_read 47 = .ok (.getfield 20, 3) := by decide +kernel
theorem dX3_read_50 : decode cX3_read 50 = .ok (.aload_n 1, 1) := by decide +kernel
theorem dX3_read_51 : decode cX3_read 51 = .ok (.getfield 74, 3) := by decide +kernel
theorem dX3_read_54 : decode cX3_read 54 = .ok (.iload_n 3, 1) := by decide +kernel
theorem dX3_read_55 : decode cX3_read 55 = .ok (.iastore, 1) := by decide +kernel
theorem dX3_read_56 : decode cX3_read 56 = .ok (.aload_n 0, 1) := by decide +kernel
theorem dX3_read_57 : decode cX3_read 57 = .ok (.getfield 24, 3) := by decide +kernel
theorem dX3_read_60 : decode cX3_read 60 = .ok (.aload_n 1, 1) := by decide +kernel
theorem dX3_read_61 : decode cX3_read 61 = .ok (.getfield 74, 3) := by decide +kernel
theorem dX3_read_64 : decode cX3_read 64 = .ok (.aload_n 0, 1) := by decide +kernel
theorem dX3_read_65 : decode cX3_read 65 = .ok (.getfield 48, 3) := by decide +kernel
theorem dX3_read_68 : decode cX3_read 68 = .ok (.lastore, 1) := by decide +kernel
theorem dX3_read_69 : decode cX3_read 69 = .ok (.aload_n 0, 1) := by decide +kernel
theorem dX3_read_70 : decode cX3_read 70 = .ok (.getfield 28, 3) := by decide +kernel
theorem dX3_read_73 : decode cX3_read 73 = .ok (.aload_n 1, 1) := by decide +kernel
theorem dX3_read_74 : decode cX3_read 74 = .ok (.getfield 74, 3) := by decide +kernel
theorem dX3_read_77 : decode cX3_read 77 = .ok (.aload_n 0, 1) := by decide +kernel
theorem dX3_read_78 : decode cX3_read 78 = .ok (.getfield 52, 3) := by decide +kernel
theorem dX3_read_81 : decode cX3_read 81 = .ok (.lastore, 1) := by decide +kernel
theorem dX3_read_82 : decode cX3_read 82 = .ok (.goto 41, 3) := by decide +kernel
theorem dX3_read_85 : decode cX3_read 85 = .ok (.aload_n 1, 1) := by decide +kernel
theorem dX3_read_86 : decode cX3_read 86 = .ok (.dup, 1) := by decide +kernel
theorem dX3_read_87 : decode cX3_read 87 = .ok (.getfield 74, 3) := by decide +kernel
theorem dX3_read_90 : decode cX3_read 90 = .ok (.aload_n 0, 1) := by decide +kernel
theorem dX3_read_91 : decode cX3_read 91 = .ok (.getfield 31, 3) := by decide +kernel
theorem dX3_read_94 : decode cX3_read 94 = .ok (.getfield 89, 3) := by decide +kernel
theorem dX3_read_97 : decode cX3_read 97 = .ok (.iload 4, 2) := by decide +kernel
theorem dX3_read_99 : decode cX3_read 99 = .ok (.aaload, 1) := by decide +kernel
theorem dX3_read_100 : decode cX3_read 100 = .ok (.getfield 74, 3) := by decide +kernel
theorem dX3_read_103 : decode cX3_read 103 = .ok (.iconst 1, 1) := by decide +kernel
theorem dX3_read_104 : decode cX3_read 104 = .ok (.isub, 1) := by decide +kernel
theorem dX3_read_105 : decode cX3_read 105 = .ok (.isub, 1) := by decide +kernel
theorem dX3_read_106 : decode cX3_read 106 = .ok (.putfield 74, 3) := by decide +kernel
theorem dX3_read_109 : decode cX3_read 109 = .ok (.aload_n 0, 1) := by decide +kernel
theorem dX3_read_110 : decode cX3_read 110 = .ok (.aload_n 0, 1) := by decide +kernel
theorem dX3_read_111 : decode cX3_read 111 = .ok (.getfield 31, 3) := by decide +kernel
theorem dX3_read_114 : decode cX3_read 114 = .ok (.getfield 95, 3) := by decide +kernel
theorem dX3_read_117 : decode cX3_read 117 = .ok (.iload 4, 2) := by decide +kernel
theorem dX3_read_119 : decode cX3_read 119 = .ok (.aaload, 1) := by decide +kernel
theorem dX3_read_120 : decode cX3_read 120 = .ok (.invokevirtual 98, 3) := by decide +kernel
theorem dX3_read_123 : decode cX3_read 123 = .ok (.return_, 1) := by decide +kernel
set_option maxHeartbeats 4000000 in
set_option maxRecDepth 100000 in
theorem ggX3_readAndRemember_X3_read : GoodIn wsX3_readAndRemember wsX3_read := goodIn_r _ [12, 13, 3, 1, 14, 4, 6, 5, 7, 15, 16, 17, 18, 19, 20, 11, 21, 22, 23, 24, 25, 26, 27, 28, 29, 30, 31, 32, 33, 34, 35, 36, 37, 38, 39, 40, 41, 79, 80, 81, 82, 83, 84, 85, 86, 77, 78, 87, 88, 89, 90, 91, 92, 93, 94, 95, 96, 97] (by first | rfl | decide +kernel) (by decide +kernel)
set_option maxRecDepth 20000 in
theorem gX3_readAndRemember_X3_read : GoodIn wsX3_readAndRemember (wsV RX3 58 RX3 yX3_read wsX3_read) := goodIn_app (goodIn_of _ (by decide +kernel)) ggX3_readAndRemember_X3_read
set_option maxHeartbeats 4000000 in
set_option maxRecDepth 100000 in
theorem ggX3_readAndRemember_X3_recall : GoodIn wsX3_readAndRemember wsX3_recall := goodIn_r _ [45, 2, 3, 1, 6, 7, 46, 47, 48, 49, 50, 51, 52, 53, 54, 55, 56, 57, 58, 59, 60, 61, 62, 63, 79, 80, 81, 82, 83, 84, 85, 86, 77, 78, 98, 99, 100, 101, 102, 103, 104, 105, 106] (by first | rfl | decide +kernel) (by decide +kernel)
set_option maxRecDepth 20000 in
theorem gX3_readAndRemember_X3_recall : GoodIn wsX3_readAndRemember (wsV RX3 101 RX3 yX3_recall wsX3_recall) := goodIn_app (goodIn_of _ (by decide +kernel)) ggX3_readAndRemember_X3_recall
set_option maxHeartbeats 4000000 in
set_option maxRecDepth 100000 in
theorem ggX3_readAndRemember_X2_add : GoodIn wsX3_readAndRemember wsX2_add := goodIn_r _ [67, 54, 55, 56, 57, 58, 68, 69, 70, 71, 50, 51, 52, 53, 59, 60, 61, 62, 63, 72, 73, 74, 75, 76, 98, 99, 100, 101, 102, 103, 104, 105, 106] (by first | rfl | decide +kernel) (by decide +kernel)
set_option maxRecDepth 20000 in
theorem gX3_readAndRemember_X2_add : GoodIn wsX3_readAndRemember (wsV RX3 104 RX2 yX2_add wsX2_add) := goodIn_app (goodIn_of _ (by decide +kernel)) ggX3_readAndRemember_X2_add
theorem dX3_readAndRemember_0 : decode cX3_readAndRemember 0 = .ok (.aload_n 1, 1) := by decide +kernel
theorem dX3_readAndRemember_1 : decode cX3_readAndRemember 1 = .ok (.getfield 74, 3) := by decide +kernel
theorem dX3_readAndRemember_4 : decode cX3_readAndRemember 4 = .ok (.istore_n 2, 1) := by decide +kernel
theorem dX3_readAndRemember_5 : decode cX3_readAndRemember 5 = .ok (.aload_n 0, 1) := by decide +kernel
theorem dX3_readAndRemember_6 : decode cX3_readAndRemember 6 = .ok (.aload_n 1, 1) := by decide +kernel
theorem dX3_readAndRemember_7 : decode cX3_readAndRemember 7 = .ok (.invokevirtual 58, 3) := by decide +kernel
theorem dX3_readAndRemember_10 : decode cX3_readAndRemember 10 = .ok (.aload_n 1, 1) := by decide +kernel
theorem dX3_readAndRemember_11 : decode cX3_readAndRemember 11 = .ok (.getfield 74, 3) := by decide +kernel
theorem dX3_readAndRemember_14 : decode cX3_readAndRemember 14 = .ok (.iload_n 2, 1) := by decide +kernel
theorem dX3_readAndRemember_15 : decode cX3_readAndRemember 15 = .ok (.if_icmp .le 13, 3) := by decide +kernel
theorem dX3_readAndRemember_18 : decode cX3_readAndRemember 18 = .ok (.aload_n 1, 1) := by decide +kernel
theorem dX3_readAndRemember_19 : decode cX3_readAndRemember 19 = .ok (.getfield 74, 3) := by decide +kernel
theorem dX3_readAndRemember_22 : decode cX3_readAndRemember 22 = .ok (.istore_n 2, 1) := by decide +kernel
theorem dX3_readAndRemember_23 : decode cX3_readAndRemember 23 = .ok (.aload_n 0, 1) := by decide +kernel
theorem dX3_readAndRemember_24 : decode cX3_readAndRemember 24 = .ok (.aload_n 1, 1) := by decide +kernel
theorem dX3_readAndRemember_25 : decode cX3_readAndRemember 25 = .ok (.invokevirtual 101, 3) := by decide +kernel
theorem dX3_readAndRemember_28 : decode cX3_readAndRemember 28 = .ok (.iload_n 2, 1) := by decide +kernel
theorem dX3_readAndRemember_29 : decode cX3_readAndRemember 29 = .ok (.istore_n 3, 1) := by decide +kernel
theorem dX3_readAndRemember_30 : decode cX3_readAndRemember 30 = .ok (.iload_n 3, 1) := by decide +kernel
theorem dX3_readAndRemember_31 : decode cX3_readAndRemember 31 = .ok (.aload_n 1, 1) := by decide +kernel
theorem dX3_readAndRemember_32 : decode cX3_readAndRemember 32 = .ok (.getfield 74, 3) := by decide +kernel
theorem dX3_readAndRemember_35 : decode cX3_readAndRemember 35 = .ok (.if_icmp .le 48, 3) := by decide +kernel
theorem dX3_readAndRemember_38 : decode cX3_readAndRemember 38 = .ok (.aload_n 0, 1) := by decide +kernel
theorem dX3_readAndRemember_39 : decode cX3_readAndRemember 39 = .ok (.getfield 14, 3) := by decide +kernel
theorem dX3_readAndRemember_42 : decode cX3_readAndRemember 42 = .ok (.aload_n 0, 1) := by decide +kernel
theorem dX3_readAndRemember_43 : decode cX3_readAndRemember 43 = .ok (.getfield 20, 3) := by decide +kernel
theorem dX3_readAndRemember_46 : decode cX3_readAndRemember 46 = .ok (.iload_n 3, 1) := by decide +kernel
theorem dX3_readAndRemember_47 : decode cX3_readAndRemember 47 = .ok (.iaload, 1) := by decide +kernel
theorem dX3_readAndRemember_48 : decode cX3_readAndRemember 48 = .ok (.aload_n 0, 1) := by decide +kernel
theorem dX3_readAndRemember_49 : decode cX3_readAndRemember 49 = .ok (.getfield 24, 3) := by decide +kernel
theorem dX3_readAndRemember_52 : decode cX3_readAndRemember 52 = .ok (.iload_n 3, 1) := by decide +kernel
theorem dX3_readAndRemember_53 : decode cX3_readAndRemember 53 = .ok (.laload, 1) := by decide +kernel
theorem dX3_readAndRemember_54 : decode cX3_readAndRemember 54 = .ok (.aload_n 0, 1) := by decide +kernel
theorem dX3_readAndRemember_55 : decode cX3_readAndRemember 55 = .ok (.getfield 28, 3) := by decide +kernel
theorem dX3_readAndRemember_58 : decode cX3_readAndRemember 58 = .ok (.iload_n 3, 1) := by decide +kernel
theorem dX3_readAndRemember_59 : decode cX3_readAndRemember 59 = .ok (.laload, 1) := by decide +kernel
theorem dX3_readAndRemember_60 : decode cX3_readAndRemember 60 = .ok (.iload_n 3, 1) := by decide +kernel
theorem dX3_readAndRemember_61 : decode cX3_readAndRemember 61 = .ok (.aload_n 1, 1) := by decide +kernel
theorem dX3_readAndRemember_62 : decode cX3_readAndRemember 62 = .ok (.getfield 74, 3) := by decide +kernel
theorem dX3_readAndRemember_65 : decode cX3_readAndRemember 65 = .ok (.isub, 1) := by decide +kernel
theorem dX3_readAndRemember_66 : decode cX3_readAndRemember 66 = .ok (.aload_n 0, 1) := by decide +kernel
theorem dX3_readAndRemember_67 : decode cX3_readAndRemember 67 = .ok (.getfield 48, 3) := by decide +kernel
theorem dX3_readAndRemember_70 : decode cX3_readAndRemember 70 = .ok (.aload_n 0, 1) := by decide +kernel
theorem dX3_readAndRemember_71 : decode cX3_readAndRemember 71 = .ok (.getfield 52, 3) := by decide +kernel
theorem dX3_readAndRemember_74 : decode cX3_readAndRemember 74 = .ok (.invokevirtual 104, 3) := by decide +kernel
theorem dX3_readAndRemember_77 : decode cX3_readAndRemember 77 = .ok (.iinc 3 (-1), 3) := by decide +kernel
theorem dX3_readAndRemember_80 : decode cX3_readAndRemember 80 = .ok (.goto (-50), 3) := by decide +kernel
theorem dX3_readAndRemember_83 : decode cX3_readAndRemember 83 = .ok (.return_, 1) := by decide +kernel
set_option maxHeartbeats 4000000 in
set_option maxRecDepth 100000 in
theorem ggX3_recall_X2_placeOf : GoodIn wsX3_recall wsX2_placeOf := goodIn_r _ [13, 14, 15, 16, 17, 18, 19, 20, 21, 12, 22, 23, 34, 35, 36, 37, 38, 39, 40, 41, 42] (by first | rfl | decide +kernel) (by decide +kernel)
set_option maxRecDepth 20000 in
theorem gX3_recall_X2_placeOf : GoodIn wsX3_recall (wsV RX3 108 RX2 yX2_placeOf wsX2_placeOf) := goodIn_app (goodIn_of _ (by decide +kernel)) ggX3_recall_X2_placeOf
theorem dX3_recall_0 : decode cX3_recall 0 = .ok (.aload_n 0, 1) := by decide +kernel
theorem dX3_recall_1 : decode cX3_recall 1 = .ok (.getfield 14, 3) := by decide +kernel
theorem dX3_recall_4 : decode cX3_recall 4 = .ok (.aload_n 0, 1) := by decide +kernel
theorem dX3_recall_5 : decode cX3_recall 5 = .ok (.getfield 20, 3) := by decide +kernel
theorem dX3_recall_8 : decode cX3_recall 8 = .ok (.aload_n 1, 1) := by decide +kernel
theorem dX3_recall_9 : decode cX3_recall 9 = .ok (.getfield 74, 3) := by decide +kernel
theorem dX3_recall_12 : decode cX3_recall 12 = .ok (.iaload, 1) := by decide +kernel
theorem dX3_recall_13 : decode cX3_recall 13 = .ok (.aload_n 0, 1) := by decide +kernel
theorem dX3_recall_14 : decode cX3_recall 14 = .ok (.getfield 48, 3) := by decide +kernel
theorem dX3_recall_17 : decode cX3_recall 17 = .ok (.aload_n 0, 1) := by decide +kernel
theorem dX3_recall_18 : decode cX3_recall 18 = .ok (.getfield 52, 3) := by decide +kernel
theorem dX3_recall_21 : decode cX3_recall 21 = .ok (.invokevirtual 108, 3) := by decide +kernel
theorem dX3_recall_24 : decode cX3_recall 24 = .ok (.istore_n 2, 1) := by decide +kernel
theorem dX3_recall_25 : decode cX3_recall 25 = .ok (.iload_n 2, 1) := by decide +kernel
theorem dX3_recall_26 : decode cX3_recall 26 = .ok (.iconst (-1), 1) := by decide +kernel
theorem dX3_recall_27 : decode cX3_recall 27 = .ok (.if_icmp .eq 47, 3) := by decide +kernel
theorem dX3_recall_30 : decode cX3_recall 30 = .ok (.aload_n 1, 1) := by decide +kernel
theorem dX3_recall_31 : decode cX3_recall 31 = .ok (.dup, 1) := by decide +kernel
theorem dX3_recall_32 : decode cX3_recall 32 = .ok (.getfield 74, 3) := by decide +kernel
theorem dX3_recall_35 : decode cX3_recall 35 = .ok (.aload_n 0, 1) := by decide +kernel
theorem dX3_recall_36 : decode cX3_recall 36 = .ok (.getfield 14, 3) := by decide +kernel
theorem dX3_recall_39 : decode cX3_recall 39 = .ok (.getfield 112, 3) := by decide +kernel
theorem dX3_recall_42 : decode cX3_recall 42 = .ok (.iload_n 2, 1) := by decide +kernel
theorem dX3_recall_43 : decode cX3_recall 43 = .ok (.iaload, 1) := by decide +kernel
theorem dX3_recall_44 : decode cX3_recall 44 = .ok (.isub, 1) := by decide +kernel
theorem dX3_recall_45 : decode cX3_recall 45 = .ok (.putfield 74, 3) := by decide +kernel
theorem dX3_recall_48 : decode cX3_recall 48 = .ok (.aload_n 0, 1) := by decide +kernel
theorem dX3_recall_49 : decode cX3_recall 49 = .ok (.aload_n 0, 1) := by decide +kernel
theorem dX3_recall_50 : decode cX3_recall 50 = .ok (.getfield 14, 3) := by decide +kernel
theorem dX3_recall_53 : decode cX3_recall 53 = .ok (.getfield 115, 3) := by decide +kernel
theorem dX3_recall_56 : decode cX3_recall 56 = .ok (.iload_n 2, 1) := by decide +kernel
theorem dX3_recall_57 : decode cX3_recall 57 = .ok (.laload, 1) := by decide +kernel
theorem dX3_recall_58 : decode cX3_recall 58 = .ok (.putfield 48, 3) := by decide +kernel
theorem dX3_recall_61 : decode cX3_recall 61 = .ok (.aload_n 0, 1) := by decide +kernel
theorem dX3_recall_62 : decode cX3_recall 62 = .ok (.aload_n 0, 1) := by decide +kernel
theorem dX3_recall_63 : decode cX3_recall 63 = .ok (.getfield 14, 3) := by decide +kernel
theorem dX3_recall_66 : decode cX3_recall 66 = .ok (.getfield 118, 3) := by decide +kernel
theorem dX3_recall_69 : decode cX3_recall 69 = .ok (.iload_n 2, 1) := by decide +kernel
theorem dX3_recall_70 : decode cX3_recall 70 = .ok (.laload, 1) := by decide +kernel
theorem dX3_recall_71 : decode cX3_recall 71 = .ok (.putfield 52, 3) := by decide +kernel
theorem dX3_recall_74 : decode cX3_recall 74 = .ok (.return_, 1) := by decide +kernel
theorem dX3_takeLetter_0 : decode cX3_takeLetter 0 = .ok (.aload_n 0, 1) := by decide +kernel
theorem dX3_takeLetter_1 : decode cX3_takeLetter 1 = .ok (.getfield 48, 3) := by decide +kernel
theorem dX3_takeLetter_4 : decode cX3_takeLetter 4 = .ok (.ldc2_w 121, 3) := by decide +kernel
theorem dX3_takeLetter_7 : decode cX3_takeLetter 7 = .ok (.land, 1) := by decide +kernel
theorem dX3_takeLetter_8 : decode cX3_takeLetter 8 = .ok (.l2i, 1) := by decide +kernel
theorem dX3_takeLetter_9 : decode cX3_takeLetter 9 = .ok (.iconst 1, 1) := by decide +kernel
theorem dX3_takeLetter_10 : decode cX3_takeLetter 10 = .ok (.isub, 1) := by decide +kernel
theorem dX3_takeLetter_11 : decode cX3_takeLetter 11 = .ok (.istore_n 1, 1) := by decide +kernel
theorem dX3_takeLetter_12 : decode cX3_takeLetter 12 = .ok (.aload_n 0, 1) := by decide +kernel
theorem dX3_takeLetter_13 : decode cX3_takeLetter 13 = .ok (.aload_n 0, 1) := by decide +kernel
theorem dX3_takeLetter_14 : decode cX3_takeLetter 14 = .ok (.getfield 48, 3) := by decide +kernel
theorem dX3_takeLetter_17 : decode cX3_takeLetter 17 = .ok (.iconst 3, 1) := by decide +kernel
theorem dX3_takeLetter_18 : decode cX3_takeLetter 18 = .ok (.lushr, 1) := by decide +kernel
theorem dX3_takeLetter_19 : decode cX3_takeLetter 19 = .ok (.aload_n 0, 1) := by decide +kernel
theorem dX3_takeLetter_20 : decode cX3_takeLetter 20 = .ok (.getfield 52, 3) := by decide +kernel
theorem dX3_takeLetter_23 : decode cX3_takeLetter 23 = .ok (.ldc2_w 121, 3) := by decide +kernel
theorem dX3_takeLetter_26 : decode cX3_takeLetter 26 = .ok (.land, 1) := by decide +kernel
theorem dX3_takeLetter_27 : decode cX3_takeLetter 27 = .ok (.bipush 57, 2) := by decide +kernel
theorem dX3_takeLetter_29 : decode cX3_takeLetter 29 = .ok (.lshl, 1) := by decide +kernel
theorem dX3_takeLetter_30 : decode cX3_takeLetter 30 = .ok (.lor, 1) := by decide +kernel
theorem dX3_takeLetter_31 : decode cX3_takeLetter 31 = .ok (.putfield 48, 3) := by decide +kernel
theorem dX3_takeLetter_34 : decode cX3_takeLetter 34 = .ok (.aload_n 0, 1) := by decide +kernel
theorem dX3_takeLetter_35 : decode cX3_takeLetter 35 = .ok (.dup, 1) := by decide +kernel
theorem dX3_takeLetter_36 : decode cX3_takeLetter 36 = .ok (.getfield 52, 3) := by decide +kernel
theorem dX3_takeLetter_39 : decode cX3_takeLetter 39 = .ok (.iconst 3, 1) := by decide +kernel
theorem dX3_takeLetter_40 : decode cX3_takeLetter 40 = .ok (.lushr, 1) := by decide +kernel
theorem dX3_takeLetter_41 : decode cX3_takeLetter 41 = .ok (.putfield 52, 3) := by decide +kernel
theorem dX3_takeLetter_44 : decode cX3_takeLetter 44 = .ok (.iload_n 1, 1) := by decide +kernel
theorem dX3_takeLetter_45 : decode cX3_takeLetter 45 = .ok (.ireturn, 1) := by decide +kernel
theorem dX3_putBack_0 : decode cX3_putBack 0 = .ok (.aload_n 1, 1) := by decide +kernel
theorem dX3_putBack_1 : decode cX3_putBack 1 = .ok (.getfield 74, 3) := by decide +kernel
theorem dX3_putBack_4 : decode cX3_putBack 4 = .ok (.iconst 1, 1) := by decide +kernel
theorem dX3_putBack_5 : decode cX3_putBack 5 = .ok (.isub, 1) := by decide +kernel
theorem dX3_putBack_6 : decode cX3_putBack 6 = .ok (.istore_n 2, 1) := by decide +kernel
theorem dX3_putBack_7 : decode cX3_putBack 7 = .ok (.iload_n 2, 1) := by decide +kernel
theorem dX3_putBack_8 : decode cX3_putBack 8 = .ok (.ifCond .lt 51, 3) := by decide +kernel
theorem dX3_putBack_11 : decode cX3_putBack 11 = .ok (.aload_n 0, 1) := by decide +kernel
theorem dX3_putBack_12 : decode cX3_putBack 12 = .ok (.aload_n 0, 1) := by decide +kernel
theorem dX3_putBack_13 : decode cX3_putBack 13 = .ok (.getfield 52, 3) := by decide +kernel
theorem dX3_putBack_16 : decode cX3_putBack 16 = .ok (.iconst 3, 1) := by decide +kernel
theorem dX3_putBack_17 : decode cX3_putBack 17 = .ok (.lshl, 1) := by decide +kernel
theorem dX3_putBack_18 : decode cX3_putBack 18 = .ok (.aload_n 0, 1) := by decide +kernel
theorem dX3_putBack_19 : decode cX3_putBack 19 = .ok (.getfield 48, 3) := by decide +kernel
theorem dX3_putBack_22 : decode cX3_putBack 22 = .ok (.bipush 57, 2) := by decide +kernel
theorem dX3_putBack_24 : decode cX3_putBack 24 = .ok (.lushr, 1) := by decide +kernel
theorem dX3_putBack_25 : decode cX3_putBack 25 = .ok (.lor, 1) := by decide +kernel
theorem dX3_putBack_26 : decode cX3_putBack 26 = .ok (.putfield 52, 3) := by decide +kernel
theorem dX3_putBack_29 : decode cX3_putBack 29 = .ok (.aload_n 0, 1) := by decide +kernel
theorem dX3_putBack_30 : decode cX3_putBack 30 = .ok (.aload_n 0, 1) := by decide +kernel
theorem dX3_putBack_31 : decode cX3_putBack 31 = .ok (.getfield 48, 3) := by decide +kernel
theorem dX3_putBack_34 : decode cX3_putBack 34 = .ok (.iconst 3, 1) := by decide +kernel
theorem dX3_putBack_35 : decode cX3_putBack 35 = .ok (.lshl, 1) := by decide +kernel
theorem dX3_putBack_36 : decode cX3_putBack 36 = .ok (.aload_n 1, 1) := by decide +kernel
theorem dX3_putBack_37 : decode cX3_putBack 37 = .ok (.getfield 123, 3) := by decide +kernel
theorem dX3_putBack_40 : decode cX3_putBack 40 = .ok (.iload_n 2, 1) := by decide +kernel
theorem dX3_putBack_41 : decode cX3_putBack 41 = .ok (.baload, 1) := by decide +kernel
theorem dX3_putBack_42 : decode cX3_putBack 42 = .ok (.iconst 1, 1) := by decide +kernel
theorem dX3_putBack_43 : decode cX3_putBack 43 = .ok (.iadd, 1) := by decide +kernel
theorem dX3_putBack_44 : decode cX3_putBack 44 = .ok (.i2l, 1) := by decide +kernel
theorem dX3_putBack_45 : decode cX3_putBack 45 = .ok (.lor, 1) := by decide +kernel
theorem dX3_putBack_46 : decode cX3_putBack 46 = .ok (.ldc2_w 127, 3) := by decide +kernel
theorem dX3_putBack_49 : decode cX3_putBack 49 = .ok (.land, 1) := by decide +kernel
theorem dX3_putBack_50 : decode cX3_putBack 50 = .ok (.putfield 48, 3) := by decide +kernel
theorem dX3_putBack_53 : decode cX3_putBack 53 = .ok (.iinc 2 (-1), 3) := by decide +kernel
theorem dX3_putBack_56 : decode cX3_putBack 56 = .ok (.goto (-49), 3) := by decide +kernel
theorem dX3_putBack_59 : decode cX3_putBack 59 = .ok (.return_, 1) := by decide +kernel
