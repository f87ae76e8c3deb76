theorem dX1_init_0 : decode cX1_init 0 = .ok (.aload_n 0, 1) := by decide +kernel
theorem dX1_init_1 : decode cX1_init 1 = .ok (.invokespecial 3, 3) := by decide +kernel
theorem dX1_init_4 : decode cX1_init 4 = .ok (.aload_n 0, 1) := by decide +kernel
theorem dX1_init_5 : decode cX1_init 5 = .ok (.sipush 15366, 3) := by decide +kernel
theorem dX1_init_8 : decode cX1_init 8 = .ok (.newarray .int, 2) := by decide +kernel
theorem dX1_init_10 : decode cX1_init 10 = .ok (.putfield 11, 3) := by decide +kernel
theorem dX1_init_13 : decode cX1_init 13 = .ok (.aload_n 0, 1) := by decide +kernel
theorem dX1_init_14 : decode cX1_init 14 = .ok (.sipush 2561, 3) := by decide +kernel
theorem dX1_init_17 : decode cX1_init 17 = .ok (.newarray .int, 2) := by decide +kernel
theorem dX1_init_19 : decode cX1_init 19 = .ok (.putfield 15, 3) := by decide +kernel
theorem dX1_init_22 : decode cX1_init 22 = .ok (.aload_n 0, 1) := by decide +kernel
theorem dX1_init_23 : decode cX1_init 23 = .ok (.sipush 2561, 3) := by decide +kernel
theorem dX1_init_26 : decode cX1_init 26 = .ok (.newarray .int, 2) := by decide +kernel
theorem dX1_init_28 : decode cX1_init 28 = .ok (.putfield 18, 3) := by decide +kernel
theorem dX1_init_31 : decode cX1_init 31 = .ok (.aload_n 0, 1) := by decide +kernel
theorem dX1_init_32 : decode cX1_init 32 = .ok (.sipush 2561, 3) := by decide +kernel
theorem dX1_init_35 : decode cX1_init 35 = .ok (.newarray .int, 2) := by decide +kernel
theorem dX1_init_37 : decode cX1_init 37 = .ok (.putfield 21, 3) := by decide +kernel
theorem dX1_init_40 : decode cX1_init 40 = .ok (.aload_n 0, 1) := by decide +kernel
theorem dX1_init_41 : decode cX1_init 41 = .ok (.aload_n 1, 1) := by decide +kernel
theorem dX1_init_42 : decode cX1_init 42 = .ok (.putfield 24, 3) := by decide +kernel
theorem dX1_init_45 : decode cX1_init 45 = .ok (.return_, 1) := by decide +kernel
set_option maxHeartbeats 4000000 in
set_option maxRecDepth 100000 in
theorem ggX1_keepUp_X4_lettersOfLefts : GoodIn wsX1_keepUp wsX4_lettersOfLefts := goodIn_r _ [11, 12, 13, 14, 59, 60, 61, 62, 63, 64] (by first | rfl | decide +kernel) (by decide +kernel)
set_option maxRecDepth 20000 in
theorem gX1_keepUp_X4_lettersOfLefts : GoodIn wsX1_keepUp (wsV RX1 35 RX4 yX4_lettersOfLefts wsX4_lettersOfLefts) := goodIn_app (goodIn_of _ (by decide +kernel)) ggX1_keepUp_X4_lettersOfLefts
set_option maxHeartbeats 4000000 in
set_option maxRecDepth 100000 in
theorem ggX1_keepUp_X1_wipe : GoodIn wsX1_keepUp wsX1_wipe := goodIn_r _ [19, 20, 21, 22, 23, 24, 25, 26, 27, 28, 29, 30, 31, 32, 52, 53, 54, 55, 56, 57, 58, 65, 66, 67, 68] (by first | rfl | decide +kernel) (by decide +kernel)
set_option maxRecDepth 20000 in
theorem gX1_keepUp_X1_wipe : GoodIn wsX1_keepUp (wsV RX1 39 RX1 yX1_wipe wsX1_wipe) := goodIn_app (goodIn_of _ (by decide +kernel)) ggX1_keepUp_X1_wipe
set_option maxHeartbeats 4000000 in
set_option maxRecDepth 100000 in
theorem ggX1_keepUp_X1_plant : GoodIn wsX1_keepUp wsX1_plant := goodIn_r _ [36, 37, 38, 20, 4, 22, 63, 64, 52, 53, 54, 55, 56, 57, 58] (by first | rfl | decide +kernel) (by decide +kernel)
set_option maxRecDepth 20000 in
theorem gX1_keepUp_X1_plant : GoodIn wsX1_keepUp (wsV RX1 53 RX1 yX1_plant wsX1_plant) := goodIn_app (goodIn_of _ (by decide +kernel)) ggX1_keepUp_X1_plant
set_option maxHeartbeats 4000000 in
set_option maxRecDepth 100000 in
theorem ggX1_keepUp_X1_link : GoodIn wsX1_keepUp wsX1_link := goodIn_r _ [42, 43, 4, 21, 20, 44, 45, 46, 18, 47, 48, 49, 50, 51, 22, 52, 53, 54, 55, 56, 57, 58] (by first | rfl | decide +kernel) (by decide +kernel)
set_option maxRecDepth 20000 in
theorem gX1_keepUp_X1_link : GoodIn wsX1_keepUp (wsV RX1 57 RX1 yX1_link wsX1_link) := goodIn_app (goodIn_of _ (by decide +kernel)) ggX1_keepUp_X1_link
theorem dX1_keepUp_0 : decode cX1_keepUp 0 = .ok (.aload_n 0, 1) := by decide +kernel
theorem dX1_keepUp_1 : decode cX1_keepUp 1 = .ok (.getfield 28, 3) := by decide +kernel
theorem dX1_keepUp_4 : decode cX1_keepUp 4 = .ok (.aload_n 0, 1) := by decide +kernel
theorem dX1_keepUp_5 : decode cX1_keepUp 5 = .ok (.getfield 24, 3) := by decide +kernel
theorem dX1_keepUp_8 : decode cX1_keepUp 8 = .ok (.getfield 32, 3) := by decide +kernel
theorem dX1_keepUp_11 : decode cX1_keepUp 11 = .ok (.if_icmp .ne 4, 3) := by decide +kernel
theorem dX1_keepUp_14 : decode cX1_keepUp 14 = .ok (.return_, 1) := by decide +kernel
theorem dX1_keepUp_15 : decode cX1_keepUp 15 = .ok (.aload_n 0, 1) := by decide +kernel
theorem dX1_keepUp_16 : decode cX1_keepUp 16 = .ok (.aload_n 0, 1) := by decide +kernel
theorem dX1_keepUp_17 : decode cX1_keepUp 17 = .ok (.getfield 24, 3) := by decide +kernel
theorem dX1_keepUp_20 : decode cX1_keepUp 20 = .ok (.getfield 32, 3) := by decide +kernel
theorem dX1_keepUp_23 : decode cX1_keepUp 23 = .ok (.putfield 28, 3) := by decide +kernel
theorem dX1_keepUp_26 : decode cX1_keepUp 26 = .ok (.aload_n 0, 1) := by decide +kernel
theorem dX1_keepUp_27 : decode cX1_keepUp 27 = .ok (.iconst 1, 1) := by decide +kernel
theorem dX1_keepUp_28 : decode cX1_keepUp 28 = .ok (.aload_n 0, 1) := by decide +kernel
theorem dX1_keepUp_29 : decode cX1_keepUp 29 = .ok (.getfield 24, 3) := by decide +kernel
theorem dX1_keepUp_32 : decode cX1_keepUp 32 = .ok (.invokevirtual 35, 3) := by decide +kernel
theorem dX1_keepUp_35 : decode cX1_keepUp 35 = .ok (.iadd, 1) := by decide +kernel
theorem dX1_keepUp_36 : decode cX1_keepUp 36 = .ok (.invokevirtual 39, 3) := by decide +kernel
theorem dX1_keepUp_39 : decode cX1_keepUp 39 = .ok (.aload_n 0, 1) := by decide +kernel
theorem dX1_keepUp_40 : decode cX1_keepUp 40 = .ok (.iconst 1, 1) := by decide +kernel
theorem dX1_keepUp_41 : decode cX1_keepUp 41 = .ok (.putfield 43, 3) := by decide +kernel
theorem dX1_keepUp_44 : decode cX1_keepUp 44 = .ok (.iconst 0, 1) := by decide +kernel
theorem dX1_keepUp_45 : decode cX1_keepUp 45 = .ok (.istore_n 1, 1) := by decide +kernel
theorem dX1_keepUp_46 : decode cX1_keepUp 46 = .ok (.iload_n 1, 1) := by decide +kernel
theorem dX1_keepUp_47 : decode cX1_keepUp 47 = .ok (.aload_n 0, 1) := by decide +kernel
theorem dX1_keepUp_48 : decode cX1_keepUp 48 = .ok (.getfield 24, 3) := by decide +kernel
theorem dX1_keepUp_51 : decode cX1_keepUp 51 = .ok (.getfield 46, 3) := by decide +kernel
theorem dX1_keepUp_54 : decode cX1_keepUp 54 = .ok (.if_icmp .ge 23, 3) := by decide +kernel
theorem dX1_keepUp_57 : decode cX1_keepUp 57 = .ok (.aload_n 0, 1) := by decide +kernel
theorem dX1_keepUp_58 : decode cX1_keepUp 58 = .ok (.aload_n 0, 1) := by decide +kernel
theorem dX1_keepUp_59 : decode cX1_keepUp 59 = .ok (.getfield 24, 3) := by decide +kernel
theorem dX1_keepUp_62 : decode cX1_keepUp 62 = .ok (.getfield 49, 3) := by decide +kernel
theorem dX1_keepUp_65 : decode cX1_keepUp 65 = .ok (.iload_n 1, 1) := by decide +kernel
theorem dX1_keepUp_66 : decode cX1_keepUp 66 = .ok (.aaload, 1) := by decide +kernel
theorem dX1_keepUp_67 : decode cX1_keepUp 67 = .ok (.iload_n 1, 1) := by decide +kernel
theorem dX1_keepUp_68 : decode cX1_keepUp 68 = .ok (.invokevirtual 53, 3) := by decide +kernel
theorem dX1_keepUp_71 : decode cX1_keepUp 71 = .ok (.iinc 1 1, 3) := by decide +kernel
theorem dX1_keepUp_74 : decode cX1_keepUp 74 = .ok (.goto (-28), 3) := by decide +kernel
theorem dX1_keepUp_77 : decode cX1_keepUp 77 = .ok (.aload_n 0, 1) := by decide +kernel
theorem dX1_keepUp_78 : decode cX1_keepUp 78 = .ok (.invokevirtual 57, 3) := by decide +kernel
theorem dX1_keepUp_81 : decode cX1_keepUp 81 = .ok (.return_, 1) := by decide +kernel
theorem dX1_after_0 : decode cX1_after 0 = .ok (.aload_n 0, 1) := by decide +kernel
theorem dX1_after_1 : decode cX1_after 1 = .ok (.getfield 11, 3) := by decide +kernel
theorem dX1_after_4 : decode cX1_after 4 = .ok (.iload_n 1, 1) := by decide +kernel
theorem dX1_after_5 : decode cX1_after 5 = .ok (.bipush 6, 2) := by decide +kernel
theorem dX1_after_7 : decode cX1_after 7 = .ok (.imul, 1) := by decide +kernel
theorem dX1_after_8 : decode cX1_after 8 = .ok (.iload_n 2, 1) := by decide +kernel
theorem dX1_after_9 : decode cX1_after 9 = .ok (.iadd, 1) := by decide +kernel
theorem dX1_after_10 : decode cX1_after 10 = .ok (.iaload, 1) := by decide +kernel
theorem dX1_after_11 : decode cX1_after 11 = .ok (.ireturn, 1) := by decide +kernel
theorem dX1_isFree_0 : decode cX1_isFree 0 = .ok (.aload_n 0, 1) := by decide +kernel
theorem dX1_isFree_1 : decode cX1_isFree 1 = .ok (.getfield 18, 3) := by decide +kernel
theorem dX1_isFree_4 : decode cX1_isFree 4 = .ok (.iload_n 1, 1) := by decide +kernel
theorem dX1_isFree_5 : decode cX1_isFree 5 = .ok (.iaload, 1) := by decide +kernel
theorem dX1_isFree_6 : decode cX1_isFree 6 = .ok (.iconst (-1), 1) := by decide +kernel
theorem dX1_isFree_7 : decode cX1_isFree 7 = .ok (.if_icmp .ne 7, 3) := by decide +kernel
theorem dX1_isFree_10 : decode cX1_isFree 10 = .ok (.iconst 1, 1) := by decide +kernel
theorem dX1_isFree_11 : decode cX1_isFree 11 = .ok (.goto 4, 3) := by decide +kernel
theorem dX1_isFree_14 : decode cX1_isFree 14 = .ok (.iconst 0, 1) := by decide +kernel
theorem dX1_isFree_15 : decode cX1_isFree 15 = .ok (.ireturn, 1) := by decide +kernel
set_option maxHeartbeats 4000000 in
set_option maxRecDepth 100000 in
theorem ggX1_wipe_J7_fill_fda19 : GoodIn wsX1_wipe wsJ7_fill_fda19 := goodIn_r _ [7, 8, 9, 6, 10, 11, 12, 13, 21, 22, 23, 24] (by first | rfl | decide +kernel) (by decide +kernel)
set_option maxRecDepth 20000 in
theorem gX1_wipe_J7_fill_fda19 : GoodIn wsX1_wipe (va_wsS RX1 60 yJ7_fill_fda19 wsJ7_fill_fda19) := goodIn_app (goodIn_of _ (by decide +kernel)) ggX1_wipe_J7_fill_fda19
theorem dX1_wipe_0 : decode cX1_wipe 0 = .ok (.aload_n 0, 1) := by decide +kernel
theorem dX1_wipe_1 : decode cX1_wipe 1 = .ok (.getfield 11, 3) := by decide +kernel
theorem dX1_wipe_4 : decode cX1_wipe 4 = .ok (.iconst 0, 1) := by decide +kernel
theorem dX1_wipe_5 : decode cX1_wipe 5 = .ok (.iload_n 1, 1) := by decide +kernel
theorem dX1_wipe_6 : decode cX1_wipe 6 = .ok (.bipush 6, 2) := by decide +kernel
theorem dX1_wipe_8 : decode cX1_wipe 8 = .ok (.imul, 1) := by decide +kernel
theorem dX1_wipe_9 : decode cX1_wipe 9 = .ok (.iconst 0, 1) := by decide +kernel
theorem dX1_wipe_10 : decode cX1_wipe 10 = .ok (.invokestatic 60, 3) := by decide +kernel
theorem dX1_wipe_13 : decode cX1_wipe 13 = .ok (.aload_n 0, 1) := by decide +kernel
theorem dX1_wipe_14 : decode cX1_wipe 14 = .ok (.getfield 15, 3) := by decide +kernel
theorem dX1_wipe_17 : decode cX1_wipe 17 = .ok (.iconst 0, 1) := by decide +kernel
theorem dX1_wipe_18 : decode cX1_wipe 18 = .ok (.iload_n 1, 1) := by decide +kernel
theorem dX1_wipe_19 : decode cX1_wipe 19 = .ok (.iconst 0, 1) := by decide +kernel
theorem dX1_wipe_20 : decode cX1_wipe 20 = .ok (.invokestatic 60, 3) := by decide +kernel
theorem dX1_wipe_23 : decode cX1_wipe 23 = .ok (.aload_n 0, 1) := by decide +kernel
theorem dX1_wipe_24 : decode cX1_wipe 24 = .ok (.getfield 18, 3) := by decide +kernel
theorem dX1_wipe_27 : decode cX1_wipe 27 = .ok (.iconst 0, 1) := by decide +kernel
theorem dX1_wipe_28 : decode cX1_wipe 28 = .ok (.iload_n 1, 1) := by decide +kernel
theorem dX1_wipe_29 : decode cX1_wipe 29 = .ok (.iconst (-1), 1) := by decide +kernel
theorem dX1_wipe_30 : decode cX1_wipe 30 = .ok (.invokestatic 60, 3) := by decide +kernel
theorem dX1_wipe_33 : decode cX1_wipe 33 = .ok (.return_, 1) := by decide +kernel
theorem dX1_plant_0 : decode cX1_plant 0 = .ok (.iconst 0, 1) := by decide +kernel
theorem dX1_plant_1 : decode cX1_plant 1 = .ok (.istore_n 3, 1) := by decide +kernel
theorem dX1_plant_2 : decode cX1_plant 2 = .ok (.iconst 0, 1) := by decide +kernel
theorem dX1_plant_3 : decode cX1_plant 3 = .ok (.istore 4, 2) := by decide +kernel
theorem dX1_plant_5 : decode cX1_plant 5 = .ok (.iload 4, 2) := by decide +kernel
theorem dX1_plant_7 : decode cX1_plant 7 = .ok (.aload_n 1, 1) := by decide +kernel
theorem dX1_plant_8 : decode cX1_plant 8 = .ok (.getfield 66, 3) := by decide +kernel
theorem dX1_plant_11 : decode cX1_plant 11 = .ok (.if_icmp .ge 62, 3) := by decide +kernel
theorem dX1_plant_14 : decode cX1_plant 14 = .ok (.iload_n 3, 1) := by decide +kernel
theorem dX1_plant_15 : decode cX1_plant 15 = .ok (.bipush 6, 2) := by decide +kernel
theorem dX1_plant_17 : decode cX1_plant 17 = .ok (.imul, 1) := by decide +kernel
theorem dX1_plant_18 : decode cX1_plant 18 = .ok (.aload_n 1, 1) := by decide +kernel
theorem dX1_plant_19 : decode cX1_plant 19 = .ok (.getfield 71, 3) := by decide +kernel
theorem dX1_plant_22 : decode cX1_plant 22 = .ok (.iload 4, 2) := by decide +kernel
theorem dX1_plant_24 : decode cX1_plant 24 = .ok (.baload, 1) := by decide +kernel
theorem dX1_plant_25 : decode cX1_plant 25 = .ok (.iadd, 1) := by decide +kernel
theorem dX1_plant_26 : decode cX1_plant 26 = .ok (.istore 5, 2) := by decide +kernel
theorem dX1_plant_28 : decode cX1_plant 28 = .ok (.aload_n 0, 1) := by decide +kernel
theorem dX1_plant_29 : decode cX1_plant 29 = .ok (.getfield 11, 3) := by decide +kernel
theorem dX1_plant_32 : decode cX1_plant 32 = .ok (.iload 5, 2) := by decide +kernel
theorem dX1_plant_34 : decode cX1_plant 34 = .ok (.iaload, 1) := by decide +kernel
theorem dX1_plant_35 : decode cX1_plant 35 = .ok (.ifCond .ne 24, 3) := by decide +kernel
theorem dX1_plant_38 : decode cX1_plant 38 = .ok (.aload_n 0, 1) := by decide +kernel
theorem dX1_plant_39 : decode cX1_plant 39 = .ok (.getfield 11, 3) := by decide +kernel
theorem dX1_plant_42 : decode cX1_plant 42 = .ok (.iload 5, 2) := by decide +kernel
theorem dX1_plant_44 : decode cX1_plant 44 = .ok (.aload_n 0, 1) := by decide +kernel
theorem dX1_plant_45 : decode cX1_plant 45 = .ok (.getfield 43, 3) := by decide +kernel
theorem dX1_plant_48 : decode cX1_plant 48 = .ok (.iastore, 1) := by decide +kernel
theorem dX1_plant_49 : decode cX1_plant 49 = .ok (.aload_n 0, 1) := by decide +kernel
theorem dX1_plant_50 : decode cX1_plant 50 = .ok (.dup, 1) := by decide +kernel
theorem dX1_plant_51 : decode cX1_plant 51 = .ok (.getfield 43, 3) := by decide +kernel
theorem dX1_plant_54 : decode cX1_plant 54 = .ok (.iconst 1, 1) := by decide +kernel
theorem dX1_plant_55 : decode cX1_plant 55 = .ok (.iadd, 1) := by decide +kernel
theorem dX1_plant_56 : decode cX1_plant 56 = .ok (.putfield 43, 3) := by decide +kernel
theorem dX1_plant_59 : decode cX1_plant 59 = .ok (.aload_n 0, 1) := by decide +kernel
theorem dX1_plant_60 : decode cX1_plant 60 = .ok (.getfield 11, 3) := by decide +kernel
theorem dX1_plant_63 : decode cX1_plant 63 = .ok (.iload 5, 2) := by decide +kernel
theorem dX1_plant_65 : decode cX1_plant 65 = .ok (.iaload, 1) := by decide +kernel
theorem dX1_plant_66 : decode cX1_plant 66 = .ok (.istore_n 3, 1) := by decide +kernel
theorem dX1_plant_67 : decode cX1_plant 67 = .ok (.iinc 4 1, 3) := by decide +kernel
theorem dX1_plant_70 : decode cX1_plant 70 = .ok (.goto (-65), 3) := by decide +kernel
theorem dX1_plant_73 : decode cX1_plant 73 = .ok (.aload_n 0, 1) := by decide +kernel
theorem dX1_plant_74 : decode cX1_plant 74 = .ok (.getfield 18, 3) := by decide +kernel
theorem dX1_plant_77 : decode cX1_plant 77 = .ok (.iload_n 3, 1) := by decide +kernel
theorem dX1_plant_78 : decode cX1_plant 78 = .ok (.iaload, 1) := by decide +kernel
theorem dX1_plant_79 : decode cX1_plant 79 = .ok (.iconst (-1), 1) := by decide +kernel
theorem dX1_plant_80 : decode cX1_plant 80 = .ok (.if_icmp .ne 10, 3) := by decide +kernel
theorem dX1_plant_83 : decode cX1_plant 83 = .ok (.aload_n 0, 1) := by decide +kernel
theorem dX1_plant_84 : decode cX1_plant 84 = .ok (.getfield 18, 3) := by decide +kernel
theorem dX1_plant_87 : decode cX1_plant 87 = .ok (.iload_n 3, 1) := by decide +kernel
theorem dX1_plant_88 : decode cX1_plant 88 = .ok (.iload_n 2, 1) := by decide +kernel
theorem dX1_plant_89 : decode cX1_plant 89 = .ok (.iastore, 1) := by decide +kernel
theorem dX1_plant_90 : decode cX1_plant 90 = .ok (.return_, 1) := by decide +kernel
set_option maxHeartbeats 4000000 in
set_option maxRecDepth 100000 in
theorem ggX1_link_X1_after : GoodIn wsX1_link wsX1_after := goodIn_r _ [9, 4, 15, 16, 17, 18, 19, 20, 21] (by first | rfl | decide +kernel) (by decide +kernel)
set_option maxRecDepth 20000 in
theorem gX1_link_X1_after : GoodIn wsX1_link (wsV RX1 75 RX1 yX1_after wsX1_after) := goodIn_app (goodIn_of _ (by decide +kernel)) ggX1_link_X1_after
set_option maxHeartbeats 4000000 in
set_option maxRecDepth 100000 in
theorem ggX1_link_X1_adopt : GoodIn wsX1_link wsX1_adopt := goodIn_r _ [13, 3, 14, 15, 16, 17, 18, 19, 20, 21] (by first | rfl | decide +kernel) (by decide +kernel)
set_option maxRecDepth 20000 in
theorem gX1_link_X1_adopt : GoodIn wsX1_link (wsV RX1 79 RX1 yX1_adopt wsX1_adopt) := goodIn_app (goodIn_of _ (by decide +kernel)) ggX1_link_X1_adopt
theorem dX1_link_0 : decode cX1_link 0 = .ok (.iconst 1, 1) := by decide +kernel
theorem dX1_link_1 : decode cX1_link 1 = .ok (.istore_n 1, 1) := by decide +kernel
theorem dX1_link_2 : decode cX1_link 2 = .ok (.aload_n 0, 1) := by decide +kernel
theorem dX1_link_3 : decode cX1_link 3 = .ok (.getfield 21, 3) := by decide +kernel
theorem dX1_link_6 : decode cX1_link 6 = .ok (.iconst 0, 1) := by decide +kernel
theorem dX1_link_7 : decode cX1_link 7 = .ok (.iconst 0, 1) := by decide +kernel
theorem dX1_link_8 : decode cX1_link 8 = .ok (.iastore, 1) := by decide +kernel
theorem dX1_link_9 : decode cX1_link 9 = .ok (.iconst 0, 1) := by decide +kernel
theorem dX1_link_10 : decode cX1_link 10 = .ok (.istore_n 2, 1) := by decide +kernel
theorem dX1_link_11 : decode cX1_link 11 = .ok (.iload_n 2, 1) := by decide +kernel
theorem dX1_link_12 : decode cX1_link 12 = .ok (.iload_n 1, 1) := by decide +kernel
theorem dX1_link_13 : decode cX1_link 13 = .ok (.if_icmp .ge 116, 3) := by decide +kernel
theorem dX1_link_16 : decode cX1_link 16 = .ok (.iload_n 2, 1) := by decide +kernel
theorem dX1_link_17 : decode cX1_link 17 = .ok (.aload_n 0, 1) := by decide +kernel
theorem dX1_link_18 : decode cX1_link 18 = .ok (.getfield 43, 3) := by decide +kernel
theorem dX1_link_21 : decode cX1_link 21 = .ok (.if_icmp .ge 108, 3) := by decide +kernel
theorem dX1_link_24 : decode cX1_link 24 = .ok (.aload_n 0, 1) := by decide +kernel
theorem dX1_link_25 : decode cX1_link 25 = .ok (.getfield 21, 3) := by decide +kernel
theorem dX1_link_28 : decode cX1_link 28 = .ok (.iload_n 2, 1) := by decide +kernel
theorem dX1_link_29 : decode cX1_link 29 = .ok (.iaload, 1) := by decide +kernel
theorem dX1_link_30 : decode cX1_link 30 = .ok (.istore_n 3, 1) := by decide +kernel
theorem dX1_link_31 : decode cX1_link 31 = .ok (.iconst 0, 1) := by decide +kernel
theorem dX1_link_32 : decode cX1_link 32 = .ok (.istore 4, 2) := by decide +kernel
theorem dX1_link_34 : decode cX1_link 34 = .ok (.iload 4, 2) := by decide +kernel
theorem dX1_link_36 : decode cX1_link 36 = .ok (.bipush 6, 2) := by decide +kernel
theorem dX1_link_38 : decode cX1_link 38 = .ok (.if_icmp .ge 85, 3) := by decide +kernel
theorem dX1_link_41 : decode cX1_link 41 = .ok (.iload_n 3, 1) := by decide +kernel
theorem dX1_link_42 : decode cX1_link 42 = .ok (.bipush 6, 2) := by decide +kernel
theorem dX1_link_44 : decode cX1_link 44 = .ok (.imul, 1) := by decide +kernel
theorem dX1_link_45 : decode cX1_link 45 = .ok (.iload 4, 2) := by decide +kernel
theorem dX1_link_47 : decode cX1_link 47 = .ok (.iadd, 1) := by decide +kernel
theorem dX1_link_48 : decode cX1_link 48 = .ok (.istore 5, 2) := by decide +kernel
theorem dX1_link_50 : decode cX1_link 50 = .ok (.iload_n 3, 1) := by decide +kernel
theorem dX1_link_51 : decode cX1_link 51 = .ok (.ifCond .ne 7, 3) := by decide +kernel
theorem dX1_link_54 : decode cX1_link 54 = .ok (.iconst 0, 1) := by decide +kernel
theorem dX1_link_55 : decode cX1_link 55 = .ok (.goto 15, 3) := by decide +kernel
theorem dX1_link_58 : decode cX1_link 58 = .ok (.aload_n 0, 1) := by decide +kernel
theorem dX1_link_59 : decode cX1_link 59 = .ok (.aload_n 0, 1) := by decide +kernel
theorem dX1_link_60 : decode cX1_link 60 = .ok (.getfield 15, 3) := by decide +kernel
theorem dX1_link_63 : decode cX1_link 63 = .ok (.iload_n 3, 1) := by decide +kernel
theorem dX1_link_64 : decode cX1_link 64 = .ok (.iaload, 1) := by decide +kernel
theorem dX1_link_65 : decode cX1_link 65 = .ok (.iload 4, 2) := by decide +kernel
theorem dX1_link_67 : decode cX1_link 67 = .ok (.invokevirtual 75, 3) := by decide +kernel
theorem dX1_link_70 : decode cX1_link 70 = .ok (.istore 6, 2) := by decide +kernel
theorem dX1_link_72 : decode cX1_link 72 = .ok (.aload_n 0, 1) := by decide +kernel
theorem dX1_link_73 : decode cX1_link 73 = .ok (.getfield 11, 3) := by decide +kernel
theorem dX1_link_76 : decode cX1_link 76 = .ok (.iload 5, 2) := by decide +kernel
theorem dX1_link_78 : decode cX1_link 78 = .ok (.iaload, 1) := by decide +kernel
theorem dX1_link_79 : decode cX1_link 79 = .ok (.istore 7, 2) := by decide +kernel
theorem dX1_link_81 : decode cX1_link 81 = .ok (.iload 7, 2) := by decide +kernel
theorem dX1_link_83 : decode cX1_link 83 = .ok (.ifCond .ne 15, 3) := by decide +kernel
theorem dX1_link_86 : decode cX1_link 86 = .ok (.aload_n 0, 1) := by decide +kernel
theorem dX1_link_87 : decode cX1_link 87 = .ok (.getfield 11, 3) := by decide +kernel
theorem dX1_link_90 : decode cX1_link 90 = .ok (.iload 5, 2) := by decide +kernel
theorem dX1_link_92 : decode cX1_link 92 = .ok (.iload 6, 2) := by decide +kernel
theorem dX1_link_94 : decode cX1_link 94 = .ok (.iastore, 1) := by decide +kernel
theorem dX1_link_95 : decode cX1_link 95 = .ok (.goto 22, 3) := by decide +kernel
theorem dX1_link_98 : decode cX1_link 98 = .ok (.aload_n 0, 1) := by decide +kernel
theorem dX1_link_99 : decode cX1_link 99 = .ok (.iload 7, 2) := by decide +kernel
theorem dX1_link_101 : decode cX1_link 101 = .ok (.iload 6, 2) := by decide +kernel
theorem dX1_link_103 : decode cX1_link 103 = .ok (.invokevirtual 79, 3) := by decide +kernel
theorem dX1_link_106 : decode cX1_link 106 = .ok (.aload_n 0, 1) := by decide +kernel
theorem dX1_link_107 : decode cX1_link 107 = .ok (.getfield 21, 3) := by decide +kernel
theorem dX1_link_110 : decode cX1_link 110 = .ok (.iload_n 1, 1) := by decide +kernel
theorem dX1_link_111 : decode cX1_link 111 = .ok (.iload 7, 2) := by decide +kernel
theorem dX1_link_113 : decode cX1_link 113 = .ok (.iastore, 1) := by decide +kernel
theorem dX1_link_114 : decode cX1_link 114 = .ok (.iinc 1 1, 3) := by decide +kernel
theorem dX1_link_117 : decode cX1_link 117 = .ok (.iinc 4 1, 3) := by decide +kernel
theorem dX1_link_120 : decode cX1_link 120 = .ok (.goto (-86), 3) := by decide +kernel
theorem dX1_link_123 : decode cX1_link 123 = .ok (.iinc 2 1, 3) := by decide +kernel
theorem dX1_link_126 : decode cX1_link 126 = .ok (.goto (-115), 3) := by decide +kernel
theorem dX1_link_129 : decode cX1_link 129 = .ok (.return_, 1) := by decide +kernel
theorem dX1_adopt_0 : decode cX1_adopt 0 = .ok (.aload_n 0, 1) := by decide +kernel
theorem dX1_adopt_1 : decode cX1_adopt 1 = .ok (.getfield 15, 3) := by decide +kernel
theorem dX1_adopt_4 : decode cX1_adopt 4 = .ok (.iload_n 1, 1) := by decide +kernel
theorem dX1_adopt_5 : decode cX1_adopt 5 = .ok (.iload_n 2, 1) := by decide +kernel
theorem dX1_adopt_6 : decode cX1_adopt 6 = .ok (.iastore, 1) := by decide +kernel
theorem dX1_adopt_7 : decode cX1_adopt 7 = .ok (.aload_n 0, 1) := by decide +kernel
theorem dX1_adopt_8 : decode cX1_adopt 8 = .ok (.getfield 18, 3) := by decide +kernel
theorem dX1_adopt_11 : decode cX1_adopt 11 = .ok (.iload_n 1, 1) := by decide +kernel
theorem dX1_adopt_12 : decode cX1_adopt 12 = .ok (.iaload, 1) := by decide +kernel
theorem dX1_adopt_13 : decode cX1_adopt 13 = .ok (.iconst (-1), 1) := by decide +kernel
theorem dX1_adopt_14 : decode cX1_adopt 14 = .ok (.if_icmp .ne 15, 3) := by decide +kernel
theorem dX1_adopt_17 : decode cX1_adopt 17 = .ok (.aload_n 0, 1) := by decide +kernel
theorem dX1_adopt_18 : decode cX1_adopt 18 = .ok (.getfield 18, 3) := by decide +kernel
theorem dX1_adopt_21 : decode cX1_adopt 21 = .ok (.iload_n 1, 1) := by decide +kernel
theorem dX1_adopt_22 : decode cX1_adopt 22 = .ok (.aload_n 0, 1) := by decide +kernel
theorem dX1_adopt_23 : decode cX1_adopt 23 = .ok (.getfield 18, 3) := by decide +kernel
theorem dX1_adopt_26 : decode cX1_adopt 26 = .ok (.iload_n 2, 1) := by decide +kernel
theorem dX1_adopt_27 : decode cX1_adopt 27 = .ok (.iaload, 1) := by decide +kernel
theorem dX1_adopt_28 : decode cX1_adopt 28 = .ok (.iastore, 1) := by decide +kernel
theorem dX1_adopt_29 : decode cX1_adopt 29 = .ok (.return_, 1) := by decide +kernel
