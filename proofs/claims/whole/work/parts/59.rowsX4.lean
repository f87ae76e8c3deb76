set_option maxHeartbeats 4000000 in
set_option maxRecDepth 100000 in
theorem ggX4_init_X6_init : GoodIn wsX4_init wsX6_init := goodIn_r _ [11, 12, 2, 3, 13, 14, 19, 20] (by first | rfl | decide +kernel) (by decide +kernel)
set_option maxRecDepth 20000 in
theorem gX4_init_X6_init_n24 : GoodIn wsX4_init (wsX6_init) := ggX4_init_X6_init
theorem dX4_init_0 : decode cX4_init 0 = .ok (.aload_n 0, 1) := by decide +kernel
theorem dX4_init_1 : decode cX4_init 1 = .ok (.invokespecial 3, 3) := by decide +kernel
theorem dX4_init_4 : decode cX4_init 4 = .ok (.aload_n 0, 1) := by decide +kernel
theorem dX4_init_5 : decode cX4_init 5 = .ok (.bipush 64, 2) := by decide +kernel
theorem dX4_init_7 : decode cX4_init 7 = .ok (.anewarray 9, 3) := by decide +kernel
theorem dX4_init_10 : decode cX4_init 10 = .ok (.putfield 11, 3) := by decide +kernel
theorem dX4_init_13 : decode cX4_init 13 = .ok (.aload_n 0, 1) := by decide +kernel
theorem dX4_init_14 : decode cX4_init 14 = .ok (.bipush 64, 2) := by decide +kernel
theorem dX4_init_16 : decode cX4_init 16 = .ok (.anewarray 9, 3) := by decide +kernel
theorem dX4_init_19 : decode cX4_init 19 = .ok (.putfield 17, 3) := by decide +kernel
theorem dX4_init_22 : decode cX4_init 22 = .ok (.aload_n 0, 1) := by decide +kernel
theorem dX4_init_23 : decode cX4_init 23 = .ok (.iconst 1, 1) := by decide +kernel
theorem dX4_init_24 : decode cX4_init 24 = .ok (.putfield 20, 3) := by decide +kernel
theorem dX4_init_27 : decode cX4_init 27 = .ok (.iconst 0, 1) := by decide +kernel
theorem dX4_init_28 : decode cX4_init 28 = .ok (.istore_n 1, 1) := by decide +kernel
theorem dX4_init_29 : decode cX4_init 29 = .ok (.iload_n 1, 1) := by decide +kernel
theorem dX4_init_30 : decode cX4_init 30 = .ok (.bipush 64, 2) := by decide +kernel
theorem dX4_init_32 : decode cX4_init 32 = .ok (.if_icmp .ge 35, 3) := by decide +kernel
theorem dX4_init_35 : decode cX4_init 35 = .ok (.aload_n 0, 1) := by decide +kernel
theorem dX4_init_36 : decode cX4_init 36 = .ok (.getfield 11, 3) := by decide +kernel
theorem dX4_init_39 : decode cX4_init 39 = .ok (.iload_n 1, 1) := by decide +kernel
theorem dX4_init_40 : decode cX4_init 40 = .ok (.new 9, 3) := by decide +kernel
theorem dX4_init_43 : decode cX4_init 43 = .ok (.dup, 1) := by decide +kernel
theorem dX4_init_44 : decode cX4_init 44 = .ok (.invokespecial 24, 3) := by decide +kernel
theorem dX4_init_47 : decode cX4_init 47 = .ok (.aastore, 1) := by decide +kernel
theorem dX4_init_48 : decode cX4_init 48 = .ok (.aload_n 0, 1) := by decide +kernel
theorem dX4_init_49 : decode cX4_init 49 = .ok (.getfield 17, 3) := by decide +kernel
theorem dX4_init_52 : decode cX4_init 52 = .ok (.iload_n 1, 1) := by decide +kernel
theorem dX4_init_53 : decode cX4_init 53 = .ok (.new 9, 3) := by decide +kernel
theorem dX4_init_56 : decode cX4_init 56 = .ok (.dup, 1) := by decide +kernel
theorem dX4_init_57 : decode cX4_init 57 = .ok (.invokespecial 24, 3) := by decide +kernel
theorem dX4_init_60 : decode cX4_init 60 = .ok (.aastore, 1) := by decide +kernel
theorem dX4_init_61 : decode cX4_init 61 = .ok (.iinc 1 1, 3) := by decide +kernel
theorem dX4_init_64 : decode cX4_init 64 = .ok (.goto (-35), 3) := by decide +kernel
theorem dX4_init_67 : decode cX4_init 67 = .ok (.return_, 1) := by decide +kernel
theorem dX4_clear_0 : decode cX4_clear 0 = .ok (.aload_n 0, 1) := by decide +kernel
theorem dX4_clear_1 : decode cX4_clear 1 = .ok (.iconst 0, 1) := by decide +kernel
theorem dX4_clear_2 : decode cX4_clear 2 = .ok (.putfield 25, 3) := by decide +kernel
theorem dX4_clear_5 : decode cX4_clear 5 = .ok (.aload_n 0, 1) := by decide +kernel
theorem dX4_clear_6 : decode cX4_clear 6 = .ok (.dup, 1) := by decide +kernel
theorem dX4_clear_7 : decode cX4_clear 7 = .ok (.getfield 20, 3) := by decide +kernel
theorem dX4_clear_10 : decode cX4_clear 10 = .ok (.iconst 1, 1) := by decide +kernel
theorem dX4_clear_11 : decode cX4_clear 11 = .ok (.iadd, 1) := by decide +kernel
theorem dX4_clear_12 : decode cX4_clear 12 = .ok (.putfield 20, 3) := by decide +kernel
theorem dX4_clear_15 : decode cX4_clear 15 = .ok (.return_, 1) := by decide +kernel
set_option maxHeartbeats 4000000 in
set_option maxRecDepth 100000 in
theorem ggX4_add_X6_copy : GoodIn wsX4_add wsX6_copy := goodIn_r _ [9, 10, 11, 12, 13, 14, 15, 20, 21] (by first | rfl | decide +kernel) (by decide +kernel)
set_option maxRecDepth 20000 in
theorem gX4_add_X6_copy : GoodIn wsX4_add (wsV RX4 28 RX6 yX6_copy wsX6_copy) := goodIn_app (goodIn_of _ (by decide +kernel)) ggX4_add_X6_copy
theorem dX4_add_0 : decode cX4_add 0 = .ok (.aload_n 0, 1) := by decide +kernel
theorem dX4_add_1 : decode cX4_add 1 = .ok (.getfield 25, 3) := by decide +kernel
theorem dX4_add_4 : decode cX4_add 4 = .ok (.bipush 64, 2) := by decide +kernel
theorem dX4_add_6 : decode cX4_add 6 = .ok (.if_icmp .ge 49, 3) := by decide +kernel
theorem dX4_add_9 : decode cX4_add 9 = .ok (.aload_n 0, 1) := by decide +kernel
theorem dX4_add_10 : decode cX4_add 10 = .ok (.getfield 11, 3) := by decide +kernel
theorem dX4_add_13 : decode cX4_add 13 = .ok (.aload_n 0, 1) := by decide +kernel
theorem dX4_add_14 : decode cX4_add 14 = .ok (.getfield 25, 3) := by decide +kernel
theorem dX4_add_17 : decode cX4_add 17 = .ok (.aaload, 1) := by decide +kernel
theorem dX4_add_18 : decode cX4_add 18 = .ok (.aload_n 1, 1) := by decide +kernel
theorem dX4_add_19 : decode cX4_add 19 = .ok (.invokevirtual 28, 3) := by decide +kernel
theorem dX4_add_22 : decode cX4_add 22 = .ok (.aload_n 0, 1) := by decide +kernel
theorem dX4_add_23 : decode cX4_add 23 = .ok (.getfield 17, 3) := by decide +kernel
theorem dX4_add_26 : decode cX4_add 26 = .ok (.aload_n 0, 1) := by decide +kernel
theorem dX4_add_27 : decode cX4_add 27 = .ok (.getfield 25, 3) := by decide +kernel
theorem dX4_add_30 : decode cX4_add 30 = .ok (.aaload, 1) := by decide +kernel
theorem dX4_add_31 : decode cX4_add 31 = .ok (.aload_n 2, 1) := by decide +kernel
theorem dX4_add_32 : decode cX4_add 32 = .ok (.invokevirtual 28, 3) := by decide +kernel
theorem dX4_add_35 : decode cX4_add 35 = .ok (.aload_n 0, 1) := by decide +kernel
theorem dX4_add_36 : decode cX4_add 36 = .ok (.dup, 1) := by decide +kernel
theorem dX4_add_37 : decode cX4_add 37 = .ok (.getfield 25, 3) := by decide +kernel
theorem dX4_add_40 : decode cX4_add 40 = .ok (.iconst 1, 1) := by decide +kernel
theorem dX4_add_41 : decode cX4_add 41 = .ok (.iadd, 1) := by decide +kernel
theorem dX4_add_42 : decode cX4_add 42 = .ok (.putfield 25, 3) := by decide +kernel
theorem dX4_add_45 : decode cX4_add 45 = .ok (.aload_n 0, 1) := by decide +kernel
theorem dX4_add_46 : decode cX4_add 46 = .ok (.dup, 1) := by decide +kernel
theorem dX4_add_47 : decode cX4_add 47 = .ok (.getfield 20, 3) := by decide +kernel
theorem dX4_add_50 : decode cX4_add 50 = .ok (.iconst 1, 1) := by decide +kernel
theorem dX4_add_51 : decode cX4_add 51 = .ok (.iadd, 1) := by decide +kernel
theorem dX4_add_52 : decode cX4_add 52 = .ok (.putfield 20, 3) := by decide +kernel
theorem dX4_add_55 : decode cX4_add 55 = .ok (.return_, 1) := by decide +kernel
theorem dX4_remove_0 : decode cX4_remove 0 = .ok (.aload_n 0, 1) := by decide +kernel
theorem dX4_remove_1 : decode cX4_remove 1 = .ok (.getfield 11, 3) := by decide +kernel
theorem dX4_remove_4 : decode cX4_remove 4 = .ok (.iload_n 1, 1) := by decide +kernel
theorem dX4_remove_5 : decode cX4_remove 5 = .ok (.aaload, 1) := by decide +kernel
theorem dX4_remove_6 : decode cX4_remove 6 = .ok (.astore_n 2, 1) := by decide +kernel
theorem dX4_remove_7 : decode cX4_remove 7 = .ok (.aload_n 0, 1) := by decide +kernel
theorem dX4_remove_8 : decode cX4_remove 8 = .ok (.getfield 17, 3) := by decide +kernel
theorem dX4_remove_11 : decode cX4_remove 11 = .ok (.iload_n 1, 1) := by decide +kernel
theorem dX4_remove_12 : decode cX4_remove 12 = .ok (.aaload, 1) := by decide +kernel
theorem dX4_remove_13 : decode cX4_remove 13 = .ok (.astore_n 3, 1) := by decide +kernel
theorem dX4_remove_14 : decode cX4_remove 14 = .ok (.iload_n 1, 1) := by decide +kernel
theorem dX4_remove_15 : decode cX4_remove 15 = .ok (.istore 4, 2) := by decide +kernel
theorem dX4_remove_17 : decode cX4_remove 17 = .ok (.iload 4, 2) := by decide +kernel
theorem dX4_remove_19 : decode cX4_remove 19 = .ok (.iconst 1, 1) := by decide +kernel
theorem dX4_remove_20 : decode cX4_remove 20 = .ok (.iadd, 1) := by decide +kernel
theorem dX4_remove_21 : decode cX4_remove 21 = .ok (.aload_n 0, 1) := by decide +kernel
theorem dX4_remove_22 : decode cX4_remove 22 = .ok (.getfield 25, 3) := by decide +kernel
theorem dX4_remove_25 : decode cX4_remove 25 = .ok (.if_icmp .ge 41, 3) := by decide +kernel
theorem dX4_remove_28 : decode cX4_remove 28 = .ok (.aload_n 0, 1) := by decide +kernel
theorem dX4_remove_29 : decode cX4_remove 29 = .ok (.getfield 11, 3) := by decide +kernel
theorem dX4_remove_32 : decode cX4_remove 32 = .ok (.iload 4, 2) := by decide +kernel
theorem dX4_remove_34 : decode cX4_remove 34 = .ok (.aload_n 0, 1) := by decide +kernel
theorem dX4_remove_35 : decode cX4_remove 35 = .ok (.getfield 11, 3) := by decide +kernel
theorem dX4_remove_38 : decode cX4_remove 38 = .ok (.iload 4, 2) := by decide +kernel
theorem dX4_remove_40 : decode cX4_remove 40 = .ok (.iconst 1, 1) := by decide +kernel
theorem dX4_remove_41 : decode cX4_remove 41 = .ok (.iadd, 1) := by decide +kernel
theorem dX4_remove_42 : decode cX4_remove 42 = .ok (.aaload, 1) := by decide +kernel
theorem dX4_remove_43 : decode cX4_remove 43 = .ok (.aastore, 1) := by decide +kernel
theorem dX4_remove_44 : decode cX4_remove 44 = .ok (.aload_n 0, 1) := by decide +kernel
theorem dX4_remove_45 : decode cX4_remove 45 = .ok (.getfield 17, 3) := by decide +kernel
theorem dX4_remove_48 : decode cX4_remove 48 = .ok (.iload 4, 2) := by decide +kernel
theorem dX4_remove_50 : decode cX4_remove 50 = .ok (.aload_n 0, 1) := by decide +kernel
theorem dX4_remove_51 : decode cX4_remove 51 = .ok (.getfield 17, 3) := by decide +kernel
theorem dX4_remove_54 : decode cX4_remove 54 = .ok (.iload 4, 2) := by decide +kernel
theorem dX4_remove_56 : decode cX4_remove 56 = .ok (.iconst 1, 1) := by decide +kernel
theorem dX4_remove_57 : decode cX4_remove 57 = .ok (.iadd, 1) := by decide +kernel
theorem dX4_remove_58 : decode cX4_remove 58 = .ok (.aaload, 1) := by decide +kernel
theorem dX4_remove_59 : decode cX4_remove 59 = .ok (.aastore, 1) := by decide +kernel
theorem dX4_remove_60 : decode cX4_remove 60 = .ok (.iinc 4 1, 3) := by decide +kernel
theorem dX4_remove_63 : decode cX4_remove 63 = .ok (.goto (-46), 3) := by decide +kernel
theorem dX4_remove_66 : decode cX4_remove 66 = .ok (.aload_n 0, 1) := by decide +kernel
theorem dX4_remove_67 : decode cX4_remove 67 = .ok (.dup, 1) := by decide +kernel
theorem dX4_remove_68 : decode cX4_remove 68 = .ok (.getfield 25, 3) := by decide +kernel
theorem dX4_remove_71 : decode cX4_remove 71 = .ok (.iconst 1, 1) := by decide +kernel
theorem dX4_remove_72 : decode cX4_remove 72 = .ok (.isub, 1) := by decide +kernel
theorem dX4_remove_73 : decode cX4_remove 73 = .ok (.putfield 25, 3) := by decide +kernel
theorem dX4_remove_76 : decode cX4_remove 76 = .ok (.aload_n 0, 1) := by decide +kernel
theorem dX4_remove_77 : decode cX4_remove 77 = .ok (.getfield 11, 3) := by decide +kernel
theorem dX4_remove_80 : decode cX4_remove 80 = .ok (.aload_n 0, 1) := by decide +kernel
theorem dX4_remove_81 : decode cX4_remove 81 = .ok (.getfield 25, 3) := by decide +kernel
theorem dX4_remove_84 : decode cX4_remove 84 = .ok (.aload_n 2, 1) := by decide +kernel
theorem dX4_remove_85 : decode cX4_remove 85 = .ok (.aastore, 1) := by decide +kernel
theorem dX4_remove_86 : decode cX4_remove 86 = .ok (.aload_n 0, 1) := by decide +kernel
theorem dX4_remove_87 : decode cX4_remove 87 = .ok (.getfield 17, 3) := by decide +kernel
theorem dX4_remove_90 : decode cX4_remove 90 = .ok (.aload_n 0, 1) := by decide +kernel
theorem dX4_remove_91 : decode cX4_remove 91 = .ok (.getfield 25, 3) := by decide +kernel
theorem dX4_remove_94 : decode cX4_remove 94 = .ok (.aload_n 3, 1) := by decide +kernel
theorem dX4_remove_95 : decode cX4_remove 95 = .ok (.aastore, 1) := by decide +kernel
theorem dX4_remove_96 : decode cX4_remove 96 = .ok (.aload_n 0, 1) := by decide +kernel
theorem dX4_remove_97 : decode cX4_remove 97 = .ok (.dup, 1) := by decide +kernel
theorem dX4_remove_98 : decode cX4_remove 98 = .ok (.getfield 20, 3) := by decide +kernel
theorem dX4_remove_101 : decode cX4_remove 101 = .ok (.iconst 1, 1) := by decide +kernel
theorem dX4_remove_102 : decode cX4_remove 102 = .ok (.iadd, 1) := by decide +kernel
theorem dX4_remove_103 : decode cX4_remove 103 = .ok (.putfield 20, 3) := by decide +kernel
theorem dX4_remove_106 : decode cX4_remove 106 = .ok (.return_, 1) := by decide +kernel
theorem dX4_longestLeft_0 : decode cX4_longestLeft 0 = .ok (.iconst 0, 1) := by decide +kernel
theorem dX4_longestLeft_1 : decode cX4_longestLeft 1 = .ok (.istore_n 1, 1) := by decide +kernel
theorem dX4_longestLeft_2 : decode cX4_longestLeft 2 = .ok (.iconst 0, 1) := by decide +kernel
theorem dX4_longestLeft_3 : decode cX4_longestLeft 3 = .ok (.istore_n 2, 1) := by decide +kernel
theorem dX4_longestLeft_4 : decode cX4_longestLeft 4 = .ok (.iload_n 2, 1) := by decide +kernel
theorem dX4_longestLeft_5 : decode cX4_longestLeft 5 = .ok (.aload_n 0, 1) := by decide +kernel
theorem dX4_longestLeft_6 : decode cX4_longestLeft 6 = .ok (.getfield 25, 3) := by decide +kernel
theorem dX4_longestLeft_9 : decode cX4_longestLeft 9 = .ok (.if_icmp .ge 23, 3) := by decide +kernel
theorem dX4_longestLeft_12 : decode cX4_longestLeft 12 = .ok (.iload_n 1, 1) := by decide +kernel
theorem dX4_longestLeft_13 : decode cX4_longestLeft 13 = .ok (.aload_n 0, 1) := by decide +kernel
theorem dX4_longestLeft_14 : decode cX4_longestLeft 14 = .ok (.getfield 11, 3) := by decide +kernel
theorem dX4_longestLeft_17 : decode cX4_longestLeft 17 = .ok (.iload_n 2, 1) := by decide +kernel
theorem dX4_longestLeft_18 : decode cX4_longestLeft 18 = .ok (.aaload, 1) := by decide +kernel
theorem dX4_longestLeft_19 : decode cX4_longestLeft 19 = .ok (.getfield 32, 3) := by decide +kernel
theorem dX4_longestLeft_22 : decode cX4_longestLeft 22 = .ok (.invokestatic 35, 3) := by decide +kernel
theorem dX4_longestLeft_25 : decode cX4_longestLeft 25 = .ok (.istore_n 1, 1) := by decide +kernel
theorem dX4_longestLeft_26 : decode cX4_longestLeft 26 = .ok (.iinc 2 1, 3) := by decide +kernel
theorem dX4_longestLeft_29 : decode cX4_longestLeft 29 = .ok (.goto (-25), 3) := by decide +kernel
theorem dX4_longestLeft_32 : decode cX4_longestLeft 32 = .ok (.iload_n 1, 1) := by decide +kernel
theorem dX4_longestLeft_33 : decode cX4_longestLeft 33 = .ok (.ireturn, 1) := by decide +kernel
theorem dX4_lettersOfLefts_0 : decode cX4_lettersOfLefts 0 = .ok (.iconst 0, 1) := by decide +kernel
theorem dX4_lettersOfLefts_1 : decode cX4_lettersOfLefts 1 = .ok (.istore_n 1, 1) := by decide +kernel
theorem dX4_lettersOfLefts_2 : decode cX4_lettersOfLefts 2 = .ok (.iconst 0, 1) := by decide +kernel
theorem dX4_lettersOfLefts_3 : decode cX4_lettersOfLefts 3 = .ok (.istore_n 2, 1) := by decide +kernel
theorem dX4_lettersOfLefts_4 : decode cX4_lettersOfLefts 4 = .ok (.iload_n 2, 1) := by decide +kernel
theorem dX4_lettersOfLefts_5 : decode cX4_lettersOfLefts 5 = .ok (.aload_n 0, 1) := by decide +kernel
theorem dX4_lettersOfLefts_6 : decode cX4_lettersOfLefts 6 = .ok (.getfield 25, 3) := by decide +kernel
theorem dX4_lettersOfLefts_9 : decode cX4_lettersOfLefts 9 = .ok (.if_icmp .ge 21, 3) := by decide +kernel
theorem dX4_lettersOfLefts_12 : decode cX4_lettersOfLefts 12 = .ok (.iload_n 1, 1) := by decide +kernel
theorem dX4_lettersOfLefts_13 : decode cX4_lettersOfLefts 13 = .ok (.aload_n 0, 1) := by decide +kernel
theorem dX4_lettersOfLefts_14 : decode cX4_lettersOfLefts 14 = .ok (.getfield 11, 3) := by decide +kernel
theorem dX4_lettersOfLefts_17 : decode cX4_lettersOfLefts 17 = .ok (.iload_n 2, 1) := by decide +kernel
theorem dX4_lettersOfLefts_18 : decode cX4_lettersOfLefts 18 = .ok (.aaload, 1) := by decide +kernel
theorem dX4_lettersOfLefts_19 : decode cX4_lettersOfLefts 19 = .ok (.getfield 32, 3) := by decide +kernel
theorem dX4_lettersOfLefts_22 : decode cX4_lettersOfLefts 22 = .ok (.iadd, 1) := by decide +kernel
theorem dX4_lettersOfLefts_23 : decode cX4_lettersOfLefts 23 = .ok (.istore_n 1, 1) := by decide +kernel
theorem dX4_lettersOfLefts_24 : decode cX4_lettersOfLefts 24 = .ok (.iinc 2 1, 3) := by decide +kernel
theorem dX4_lettersOfLefts_27 : decode cX4_lettersOfLefts 27 = .ok (.goto (-23), 3) := by decide +kernel
theorem dX4_lettersOfLefts_30 : decode cX4_lettersOfLefts 30 = .ok (.iload_n 1, 1) := by decide +kernel
theorem dX4_lettersOfLefts_31 : decode cX4_lettersOfLefts 31 = .ok (.ireturn, 1) := by decide +kernel
