theorem dX8_init_0 : decode cX8_init 0 = .ok (.aload_n 0, 1) := by decide +kernel
theorem dX8_init_1 : decode cX8_init 1 = .ok (.invokespecial 1, 3) := by decide +kernel
theorem dX8_init_4 : decode cX8_init 4 = .ok (.aload_n 0, 1) := by decide +kernel
theorem dX8_init_5 : decode cX8_init 5 = .ok (.sipush 2600, 3) := by decide +kernel
theorem dX8_init_8 : decode cX8_init 8 = .ok (.newarray .int, 2) := by decide +kernel
theorem dX8_init_10 : decode cX8_init 10 = .ok (.putfield 7, 3) := by decide +kernel
theorem dX8_init_13 : decode cX8_init 13 = .ok (.aload_n 0, 1) := by decide +kernel
theorem dX8_init_14 : decode cX8_init 14 = .ok (.sipush 2600, 3) := by decide +kernel
theorem dX8_init_17 : decode cX8_init 17 = .ok (.newarray .int, 2) := by decide +kernel
theorem dX8_init_19 : decode cX8_init 19 = .ok (.putfield 13, 3) := by decide +kernel
theorem dX8_init_22 : decode cX8_init 22 = .ok (.aload_n 0, 1) := by decide +kernel
theorem dX8_init_23 : decode cX8_init 23 = .ok (.bipush 65, 2) := by decide +kernel
theorem dX8_init_25 : decode cX8_init 25 = .ok (.newarray .int, 2) := by decide +kernel
theorem dX8_init_27 : decode cX8_init 27 = .ok (.putfield 16, 3) := by decide +kernel
theorem dX8_init_30 : decode cX8_init 30 = .ok (.aload_n 0, 1) := by decide +kernel
theorem dX8_init_31 : decode cX8_init 31 = .ok (.bipush 65, 2) := by decide +kernel
theorem dX8_init_33 : decode cX8_init 33 = .ok (.newarray .int, 2) := by decide +kernel
theorem dX8_init_35 : decode cX8_init 35 = .ok (.putfield 19, 3) := by decide +kernel
theorem dX8_init_38 : decode cX8_init 38 = .ok (.aload_n 0, 1) := by decide +kernel
theorem dX8_init_39 : decode cX8_init 39 = .ok (.ldc 22, 2) := by decide +kernel
theorem dX8_init_41 : decode cX8_init 41 = .ok (.newarray .int, 2) := by decide +kernel
theorem dX8_init_43 : decode cX8_init 43 = .ok (.putfield 23, 3) := by decide +kernel
theorem dX8_init_46 : decode cX8_init 46 = .ok (.aload_n 0, 1) := by decide +kernel
theorem dX8_init_47 : decode cX8_init 47 = .ok (.ldc 22, 2) := by decide +kernel
theorem dX8_init_49 : decode cX8_init 49 = .ok (.newarray .int, 2) := by decide +kernel
theorem dX8_init_51 : decode cX8_init 51 = .ok (.putfield 26, 3) := by decide +kernel
theorem dX8_init_54 : decode cX8_init 54 = .ok (.aload_n 0, 1) := by decide +kernel
theorem dX8_init_55 : decode cX8_init 55 = .ok (.sipush 1000, 3) := by decide +kernel
theorem dX8_init_58 : decode cX8_init 58 = .ok (.newarray .int, 2) := by decide +kernel
theorem dX8_init_60 : decode cX8_init 60 = .ok (.putfield 29, 3) := by decide +kernel
theorem dX8_init_63 : decode cX8_init 63 = .ok (.aload_n 0, 1) := by decide +kernel
theorem dX8_init_64 : decode cX8_init 64 = .ok (.sipush 1000, 3) := by decide +kernel
theorem dX8_init_67 : decode cX8_init 67 = .ok (.newarray .int, 2) := by decide +kernel
theorem dX8_init_69 : decode cX8_init 69 = .ok (.putfield 32, 3) := by decide +kernel
theorem dX8_init_72 : decode cX8_init 72 = .ok (.aload_n 0, 1) := by decide +kernel
theorem dX8_init_73 : decode cX8_init 73 = .ok (.bipush 80, 2) := by decide +kernel
theorem dX8_init_75 : decode cX8_init 75 = .ok (.newarray .int, 2) := by decide +kernel
theorem dX8_init_77 : decode cX8_init 77 = .ok (.putfield 35, 3) := by decide +kernel
theorem dX8_init_80 : decode cX8_init 80 = .ok (.aload_n 0, 1) := by decide +kernel
theorem dX8_init_81 : decode cX8_init 81 = .ok (.iconst 2, 1) := by decide +kernel
theorem dX8_init_82 : decode cX8_init 82 = .ok (.newarray .int, 2) := by decide +kernel
theorem dX8_init_84 : decode cX8_init 84 = .ok (.putfield 38, 3) := by decide +kernel
theorem dX8_init_87 : decode cX8_init 87 = .ok (.aload_n 0, 1) := by decide +kernel
theorem dX8_init_88 : decode cX8_init 88 = .ok (.bipush 81, 2) := by decide +kernel
theorem dX8_init_90 : decode cX8_init 90 = .ok (.newarray .int, 2) := by decide +kernel
theorem dX8_init_92 : decode cX8_init 92 = .ok (.putfield 41, 3) := by decide +kernel
theorem dX8_init_95 : decode cX8_init 95 = .ok (.aload_n 0, 1) := by decide +kernel
theorem dX8_init_96 : decode cX8_init 96 = .ok (.bipush 81, 2) := by decide +kernel
theorem dX8_init_98 : decode cX8_init 98 = .ok (.newarray .int, 2) := by decide +kernel
theorem dX8_init_100 : decode cX8_init 100 = .ok (.putfield 44, 3) := by decide +kernel
theorem dX8_init_103 : decode cX8_init 103 = .ok (.aload_n 0, 1) := by decide +kernel
theorem dX8_init_104 : decode cX8_init 104 = .ok (.sipush 15366, 3) := by decide +kernel
theorem dX8_init_107 : decode cX8_init 107 = .ok (.newarray .int, 2) := by decide +kernel
theorem dX8_init_109 : decode cX8_init 109 = .ok (.putfield 47, 3) := by decide +kernel
theorem dX8_init_112 : decode cX8_init 112 = .ok (.aload_n 0, 1) := by decide +kernel
theorem dX8_init_113 : decode cX8_init 113 = .ok (.sipush 2561, 3) := by decide +kernel
theorem dX8_init_116 : decode cX8_init 116 = .ok (.newarray .int, 2) := by decide +kernel
theorem dX8_init_118 : decode cX8_init 118 = .ok (.putfield 50, 3) := by decide +kernel
theorem dX8_init_121 : decode cX8_init 121 = .ok (.aload_n 0, 1) := by decide +kernel
theorem dX8_init_122 : decode cX8_init 122 = .ok (.sipush 2561, 3) := by decide +kernel
theorem dX8_init_125 : decode cX8_init 125 = .ok (.newarray .int, 2) := by decide +kernel
theorem dX8_init_127 : decode cX8_init 127 = .ok (.putfield 53, 3) := by decide +kernel
theorem dX8_init_130 : decode cX8_init 130 = .ok (.aload_n 0, 1) := by decide +kernel
theorem dX8_init_131 : decode cX8_init 131 = .ok (.sipush 2561, 3) := by decide +kernel
theorem dX8_init_134 : decode cX8_init 134 = .ok (.newarray .int, 2) := by decide +kernel
theorem dX8_init_136 : decode cX8_init 136 = .ok (.putfield 56, 3) := by decide +kernel
theorem dX8_init_139 : decode cX8_init 139 = .ok (.aload_n 0, 1) := by decide +kernel
theorem dX8_init_140 : decode cX8_init 140 = .ok (.sipush 15366, 3) := by decide +kernel
theorem dX8_init_143 : decode cX8_init 143 = .ok (.newarray .int, 2) := by decide +kernel
theorem dX8_init_145 : decode cX8_init 145 = .ok (.putfield 59, 3) := by decide +kernel
theorem dX8_init_148 : decode cX8_init 148 = .ok (.aload_n 0, 1) := by decide +kernel
theorem dX8_init_149 : decode cX8_init 149 = .ok (.bipush 41, 2) := by decide +kernel
theorem dX8_init_151 : decode cX8_init 151 = .ok (.newarray .int, 2) := by decide +kernel
theorem dX8_init_153 : decode cX8_init 153 = .ok (.putfield 62, 3) := by decide +kernel
theorem dX8_init_156 : decode cX8_init 156 = .ok (.aload_n 0, 1) := by decide +kernel
theorem dX8_init_157 : decode cX8_init 157 = .ok (.sipush 2561, 3) := by decide +kernel
theorem dX8_init_160 : decode cX8_init 160 = .ok (.newarray .boolean, 2) := by decide +kernel
theorem dX8_init_162 : decode cX8_init 162 = .ok (.putfield 65, 3) := by decide +kernel
theorem dX8_init_165 : decode cX8_init 165 = .ok (.aload_n 0, 1) := by decide +kernel
theorem dX8_init_166 : decode cX8_init 166 = .ok (.sipush 2561, 3) := by decide +kernel
theorem dX8_init_169 : decode cX8_init 169 = .ok (.newarray .boolean, 2) := by decide +kernel
theorem dX8_init_171 : decode cX8_init 171 = .ok (.putfield 69, 3) := by decide +kernel
theorem dX8_init_174 : decode cX8_init 174 = .ok (.aload_n 0, 1) := by decide +kernel
theorem dX8_init_175 : decode cX8_init 175 = .ok (.sipush 2561, 3) := by decide +kernel
theorem dX8_init_178 : decode cX8_init 178 = .ok (.newarray .boolean, 2) := by decide +kernel
theorem dX8_init_180 : decode cX8_init 180 = .ok (.putfield 72, 3) := by decide +kernel
theorem dX8_init_183 : decode cX8_init 183 = .ok (.aload_n 0, 1) := by decide +kernel
theorem dX8_init_184 : decode cX8_init 184 = .ok (.ldc 75, 2) := by decide +kernel
theorem dX8_init_186 : decode cX8_init 186 = .ok (.newarray .long, 2) := by decide +kernel
theorem dX8_init_188 : decode cX8_init 188 = .ok (.putfield 76, 3) := by decide +kernel
theorem dX8_init_191 : decode cX8_init 191 = .ok (.aload_n 0, 1) := by decide +kernel
theorem dX8_init_192 : decode cX8_init 192 = .ok (.sipush 2561, 3) := by decide +kernel
theorem dX8_init_195 : decode cX8_init 195 = .ok (.newarray .long, 2) := by decide +kernel
theorem dX8_init_197 : decode cX8_init 197 = .ok (.putfield 80, 3) := by decide +kernel
theorem dX8_init_200 : decode cX8_init 200 = .ok (.aload_n 0, 1) := by decide +kernel
theorem dX8_init_201 : decode cX8_init 201 = .ok (.sipush 2561, 3) := by decide +kernel
theorem dX8_init_204 : decode cX8_init 204 = .ok (.newarray .long, 2) := by decide +kernel
theorem dX8_init_206 : decode cX8_init 206 = .ok (.putfield 83, 3) := by decide +kernel
theorem dX8_init_209 : decode cX8_init 209 = .ok (.aload_n 0, 1) := by decide +kernel
theorem dX8_init_210 : decode cX8_init 210 = .ok (.iconst 1, 1) := by decide +kernel
theorem dX8_init_211 : decode cX8_init 211 = .ok (.putfield 86, 3) := by decide +kernel
theorem dX8_init_214 : decode cX8_init 214 = .ok (.return_, 1) := by decide +kernel
theorem dX8_thrown_0 : decode cX8_thrown 0 = .ok (.aload_n 0, 1) := by decide +kernel
theorem dX8_thrown_1 : decode cX8_thrown 1 = .ok (.getfield 90, 3) := by decide +kernel
theorem dX8_thrown_4 : decode cX8_thrown 4 = .ok (.ireturn, 1) := by decide +kernel
theorem dX8_fails_0 : decode cX8_fails 0 = .ok (.aload_n 0, 1) := by decide +kernel
theorem dX8_fails_1 : decode cX8_fails 1 = .ok (.iload_n 1, 1) := by decide +kernel
theorem dX8_fails_2 : decode cX8_fails 2 = .ok (.ifCond .eq 7, 3) := by decide +kernel
theorem dX8_fails_5 : decode cX8_fails 5 = .ok (.iconst 1, 1) := by decide +kernel
theorem dX8_fails_6 : decode cX8_fails 6 = .ok (.goto 12, 3) := by decide +kernel
theorem dX8_fails_9 : decode cX8_fails 9 = .ok (.iload_n 2, 1) := by decide +kernel
theorem dX8_fails_10 : decode cX8_fails 10 = .ok (.ifCond .eq 7, 3) := by decide +kernel
theorem dX8_fails_13 : decode cX8_fails 13 = .ok (.iconst 2, 1) := by decide +kernel
theorem dX8_fails_14 : decode cX8_fails 14 = .ok (.goto 4, 3) := by decide +kernel
theorem dX8_fails_17 : decode cX8_fails 17 = .ok (.iconst 0, 1) := by decide +kernel
theorem dX8_fails_18 : decode cX8_fails 18 = .ok (.putfield 90, 3) := by decide +kernel
theorem dX8_fails_21 : decode cX8_fails 21 = .ok (.aload_n 0, 1) := by decide +kernel
theorem dX8_fails_22 : decode cX8_fails 22 = .ok (.getfield 90, 3) := by decide +kernel
theorem dX8_fails_25 : decode cX8_fails 25 = .ok (.ifCond .le 7, 3) := by decide +kernel
theorem dX8_fails_28 : decode cX8_fails 28 = .ok (.iconst 1, 1) := by decide +kernel
theorem dX8_fails_29 : decode cX8_fails 29 = .ok (.goto 4, 3) := by decide +kernel
theorem dX8_fails_32 : decode cX8_fails 32 = .ok (.iconst 0, 1) := by decide +kernel
theorem dX8_fails_33 : decode cX8_fails 33 = .ok (.ireturn, 1) := by decide +kernel
set_option maxHeartbeats 4000000 in
set_option maxRecDepth 100000 in
theorem ggX8_begin_X8_fails : GoodIn wsX8_begin wsX8_fails := goodIn_r _ [13, 14, 15, 16, 17, 18, 19, 20, 21, 22, 23, 24, 25, 26, 27, 28, 29, 30, 31, 32, 33, 34, 35, 36, 37, 38, 39, 40, 41, 42, 43, 44, 45, 46, 47, 48, 49] (by first | rfl | decide +kernel) (by decide +kernel)
set_option maxRecDepth 20000 in
theorem gX8_begin_X8_fails : GoodIn wsX8_begin (wsV RX8 93 RX8 yX8_fails wsX8_fails) := goodIn_app (goodIn_of _ (by decide +kernel)) ggX8_begin_X8_fails
theorem dX8_begin_0 : decode cX8_begin 0 = .ok (.aload_n 0, 1) := by decide +kernel
theorem dX8_begin_1 : decode cX8_begin 1 = .ok (.iload_n 1, 1) := by decide +kernel
theorem dX8_begin_2 : decode cX8_begin 2 = .ok (.iconst 1, 1) := by decide +kernel
theorem dX8_begin_3 : decode cX8_begin 3 = .ok (.if_icmp .lt 9, 3) := by decide +kernel
theorem dX8_begin_6 : decode cX8_begin 6 = .ok (.iload_n 1, 1) := by decide +kernel
theorem dX8_begin_7 : decode cX8_begin 7 = .ok (.bipush 6, 2) := by decide +kernel
theorem dX8_begin_9 : decode cX8_begin 9 = .ok (.if_icmp .le 7, 3) := by decide +kernel
theorem dX8_begin_12 : decode cX8_begin 12 = .ok (.iconst 1, 1) := by decide +kernel
theorem dX8_begin_13 : decode cX8_begin 13 = .ok (.goto 4, 3) := by decide +kernel
theorem dX8_begin_16 : decode cX8_begin 16 = .ok (.iconst 0, 1) := by decide +kernel
theorem dX8_begin_17 : decode cX8_begin 17 = .ok (.iconst 0, 1) := by decide +kernel
theorem dX8_begin_18 : decode cX8_begin 18 = .ok (.invokevirtual 93, 3) := by decide +kernel
theorem dX8_begin_21 : decode cX8_begin 21 = .ok (.ifCond .eq 5, 3) := by decide +kernel
theorem dX8_begin_24 : decode cX8_begin 24 = .ok (.iconst 0, 1) := by decide +kernel
theorem dX8_begin_25 : decode cX8_begin 25 = .ok (.ireturn, 1) := by decide +kernel
theorem dX8_begin_26 : decode cX8_begin 26 = .ok (.aload_n 0, 1) := by decide +kernel
theorem dX8_begin_27 : decode cX8_begin 27 = .ok (.getfield 97, 3) := by decide +kernel
theorem dX8_begin_30 : decode cX8_begin 30 = .ok (.istore_n 2, 1) := by decide +kernel
theorem dX8_begin_31 : decode cX8_begin 31 = .ok (.aload_n 0, 1) := by decide +kernel
theorem dX8_begin_32 : decode cX8_begin 32 = .ok (.iload_n 1, 1) := by decide +kernel
theorem dX8_begin_33 : decode cX8_begin 33 = .ok (.putfield 86, 3) := by decide +kernel
theorem dX8_begin_36 : decode cX8_begin 36 = .ok (.aload_n 0, 1) := by decide +kernel
theorem dX8_begin_37 : decode cX8_begin 37 = .ok (.iconst 0, 1) := by decide +kernel
theorem dX8_begin_38 : decode cX8_begin 38 = .ok (.putfield 97, 3) := by decide +kernel
theorem dX8_begin_41 : decode cX8_begin 41 = .ok (.aload_n 0, 1) := by decide +kernel
theorem dX8_begin_42 : decode cX8_begin 42 = .ok (.iconst 0, 1) := by decide +kernel
theorem dX8_begin_43 : decode cX8_begin 43 = .ok (.putfield 100, 3) := by decide +kernel
theorem dX8_begin_46 : decode cX8_begin 46 = .ok (.aload_n 0, 1) := by decide +kernel
theorem dX8_begin_47 : decode cX8_begin 47 = .ok (.iconst 0, 1) := by decide +kernel
theorem dX8_begin_48 : decode cX8_begin 48 = .ok (.putfield 103, 3) := by decide +kernel
theorem dX8_begin_51 : decode cX8_begin 51 = .ok (.aload_n 0, 1) := by decide +kernel
theorem dX8_begin_52 : decode cX8_begin 52 = .ok (.iconst 0, 1) := by decide +kernel
theorem dX8_begin_53 : decode cX8_begin 53 = .ok (.putfield 106, 3) := by decide +kernel
theorem dX8_begin_56 : decode cX8_begin 56 = .ok (.aload_n 0, 1) := by decide +kernel
theorem dX8_begin_57 : decode cX8_begin 57 = .ok (.iconst 0, 1) := by decide +kernel
theorem dX8_begin_58 : decode cX8_begin 58 = .ok (.putfield 109, 3) := by decide +kernel
theorem dX8_begin_61 : decode cX8_begin 61 = .ok (.aload_n 0, 1) := by decide +kernel
theorem dX8_begin_62 : decode cX8_begin 62 = .ok (.iconst 0, 1) := by decide +kernel
theorem dX8_begin_63 : decode cX8_begin 63 = .ok (.putfield 112, 3) := by decide +kernel
theorem dX8_begin_66 : decode cX8_begin 66 = .ok (.aload_n 0, 1) := by decide +kernel
theorem dX8_begin_67 : decode cX8_begin 67 = .ok (.getfield 38, 3) := by decide +kernel
theorem dX8_begin_70 : decode cX8_begin 70 = .ok (.iconst 0, 1) := by decide +kernel
theorem dX8_begin_71 : decode cX8_begin 71 = .ok (.iconst 0, 1) := by decide +kernel
theorem dX8_begin_72 : decode cX8_begin 72 = .ok (.iastore, 1) := by decide +kernel
theorem dX8_begin_73 : decode cX8_begin 73 = .ok (.aload_n 0, 1) := by decide +kernel
theorem dX8_begin_74 : decode cX8_begin 74 = .ok (.getfield 38, 3) := by decide +kernel
theorem dX8_begin_77 : decode cX8_begin 77 = .ok (.iconst 1, 1) := by decide +kernel
theorem dX8_begin_78 : decode cX8_begin 78 = .ok (.iconst 0, 1) := by decide +kernel
theorem dX8_begin_79 : decode cX8_begin 79 = .ok (.iastore, 1) := by decide +kernel
theorem dX8_begin_80 : decode cX8_begin 80 = .ok (.iload_n 2, 1) := by decide +kernel
theorem dX8_begin_81 : decode cX8_begin 81 = .ok (.ireturn, 1) := by decide +kernel
set_option maxHeartbeats 4000000 in
set_option maxRecDepth 100000 in
theorem ggX8_letter_X8_fails : GoodIn wsX8_letter wsX8_fails := goodIn_r _ [8, 9, 10, 11, 12, 13, 14, 15, 16, 17, 18, 19, 20, 21, 22, 23, 24, 25, 26, 27, 28, 29, 30, 31, 32, 33, 34, 35, 36, 37, 38, 39, 40, 41, 42, 43, 44] (by first | rfl | decide +kernel) (by decide +kernel)
set_option maxRecDepth 20000 in
theorem gX8_letter_X8_fails : GoodIn wsX8_letter (wsV RX8 93 RX8 yX8_fails wsX8_fails) := goodIn_app (goodIn_of _ (by decide +kernel)) ggX8_letter_X8_fails
theorem dX8_letter_0 : decode cX8_letter 0 = .ok (.aload_n 0, 1) := by decide +kernel
theorem dX8_letter_1 : decode cX8_letter 1 = .ok (.iload_n 1, 1) := by decide +kernel
theorem dX8_letter_2 : decode cX8_letter 2 = .ok (.ifCond .lt 20, 3) := by decide +kernel
theorem dX8_letter_5 : decode cX8_letter 5 = .ok (.iload_n 1, 1) := by decide +kernel
theorem dX8_letter_6 : decode cX8_letter 6 = .ok (.iconst 1, 1) := by decide +kernel
theorem dX8_letter_7 : decode cX8_letter 7 = .ok (.if_icmp .gt 15, 3) := by decide +kernel
theorem dX8_letter_10 : decode cX8_letter 10 = .ok (.iload_n 2, 1) := by decide +kernel
theorem dX8_letter_11 : decode cX8_letter 11 = .ok (.ifCond .lt 11, 3) := by decide +kernel
theorem dX8_letter_14 : decode cX8_letter 14 = .ok (.iload_n 2, 1) := by decide +kernel
theorem dX8_letter_15 : decode cX8_letter 15 = .ok (.aload_n 0, 1) := by decide +kernel
theorem dX8_letter_16 : decode cX8_letter 16 = .ok (.getfield 86, 3) := by decide +kernel
theorem dX8_letter_19 : decode cX8_letter 19 = .ok (.if_icmp .lt 7, 3) := by decide +kernel
theorem dX8_letter_22 : decode cX8_letter 22 = .ok (.iconst 1, 1) := by decide +kernel
theorem dX8_letter_23 : decode cX8_letter 23 = .ok (.goto 4, 3) := by decide +kernel
theorem dX8_letter_26 : decode cX8_letter 26 = .ok (.iconst 0, 1) := by decide +kernel
theorem dX8_letter_27 : decode cX8_letter 27 = .ok (.iconst 0, 1) := by decide +kernel
theorem dX8_letter_28 : decode cX8_letter 28 = .ok (.invokevirtual 93, 3) := by decide +kernel
theorem dX8_letter_31 : decode cX8_letter 31 = .ok (.ifCond .eq 5, 3) := by decide +kernel
theorem dX8_letter_34 : decode cX8_letter 34 = .ok (.iconst 0, 1) := by decide +kernel
theorem dX8_letter_35 : decode cX8_letter 35 = .ok (.ireturn, 1) := by decide +kernel
theorem dX8_letter_36 : decode cX8_letter 36 = .ok (.aload_n 0, 1) := by decide +kernel
theorem dX8_letter_37 : decode cX8_letter 37 = .ok (.getfield 38, 3) := by decide +kernel
theorem dX8_letter_40 : decode cX8_letter 40 = .ok (.iload_n 1, 1) := by decide +kernel
theorem dX8_letter_41 : decode cX8_letter 41 = .ok (.iaload, 1) := by decide +kernel
theorem dX8_letter_42 : decode cX8_letter 42 = .ok (.bipush 40, 2) := by decide +kernel
theorem dX8_letter_44 : decode cX8_letter 44 = .ok (.if_icmp .ne 5, 3) := by decide +kernel
theorem dX8_letter_47 : decode cX8_letter 47 = .ok (.iconst (-1), 1) := by decide +kernel
theorem dX8_letter_48 : decode cX8_letter 48 = .ok (.ireturn, 1) := by decide +kernel
theorem dX8_letter_49 : decode cX8_letter 49 = .ok (.aload_n 0, 1) := by decide +kernel
theorem dX8_letter_50 : decode cX8_letter 50 = .ok (.getfield 35, 3) := by decide +kernel
theorem dX8_letter_53 : decode cX8_letter 53 = .ok (.bipush 40, 2) := by decide +kernel
theorem dX8_letter_55 : decode cX8_letter 55 = .ok (.iload_n 1, 1) := by decide +kernel
theorem dX8_letter_56 : decode cX8_letter 56 = .ok (.imul, 1) := by decide +kernel
theorem dX8_letter_57 : decode cX8_letter 57 = .ok (.aload_n 0, 1) := by decide +kernel
theorem dX8_letter_58 : decode cX8_letter 58 = .ok (.getfield 38, 3) := by decide +kernel
theorem dX8_letter_61 : decode cX8_letter 61 = .ok (.iload_n 1, 1) := by decide +kernel
theorem dX8_letter_62 : decode cX8_letter 62 = .ok (.iaload, 1) := by decide +kernel
theorem dX8_letter_63 : decode cX8_letter 63 = .ok (.iadd, 1) := by decide +kernel
theorem dX8_letter_64 : decode cX8_letter 64 = .ok (.iload_n 2, 1) := by decide +kernel
theorem dX8_letter_65 : decode cX8_letter 65 = .ok (.iastore, 1) := by decide +kernel
theorem dX8_letter_66 : decode cX8_letter 66 = .ok (.aload_n 0, 1) := by decide +kernel
theorem dX8_letter_67 : decode cX8_letter 67 = .ok (.getfield 38, 3) := by decide +kernel
theorem dX8_letter_70 : decode cX8_letter 70 = .ok (.iload_n 1, 1) := by decide +kernel
theorem dX8_letter_71 : decode cX8_letter 71 = .ok (.dup2, 1) := by decide +kernel
theorem dX8_letter_72 : decode cX8_letter 72 = .ok (.iaload, 1) := by decide +kernel
theorem dX8_letter_73 : decode cX8_letter 73 = .ok (.iconst 1, 1) := by decide +kernel
theorem dX8_letter_74 : decode cX8_letter 74 = .ok (.iadd, 1) := by decide +kernel
theorem dX8_letter_75 : decode cX8_letter 75 = .ok (.iastore, 1) := by decide +kernel
theorem dX8_letter_76 : decode cX8_letter 76 = .ok (.aload_n 0, 1) := by decide +kernel
theorem dX8_letter_77 : decode cX8_letter 77 = .ok (.getfield 38, 3) := by decide +kernel
theorem dX8_letter_80 : decode cX8_letter 80 = .ok (.iload_n 1, 1) := by decide +kernel
theorem dX8_letter_81 : decode cX8_letter 81 = .ok (.iaload, 1) := by decide +kernel
theorem dX8_letter_82 : decode cX8_letter 82 = .ok (.ireturn, 1) := by decide +kernel
set_option maxHeartbeats 4000000 in
set_option maxRecDepth 100000 in
theorem ggX8_erase_X8_fails : GoodIn wsX8_erase wsX8_fails := goodIn_r _ [6, 7, 8, 9, 10, 11, 12, 13, 14, 15, 16, 17, 18, 19, 20, 21, 22, 23, 24, 25, 26, 27, 28, 29, 30, 31, 32, 33, 34, 35, 36, 37, 38, 39, 40, 41, 42] (by first | rfl | decide +kernel) (by decide +kernel)
set_option maxRecDepth 20000 in
theorem gX8_erase_X8_fails : GoodIn wsX8_erase (wsV RX8 93 RX8 yX8_fails wsX8_fails) := goodIn_app (goodIn_of _ (by decide +kernel)) ggX8_erase_X8_fails
theorem dX8_erase_0 : decode cX8_erase 0 = .ok (.aload_n 0, 1) := by decide +kernel
theorem dX8_erase_1 : decode cX8_erase 1 = .ok (.iload_n 1, 1) := by decide +kernel
theorem dX8_erase_2 : decode cX8_erase 2 = .ok (.ifCond .lt 8, 3) := by decide +kernel
theorem dX8_erase_5 : decode cX8_erase 5 = .ok (.iload_n 1, 1) := by decide +kernel
theorem dX8_erase_6 : decode cX8_erase 6 = .ok (.iconst 1, 1) := by decide +kernel
theorem dX8_erase_7 : decode cX8_erase 7 = .ok (.if_icmp .le 7, 3) := by decide +kernel
theorem dX8_erase_10 : decode cX8_erase 10 = .ok (.iconst 1, 1) := by decide +kernel
theorem dX8_erase_11 : decode cX8_erase 11 = .ok (.goto 4, 3) := by decide +kernel
theorem dX8_erase_14 : decode cX8_erase 14 = .ok (.iconst 0, 1) := by decide +kernel
theorem dX8_erase_15 : decode cX8_erase 15 = .ok (.iconst 0, 1) := by decide +kernel
theorem dX8_erase_16 : decode cX8_erase 16 = .ok (.invokevirtual 93, 3) := by decide +kernel
theorem dX8_erase_19 : decode cX8_erase 19 = .ok (.ifCond .eq 5, 3) := by decide +kernel
theorem dX8_erase_22 : decode cX8_erase 22 = .ok (.iconst 0, 1) := by decide +kernel
theorem dX8_erase_23 : decode cX8_erase 23 = .ok (.ireturn, 1) := by decide +kernel
theorem dX8_erase_24 : decode cX8_erase 24 = .ok (.aload_n 0, 1) := by decide +kernel
theorem dX8_erase_25 : decode cX8_erase 25 = .ok (.getfield 38, 3) := by decide +kernel
theorem dX8_erase_28 : decode cX8_erase 28 = .ok (.iload_n 1, 1) := by decide +kernel
theorem dX8_erase_29 : decode cX8_erase 29 = .ok (.iaload, 1) := by decide +kernel
theorem dX8_erase_30 : decode cX8_erase 30 = .ok (.istore_n 2, 1) := by decide +kernel
theorem dX8_erase_31 : decode cX8_erase 31 = .ok (.aload_n 0, 1) := by decide +kernel
theorem dX8_erase_32 : decode cX8_erase 32 = .ok (.getfield 38, 3) := by decide +kernel
theorem dX8_erase_35 : decode cX8_erase 35 = .ok (.iload_n 1, 1) := by decide +kernel
theorem dX8_erase_36 : decode cX8_erase 36 = .ok (.iconst 0, 1) := by decide +kernel
theorem dX8_erase_37 : decode cX8_erase 37 = .ok (.iastore, 1) := by decide +kernel
theorem dX8_erase_38 : decode cX8_erase 38 = .ok (.iload_n 2, 1) := by decide +kernel
theorem dX8_erase_39 : decode cX8_erase 39 = .ok (.ireturn, 1) := by decide +kernel
theorem dX8_waits_0 : decode cX8_waits 0 = .ok (.aload_n 0, 1) := by decide +kernel
theorem dX8_waits_1 : decode cX8_waits 1 = .ok (.getfield 100, 3) := by decide +kernel
theorem dX8_waits_4 : decode cX8_waits 4 = .ok (.sipush 1000, 3) := by decide +kernel
theorem dX8_waits_7 : decode cX8_waits 7 = .ok (.if_icmp .ne 10, 3) := by decide +kernel
theorem dX8_waits_10 : decode cX8_waits 10 = .ok (.aload_n 0, 1) := by decide +kernel
theorem dX8_waits_11 : decode cX8_waits 11 = .ok (.iconst 4, 1) := by decide +kernel
theorem dX8_waits_12 : decode cX8_waits 12 = .ok (.putfield 109, 3) := by decide +kernel
theorem dX8_waits_15 : decode cX8_waits 15 = .ok (.iconst 0, 1) := by decide +kernel
theorem dX8_waits_16 : decode cX8_waits 16 = .ok (.ireturn, 1) := by decide +kernel
theorem dX8_waits_17 : decode cX8_waits 17 = .ok (.aload_n 0, 1) := by decide +kernel
theorem dX8_waits_18 : decode cX8_waits 18 = .ok (.getfield 103, 3) := by decide +kernel
theorem dX8_waits_21 : decode cX8_waits 21 = .ok (.aload_n 0, 1) := by decide +kernel
theorem dX8_waits_22 : decode cX8_waits 22 = .ok (.getfield 100, 3) := by decide +kernel
theorem dX8_waits_25 : decode cX8_waits 25 = .ok (.iadd, 1) := by decide +kernel
theorem dX8_waits_26 : decode cX8_waits 26 = .ok (.sipush 1000, 3) := by decide +kernel
theorem dX8_waits_29 : decode cX8_waits 29 = .ok (.irem, 1) := by decide +kernel
theorem dX8_waits_30 : decode cX8_waits 30 = .ok (.istore 5, 2) := by decide +kernel
theorem dX8_waits_32 : decode cX8_waits 32 = .ok (.iconst 0, 1) := by decide +kernel
theorem dX8_waits_33 : decode cX8_waits 33 = .ok (.istore 6, 2) := by decide +kernel
theorem dX8_waits_35 : decode cX8_waits 35 = .ok (.iload 6, 2) := by decide +kernel
theorem dX8_waits_37 : decode cX8_waits 37 = .ok (.iload_n 2, 1) := by decide +kernel
theorem dX8_waits_38 : decode cX8_waits 38 = .ok (.if_icmp .ge 26, 3) := by decide +kernel
theorem dX8_waits_41 : decode cX8_waits 41 = .ok (.aload_n 0, 1) := by decide +kernel
theorem dX8_waits_42 : decode cX8_waits 42 = .ok (.getfield 23, 3) := by decide +kernel
theorem dX8_waits_45 : decode cX8_waits 45 = .ok (.bipush 40, 2) := by decide +kernel
theorem dX8_waits_47 : decode cX8_waits 47 = .ok (.iload 5, 2) := by decide +kernel
theorem dX8_waits_49 : decode cX8_waits 49 = .ok (.imul, 1) := by decide +kernel
theorem dX8_waits_50 : decode cX8_waits 50 = .ok (.iload 6, 2) := by decide +kernel
theorem dX8_waits_52 : decode cX8_waits 52 = .ok (.iadd, 1) := by decide +kernel
theorem dX8_waits_53 : decode cX8_waits 53 = .ok (.aload_n 1, 1) := by decide +kernel
theorem dX8_waits_54 : decode cX8_waits 54 = .ok (.iload 6, 2) := by decide +kernel
theorem dX8_waits_56 : decode cX8_waits 56 = .ok (.iaload, 1) := by decide +kernel
theorem dX8_waits_57 : decode cX8_waits 57 = .ok (.iastore, 1) := by decide +kernel
theorem dX8_waits_58 : decode cX8_waits 58 = .ok (.iinc 6 1, 3) := by decide +kernel
theorem dX8_waits_61 : decode cX8_waits 61 = .ok (.goto (-26), 3) := by decide +kernel
theorem dX8_waits_64 : decode cX8_waits 64 = .ok (.iconst 0, 1) := by decide +kernel
theorem dX8_waits_65 : decode cX8_waits 65 = .ok (.istore 6, 2) := by decide +kernel
theorem dX8_waits_67 : decode cX8_waits 67 = .ok (.iload 6, 2) := by decide +kernel
theorem dX8_waits_69 : decode cX8_waits 69 = .ok (.iload 4, 2) := by decide +kernel
theorem dX8_waits_71 : decode cX8_waits 71 = .ok (.if_icmp .ge 26, 3) := by decide +kernel
theorem dX8_waits_74 : decode cX8_waits 74 = .ok (.aload_n 0, 1) := by decide +kernel
theorem dX8_waits_75 : decode cX8_waits 75 = .ok (.getfield 26, 3) := by decide +kernel
theorem dX8_waits_78 : decode cX8_waits 78 = .ok (.bipush 40, 2) := by decide +kernel
theorem dX8_waits_80 : decode cX8_waits 80 = .ok (.iload 5, 2) := by decide +kernel
theorem dX8_waits_82 : decode cX8_waits 82 = .ok (.imul, 1) := by decide +kernel
theorem dX8_waits_83 : decode cX8_waits 83 = .ok (.iload 6, 2) := by decide +kernel
theorem dX8_waits_85 : decode cX8_waits 85 = .ok (.iadd, 1) := by decide +kernel
theorem dX8_waits_86 : decode cX8_waits 86 = .ok (.aload_n 3, 1) := by decide +kernel
theorem dX8_waits_87 : decode cX8_waits 87 = .ok (.iload 6, 2) := by decide +kernel
theorem dX8_waits_89 : decode cX8_waits 89 = .ok (.iaload, 1) := by decide +kernel
theorem dX8_waits_90 : decode cX8_waits 90 = .ok (.iastore, 1) := by decide +kernel
theorem dX8_waits_91 : decode cX8_waits 91 = .ok (.iinc 6 1, 3) := by decide +kernel
theorem dX8_waits_94 : decode cX8_waits 94 = .ok (.goto (-27), 3) := by decide +kernel
theorem dX8_waits_97 : decode cX8_waits 97 = .ok (.aload_n 0, 1) := by decide +kernel
theorem dX8_waits_98 : decode cX8_waits 98 = .ok (.getfield 29, 3) := by decide +kernel
theorem dX8_waits_101 : decode cX8_waits 101 = .ok (.iload 5, 2) := by decide +kernel
theorem dX8_waits_103 : decode cX8_waits 103 = .ok (.iload_n 2, 1) := by decide +kernel
theorem dX8_waits_104 : decode cX8_waits 104 = .ok (.iastore, 1) := by decide +kernel
theorem dX8_waits_105 : decode cX8_waits 105 = .ok (.aload_n 0, 1) := by decide +kernel
theorem dX8_waits_106 : decode cX8_waits 106 = .ok (.getfield 32, 3) := by decide +kernel
theorem dX8_waits_109 : decode cX8_waits 109 = .ok (.iload 5, 2) := by decide +kernel
theorem dX8_waits_111 : decode cX8_waits 111 = .ok (.iload 4, 2) := by decide +kernel
theorem dX8_waits_113 : decode cX8_waits 113 = .ok (.iastore, 1) := by decide +kernel
theorem dX8_waits_114 : decode cX8_waits 114 = .ok (.aload_n 0, 1) := by decide +kernel
theorem dX8_waits_115 : decode cX8_waits 115 = .ok (.dup, 1) := by decide +kernel
theorem dX8_waits_116 : decode cX8_waits 116 = .ok (.getfield 100, 3) := by decide +kernel
theorem dX8_waits_119 : decode cX8_waits 119 = .ok (.iconst 1, 1) := by decide +kernel
theorem dX8_waits_120 : decode cX8_waits 120 = .ok (.iadd, 1) := by decide +kernel
theorem dX8_waits_121 : decode cX8_waits 121 = .ok (.putfield 100, 3) := by decide +kernel
theorem dX8_waits_124 : decode cX8_waits 124 = .ok (.iconst 1, 1) := by decide +kernel
theorem dX8_waits_125 : decode cX8_waits 125 = .ok (.ireturn, 1) := by decide +kernel
set_option maxHeartbeats 4000000 in
set_option maxRecDepth 100000 in
theorem ggX8_equation_X8_fails : GoodIn wsX8_equation wsX8_fails := goodIn_r _ [11, 12, 22, 23, 24, 25, 26, 27, 28, 29, 30, 31, 32, 33, 34, 35, 36, 37, 38, 39, 40, 41, 42, 43, 44, 45, 46, 47, 48, 49, 50, 51, 52, 53, 54, 55, 56] (by first | rfl | decide +kernel) (by decide +kernel)
set_option maxRecDepth 20000 in
theorem gX8_equation_X8_fails : GoodIn wsX8_equation (wsV RX8 93 RX8 yX8_fails wsX8_fails) := goodIn_app (goodIn_of _ (by decide +kernel)) ggX8_equation_X8_fails
set_option maxHeartbeats 4000000 in
set_option maxRecDepth 100000 in
theorem ggX8_equation_X8_waits : GoodIn wsX8_equation wsX8_waits := goodIn_r _ [16, 2, 1, 17, 18, 19, 20, 21, 22, 23, 24, 25, 26, 27, 28, 29, 30, 31, 32, 33, 34, 35, 36, 37, 38, 39, 40, 41, 42, 43, 44, 45, 46, 47, 48, 49, 50, 51, 52, 53, 54, 55, 56] (by first | rfl | decide +kernel) (by decide +kernel)
set_option maxRecDepth 20000 in
theorem gX8_equation_X8_waits : GoodIn wsX8_equation (wsV RX8 115 RX8 yX8_waits wsX8_waits) := goodIn_app (goodIn_of _ (by decide +kernel)) ggX8_equation_X8_waits
theorem dX8_equation_0 : decode cX8_equation 0 = .ok (.aload_n 0, 1) := by decide +kernel
theorem dX8_equation_1 : decode cX8_equation 1 = .ok (.aload_n 0, 1) := by decide +kernel
theorem dX8_equation_2 : decode cX8_equation 2 = .ok (.getfield 109, 3) := by decide +kernel
theorem dX8_equation_5 : decode cX8_equation 5 = .ok (.ifCond .le 7, 3) := by decide +kernel
theorem dX8_equation_8 : decode cX8_equation 8 = .ok (.iconst 1, 1) := by decide +kernel
theorem dX8_equation_9 : decode cX8_equation 9 = .ok (.goto 4, 3) := by decide +kernel
theorem dX8_equation_12 : decode cX8_equation 12 = .ok (.iconst 0, 1) := by decide +kernel
theorem dX8_equation_13 : decode cX8_equation 13 = .ok (.iconst 0, 1) := by decide +kernel
theorem dX8_equation_14 : decode cX8_equation 14 = .ok (.invokevirtual 93, 3) := by decide +kernel
theorem dX8_equation_17 : decode cX8_equation 17 = .ok (.ifCond .eq 5, 3) := by decide +kernel
theorem dX8_equation_20 : decode cX8_equation 20 = .ok (.iconst 0, 1) := by decide +kernel
theorem dX8_equation_21 : decode cX8_equation 21 = .ok (.ireturn, 1) := by decide +kernel
theorem dX8_equation_22 : decode cX8_equation 22 = .ok (.aload_n 0, 1) := by decide +kernel
theorem dX8_equation_23 : decode cX8_equation 23 = .ok (.getfield 100, 3) := by decide +kernel
theorem dX8_equation_26 : decode cX8_equation 26 = .ok (.sipush 1000, 3) := by decide +kernel
theorem dX8_equation_29 : decode cX8_equation 29 = .ok (.if_icmp .ne 5, 3) := by decide +kernel
theorem dX8_equation_32 : decode cX8_equation 32 = .ok (.iconst (-1), 1) := by decide +kernel
theorem dX8_equation_33 : decode cX8_equation 33 = .ok (.ireturn, 1) := by decide +kernel
theorem dX8_equation_34 : decode cX8_equation 34 = .ok (.iconst 0, 1) := by decide +kernel
theorem dX8_equation_35 : decode cX8_equation 35 = .ok (.istore_n 1, 1) := by decide +kernel
theorem dX8_equation_36 : decode cX8_equation 36 = .ok (.iload_n 1, 1) := by decide +kernel
theorem dX8_equation_37 : decode cX8_equation 37 = .ok (.aload_n 0, 1) := by decide +kernel
theorem dX8_equation_38 : decode cX8_equation 38 = .ok (.getfield 38, 3) := by decide +kernel
theorem dX8_equation_41 : decode cX8_equation 41 = .ok (.iconst 0, 1) := by decide +kernel
theorem dX8_equation_42 : decode cX8_equation 42 = .ok (.iaload, 1) := by decide +kernel
theorem dX8_equation_43 : decode cX8_equation 43 = .ok (.if_icmp .ge 21, 3) := by decide +kernel
theorem dX8_equation_46 : decode cX8_equation 46 = .ok (.aload_n 0, 1) := by decide +kernel
theorem dX8_equation_47 : decode cX8_equation 47 = .ok (.getfield 41, 3) := by decide +kernel
theorem dX8_equation_50 : decode cX8_equation 50 = .ok (.iload_n 1, 1) := by decide +kernel
theorem dX8_equation_51 : decode cX8_equation 51 = .ok (.aload_n 0, 1) := by decide +kernel
theorem dX8_equation_52 : decode cX8_equation 52 = .ok (.getfield 35, 3) := by decide +kernel
theorem dX8_equation_55 : decode cX8_equation 55 = .ok (.iload_n 1, 1) := by decide +kernel
theorem dX8_equation_56 : decode cX8_equation 56 = .ok (.iaload, 1) := by decide +kernel
theorem dX8_equation_57 : decode cX8_equation 57 = .ok (.iastore, 1) := by decide +kernel
theorem dX8_equation_58 : decode cX8_equation 58 = .ok (.iinc 1 1, 3) := by decide +kernel
theorem dX8_equation_61 : decode cX8_equation 61 = .ok (.goto (-25), 3) := by decide +kernel
theorem dX8_equation_64 : decode cX8_equation 64 = .ok (.iconst 0, 1) := by decide +kernel
theorem dX8_equation_65 : decode cX8_equation 65 = .ok (.istore_n 1, 1) := by decide +kernel
theorem dX8_equation_66 : decode cX8_equation 66 = .ok (.iload_n 1, 1) := by decide +kernel
theorem dX8_equation_67 : decode cX8_equation 67 = .ok (.aload_n 0, 1) := by decide +kernel
theorem dX8_equation_68 : decode cX8_equation 68 = .ok (.getfield 38, 3) := by decide +kernel
theorem dX8_equation_71 : decode cX8_equation 71 = .ok (.iconst 1, 1) := by decide +kernel
theorem dX8_equation_72 : decode cX8_equation 72 = .ok (.iaload, 1) := by decide +kernel
theorem dX8_equation_73 : decode cX8_equation 73 = .ok (.if_icmp .ge 24, 3) := by decide +kernel
theorem dX8_equation_76 : decode cX8_equation 76 = .ok (.aload_n 0, 1) := by decide +kernel
theorem dX8_equation_77 : decode cX8_equation 77 = .ok (.getfield 44, 3) := by decide +kernel
theorem dX8_equation_80 : decode cX8_equation 80 = .ok (.iload_n 1, 1) := by decide +kernel
theorem dX8_equation_81 : decode cX8_equation 81 = .ok (.aload_n 0, 1) := by decide +kernel
theorem dX8_equation_82 : decode cX8_equation 82 = .ok (.getfield 35, 3) := by decide +kernel
theorem dX8_equation_85 : decode cX8_equation 85 = .ok (.bipush 40, 2) := by decide +kernel
theorem dX8_equation_87 : decode cX8_equation 87 = .ok (.iload_n 1, 1) := by decide +kernel
theorem dX8_equation_88 : decode cX8_equation 88 = .ok (.iadd, 1) := by decide +kernel
theorem dX8_equation_89 : decode cX8_equation 89 = .ok (.iaload, 1) := by decide +kernel
theorem dX8_equation_90 : decode cX8_equation 90 = .ok (.iastore, 1) := by decide +kernel
theorem dX8_equation_91 : decode cX8_equation 91 = .ok (.iinc 1 1, 3) := by decide +kernel
theorem dX8_equation_94 : decode cX8_equation 94 = .ok (.goto (-28), 3) := by decide +kernel
theorem dX8_equation_97 : decode cX8_equation 97 = .ok (.aload_n 0, 1) := by decide +kernel
theorem dX8_equation_98 : decode cX8_equation 98 = .ok (.aload_n 0, 1) := by decide +kernel
theorem dX8_equation_99 : decode cX8_equation 99 = .ok (.getfield 41, 3) := by decide +kernel
theorem dX8_equation_102 : decode cX8_equation 102 = .ok (.aload_n 0, 1) := by decide +kernel
theorem dX8_equation_103 : decode cX8_equation 103 = .ok (.getfield 38, 3) := by decide +kernel
theorem dX8_equation_106 : decode cX8_equation 106 = .ok (.iconst 0, 1) := by decide +kernel
theorem dX8_equation_107 : decode cX8_equation 107 = .ok (.iaload, 1) := by decide +kernel
theorem dX8_equation_108 : decode cX8_equation 108 = .ok (.aload_n 0, 1) := by decide +kernel
theorem dX8_equation_109 : decode cX8_equation 109 = .ok (.getfield 44, 3) := by decide +kernel
theorem dX8_equation_112 : decode cX8_equation 112 = .ok (.aload_n 0, 1) := by decide +kernel
theorem dX8_equation_113 : decode cX8_equation 113 = .ok (.getfield 38, 3) := by decide +kernel
theorem dX8_equation_116 : decode cX8_equation 116 = .ok (.iconst 1, 1) := by decide +kernel
theorem dX8_equation_117 : decode cX8_equation 117 = .ok (.iaload, 1) := by decide +kernel
theorem dX8_equation_118 : decode cX8_equation 118 = .ok (.invokevirtual 115, 3) := by decide +kernel
theorem dX8_equation_121 : decode cX8_equation 121 = .ok (.pop, 1) := by decide +kernel
theorem dX8_equation_122 : decode cX8_equation 122 = .ok (.aload_n 0, 1) := by decide +kernel
theorem dX8_equation_123 : decode cX8_equation 123 = .ok (.getfield 38, 3) := by decide +kernel
theorem dX8_equation_126 : decode cX8_equation 126 = .ok (.iconst 0, 1) := by decide +kernel
theorem dX8_equation_127 : decode cX8_equation 127 = .ok (.iconst 0, 1) := by decide +kernel
theorem dX8_equation_128 : decode cX8_equation 128 = .ok (.iastore, 1) := by decide +kernel
theorem dX8_equation_129 : decode cX8_equation 129 = .ok (.aload_n 0, 1) := by decide +kernel
theorem dX8_equation_130 : decode cX8_equation 130 = .ok (.getfield 38, 3) := by decide +kernel
theorem dX8_equation_133 : decode cX8_equation 133 = .ok (.iconst 1, 1) := by decide +kernel
theorem dX8_equation_134 : decode cX8_equation 134 = .ok (.iconst 0, 1) := by decide +kernel
theorem dX8_equation_135 : decode cX8_equation 135 = .ok (.iastore, 1) := by decide +kernel
theorem dX8_equation_136 : decode cX8_equation 136 = .ok (.aload_n 0, 1) := by decide +kernel
theorem dX8_equation_137 : decode cX8_equation 137 = .ok (.getfield 100, 3) := by decide +kernel
theorem dX8_equation_140 : decode cX8_equation 140 = .ok (.ireturn, 1) := by decide +kernel
set_option maxHeartbeats 4000000 in
set_option maxRecDepth 100000 in
theorem ggX8_inverse_X8_fails : GoodIn wsX8_inverse wsX8_fails := goodIn_r _ [10, 11, 21, 22, 23, 24, 25, 26, 27, 28, 29, 30, 31, 32, 33, 34, 35, 36, 37, 38, 39, 40, 41, 42, 43, 44, 45, 46, 47, 48, 49, 50, 51, 52, 53, 54, 55] (by first | rfl | decide +kernel) (by decide +kernel)
set_option maxRecDepth 20000 in
theorem gX8_inverse_X8_fails : GoodIn wsX8_inverse (wsV RX8 93 RX8 yX8_fails wsX8_fails) := goodIn_app (goodIn_of _ (by decide +kernel)) ggX8_inverse_X8_fails
set_option maxHeartbeats 4000000 in
set_option maxRecDepth 100000 in
theorem ggX8_inverse_X8_waits : GoodIn wsX8_inverse wsX8_waits := goodIn_r _ [15, 3, 1, 16, 17, 18, 19, 20, 21, 22, 23, 24, 25, 26, 27, 28, 29, 30, 31, 32, 33, 34, 35, 36, 37, 38, 39, 40, 41, 42, 43, 44, 45, 46, 47, 48, 49, 50, 51, 52, 53, 54, 55] (by first | rfl | decide +kernel) (by decide +kernel)
set_option maxRecDepth 20000 in
theorem gX8_inverse_X8_waits : GoodIn wsX8_inverse (wsV RX8 115 RX8 yX8_waits wsX8_waits) := goodIn_app (goodIn_of _ (by decide +kernel)) ggX8_inverse_X8_waits
theorem dX8_inverse_0 : decode cX8_inverse 0 = .ok (.aload_n 0, 1) := by decide +kernel
theorem dX8_inverse_1 : decode cX8_inverse 1 = .ok (.getfield 109, 3) := by decide +kernel
theorem dX8_inverse_4 : decode cX8_inverse 4 = .ok (.ifCond .ne 7, 3) := by decide +kernel
theorem dX8_inverse_7 : decode cX8_inverse 7 = .ok (.iconst 1, 1) := by decide +kernel
theorem dX8_inverse_8 : decode cX8_inverse 8 = .ok (.goto 4, 3) := by decide +kernel
theorem dX8_inverse_11 : decode cX8_inverse 11 = .ok (.iconst 0, 1) := by decide +kernel
theorem dX8_inverse_12 : decode cX8_inverse 12 = .ok (.istore_n 3, 1) := by decide +kernel
theorem dX8_inverse_13 : decode cX8_inverse 13 = .ok (.aload_n 0, 1) := by decide +kernel
theorem dX8_inverse_14 : decode cX8_inverse 14 = .ok (.iload_n 3, 1) := by decide +kernel
theorem dX8_inverse_15 : decode cX8_inverse 15 = .ok (.ifCond .ne 7, 3) := by decide +kernel
theorem dX8_inverse_18 : decode cX8_inverse 18 = .ok (.iconst 1, 1) := by decide +kernel
theorem dX8_inverse_19 : decode cX8_inverse 19 = .ok (.goto 4, 3) := by decide +kernel
theorem dX8_inverse_22 : decode cX8_inverse 22 = .ok (.iconst 0, 1) := by decide +kernel
theorem dX8_inverse_23 : decode cX8_inverse 23 = .ok (.iload_n 3, 1) := by decide +kernel
theorem dX8_inverse_24 : decode cX8_inverse 24 = .ok (.ifCond .eq 31, 3) := by decide +kernel
theorem dX8_inverse_27 : decode cX8_inverse 27 = .ok (.iload_n 1, 1) := by decide +kernel
theorem dX8_inverse_28 : decode cX8_inverse 28 = .ok (.ifCond .lt 23, 3) := by decide +kernel
theorem dX8_inverse_31 : decode cX8_inverse 31 = .ok (.iload_n 1, 1) := by decide +kernel
theorem dX8_inverse_32 : decode cX8_inverse 32 = .ok (.aload_n 0, 1) := by decide +kernel
theorem dX8_inverse_33 : decode cX8_inverse 33 = .ok (.getfield 86, 3) := by decide +kernel
theorem dX8_inverse_36 : decode cX8_inverse 36 = .ok (.if_icmp .ge 15, 3) := by decide +kernel
theorem dX8_inverse_39 : decode cX8_inverse 39 = .ok (.iload_n 2, 1) := by decide +kernel
theorem dX8_inverse_40 : decode cX8_inverse 40 = .ok (.ifCond .lt 11, 3) := by decide +kernel
theorem dX8_inverse_43 : decode cX8_inverse 43 = .ok (.iload_n 2, 1) := by decide +kernel
theorem dX8_inverse_44 : decode cX8_inverse 44 = .ok (.aload_n 0, 1) := by decide +kernel
theorem dX8_inverse_45 : decode cX8_inverse 45 = .ok (.getfield 86, 3) := by decide +kernel
theorem dX8_inverse_48 : decode cX8_inverse 48 = .ok (.if_icmp .lt 7, 3) := by decide +kernel
theorem dX8_inverse_51 : decode cX8_inverse 51 = .ok (.iconst 1, 1) := by decide +kernel
theorem dX8_inverse_52 : decode cX8_inverse 52 = .ok (.goto 4, 3) := by decide +kernel
theorem dX8_inverse_55 : decode cX8_inverse 55 = .ok (.iconst 0, 1) := by decide +kernel
theorem dX8_inverse_56 : decode cX8_inverse 56 = .ok (.invokevirtual 93, 3) := by decide +kernel
theorem dX8_inverse_59 : decode cX8_inverse 59 = .ok (.ifCond .eq 5, 3) := by decide +kernel
theorem dX8_inverse_62 : decode cX8_inverse 62 = .ok (.iconst 0, 1) := by decide +kernel
theorem dX8_inverse_63 : decode cX8_inverse 63 = .ok (.ireturn, 1) := by decide +kernel
theorem dX8_inverse_64 : decode cX8_inverse 64 = .ok (.aload_n 0, 1) := by decide +kernel
theorem dX8_inverse_65 : decode cX8_inverse 65 = .ok (.getfield 100, 3) := by decide +kernel
theorem dX8_inverse_68 : decode cX8_inverse 68 = .ok (.sipush 998, 3) := by decide +kernel
theorem dX8_inverse_71 : decode cX8_inverse 71 = .ok (.if_icmp .le 5, 3) := by decide +kernel
theorem dX8_inverse_74 : decode cX8_inverse 74 = .ok (.iconst (-1), 1) := by decide +kernel
theorem dX8_inverse_75 : decode cX8_inverse 75 = .ok (.ireturn, 1) := by decide +kernel
theorem dX8_inverse_76 : decode cX8_inverse 76 = .ok (.aload_n 0, 1) := by decide +kernel
theorem dX8_inverse_77 : decode cX8_inverse 77 = .ok (.getfield 41, 3) := by decide +kernel
theorem dX8_inverse_80 : decode cX8_inverse 80 = .ok (.iconst 0, 1) := by decide +kernel
theorem dX8_inverse_81 : decode cX8_inverse 81 = .ok (.iload_n 1, 1) := by decide +kernel
theorem dX8_inverse_82 : decode cX8_inverse 82 = .ok (.iastore, 1) := by decide +kernel
theorem dX8_inverse_83 : decode cX8_inverse 83 = .ok (.aload_n 0, 1) := by decide +kernel
theorem dX8_inverse_84 : decode cX8_inverse 84 = .ok (.getfield 41, 3) := by decide +kernel
theorem dX8_inverse_87 : decode cX8_inverse 87 = .ok (.iconst 1, 1) := by decide +kernel
theorem dX8_inverse_88 : decode cX8_inverse 88 = .ok (.iload_n 2, 1) := by decide +kernel
theorem dX8_inverse_89 : decode cX8_inverse 89 = .ok (.iastore, 1) := by decide +kernel
theorem dX8_inverse_90 : decode cX8_inverse 90 = .ok (.aload_n 0, 1) := by decide +kernel
theorem dX8_inverse_91 : decode cX8_inverse 91 = .ok (.aload_n 0, 1) := by decide +kernel
theorem dX8_inverse_92 : decode cX8_inverse 92 = .ok (.getfield 41, 3) := by decide +kernel
theorem dX8_inverse_95 : decode cX8_inverse 95 = .ok (.iconst 2, 1) := by decide +kernel
theorem dX8_inverse_96 : decode cX8_inverse 96 = .ok (.aload_n 0, 1) := by decide +kernel
theorem dX8_inverse_97 : decode cX8_inverse 97 = .ok (.getfield 44, 3) := by decide +kernel
theorem dX8_inverse_100 : decode cX8_inverse 100 = .ok (.iconst 0, 1) := by decide +kernel
theorem dX8_inverse_101 : decode cX8_inverse 101 = .ok (.invokevirtual 115, 3) := by decide +kernel
theorem dX8_inverse_104 : decode cX8_inverse 104 = .ok (.pop, 1) := by decide +kernel
theorem dX8_inverse_105 : decode cX8_inverse 105 = .ok (.aload_n 0, 1) := by decide +kernel
theorem dX8_inverse_106 : decode cX8_inverse 106 = .ok (.getfield 41, 3) := by decide +kernel
theorem dX8_inverse_109 : decode cX8_inverse 109 = .ok (.iconst 0, 1) := by decide +kernel
theorem dX8_inverse_110 : decode cX8_inverse 110 = .ok (.iload_n 2, 1) := by decide +kernel
theorem dX8_inverse_111 : decode cX8_inverse 111 = .ok (.iastore, 1) := by decide +kernel
theorem dX8_inverse_112 : decode cX8_inverse 112 = .ok (.aload_n 0, 1) := by decide +kernel
theorem dX8_inverse_113 : decode cX8_inverse 113 = .ok (.getfield 41, 3) := by decide +kernel
theorem dX8_inverse_116 : decode cX8_inverse 116 = .ok (.iconst 1, 1) := by decide +kernel
theorem dX8_inverse_117 : decode cX8_inverse 117 = .ok (.iload_n 1, 1) := by decide +kernel
theorem dX8_inverse_118 : decode cX8_inverse 118 = .ok (.iastore, 1) := by decide +kernel
theorem dX8_inverse_119 : decode cX8_inverse 119 = .ok (.aload_n 0, 1) := by decide +kernel
theorem dX8_inverse_120 : decode cX8_inverse 120 = .ok (.aload_n 0, 1) := by decide +kernel
theorem dX8_inverse_121 : decode cX8_inverse 121 = .ok (.getfield 41, 3) := by decide +kernel
theorem dX8_inverse_124 : decode cX8_inverse 124 = .ok (.iconst 2, 1) := by decide +kernel
theorem dX8_inverse_125 : decode cX8_inverse 125 = .ok (.aload_n 0, 1) := by decide +kernel
theorem dX8_inverse_126 : decode cX8_inverse 126 = .ok (.getfield 44, 3) := by decide +kernel
theorem dX8_inverse_129 : decode cX8_inverse 129 = .ok (.iconst 0, 1) := by decide +kernel
theorem dX8_inverse_130 : decode cX8_inverse 130 = .ok (.invokevirtual 115, 3) := by decide +kernel
theorem dX8_inverse_133 : decode cX8_inverse 133 = .ok (.pop, 1) := by decide +kernel
theorem dX8_inverse_134 : decode cX8_inverse 134 = .ok (.aload_n 0, 1) := by decide +kernel
theorem dX8_inverse_135 : decode cX8_inverse 135 = .ok (.getfield 100, 3) := by decide +kernel
theorem dX8_inverse_138 : decode cX8_inverse 138 = .ok (.ireturn, 1) := by decide +kernel
theorem dX8_stands_0 : decode cX8_stands 0 = .ok (.aload_n 0, 1) := by decide +kernel
theorem dX8_stands_1 : decode cX8_stands 1 = .ok (.getfield 16, 3) := by decide +kernel
theorem dX8_stands_4 : decode cX8_stands 4 = .ok (.iload_n 1, 1) := by decide +kernel
theorem dX8_stands_5 : decode cX8_stands 5 = .ok (.iaload, 1) := by decide +kernel
theorem dX8_stands_6 : decode cX8_stands 6 = .ok (.istore 4, 2) := by decide +kernel
theorem dX8_stands_8 : decode cX8_stands 8 = .ok (.iload 4, 2) := by decide +kernel
theorem dX8_stands_10 : decode cX8_stands 10 = .ok (.iload_n 3, 1) := by decide +kernel
theorem dX8_stands_11 : decode cX8_stands 11 = .ok (.if_icmp .le 5, 3) := by decide +kernel
theorem dX8_stands_14 : decode cX8_stands 14 = .ok (.iconst 0, 1) := by decide +kernel
theorem dX8_stands_15 : decode cX8_stands 15 = .ok (.ireturn, 1) := by decide +kernel
theorem dX8_stands_16 : decode cX8_stands 16 = .ok (.iconst 0, 1) := by decide +kernel
theorem dX8_stands_17 : decode cX8_stands 17 = .ok (.istore 5, 2) := by decide +kernel
theorem dX8_stands_19 : decode cX8_stands 19 = .ok (.iload 5, 2) := by decide +kernel
theorem dX8_stands_21 : decode cX8_stands 21 = .ok (.iload 4, 2) := by decide +kernel
theorem dX8_stands_23 : decode cX8_stands 23 = .ok (.if_icmp .ge 33, 3) := by decide +kernel
theorem dX8_stands_26 : decode cX8_stands 26 = .ok (.aload_n 0, 1) := by decide +kernel
theorem dX8_stands_27 : decode cX8_stands 27 = .ok (.getfield 7, 3) := by decide +kernel
theorem dX8_stands_30 : decode cX8_stands 30 = .ok (.bipush 40, 2) := by decide +kernel
theorem dX8_stands_32 : decode cX8_stands 32 = .ok (.iload_n 1, 1) := by decide +kernel
theorem dX8_stands_33 : decode cX8_stands 33 = .ok (.imul, 1) := by decide +kernel
theorem dX8_stands_34 : decode cX8_stands 34 = .ok (.iload 5, 2) := by decide +kernel
theorem dX8_stands_36 : decode cX8_stands 36 = .ok (.iadd, 1) := by decide +kernel
theorem dX8_stands_37 : decode cX8_stands 37 = .ok (.iaload, 1) := by decide +kernel
theorem dX8_stands_38 : decode cX8_stands 38 = .ok (.aload_n 2, 1) := by decide +kernel
theorem dX8_stands_39 : decode cX8_stands 39 = .ok (.iload_n 3, 1) := by decide +kernel
theorem dX8_stands_40 : decode cX8_stands 40 = .ok (.iload 4, 2) := by decide +kernel
theorem dX8_stands_42 : decode cX8_stands 42 = .ok (.isub, 1) := by decide +kernel
theorem dX8_stands_43 : decode cX8_stands 43 = .ok (.iload 5, 2) := by decide +kernel
theorem dX8_stands_45 : decode cX8_stands 45 = .ok (.iadd, 1) := by decide +kernel
theorem dX8_stands_46 : decode cX8_stands 46 = .ok (.iaload, 1) := by decide +kernel
theorem dX8_stands_47 : decode cX8_stands 47 = .ok (.if_icmp .ne 9, 3) := by decide +kernel
theorem dX8_stands_50 : decode cX8_stands 50 = .ok (.iinc 5 1, 3) := by decide +kernel
theorem dX8_stands_53 : decode cX8_stands 53 = .ok (.goto (-34), 3) := by decide +kernel
theorem dX8_stands_56 : decode cX8_stands 56 = .ok (.iload 5, 2) := by decide +kernel
theorem dX8_stands_58 : decode cX8_stands 58 = .ok (.iload 4, 2) := by decide +kernel
theorem dX8_stands_60 : decode cX8_stands 60 = .ok (.if_icmp .ne 7, 3) := by decide +kernel
theorem dX8_stands_63 : decode cX8_stands 63 = .ok (.iconst 1, 1) := by decide +kernel
theorem dX8_stands_64 : decode cX8_stands 64 = .ok (.goto 4, 3) := by decide +kernel
theorem dX8_stands_67 : decode cX8_stands 67 = .ok (.iconst 0, 1) := by decide +kernel
theorem dX8_stands_68 : decode cX8_stands 68 = .ok (.ireturn, 1) := by decide +kernel
set_option maxHeartbeats 4000000 in
set_option maxRecDepth 100000 in
theorem ggX8_reduced_X8_stands : GoodIn wsX8_reduced wsX8_stands := goodIn_r _ [9, 2, 10, 11, 12, 13, 14, 15, 16, 17, 18, 19, 20, 21, 22, 23, 24, 25, 26, 27, 28, 29, 30, 31, 32, 33, 34, 35, 36, 37, 38, 39, 40, 41, 42, 43, 44, 45] (by first | rfl | decide +kernel) (by decide +kernel)
set_option maxRecDepth 20000 in
theorem gX8_reduced_X8_stands : GoodIn wsX8_reduced (wsV RX8 119 RX8 yX8_stands wsX8_stands) := goodIn_app (goodIn_of _ (by decide +kernel)) ggX8_reduced_X8_stands
theorem dX8_reduced_0 : decode cX8_reduced 0 = .ok (.iload_n 2, 1) := by decide +kernel
theorem dX8_reduced_1 : decode cX8_reduced 1 = .ok (.istore_n 3, 1) := by decide +kernel
theorem dX8_reduced_2 : decode cX8_reduced 2 = .ok (.iconst 1, 1) := by decide +kernel
theorem dX8_reduced_3 : decode cX8_reduced 3 = .ok (.istore 4, 2) := by decide +kernel
theorem dX8_reduced_5 : decode cX8_reduced 5 = .ok (.iload 4, 2) := by decide +kernel
theorem dX8_reduced_7 : decode cX8_reduced 7 = .ok (.iload_n 3, 1) := by decide +kernel
theorem dX8_reduced_8 : decode cX8_reduced 8 = .ok (.if_icmp .gt 183, 3) := by decide +kernel
theorem dX8_reduced_11 : decode cX8_reduced 11 = .ok (.iconst (-1), 1) := by decide +kernel
theorem dX8_reduced_12 : decode cX8_reduced 12 = .ok (.istore 5, 2) := by decide +kernel
theorem dX8_reduced_14 : decode cX8_reduced 14 = .ok (.iconst 0, 1) := by decide +kernel
theorem dX8_reduced_15 : decode cX8_reduced 15 = .ok (.istore 6, 2) := by decide +kernel
theorem dX8_reduced_17 : decode cX8_reduced 17 = .ok (.iload 6, 2) := by decide +kernel
theorem dX8_reduced_19 : decode cX8_reduced 19 = .ok (.aload_n 0, 1) := by decide +kernel
theorem dX8_reduced_20 : decode cX8_reduced 20 = .ok (.getfield 97, 3) := by decide +kernel
theorem dX8_reduced_23 : decode cX8_reduced 23 = .ok (.if_icmp .ge 48, 3) := by decide +kernel
theorem dX8_reduced_26 : decode cX8_reduced 26 = .ok (.aload_n 0, 1) := by decide +kernel
theorem dX8_reduced_27 : decode cX8_reduced 27 = .ok (.iload 6, 2) := by decide +kernel
theorem dX8_reduced_29 : decode cX8_reduced 29 = .ok (.aload_n 1, 1) := by decide +kernel
theorem dX8_reduced_30 : decode cX8_reduced 30 = .ok (.iload 4, 2) := by decide +kernel
theorem dX8_reduced_32 : decode cX8_reduced 32 = .ok (.invokevirtual 119, 3) := by decide +kernel
theorem dX8_reduced_35 : decode cX8_reduced 35 = .ok (.ifCond .eq 30, 3) := by decide +kernel
theorem dX8_reduced_38 : decode cX8_reduced 38 = .ok (.iload 5, 2) := by decide +kernel
theorem dX8_reduced_40 : decode cX8_reduced 40 = .ok (.iconst (-1), 1) := by decide +kernel
theorem dX8_reduced_41 : decode cX8_reduced 41 = .ok (.if_icmp .eq 20, 3) := by decide +kernel
theorem dX8_reduced_44 : decode cX8_reduced 44 = .ok (.aload_n 0, 1) := by decide +kernel
theorem dX8_reduced_45 : decode cX8_reduced 45 = .ok (.getfield 16, 3) := by decide +kernel
theorem dX8_reduced_48 : decode cX8_reduced 48 = .ok (.iload 6, 2) := by decide +kernel
theorem dX8_reduced_50 : decode cX8_reduced 50 = .ok (.iaload, 1) := by decide +kernel
theorem dX8_reduced_51 : decode cX8_reduced 51 = .ok (.aload_n 0, 1) := by decide +kernel
theorem dX8_reduced_52 : decode cX8_reduced 52 = .ok (.getfield 16, 3) := by decide +kernel
theorem dX8_reduced_55 : decode cX8_reduced 55 = .ok (.iload 5, 2) := by decide +kernel
theorem dX8_reduced_57 : decode cX8_reduced 57 = .ok (.iaload, 1) := by decide +kernel
theorem dX8_reduced_58 : decode cX8_reduced 58 = .ok (.if_icmp .le 7, 3) := by decide +kernel
theorem dX8_reduced_61 : decode cX8_reduced 61 = .ok (.iload 6, 2) := by decide +kernel
theorem dX8_reduced_63 : decode cX8_reduced 63 = .ok (.istore 5, 2) := by decide +kernel
theorem dX8_reduced_65 : decode cX8_reduced 65 = .ok (.iinc 6 1, 3) := by decide +kernel
theorem dX8_reduced_68 : decode cX8_reduced 68 = .ok (.goto (-51), 3) := by decide +kernel
theorem dX8_reduced_71 : decode cX8_reduced 71 = .ok (.iload 5, 2) := by decide +kernel
theorem dX8_reduced_73 : decode cX8_reduced 73 = .ok (.iconst (-1), 1) := by decide +kernel
theorem dX8_reduced_74 : decode cX8_reduced 74 = .ok (.if_icmp .ne 9, 3) := by decide +kernel
theorem dX8_reduced_77 : decode cX8_reduced 77 = .ok (.iinc 4 1, 3) := by decide +kernel
theorem dX8_reduced_80 : decode cX8_reduced 80 = .ok (.goto (-75), 3) := by decide +kernel
theorem dX8_reduced_83 : decode cX8_reduced 83 = .ok (.iload 4, 2) := by decide +kernel
theorem dX8_reduced_85 : decode cX8_reduced 85 = .ok (.aload_n 0, 1) := by decide +kernel
theorem dX8_reduced_86 : decode cX8_reduced 86 = .ok (.getfield 16, 3) := by decide +kernel
theorem dX8_reduced_89 : decode cX8_reduced 89 = .ok (.iload 5, 2) := by decide +kernel
theorem dX8_reduced_91 : decode cX8_reduced 91 = .ok (.iaload, 1) := by decide +kernel
theorem dX8_reduced_92 : decode cX8_reduced 92 = .ok (.isub, 1) := by decide +kernel
theorem dX8_reduced_93 : decode cX8_reduced 93 = .ok (.istore 6, 2) := by decide +kernel
theorem dX8_reduced_95 : decode cX8_reduced 95 = .ok (.aload_n 0, 1) := by decide +kernel
theorem dX8_reduced_96 : decode cX8_reduced 96 = .ok (.getfield 16, 3) := by decide +kernel
theorem dX8_reduced_99 : decode cX8_reduced 99 = .ok (.iload 5, 2) := by decide +kernel
theorem dX8_reduced_101 : decode cX8_reduced 101 = .ok (.iaload, 1) := by decide +kernel
theorem dX8_reduced_102 : decode cX8_reduced 102 = .ok (.aload_n 0, 1) := by decide +kernel
theorem dX8_reduced_103 : decode cX8_reduced 103 = .ok (.getfield 19, 3) := by decide +kernel
theorem dX8_reduced_106 : decode cX8_reduced 106 = .ok (.iload 5, 2) := by decide +kernel
theorem dX8_reduced_108 : decode cX8_reduced 108 = .ok (.iaload, 1) := by decide +kernel
theorem dX8_reduced_109 : decode cX8_reduced 109 = .ok (.isub, 1) := by decide +kernel
theorem dX8_reduced_110 : decode cX8_reduced 110 = .ok (.istore 7, 2) := by decide +kernel
theorem dX8_reduced_112 : decode cX8_reduced 112 = .ok (.iconst 0, 1) := by decide +kernel
theorem dX8_reduced_113 : decode cX8_reduced 113 = .ok (.istore 8, 2) := by decide +kernel
theorem dX8_reduced_115 : decode cX8_reduced 115 = .ok (.iload 8, 2) := by decide +kernel
theorem dX8_reduced_117 : decode cX8_reduced 117 = .ok (.aload_n 0, 1) := by decide +kernel
theorem dX8_reduced_118 : decode cX8_reduced 118 = .ok (.getfield 19, 3) := by decide +kernel
theorem dX8_reduced_121 : decode cX8_reduced 121 = .ok (.iload 5, 2) := by decide +kernel
theorem dX8_reduced_123 : decode cX8_reduced 123 = .ok (.iaload, 1) := by decide +kernel
theorem dX8_reduced_124 : decode cX8_reduced 124 = .ok (.if_icmp .ge 29, 3) := by decide +kernel
theorem dX8_reduced_127 : decode cX8_reduced 127 = .ok (.aload_n 1, 1) := by decide +kernel
theorem dX8_reduced_128 : decode cX8_reduced 128 = .ok (.iload 6, 2) := by decide +kernel
theorem dX8_reduced_130 : decode cX8_reduced 130 = .ok (.iload 8, 2) := by decide +kernel
theorem dX8_reduced_132 : decode cX8_reduced 132 = .ok (.iadd, 1) := by decide +kernel
theorem dX8_reduced_133 : decode cX8_reduced 133 = .ok (.aload_n 0, 1) := by decide +kernel
theorem dX8_reduced_134 : decode cX8_reduced 134 = .ok (.getfield 13, 3) := by decide +kernel
theorem dX8_reduced_137 : decode cX8_reduced 137 = .ok (.bipush 40, 2) := by decide +kernel
theorem dX8_reduced_139 : decode cX8_reduced 139 = .ok (.iload 5, 2) := by decide +kernel
theorem dX8_reduced_141 : decode cX8_reduced 141 = .ok (.imul, 1) := by decide +kernel
theorem dX8_reduced_142 : decode cX8_reduced 142 = .ok (.iload 8, 2) := by decide +kernel
theorem dX8_reduced_144 : decode cX8_reduced 144 = .ok (.iadd, 1) := by decide +kernel
theorem dX8_reduced_145 : decode cX8_reduced 145 = .ok (.iaload, 1) := by decide +kernel
theorem dX8_reduced_146 : decode cX8_reduced 146 = .ok (.iastore, 1) := by decide +kernel
theorem dX8_reduced_147 : decode cX8_reduced 147 = .ok (.iinc 8 1, 3) := by decide +kernel
theorem dX8_reduced_150 : decode cX8_reduced 150 = .ok (.goto (-35), 3) := by decide +kernel
theorem dX8_reduced_153 : decode cX8_reduced 153 = .ok (.iload 4, 2) := by decide +kernel
theorem dX8_reduced_155 : decode cX8_reduced 155 = .ok (.istore 8, 2) := by decide +kernel
theorem dX8_reduced_157 : decode cX8_reduced 157 = .ok (.iload 8, 2) := by decide +kernel
theorem dX8_reduced_159 : decode cX8_reduced 159 = .ok (.iload_n 3, 1) := by decide +kernel
theorem dX8_reduced_160 : decode cX8_reduced 160 = .ok (.if_icmp .ge 20, 3) := by decide +kernel
theorem dX8_reduced_163 : decode cX8_reduced 163 = .ok (.aload_n 1, 1) := by decide +kernel
theorem dX8_reduced_164 : decode cX8_reduced 164 = .ok (.iload 8, 2) := by decide +kernel
theorem dX8_reduced_166 : decode cX8_reduced 166 = .ok (.iload 7, 2) := by decide +kernel
theorem dX8_reduced_168 : decode cX8_reduced 168 = .ok (.isub, 1) := by decide +kernel
theorem dX8_reduced_169 : decode cX8_reduced 169 = .ok (.aload_n 1, 1) := by decide +kernel
theorem dX8_reduced_170 : decode cX8_reduced 170 = .ok (.iload 8, 2) := by decide +kernel
theorem dX8_reduced_172 : decode cX8_reduced 172 = .ok (.iaload, 1) := by decide +kernel
theorem dX8_reduced_173 : decode cX8_reduced 173 = .ok (.iastore, 1) := by decide +kernel
theorem dX8_reduced_174 : decode cX8_reduced 174 = .ok (.iinc 8 1, 3) := by decide +kernel
theorem dX8_reduced_177 : decode cX8_reduced 177 = .ok (.goto (-20), 3) := by decide +kernel
theorem dX8_reduced_180 : decode cX8_reduced 180 = .ok (.iload_n 3, 1) := by decide +kernel
theorem dX8_reduced_181 : decode cX8_reduced 181 = .ok (.iload 7, 2) := by decide +kernel
theorem dX8_reduced_183 : decode cX8_reduced 183 = .ok (.isub, 1) := by decide +kernel
theorem dX8_reduced_184 : decode cX8_reduced 184 = .ok (.istore_n 3, 1) := by decide +kernel
theorem dX8_reduced_185 : decode cX8_reduced 185 = .ok (.iconst 1, 1) := by decide +kernel
theorem dX8_reduced_186 : decode cX8_reduced 186 = .ok (.istore 4, 2) := by decide +kernel
theorem dX8_reduced_188 : decode cX8_reduced 188 = .ok (.goto (-183), 3) := by decide +kernel
theorem dX8_reduced_191 : decode cX8_reduced 191 = .ok (.iload_n 3, 1) := by decide +kernel
theorem dX8_reduced_192 : decode cX8_reduced 192 = .ok (.ireturn, 1) := by decide +kernel
theorem dX8_compare_0 : decode cX8_compare 0 = .ok (.iload_n 1, 1) := by decide +kernel
theorem dX8_compare_1 : decode cX8_compare 1 = .ok (.iload_n 3, 1) := by decide +kernel
theorem dX8_compare_2 : decode cX8_compare 2 = .ok (.if_icmp .eq 7, 3) := by decide +kernel
theorem dX8_compare_5 : decode cX8_compare 5 = .ok (.iload_n 1, 1) := by decide +kernel
theorem dX8_compare_6 : decode cX8_compare 6 = .ok (.iload_n 3, 1) := by decide +kernel
theorem dX8_compare_7 : decode cX8_compare 7 = .ok (.isub, 1) := by decide +kernel
theorem dX8_compare_8 : decode cX8_compare 8 = .ok (.ireturn, 1) := by decide +kernel
theorem dX8_compare_9 : decode cX8_compare 9 = .ok (.iconst 0, 1) := by decide +kernel
theorem dX8_compare_10 : decode cX8_compare 10 = .ok (.istore 4, 2) := by decide +kernel
theorem dX8_compare_12 : decode cX8_compare 12 = .ok (.iload 4, 2) := by decide +kernel
theorem dX8_compare_14 : decode cX8_compare 14 = .ok (.iload_n 1, 1) := by decide +kernel
theorem dX8_compare_15 : decode cX8_compare 15 = .ok (.if_icmp .ge 20, 3) := by decide +kernel
theorem dX8_compare_18 : decode cX8_compare 18 = .ok (.aload_n 0, 1) := by decide +kernel
theorem dX8_compare_19 : decode cX8_compare 19 = .ok (.iload 4, 2) := by decide +kernel
theorem dX8_compare_21 : decode cX8_compare 21 = .ok (.iaload, 1) := by decide +kernel
theorem dX8_compare_22 : decode cX8_compare 22 = .ok (.aload_n 2, 1) := by decide +kernel
theorem dX8_compare_23 : decode cX8_compare 23 = .ok (.iload 4, 2) := by decide +kernel
theorem dX8_compare_25 : decode cX8_compare 25 = .ok (.iaload, 1) := by decide +kernel
theorem dX8_compare_26 : decode cX8_compare 26 = .ok (.if_icmp .ne 9, 3) := by decide +kernel
theorem dX8_compare_29 : decode cX8_compare 29 = .ok (.iinc 4 1, 3) := by decide +kernel
theorem dX8_compare_32 : decode cX8_compare 32 = .ok (.goto (-20), 3) := by decide +kernel
theorem dX8_compare_35 : decode cX8_compare 35 = .ok (.iload 4, 2) := by decide +kernel
theorem dX8_compare_37 : decode cX8_compare 37 = .ok (.iload_n 1, 1) := by decide +kernel
theorem dX8_compare_38 : decode cX8_compare 38 = .ok (.if_icmp .ne 7, 3) := by decide +kernel
theorem dX8_compare_41 : decode cX8_compare 41 = .ok (.iconst 0, 1) := by decide +kernel
theorem dX8_compare_42 : decode cX8_compare 42 = .ok (.goto 12, 3) := by decide +kernel
theorem dX8_compare_45 : decode cX8_compare 45 = .ok (.aload_n 0, 1) := by decide +kernel
theorem dX8_compare_46 : decode cX8_compare 46 = .ok (.iload 4, 2) := by decide +kernel
theorem dX8_compare_48 : decode cX8_compare 48 = .ok (.iaload, 1) := by decide +kernel
theorem dX8_compare_49 : decode cX8_compare 49 = .ok (.aload_n 2, 1) := by decide +kernel
theorem dX8_compare_50 : decode cX8_compare 50 = .ok (.iload 4, 2) := by decide +kernel
theorem dX8_compare_52 : decode cX8_compare 52 = .ok (.iaload, 1) := by decide +kernel
theorem dX8_compare_53 : decode cX8_compare 53 = .ok (.isub, 1) := by decide +kernel
theorem dX8_compare_54 : decode cX8_compare 54 = .ok (.ireturn, 1) := by decide +kernel
set_option maxHeartbeats 4000000 in
set_option maxRecDepth 100000 in
theorem ggX8_take_X8_reduced : GoodIn wsX8_take wsX8_reduced := goodIn_r _ [15, 16, 17, 18, 19, 20, 21, 22, 14, 23, 24, 25, 26, 27, 28, 29, 30, 31, 32, 33, 34, 35, 36, 37, 38, 39, 40, 41, 42, 43, 44, 45, 46, 47, 48, 49, 50, 51, 52, 53, 54, 55, 56, 57, 58, 59] (by first | rfl | decide +kernel) (by decide +kernel)
set_option maxRecDepth 20000 in
theorem gX8_take_X8_reduced : GoodIn wsX8_take (wsV RX8 123 RX8 yX8_reduced wsX8_reduced) := goodIn_app (goodIn_of _ (by decide +kernel)) ggX8_take_X8_reduced
theorem dX8_take_0 : decode cX8_take 0 = .ok (.iconst 0, 1) := by decide +kernel
theorem dX8_take_1 : decode cX8_take 1 = .ok (.istore_n 1, 1) := by decide +kernel
theorem dX8_take_2 : decode cX8_take 2 = .ok (.iload_n 1, 1) := by decide +kernel
theorem dX8_take_3 : decode cX8_take 3 = .ok (.aload_n 0, 1) := by decide +kernel
theorem dX8_take_4 : decode cX8_take 4 = .ok (.getfield 29, 3) := by decide +kernel
theorem dX8_take_7 : decode cX8_take 7 = .ok (.aload_n 0, 1) := by decide +kernel
theorem dX8_take_8 : decode cX8_take 8 = .ok (.getfield 103, 3) := by decide +kernel
theorem dX8_take_11 : decode cX8_take 11 = .ok (.iaload, 1) := by decide +kernel
theorem dX8_take_12 : decode cX8_take 12 = .ok (.if_icmp .ge 29, 3) := by decide +kernel
theorem dX8_take_15 : decode cX8_take 15 = .ok (.aload_n 0, 1) := by decide +kernel
theorem dX8_take_16 : decode cX8_take 16 = .ok (.getfield 41, 3) := by decide +kernel
theorem dX8_take_19 : decode cX8_take 19 = .ok (.iload_n 1, 1) := by decide +kernel
theorem dX8_take_20 : decode cX8_take 20 = .ok (.aload_n 0, 1) := by decide +kernel
theorem dX8_take_21 : decode cX8_take 21 = .ok (.getfield 23, 3) := by decide +kernel
theorem dX8_take_24 : decode cX8_take 24 = .ok (.bipush 40, 2) := by decide +kernel
theorem dX8_take_26 : decode cX8_take 26 = .ok (.aload_n 0, 1) := by decide +kernel
theorem dX8_take_27 : decode cX8_take 27 = .ok (.getfield 103, 3) := by decide +kernel
theorem dX8_take_30 : decode cX8_take 30 = .ok (.imul, 1) := by decide +kernel
theorem dX8_take_31 : decode cX8_take 31 = .ok (.iload_n 1, 1) := by decide +kernel
theorem dX8_take_32 : decode cX8_take 32 = .ok (.iadd, 1) := by decide +kernel
theorem dX8_take_33 : decode cX8_take 33 = .ok (.iaload, 1) := by decide +kernel
theorem dX8_take_34 : decode cX8_take 34 = .ok (.iastore, 1) := by decide +kernel
theorem dX8_take_35 : decode cX8_take 35 = .ok (.iinc 1 1, 3) := by decide +kernel
theorem dX8_take_38 : decode cX8_take 38 = .ok (.goto (-36), 3) := by decide +kernel
theorem dX8_take_41 : decode cX8_take 41 = .ok (.iconst 0, 1) := by decide +kernel
theorem dX8_take_42 : decode cX8_take 42 = .ok (.istore_n 1, 1) := by decide +kernel
theorem dX8_take_43 : decode cX8_take 43 = .ok (.iload_n 1, 1) := by decide +kernel
theorem dX8_take_44 : decode cX8_take 44 = .ok (.aload_n 0, 1) := by decide +kernel
theorem dX8_take_45 : decode cX8_take 45 = .ok (.getfield 32, 3) := by decide +kernel
theorem dX8_take_48 : decode cX8_take 48 = .ok (.aload_n 0, 1) := by decide +kernel
theorem dX8_take_49 : decode cX8_take 49 = .ok (.getfield 103, 3) := by decide +kernel
theorem dX8_take_52 : decode cX8_take 52 = .ok (.iaload, 1) := by decide +kernel
theorem dX8_take_53 : decode cX8_take 53 = .ok (.if_icmp .ge 29, 3) := by decide +kernel
theorem dX8_take_56 : decode cX8_take 56 = .ok (.aload_n 0, 1) := by decide +kernel
theorem dX8_take_57 : decode cX8_take 57 = .ok (.getfield 44, 3) := by decide +kernel
theorem dX8_take_60 : decode cX8_take 60 = .ok (.iload_n 1, 1) := by decide +kernel
theorem dX8_take_61 : decode cX8_take 61 = .ok (.aload_n 0, 1) := by decide +kernel
theorem dX8_take_62 : decode cX8_take 62 = .ok (.getfield 26, 3) := by decide +kernel
theorem dX8_take_65 : decode cX8_take 65 = .ok (.bipush 40, 2) := by decide +kernel
theorem dX8_take_67 : decode cX8_take 67 = .ok (.aload_n 0, 1) := by decide +kernel
theorem dX8_take_68 : decode cX8_take 68 = .ok (.getfield 103, 3) := by decide +kernel
theorem dX8_take_71 : decode cX8_take 71 = .ok (.imul, 1) := by decide +kernel
theorem dX8_take_72 : decode cX8_take 72 = .ok (.iload_n 1, 1) := by decide +kernel
theorem dX8_take_73 : decode cX8_take 73 = .ok (.iadd, 1) := by decide +kernel
theorem dX8_take_74 : decode cX8_take 74 = .ok (.iaload, 1) := by decide +kernel
theorem dX8_take_75 : decode cX8_take 75 = .ok (.iastore, 1) := by decide +kernel
theorem dX8_take_76 : decode cX8_take 76 = .ok (.iinc 1 1, 3) := by decide +kernel
theorem dX8_take_79 : decode cX8_take 79 = .ok (.goto (-36), 3) := by decide +kernel
theorem dX8_take_82 : decode cX8_take 82 = .ok (.aload_n 0, 1) := by decide +kernel
theorem dX8_take_83 : decode cX8_take 83 = .ok (.aload_n 0, 1) := by decide +kernel
theorem dX8_take_84 : decode cX8_take 84 = .ok (.aload_n 0, 1) := by decide +kernel
theorem dX8_take_85 : decode cX8_take 85 = .ok (.getfield 41, 3) := by decide +kernel
theorem dX8_take_88 : decode cX8_take 88 = .ok (.aload_n 0, 1) := by decide +kernel
theorem dX8_take_89 : decode cX8_take 89 = .ok (.getfield 29, 3) := by decide +kernel
theorem dX8_take_92 : decode cX8_take 92 = .ok (.aload_n 0, 1) := by decide +kernel
theorem dX8_take_93 : decode cX8_take 93 = .ok (.getfield 103, 3) := by decide +kernel
theorem dX8_take_96 : decode cX8_take 96 = .ok (.iaload, 1) := by decide +kernel
theorem dX8_take_97 : decode cX8_take 97 = .ok (.invokevirtual 123, 3) := by decide +kernel
theorem dX8_take_100 : decode cX8_take 100 = .ok (.putfield 127, 3) := by decide +kernel
theorem dX8_take_103 : decode cX8_take 103 = .ok (.aload_n 0, 1) := by decide +kernel
theorem dX8_take_104 : decode cX8_take 104 = .ok (.aload_n 0, 1) := by decide +kernel
theorem dX8_take_105 : decode cX8_take 105 = .ok (.aload_n 0, 1) := by decide +kernel
theorem dX8_take_106 : decode cX8_take 106 = .ok (.getfield 44, 3) := by decide +kernel
theorem dX8_take_109 : decode cX8_take 109 = .ok (.aload_n 0, 1) := by decide +kernel
theorem dX8_take_110 : decode cX8_take 110 = .ok (.getfield 32, 3) := by decide +kernel
theorem dX8_take_113 : decode cX8_take 113 = .ok (.aload_n 0, 1) := by decide +kernel
theorem dX8_take_114 : decode cX8_take 114 = .ok (.getfield 103, 3) := by decide +kernel
theorem dX8_take_117 : decode cX8_take 117 = .ok (.iaload, 1) := by decide +kernel
theorem dX8_take_118 : decode cX8_take 118 = .ok (.invokevirtual 123, 3) := by decide +kernel
theorem dX8_take_121 : decode cX8_take 121 = .ok (.putfield 130, 3) := by decide +kernel
theorem dX8_take_124 : decode cX8_take 124 = .ok (.aload_n 0, 1) := by decide +kernel
theorem dX8_take_125 : decode cX8_take 125 = .ok (.aload_n 0, 1) := by decide +kernel
theorem dX8_take_126 : decode cX8_take 126 = .ok (.getfield 103, 3) := by decide +kernel
theorem dX8_take_129 : decode cX8_take 129 = .ok (.iconst 1, 1) := by decide +kernel
theorem dX8_take_130 : decode cX8_take 130 = .ok (.iadd, 1) := by decide +kernel
theorem dX8_take_131 : decode cX8_take 131 = .ok (.sipush 1000, 3) := by decide +kernel
theorem dX8_take_134 : decode cX8_take 134 = .ok (.irem, 1) := by decide +kernel
theorem dX8_take_135 : decode cX8_take 135 = .ok (.putfield 103, 3) := by decide +kernel
theorem dX8_take_138 : decode cX8_take 138 = .ok (.aload_n 0, 1) := by decide +kernel
theorem dX8_take_139 : decode cX8_take 139 = .ok (.dup, 1) := by decide +kernel
theorem dX8_take_140 : decode cX8_take 140 = .ok (.getfield 100, 3) := by decide +kernel
theorem dX8_take_143 : decode cX8_take 143 = .ok (.iconst 1, 1) := by decide +kernel
theorem dX8_take_144 : decode cX8_take 144 = .ok (.isub, 1) := by decide +kernel
theorem dX8_take_145 : decode cX8_take 145 = .ok (.putfield 100, 3) := by decide +kernel
theorem dX8_take_148 : decode cX8_take 148 = .ok (.return_, 1) := by decide +kernel
set_option maxHeartbeats 4000000 in
set_option maxRecDepth 100000 in
theorem ggX8_step_X8_take : GoodIn wsX8_step wsX8_take := goodIn_r _ [16, 17, 18, 2, 19, 20, 4, 21, 3, 5, 22, 23, 24, 25, 15, 26, 6, 8, 9, 11, 27, 28, 29, 30, 10, 63, 64, 65, 66, 67, 68, 69, 70, 71, 72, 73, 74, 75, 76, 77, 78, 79, 80, 81, 82, 83, 84, 85, 86, 87, 88, 89, 90, 91, 92, 93, 94, 95, 96, 97] (by first | rfl | decide +kernel) (by decide +kernel)
set_option maxRecDepth 20000 in
theorem gX8_step_X8_take : GoodIn wsX8_step (wsV RX8 133 RX8 yX8_take wsX8_take) := goodIn_app (goodIn_of _ (by decide +kernel)) ggX8_step_X8_take
set_option maxHeartbeats 4000000 in
set_option maxRecDepth 100000 in
theorem ggX8_step_X8_compare : GoodIn wsX8_step wsX8_compare := goodIn_r _ [33] (by first | rfl | decide +kernel) (by decide +kernel)
set_option maxRecDepth 20000 in
theorem gX8_step_X8_compare : GoodIn wsX8_step (va_wsS RX8 136 yX8_compare wsX8_compare) := goodIn_app (goodIn_of _ (by decide +kernel)) ggX8_step_X8_compare
set_option maxHeartbeats 4000000 in
set_option maxRecDepth 100000 in
theorem ggX8_step_X8_leave : GoodIn wsX8_step wsX8_leave := goodIn_r _ [37, 6, 7, 11, 9, 4, 8, 2, 10, 38, 39, 40, 41, 15, 42, 43, 44, 45, 46, 27, 28, 29, 30, 47, 48, 49, 50, 22, 18, 19, 21, 17, 20, 63, 64, 65, 66, 67, 68, 69, 70, 71, 72, 73, 74, 75, 76, 77, 78, 79, 80, 81, 82, 83, 84, 85, 86, 87, 88, 89, 90, 91, 92, 93, 94, 95, 96, 97] (by first | rfl | decide +kernel) (by decide +kernel)
set_option maxRecDepth 20000 in
theorem gX8_step_X8_leave : GoodIn wsX8_step (wsV RX8 140 RX8 yX8_leave wsX8_leave) := goodIn_app (goodIn_of _ (by decide +kernel)) ggX8_step_X8_leave
set_option maxHeartbeats 4000000 in
set_option maxRecDepth 100000 in
theorem ggX8_step_X8_shorten : GoodIn wsX8_step wsX8_shorten := goodIn_r _ [54, 6, 11, 9, 2, 43, 44, 45, 15, 46, 23, 24, 25, 26, 8, 27, 28, 29, 30, 10, 63, 64, 65, 66, 67, 68, 69, 70, 71, 72, 73, 74, 75, 76, 77, 78, 79, 80, 81, 82, 83, 84, 85, 86, 87, 88, 89, 90, 91, 92, 93, 94, 95, 96, 97] (by first | rfl | decide +kernel) (by decide +kernel)
set_option maxRecDepth 20000 in
theorem gX8_step_X8_shorten : GoodIn wsX8_step (wsV RX8 143 RX8 yX8_shorten wsX8_shorten) := goodIn_app (goodIn_of _ (by decide +kernel)) ggX8_step_X8_shorten
set_option maxHeartbeats 4000000 in
set_option maxRecDepth 100000 in
theorem ggX8_step_X8_overlaps : GoodIn wsX8_step wsX8_overlaps := goodIn_r _ [58, 6, 7, 59, 60, 61, 15, 62, 8, 10, 9, 11, 2, 4, 43, 44, 45, 46, 47, 48, 49, 50, 22, 18, 19, 21, 17, 20, 63, 64, 65, 66, 67, 68, 69, 70, 71, 72, 73, 74, 75, 76, 77, 78, 79, 80, 81, 82, 83, 84, 85, 86, 87, 88, 89, 90, 91, 92, 93, 94, 95, 96, 97] (by first | rfl | decide +kernel) (by decide +kernel)
set_option maxRecDepth 20000 in
theorem gX8_step_X8_overlaps : GoodIn wsX8_step (wsV RX8 146 RX8 yX8_overlaps wsX8_overlaps) := goodIn_app (goodIn_of _ (by decide +kernel)) ggX8_step_X8_overlaps
theorem dX8_step_0 : decode cX8_step 0 = .ok (.aload_n 0, 1) := by decide +kernel
theorem dX8_step_1 : decode cX8_step 1 = .ok (.invokevirtual 133, 3) := by decide +kernel
theorem dX8_step_4 : decode cX8_step 4 = .ok (.aload_n 0, 1) := by decide +kernel
theorem dX8_step_5 : decode cX8_step 5 = .ok (.dup, 1) := by decide +kernel
theorem dX8_step_6 : decode cX8_step 6 = .ok (.getfield 106, 3) := by decide +kernel
theorem dX8_step_9 : decode cX8_step 9 = .ok (.iconst 1, 1) := by decide +kernel
theorem dX8_step_10 : decode cX8_step 10 = .ok (.iadd, 1) := by decide +kernel
theorem dX8_step_11 : decode cX8_step 11 = .ok (.putfield 106, 3) := by decide +kernel
theorem dX8_step_14 : decode cX8_step 14 = .ok (.aload_n 0, 1) := by decide +kernel
theorem dX8_step_15 : decode cX8_step 15 = .ok (.getfield 41, 3) := by decide +kernel
theorem dX8_step_18 : decode cX8_step 18 = .ok (.aload_n 0, 1) := by decide +kernel
theorem dX8_step_19 : decode cX8_step 19 = .ok (.getfield 127, 3) := by decide +kernel
theorem dX8_step_22 : decode cX8_step 22 = .ok (.aload_n 0, 1) := by decide +kernel
theorem dX8_step_23 : decode cX8_step 23 = .ok (.getfield 44, 3) := by decide +kernel
theorem dX8_step_26 : decode cX8_step 26 = .ok (.aload_n 0, 1) := by decide +kernel
theorem dX8_step_27 : decode cX8_step 27 = .ok (.getfield 130, 3) := by decide +kernel
theorem dX8_step_30 : decode cX8_step 30 = .ok (.invokestatic 136, 3) := by decide +kernel
theorem dX8_step_33 : decode cX8_step 33 = .ok (.istore_n 1, 1) := by decide +kernel
theorem dX8_step_34 : decode cX8_step 34 = .ok (.iload_n 1, 1) := by decide +kernel
theorem dX8_step_35 : decode cX8_step 35 = .ok (.ifCond .ne 4, 3) := by decide +kernel
theorem dX8_step_38 : decode cX8_step 38 = .ok (.return_, 1) := by decide +kernel
theorem dX8_step_39 : decode cX8_step 39 = .ok (.aload_n 0, 1) := by decide +kernel
theorem dX8_step_40 : decode cX8_step 40 = .ok (.getfield 97, 3) := by decide +kernel
theorem dX8_step_43 : decode cX8_step 43 = .ok (.bipush 64, 2) := by decide +kernel
theorem dX8_step_45 : decode cX8_step 45 = .ok (.if_icmp .ne 9, 3) := by decide +kernel
theorem dX8_step_48 : decode cX8_step 48 = .ok (.aload_n 0, 1) := by decide +kernel
theorem dX8_step_49 : decode cX8_step 49 = .ok (.iconst 3, 1) := by decide +kernel
theorem dX8_step_50 : decode cX8_step 50 = .ok (.putfield 109, 3) := by decide +kernel
theorem dX8_step_53 : decode cX8_step 53 = .ok (.return_, 1) := by decide +kernel
theorem dX8_step_54 : decode cX8_step 54 = .ok (.iload_n 1, 1) := by decide +kernel
theorem dX8_step_55 : decode cX8_step 55 = .ok (.ifCond .le 7, 3) := by decide +kernel
theorem dX8_step_58 : decode cX8_step 58 = .ok (.iconst 1, 1) := by decide +kernel
theorem dX8_step_59 : decode cX8_step 59 = .ok (.goto 4, 3) := by decide +kernel
theorem dX8_step_62 : decode cX8_step 62 = .ok (.iconst 0, 1) := by decide +kernel
theorem dX8_step_63 : decode cX8_step 63 = .ok (.istore_n 2, 1) := by decide +kernel
theorem dX8_step_64 : decode cX8_step 64 = .ok (.aload_n 0, 1) := by decide +kernel
theorem dX8_step_65 : decode cX8_step 65 = .ok (.getfield 16, 3) := by decide +kernel
theorem dX8_step_68 : decode cX8_step 68 = .ok (.aload_n 0, 1) := by decide +kernel
theorem dX8_step_69 : decode cX8_step 69 = .ok (.getfield 97, 3) := by decide +kernel
theorem dX8_step_72 : decode cX8_step 72 = .ok (.iload_n 2, 1) := by decide +kernel
theorem dX8_step_73 : decode cX8_step 73 = .ok (.ifCond .eq 10, 3) := by decide +kernel
theorem dX8_step_76 : decode cX8_step 76 = .ok (.aload_n 0, 1) := by decide +kernel
theorem dX8_step_77 : decode cX8_step 77 = .ok (.getfield 127, 3) := by decide +kernel
theorem dX8_step_80 : decode cX8_step 80 = .ok (.goto 7, 3) := by decide +kernel
theorem dX8_step_83 : decode cX8_step 83 = .ok (.aload_n 0, 1) := by decide +kernel
theorem dX8_step_84 : decode cX8_step 84 = .ok (.getfield 130, 3) := by decide +kernel
theorem dX8_step_87 : decode cX8_step 87 = .ok (.iastore, 1) := by decide +kernel
theorem dX8_step_88 : decode cX8_step 88 = .ok (.aload_n 0, 1) := by decide +kernel
theorem dX8_step_89 : decode cX8_step 89 = .ok (.getfield 19, 3) := by decide +kernel
theorem dX8_step_92 : decode cX8_step 92 = .ok (.aload_n 0, 1) := by decide +kernel
theorem dX8_step_93 : decode cX8_step 93 = .ok (.getfield 97, 3) := by decide +kernel
theorem dX8_step_96 : decode cX8_step 96 = .ok (.iload_n 2, 1) := by decide +kernel
theorem dX8_step_97 : decode cX8_step 97 = .ok (.ifCond .eq 10, 3) := by decide +kernel
theorem dX8_step_100 : decode cX8_step 100 = .ok (.aload_n 0, 1) := by decide +kernel
theorem dX8_step_101 : decode cX8_step 101 = .ok (.getfield 130, 3) := by decide +kernel
theorem dX8_step_104 : decode cX8_step 104 = .ok (.goto 7, 3) := by decide +kernel
theorem dX8_step_107 : decode cX8_step 107 = .ok (.aload_n 0, 1) := by decide +kernel
theorem dX8_step_108 : decode cX8_step 108 = .ok (.getfield 127, 3) := by decide +kernel
theorem dX8_step_111 : decode cX8_step 111 = .ok (.iastore, 1) := by decide +kernel
theorem dX8_step_112 : decode cX8_step 112 = .ok (.iconst 0, 1) := by decide +kernel
theorem dX8_step_113 : decode cX8_step 113 = .ok (.istore_n 3, 1) := by decide +kernel
theorem dX8_step_114 : decode cX8_step 114 = .ok (.iload_n 3, 1) := by decide +kernel
theorem dX8_step_115 : decode cX8_step 115 = .ok (.aload_n 0, 1) := by decide +kernel
theorem dX8_step_116 : decode cX8_step 116 = .ok (.getfield 16, 3) := by decide +kernel
theorem dX8_step_119 : decode cX8_step 119 = .ok (.aload_n 0, 1) := by decide +kernel
theorem dX8_step_120 : decode cX8_step 120 = .ok (.getfield 97, 3) := by decide +kernel
theorem dX8_step_123 : decode cX8_step 123 = .ok (.iaload, 1) := by decide +kernel
theorem dX8_step_124 : decode cX8_step 124 = .ok (.if_icmp .ge 42, 3) := by decide +kernel
theorem dX8_step_127 : decode cX8_step 127 = .ok (.aload_n 0, 1) := by decide +kernel
theorem dX8_step_128 : decode cX8_step 128 = .ok (.getfield 7, 3) := by decide +kernel
theorem dX8_step_131 : decode cX8_step 131 = .ok (.bipush 40, 2) := by decide +kernel
theorem dX8_step_133 : decode cX8_step 133 = .ok (.aload_n 0, 1) := by decide +kernel
theorem dX8_step_134 : decode cX8_step 134 = .ok (.getfield 97, 3) := by decide +kernel
theorem dX8_step_137 : decode cX8_step 137 = .ok (.imul, 1) := by decide +kernel
theorem dX8_step_138 : decode cX8_step 138 = .ok (.iload_n 3, 1) := by decide +kernel
theorem dX8_step_139 : decode cX8_step 139 = .ok (.iadd, 1) := by decide +kernel
theorem dX8_step_140 : decode cX8_step 140 = .ok (.iload_n 2, 1) := by decide +kernel
theorem dX8_step_141 : decode cX8_step 141 = .ok (.ifCond .eq 12, 3) := by decide +kernel
theorem dX8_step_144 : decode cX8_step 144 = .ok (.aload_n 0, 1) := by decide +kernel
theorem dX8_step_145 : decode cX8_step 145 = .ok (.getfield 41, 3) := by decide +kernel
theorem dX8_step_148 : decode cX8_step 148 = .ok (.iload_n 3, 1) := by decide +kernel
theorem dX8_step_149 : decode cX8_step 149 = .ok (.iaload, 1) := by decide +kernel
theorem dX8_step_150 : decode cX8_step 150 = .ok (.goto 9, 3) := by decide +kernel
theorem dX8_step_153 : decode cX8_step 153 = .ok (.aload_n 0, 1) := by decide +kernel
theorem dX8_step_154 : decode cX8_step 154 = .ok (.getfield 44, 3) := by decide +kernel
theorem dX8_step_157 : decode cX8_step 157 = .ok (.iload_n 3, 1) := by decide +kernel
theorem dX8_step_158 : decode cX8_step 158 = .ok (.iaload, 1) := by decide +kernel
theorem dX8_step_159 : decode cX8_step 159 = .ok (.iastore, 1) := by decide +kernel
theorem dX8_step_160 : decode cX8_step 160 = .ok (.iinc 3 1, 3) := by decide +kernel
theorem dX8_step_163 : decode cX8_step 163 = .ok (.goto (-49), 3) := by decide +kernel
theorem dX8_step_166 : decode cX8_step 166 = .ok (.iconst 0, 1) := by decide +kernel
theorem dX8_step_167 : decode cX8_step 167 = .ok (.istore_n 3, 1) := by decide +kernel
theorem dX8_step_168 : decode cX8_step 168 = .ok (.iload_n 3, 1) := by decide +kernel
theorem dX8_step_169 : decode cX8_step 169 = .ok (.aload_n 0, 1) := by decide +kernel
theorem dX8_step_170 : decode cX8_step 170 = .ok (.getfield 19, 3) := by decide +kernel
theorem dX8_step_173 : decode cX8_step 173 = .ok (.aload_n 0, 1) := by decide +kernel
theorem dX8_step_174 : decode cX8_step 174 = .ok (.getfield 97, 3) := by decide +kernel
theorem dX8_step_177 : decode cX8_step 177 = .ok (.iaload, 1) := by decide +kernel
theorem dX8_step_178 : decode cX8_step 178 = .ok (.if_icmp .ge 42, 3) := by decide +kernel
theorem dX8_step_181 : decode cX8_step 181 = .ok (.aload_n 0, 1) := by decide +kernel
theorem dX8_step_182 : decode cX8_step 182 = .ok (.getfield 13, 3) := by decide +kernel
theorem dX8_step_185 : decode cX8_step 185 = .ok (.bipush 40, 2) := by decide +kernel
theorem dX8_step_187 : decode cX8_step 187 = .ok (.aload_n 0, 1) := by decide +kernel
theorem dX8_step_188 : decode cX8_step 188 = .ok (.getfield 97, 3) := by decide +kernel
theorem dX8_step_191 : decode cX8_step 191 = .ok (.imul, 1) := by decide +kernel
theorem dX8_step_192 : decode cX8_step 192 = .ok (.iload_n 3, 1) := by decide +kernel
theorem dX8_step_193 : decode cX8_step 193 = .ok (.iadd, 1) := by decide +kernel
theorem dX8_step_194 : decode cX8_step 194 = .ok (.iload_n 2, 1) := by decide +kernel
theorem dX8_step_195 : decode cX8_step 195 = .ok (.ifCond .eq 12, 3) := by decide +kernel
theorem dX8_step_198 : decode cX8_step 198 = .ok (.aload_n 0, 1) := by decide +kernel
theorem dX8_step_199 : decode cX8_step 199 = .ok (.getfield 44, 3) := by decide +kernel
theorem dX8_step_202 : decode cX8_step 202 = .ok (.iload_n 3, 1) := by decide +kernel
theorem dX8_step_203 : decode cX8_step 203 = .ok (.iaload, 1) := by decide +kernel
theorem dX8_step_204 : decode cX8_step 204 = .ok (.goto 9, 3) := by decide +kernel
theorem dX8_step_207 : decode cX8_step 207 = .ok (.aload_n 0, 1) := by decide +kernel
theorem dX8_step_208 : decode cX8_step 208 = .ok (.getfield 41, 3) := by decide +kernel
theorem dX8_step_211 : decode cX8_step 211 = .ok (.iload_n 3, 1) := by decide +kernel
theorem dX8_step_212 : decode cX8_step 212 = .ok (.iaload, 1) := by decide +kernel
theorem dX8_step_213 : decode cX8_step 213 = .ok (.iastore, 1) := by decide +kernel
theorem dX8_step_214 : decode cX8_step 214 = .ok (.iinc 3 1, 3) := by decide +kernel
theorem dX8_step_217 : decode cX8_step 217 = .ok (.goto (-49), 3) := by decide +kernel
theorem dX8_step_220 : decode cX8_step 220 = .ok (.aload_n 0, 1) := by decide +kernel
theorem dX8_step_221 : decode cX8_step 221 = .ok (.dup, 1) := by decide +kernel
theorem dX8_step_222 : decode cX8_step 222 = .ok (.getfield 97, 3) := by decide +kernel
theorem dX8_step_225 : decode cX8_step 225 = .ok (.iconst 1, 1) := by decide +kernel
theorem dX8_step_226 : decode cX8_step 226 = .ok (.iadd, 1) := by decide +kernel
theorem dX8_step_227 : decode cX8_step 227 = .ok (.putfield 97, 3) := by decide +kernel
theorem dX8_step_230 : decode cX8_step 230 = .ok (.aload_n 0, 1) := by decide +kernel
theorem dX8_step_231 : decode cX8_step 231 = .ok (.invokevirtual 140, 3) := by decide +kernel
theorem dX8_step_234 : decode cX8_step 234 = .ok (.aload_n 0, 1) := by decide +kernel
theorem dX8_step_235 : decode cX8_step 235 = .ok (.getfield 109, 3) := by decide +kernel
theorem dX8_step_238 : decode cX8_step 238 = .ok (.ifCond .ne 7, 3) := by decide +kernel
theorem dX8_step_241 : decode cX8_step 241 = .ok (.aload_n 0, 1) := by decide +kernel
theorem dX8_step_242 : decode cX8_step 242 = .ok (.invokevirtual 143, 3) := by decide +kernel
theorem dX8_step_245 : decode cX8_step 245 = .ok (.aload_n 0, 1) := by decide +kernel
theorem dX8_step_246 : decode cX8_step 246 = .ok (.getfield 109, 3) := by decide +kernel
theorem dX8_step_249 : decode cX8_step 249 = .ok (.ifCond .ne 7, 3) := by decide +kernel
theorem dX8_step_252 : decode cX8_step 252 = .ok (.aload_n 0, 1) := by decide +kernel
theorem dX8_step_253 : decode cX8_step 253 = .ok (.invokevirtual 146, 3) := by decide +kernel
theorem dX8_step_256 : decode cX8_step 256 = .ok (.return_, 1) := by decide +kernel
theorem dX8_word_0 : decode cX8_word 0 = .ok (.iconst 0, 1) := by decide +kernel
theorem dX8_word_1 : decode cX8_word 1 = .ok (.istore 5, 2) := by decide +kernel
theorem dX8_word_3 : decode cX8_word 3 = .ok (.iload 5, 2) := by decide +kernel
theorem dX8_word_5 : decode cX8_word 5 = .ok (.iload_n 3, 1) := by decide +kernel
theorem dX8_word_6 : decode cX8_word 6 = .ok (.if_icmp .ge 23, 3) := by decide +kernel
theorem dX8_word_9 : decode cX8_word 9 = .ok (.aload 4, 2) := by decide +kernel
theorem dX8_word_11 : decode cX8_word 11 = .ok (.iload 5, 2) := by decide +kernel
theorem dX8_word_13 : decode cX8_word 13 = .ok (.aload_n 1, 1) := by decide +kernel
theorem dX8_word_14 : decode cX8_word 14 = .ok (.bipush 40, 2) := by decide +kernel
theorem dX8_word_16 : decode cX8_word 16 = .ok (.iload_n 2, 1) := by decide +kernel
theorem dX8_word_17 : decode cX8_word 17 = .ok (.imul, 1) := by decide +kernel
theorem dX8_word_18 : decode cX8_word 18 = .ok (.iload 5, 2) := by decide +kernel
theorem dX8_word_20 : decode cX8_word 20 = .ok (.iadd, 1) := by decide +kernel
theorem dX8_word_21 : decode cX8_word 21 = .ok (.iaload, 1) := by decide +kernel
theorem dX8_word_22 : decode cX8_word 22 = .ok (.iastore, 1) := by decide +kernel
theorem dX8_word_23 : decode cX8_word 23 = .ok (.iinc 5 1, 3) := by decide +kernel
theorem dX8_word_26 : decode cX8_word 26 = .ok (.goto (-23), 3) := by decide +kernel
theorem dX8_word_29 : decode cX8_word 29 = .ok (.return_, 1) := by decide +kernel
set_option maxHeartbeats 4000000 in
set_option maxRecDepth 100000 in
theorem ggX8_holds_X8_word : GoodIn wsX8_holds wsX8_word := goodIn_r _ [9] (by first | rfl | decide +kernel) (by decide +kernel)
set_option maxRecDepth 20000 in
theorem gX8_holds_X8_word : GoodIn wsX8_holds (wsV RX8 149 RX8 yX8_word wsX8_word) := goodIn_app (goodIn_of _ (by decide +kernel)) ggX8_holds_X8_word
set_option maxHeartbeats 4000000 in
set_option maxRecDepth 100000 in
theorem ggX8_holds_X8_stands : GoodIn wsX8_holds wsX8_stands := goodIn_r _ [13, 3, 2, 14, 15, 16, 17, 18, 19, 20, 21, 22, 23, 24, 25, 26, 27, 28, 29, 30, 31, 32, 33, 34, 35, 36, 37, 38, 39, 40, 41, 42, 43, 44, 45, 46, 47, 48] (by first | rfl | decide +kernel) (by decide +kernel)
set_option maxRecDepth 20000 in
theorem gX8_holds_X8_stands : GoodIn wsX8_holds (wsV RX8 119 RX8 yX8_stands wsX8_stands) := goodIn_app (goodIn_of _ (by decide +kernel)) ggX8_holds_X8_stands
theorem dX8_holds_0 : decode cX8_holds 0 = .ok (.aload_n 0, 1) := by decide +kernel
theorem dX8_holds_1 : decode cX8_holds 1 = .ok (.getfield 97, 3) := by decide +kernel
theorem dX8_holds_4 : decode cX8_holds 4 = .ok (.iconst 1, 1) := by decide +kernel
theorem dX8_holds_5 : decode cX8_holds 5 = .ok (.isub, 1) := by decide +kernel
theorem dX8_holds_6 : decode cX8_holds 6 = .ok (.istore_n 2, 1) := by decide +kernel
theorem dX8_holds_7 : decode cX8_holds 7 = .ok (.iconst 0, 1) := by decide +kernel
theorem dX8_holds_8 : decode cX8_holds 8 = .ok (.istore_n 3, 1) := by decide +kernel
theorem dX8_holds_9 : decode cX8_holds 9 = .ok (.aload_n 0, 1) := by decide +kernel
theorem dX8_holds_10 : decode cX8_holds 10 = .ok (.aload_n 0, 1) := by decide +kernel
theorem dX8_holds_11 : decode cX8_holds 11 = .ok (.getfield 7, 3) := by decide +kernel
theorem dX8_holds_14 : decode cX8_holds 14 = .ok (.iload_n 1, 1) := by decide +kernel
theorem dX8_holds_15 : decode cX8_holds 15 = .ok (.aload_n 0, 1) := by decide +kernel
theorem dX8_holds_16 : decode cX8_holds 16 = .ok (.getfield 16, 3) := by decide +kernel
theorem dX8_holds_19 : decode cX8_holds 19 = .ok (.iload_n 1, 1) := by decide +kernel
theorem dX8_holds_20 : decode cX8_holds 20 = .ok (.iaload, 1) := by decide +kernel
theorem dX8_holds_21 : decode cX8_holds 21 = .ok (.aload_n 0, 1) := by decide +kernel
theorem dX8_holds_22 : decode cX8_holds 22 = .ok (.getfield 41, 3) := by decide +kernel
theorem dX8_holds_25 : decode cX8_holds 25 = .ok (.invokevirtual 149, 3) := by decide +kernel
theorem dX8_holds_28 : decode cX8_holds 28 = .ok (.aload_n 0, 1) := by decide +kernel
theorem dX8_holds_29 : decode cX8_holds 29 = .ok (.getfield 16, 3) := by decide +kernel
theorem dX8_holds_32 : decode cX8_holds 32 = .ok (.iload_n 2, 1) := by decide +kernel
theorem dX8_holds_33 : decode cX8_holds 33 = .ok (.iaload, 1) := by decide +kernel
theorem dX8_holds_34 : decode cX8_holds 34 = .ok (.istore 4, 2) := by decide +kernel
theorem dX8_holds_36 : decode cX8_holds 36 = .ok (.iload 4, 2) := by decide +kernel
theorem dX8_holds_38 : decode cX8_holds 38 = .ok (.aload_n 0, 1) := by decide +kernel
theorem dX8_holds_39 : decode cX8_holds 39 = .ok (.getfield 16, 3) := by decide +kernel
theorem dX8_holds_42 : decode cX8_holds 42 = .ok (.iload_n 1, 1) := by decide +kernel
theorem dX8_holds_43 : decode cX8_holds 43 = .ok (.iaload, 1) := by decide +kernel
theorem dX8_holds_44 : decode cX8_holds 44 = .ok (.if_icmp .gt 33, 3) := by decide +kernel
theorem dX8_holds_47 : decode cX8_holds 47 = .ok (.iload_n 3, 1) := by decide +kernel
theorem dX8_holds_48 : decode cX8_holds 48 = .ok (.ifCond .ne 17, 3) := by decide +kernel
theorem dX8_holds_51 : decode cX8_holds 51 = .ok (.aload_n 0, 1) := by decide +kernel
theorem dX8_holds_52 : decode cX8_holds 52 = .ok (.iload_n 2, 1) := by decide +kernel
theorem dX8_holds_53 : decode cX8_holds 53 = .ok (.aload_n 0, 1) := by decide +kernel
theorem dX8_holds_54 : decode cX8_holds 54 = .ok (.getfield 41, 3) := by decide +kernel
theorem dX8_holds_57 : decode cX8_holds 57 = .ok (.iload 4, 2) := by decide +kernel
theorem dX8_holds_59 : decode cX8_holds 59 = .ok (.invokevirtual 119, 3) := by decide +kernel
theorem dX8_holds_62 : decode cX8_holds 62 = .ok (.ifCond .eq 7, 3) := by decide +kernel
theorem dX8_holds_65 : decode cX8_holds 65 = .ok (.iconst 1, 1) := by decide +kernel
theorem dX8_holds_66 : decode cX8_holds 66 = .ok (.goto 4, 3) := by decide +kernel
theorem dX8_holds_69 : decode cX8_holds 69 = .ok (.iconst 0, 1) := by decide +kernel
theorem dX8_holds_70 : decode cX8_holds 70 = .ok (.istore_n 3, 1) := by decide +kernel
theorem dX8_holds_71 : decode cX8_holds 71 = .ok (.iinc 4 1, 3) := by decide +kernel
theorem dX8_holds_74 : decode cX8_holds 74 = .ok (.goto (-38), 3) := by decide +kernel
theorem dX8_holds_77 : decode cX8_holds 77 = .ok (.iload_n 3, 1) := by decide +kernel
theorem dX8_holds_78 : decode cX8_holds 78 = .ok (.ireturn, 1) := by decide +kernel
set_option maxHeartbeats 4000000 in
set_option maxRecDepth 100000 in
theorem ggX8_leave_X8_holds : GoodIn wsX8_leave wsX8_holds := goodIn_r _ [14, 1, 8, 6, 7, 15, 16, 17, 13, 18, 19, 20, 21, 22, 33, 34, 35, 36, 37, 38, 39, 40, 41, 42, 43, 44, 45, 46, 47, 48, 49, 50, 51, 52, 53, 54, 55, 56, 57, 58, 59, 60, 61, 62, 63, 64, 65, 66, 67] (by first | rfl | decide +kernel) (by decide +kernel)
set_option maxRecDepth 20000 in
theorem gX8_leave_X8_holds : GoodIn wsX8_leave (wsV RX8 153 RX8 yX8_holds wsX8_holds) := goodIn_app (goodIn_of _ (by decide +kernel)) ggX8_leave_X8_holds
set_option maxHeartbeats 4000000 in
set_option maxRecDepth 100000 in
theorem ggX8_leave_X8_word : GoodIn wsX8_leave wsX8_word := goodIn_r _ [18] (by first | rfl | decide +kernel) (by decide +kernel)
set_option maxRecDepth 20000 in
theorem gX8_leave_X8_word : GoodIn wsX8_leave (wsV RX8 149 RX8 yX8_word wsX8_word) := goodIn_app (goodIn_of _ (by decide +kernel)) ggX8_leave_X8_word
set_option maxHeartbeats 4000000 in
set_option maxRecDepth 100000 in
theorem ggX8_leave_X8_waits : GoodIn wsX8_leave wsX8_waits := goodIn_r _ [26, 27, 2, 28, 29, 30, 31, 32, 33, 34, 35, 36, 37, 38, 39, 40, 41, 42, 43, 44, 45, 46, 47, 48, 49, 50, 51, 52, 53, 54, 55, 56, 57, 58, 59, 60, 61, 62, 63, 64, 65, 66, 67] (by first | rfl | decide +kernel) (by decide +kernel)
set_option maxRecDepth 20000 in
theorem gX8_leave_X8_waits : GoodIn wsX8_leave (wsV RX8 115 RX8 yX8_waits wsX8_waits) := goodIn_app (goodIn_of _ (by decide +kernel)) ggX8_leave_X8_waits
theorem dX8_leave_0 : decode cX8_leave 0 = .ok (.iconst 0, 1) := by decide +kernel
theorem dX8_leave_1 : decode cX8_leave 1 = .ok (.istore_n 1, 1) := by decide +kernel
theorem dX8_leave_2 : decode cX8_leave 2 = .ok (.iload_n 1, 1) := by decide +kernel
theorem dX8_leave_3 : decode cX8_leave 3 = .ok (.aload_n 0, 1) := by decide +kernel
theorem dX8_leave_4 : decode cX8_leave 4 = .ok (.getfield 97, 3) := by decide +kernel
theorem dX8_leave_7 : decode cX8_leave 7 = .ok (.iconst 1, 1) := by decide +kernel
theorem dX8_leave_8 : decode cX8_leave 8 = .ok (.isub, 1) := by decide +kernel
theorem dX8_leave_9 : decode cX8_leave 9 = .ok (.if_icmp .ge 222, 3) := by decide +kernel
theorem dX8_leave_12 : decode cX8_leave 12 = .ok (.aload_n 0, 1) := by decide +kernel
theorem dX8_leave_13 : decode cX8_leave 13 = .ok (.getfield 109, 3) := by decide +kernel
theorem dX8_leave_16 : decode cX8_leave 16 = .ok (.ifCond .ne 215, 3) := by decide +kernel
theorem dX8_leave_19 : decode cX8_leave 19 = .ok (.aload_n 0, 1) := by decide +kernel
theorem dX8_leave_20 : decode cX8_leave 20 = .ok (.iload_n 1, 1) := by decide +kernel
theorem dX8_leave_21 : decode cX8_leave 21 = .ok (.invokevirtual 153, 3) := by decide +kernel
theorem dX8_leave_24 : decode cX8_leave 24 = .ok (.ifCond .ne 9, 3) := by decide +kernel
theorem dX8_leave_27 : decode cX8_leave 27 = .ok (.iinc 1 1, 3) := by decide +kernel
theorem dX8_leave_30 : decode cX8_leave 30 = .ok (.goto (-28), 3) := by decide +kernel
theorem dX8_leave_33 : decode cX8_leave 33 = .ok (.aload_n 0, 1) := by decide +kernel
theorem dX8_leave_34 : decode cX8_leave 34 = .ok (.aload_n 0, 1) := by decide +kernel
theorem dX8_leave_35 : decode cX8_leave 35 = .ok (.getfield 13, 3) := by decide +kernel
theorem dX8_leave_38 : decode cX8_leave 38 = .ok (.iload_n 1, 1) := by decide +kernel
theorem dX8_leave_39 : decode cX8_leave 39 = .ok (.aload_n 0, 1) := by decide +kernel
theorem dX8_leave_40 : decode cX8_leave 40 = .ok (.getfield 19, 3) := by decide +kernel
theorem dX8_leave_43 : decode cX8_leave 43 = .ok (.iload_n 1, 1) := by decide +kernel
theorem dX8_leave_44 : decode cX8_leave 44 = .ok (.iaload, 1) := by decide +kernel
theorem dX8_leave_45 : decode cX8_leave 45 = .ok (.aload_n 0, 1) := by decide +kernel
theorem dX8_leave_46 : decode cX8_leave 46 = .ok (.getfield 44, 3) := by decide +kernel
theorem dX8_leave_49 : decode cX8_leave 49 = .ok (.invokevirtual 149, 3) := by decide +kernel
theorem dX8_leave_52 : decode cX8_leave 52 = .ok (.aload_n 0, 1) := by decide +kernel
theorem dX8_leave_53 : decode cX8_leave 53 = .ok (.getfield 16, 3) := by decide +kernel
theorem dX8_leave_56 : decode cX8_leave 56 = .ok (.iload_n 1, 1) := by decide +kernel
theorem dX8_leave_57 : decode cX8_leave 57 = .ok (.iaload, 1) := by decide +kernel
theorem dX8_leave_58 : decode cX8_leave 58 = .ok (.istore_n 2, 1) := by decide +kernel
theorem dX8_leave_59 : decode cX8_leave 59 = .ok (.aload_n 0, 1) := by decide +kernel
theorem dX8_leave_60 : decode cX8_leave 60 = .ok (.getfield 19, 3) := by decide +kernel
theorem dX8_leave_63 : decode cX8_leave 63 = .ok (.iload_n 1, 1) := by decide +kernel
theorem dX8_leave_64 : decode cX8_leave 64 = .ok (.iaload, 1) := by decide +kernel
theorem dX8_leave_65 : decode cX8_leave 65 = .ok (.istore_n 3, 1) := by decide +kernel
theorem dX8_leave_66 : decode cX8_leave 66 = .ok (.aload_n 0, 1) := by decide +kernel
theorem dX8_leave_67 : decode cX8_leave 67 = .ok (.aload_n 0, 1) := by decide +kernel
theorem dX8_leave_68 : decode cX8_leave 68 = .ok (.getfield 41, 3) := by decide +kernel
theorem dX8_leave_71 : decode cX8_leave 71 = .ok (.iload_n 2, 1) := by decide +kernel
theorem dX8_leave_72 : decode cX8_leave 72 = .ok (.aload_n 0, 1) := by decide +kernel
theorem dX8_leave_73 : decode cX8_leave 73 = .ok (.getfield 44, 3) := by decide +kernel
theorem dX8_leave_76 : decode cX8_leave 76 = .ok (.iload_n 3, 1) := by decide +kernel
theorem dX8_leave_77 : decode cX8_leave 77 = .ok (.invokevirtual 115, 3) := by decide +kernel
theorem dX8_leave_80 : decode cX8_leave 80 = .ok (.ifCond .ne 4, 3) := by decide +kernel
theorem dX8_leave_83 : decode cX8_leave 83 = .ok (.return_, 1) := by decide +kernel
theorem dX8_leave_84 : decode cX8_leave 84 = .ok (.iload_n 1, 1) := by decide +kernel
theorem dX8_leave_85 : decode cX8_leave 85 = .ok (.iconst 1, 1) := by decide +kernel
theorem dX8_leave_86 : decode cX8_leave 86 = .ok (.iadd, 1) := by decide +kernel
theorem dX8_leave_87 : decode cX8_leave 87 = .ok (.istore 4, 2) := by decide +kernel
theorem dX8_leave_89 : decode cX8_leave 89 = .ok (.iload 4, 2) := by decide +kernel
theorem dX8_leave_91 : decode cX8_leave 91 = .ok (.aload_n 0, 1) := by decide +kernel
theorem dX8_leave_92 : decode cX8_leave 92 = .ok (.getfield 97, 3) := by decide +kernel
theorem dX8_leave_95 : decode cX8_leave 95 = .ok (.if_icmp .ge 113, 3) := by decide +kernel
theorem dX8_leave_98 : decode cX8_leave 98 = .ok (.iconst 0, 1) := by decide +kernel
theorem dX8_leave_99 : decode cX8_leave 99 = .ok (.istore 5, 2) := by decide +kernel
theorem dX8_leave_101 : decode cX8_leave 101 = .ok (.iload 5, 2) := by decide +kernel
theorem dX8_leave_103 : decode cX8_leave 103 = .ok (.bipush 40, 2) := by decide +kernel
theorem dX8_leave_105 : decode cX8_leave 105 = .ok (.if_icmp .ge 65, 3) := by decide +kernel
theorem dX8_leave_108 : decode cX8_leave 108 = .ok (.aload_n 0, 1) := by decide +kernel
theorem dX8_leave_109 : decode cX8_leave 109 = .ok (.getfield 7, 3) := by decide +kernel
theorem dX8_leave_112 : decode cX8_leave 112 = .ok (.bipush 40, 2) := by decide +kernel
theorem dX8_leave_114 : decode cX8_leave 114 = .ok (.iload 4, 2) := by decide +kernel
theorem dX8_leave_116 : decode cX8_leave 116 = .ok (.iconst 1, 1) := by decide +kernel
theorem dX8_leave_117 : decode cX8_leave 117 = .ok (.isub, 1) := by decide +kernel
theorem dX8_leave_118 : decode cX8_leave 118 = .ok (.imul, 1) := by decide +kernel
theorem dX8_leave_119 : decode cX8_leave 119 = .ok (.iload 5, 2) := by decide +kernel
theorem dX8_leave_121 : decode cX8_leave 121 = .ok (.iadd, 1) := by decide +kernel
theorem dX8_leave_122 : decode cX8_leave 122 = .ok (.aload_n 0, 1) := by decide +kernel
theorem dX8_leave_123 : decode cX8_leave 123 = .ok (.getfield 7, 3) := by decide +kernel
theorem dX8_leave_126 : decode cX8_leave 126 = .ok (.bipush 40, 2) := by decide +kernel
theorem dX8_leave_128 : decode cX8_leave 128 = .ok (.iload 4, 2) := by decide +kernel
theorem dX8_leave_130 : decode cX8_leave 130 = .ok (.imul, 1) := by decide +kernel
theorem dX8_leave_131 : decode cX8_leave 131 = .ok (.iload 5, 2) := by decide +kernel
theorem dX8_leave_133 : decode cX8_leave 133 = .ok (.iadd, 1) := by decide +kernel
theorem dX8_leave_134 : decode cX8_leave 134 = .ok (.iaload, 1) := by decide +kernel
theorem dX8_leave_135 : decode cX8_leave 135 = .ok (.iastore, 1) := by decide +kernel
theorem dX8_leave_136 : decode cX8_leave 136 = .ok (.aload_n 0, 1) := by decide +kernel
theorem dX8_leave_137 : decode cX8_leave 137 = .ok (.getfield 13, 3) := by decide +kernel
theorem dX8_leave_140 : decode cX8_leave 140 = .ok (.bipush 40, 2) := by decide +kernel
theorem dX8_leave_142 : decode cX8_leave 142 = .ok (.iload 4, 2) := by decide +kernel
theorem dX8_leave_144 : decode cX8_leave 144 = .ok (.iconst 1, 1) := by decide +kernel
theorem dX8_leave_145 : decode cX8_leave 145 = .ok (.isub, 1) := by decide +kernel
theorem dX8_leave_146 : decode cX8_leave 146 = .ok (.imul, 1) := by decide +kernel
theorem dX8_leave_147 : decode cX8_leave 147 = .ok (.iload 5, 2) := by decide +kernel
theorem dX8_leave_149 : decode cX8_leave 149 = .ok (.iadd, 1) := by decide +kernel
theorem dX8_leave_150 : decode cX8_leave 150 = .ok (.aload_n 0, 1) := by decide +kernel
theorem dX8_leave_151 : decode cX8_leave 151 = .ok (.getfield 13, 3) := by decide +kernel
theorem dX8_leave_154 : decode cX8_leave 154 = .ok (.bipush 40, 2) := by decide +kernel
theorem dX8_leave_156 : decode cX8_leave 156 = .ok (.iload 4, 2) := by decide +kernel
theorem dX8_leave_158 : decode cX8_leave 158 = .ok (.imul, 1) := by decide +kernel
theorem dX8_leave_159 : decode cX8_leave 159 = .ok (.iload 5, 2) := by decide +kernel
theorem dX8_leave_161 : decode cX8_leave 161 = .ok (.iadd, 1) := by decide +kernel
theorem dX8_leave_162 : decode cX8_leave 162 = .ok (.iaload, 1) := by decide +kernel
theorem dX8_leave_163 : decode cX8_leave 163 = .ok (.iastore, 1) := by decide +kernel
theorem dX8_leave_164 : decode cX8_leave 164 = .ok (.iinc 5 1, 3) := by decide +kernel
theorem dX8_leave_167 : decode cX8_leave 167 = .ok (.goto (-66), 3) := by decide +kernel
theorem dX8_leave_170 : decode cX8_leave 170 = .ok (.aload_n 0, 1) := by decide +kernel
theorem dX8_leave_171 : decode cX8_leave 171 = .ok (.getfield 16, 3) := by decide +kernel
theorem dX8_leave_174 : decode cX8_leave 174 = .ok (.iload 4, 2) := by decide +kernel
theorem dX8_leave_176 : decode cX8_leave 176 = .ok (.iconst 1, 1) := by decide +kernel
theorem dX8_leave_177 : decode cX8_leave 177 = .ok (.isub, 1) := by decide +kernel
theorem dX8_leave_178 : decode cX8_leave 178 = .ok (.aload_n 0, 1) := by decide +kernel
theorem dX8_leave_179 : decode cX8_leave 179 = .ok (.getfield 16, 3) := by decide +kernel
theorem dX8_leave_182 : decode cX8_leave 182 = .ok (.iload 4, 2) := by decide +kernel
theorem dX8_leave_184 : decode cX8_leave 184 = .ok (.iaload, 1) := by decide +kernel
theorem dX8_leave_185 : decode cX8_leave 185 = .ok (.iastore, 1) := by decide +kernel
theorem dX8_leave_186 : decode cX8_leave 186 = .ok (.aload_n 0, 1) := by decide +kernel
theorem dX8_leave_187 : decode cX8_leave 187 = .ok (.getfield 19, 3) := by decide +kernel
theorem dX8_leave_190 : decode cX8_leave 190 = .ok (.iload 4, 2) := by decide +kernel
theorem dX8_leave_192 : decode cX8_leave 192 = .ok (.iconst 1, 1) := by decide +kernel
theorem dX8_leave_193 : decode cX8_leave 193 = .ok (.isub, 1) := by decide +kernel
theorem dX8_leave_194 : decode cX8_leave 194 = .ok (.aload_n 0, 1) := by decide +kernel
theorem dX8_leave_195 : decode cX8_leave 195 = .ok (.getfield 19, 3) := by decide +kernel
theorem dX8_leave_198 : decode cX8_leave 198 = .ok (.iload 4, 2) := by decide +kernel
theorem dX8_leave_200 : decode cX8_leave 200 = .ok (.iaload, 1) := by decide +kernel
theorem dX8_leave_201 : decode cX8_leave 201 = .ok (.iastore, 1) := by decide +kernel
theorem dX8_leave_202 : decode cX8_leave 202 = .ok (.iinc 4 1, 3) := by decide +kernel
theorem dX8_leave_205 : decode cX8_leave 205 = .ok (.goto (-116), 3) := by decide +kernel
theorem dX8_leave_208 : decode cX8_leave 208 = .ok (.aload_n 0, 1) := by decide +kernel
theorem dX8_leave_209 : decode cX8_leave 209 = .ok (.dup, 1) := by decide +kernel
theorem dX8_leave_210 : decode cX8_leave 210 = .ok (.getfield 97, 3) := by decide +kernel
theorem dX8_leave_213 : decode cX8_leave 213 = .ok (.iconst 1, 1) := by decide +kernel
theorem dX8_leave_214 : decode cX8_leave 214 = .ok (.isub, 1) := by decide +kernel
theorem dX8_leave_215 : decode cX8_leave 215 = .ok (.putfield 97, 3) := by decide +kernel
theorem dX8_leave_218 : decode cX8_leave 218 = .ok (.aload_n 0, 1) := by decide +kernel
theorem dX8_leave_219 : decode cX8_leave 219 = .ok (.dup, 1) := by decide +kernel
theorem dX8_leave_220 : decode cX8_leave 220 = .ok (.getfield 112, 3) := by decide +kernel
theorem dX8_leave_223 : decode cX8_leave 223 = .ok (.iconst 1, 1) := by decide +kernel
theorem dX8_leave_224 : decode cX8_leave 224 = .ok (.iadd, 1) := by decide +kernel
theorem dX8_leave_225 : decode cX8_leave 225 = .ok (.putfield 112, 3) := by decide +kernel
theorem dX8_leave_228 : decode cX8_leave 228 = .ok (.goto (-226), 3) := by decide +kernel
theorem dX8_leave_231 : decode cX8_leave 231 = .ok (.return_, 1) := by decide +kernel
set_option maxHeartbeats 4000000 in
set_option maxRecDepth 100000 in
theorem ggX8_shorten_X8_word : GoodIn wsX8_shorten wsX8_word := goodIn_r _ [9] (by first | rfl | decide +kernel) (by decide +kernel)
set_option maxRecDepth 20000 in
theorem gX8_shorten_X8_word : GoodIn wsX8_shorten (wsV RX8 149 RX8 yX8_word wsX8_word) := goodIn_app (goodIn_of _ (by decide +kernel)) ggX8_shorten_X8_word
set_option maxHeartbeats 4000000 in
set_option maxRecDepth 100000 in
theorem ggX8_shorten_X8_reduced : GoodIn wsX8_shorten wsX8_reduced := goodIn_r _ [13, 1, 14, 3, 2, 15, 16, 17, 8, 18, 19, 20, 21, 22, 23, 24, 25, 26, 27, 28, 29, 30, 31, 32, 33, 34, 35, 36, 37, 38, 39, 40, 41, 42, 43, 44, 45, 46, 47, 48, 49, 50, 51, 52, 53, 54] (by first | rfl | decide +kernel) (by decide +kernel)
set_option maxRecDepth 20000 in
theorem gX8_shorten_X8_reduced : GoodIn wsX8_shorten (wsV RX8 123 RX8 yX8_reduced wsX8_reduced) := goodIn_app (goodIn_of _ (by decide +kernel)) ggX8_shorten_X8_reduced
theorem dX8_shorten_0 : decode cX8_shorten 0 = .ok (.iconst 0, 1) := by decide +kernel
theorem dX8_shorten_1 : decode cX8_shorten 1 = .ok (.istore_n 1, 1) := by decide +kernel
theorem dX8_shorten_2 : decode cX8_shorten 2 = .ok (.iload_n 1, 1) := by decide +kernel
theorem dX8_shorten_3 : decode cX8_shorten 3 = .ok (.aload_n 0, 1) := by decide +kernel
theorem dX8_shorten_4 : decode cX8_shorten 4 = .ok (.getfield 97, 3) := by decide +kernel
theorem dX8_shorten_7 : decode cX8_shorten 7 = .ok (.iconst 1, 1) := by decide +kernel
theorem dX8_shorten_8 : decode cX8_shorten 8 = .ok (.isub, 1) := by decide +kernel
theorem dX8_shorten_9 : decode cX8_shorten 9 = .ok (.if_icmp .ge 83, 3) := by decide +kernel
theorem dX8_shorten_12 : decode cX8_shorten 12 = .ok (.aload_n 0, 1) := by decide +kernel
theorem dX8_shorten_13 : decode cX8_shorten 13 = .ok (.aload_n 0, 1) := by decide +kernel
theorem dX8_shorten_14 : decode cX8_shorten 14 = .ok (.getfield 13, 3) := by decide +kernel
theorem dX8_shorten_17 : decode cX8_shorten 17 = .ok (.iload_n 1, 1) := by decide +kernel
theorem dX8_shorten_18 : decode cX8_shorten 18 = .ok (.aload_n 0, 1) := by decide +kernel
theorem dX8_shorten_19 : decode cX8_shorten 19 = .ok (.getfield 19, 3) := by decide +kernel
theorem dX8_shorten_22 : decode cX8_shorten 22 = .ok (.iload_n 1, 1) := by decide +kernel
theorem dX8_shorten_23 : decode cX8_shorten 23 = .ok (.iaload, 1) := by decide +kernel
theorem dX8_shorten_24 : decode cX8_shorten 24 = .ok (.aload_n 0, 1) := by decide +kernel
theorem dX8_shorten_25 : decode cX8_shorten 25 = .ok (.getfield 41, 3) := by decide +kernel
theorem dX8_shorten_28 : decode cX8_shorten 28 = .ok (.invokevirtual 149, 3) := by decide +kernel
theorem dX8_shorten_31 : decode cX8_shorten 31 = .ok (.aload_n 0, 1) := by decide +kernel
theorem dX8_shorten_32 : decode cX8_shorten 32 = .ok (.getfield 19, 3) := by decide +kernel
theorem dX8_shorten_35 : decode cX8_shorten 35 = .ok (.iload_n 1, 1) := by decide +kernel
theorem dX8_shorten_36 : decode cX8_shorten 36 = .ok (.aload_n 0, 1) := by decide +kernel
theorem dX8_shorten_37 : decode cX8_shorten 37 = .ok (.aload_n 0, 1) := by decide +kernel
theorem dX8_shorten_38 : decode cX8_shorten 38 = .ok (.getfield 41, 3) := by decide +kernel
theorem dX8_shorten_41 : decode cX8_shorten 41 = .ok (.aload_n 0, 1) := by decide +kernel
theorem dX8_shorten_42 : decode cX8_shorten 42 = .ok (.getfield 19, 3) := by decide +kernel
theorem dX8_shorten_45 : decode cX8_shorten 45 = .ok (.iload_n 1, 1) := by decide +kernel
theorem dX8_shorten_46 : decode cX8_shorten 46 = .ok (.iaload, 1) := by decide +kernel
theorem dX8_shorten_47 : decode cX8_shorten 47 = .ok (.invokevirtual 123, 3) := by decide +kernel
theorem dX8_shorten_50 : decode cX8_shorten 50 = .ok (.iastore, 1) := by decide +kernel
theorem dX8_shorten_51 : decode cX8_shorten 51 = .ok (.iconst 0, 1) := by decide +kernel
theorem dX8_shorten_52 : decode cX8_shorten 52 = .ok (.istore_n 2, 1) := by decide +kernel
theorem dX8_shorten_53 : decode cX8_shorten 53 = .ok (.iload_n 2, 1) := by decide +kernel
theorem dX8_shorten_54 : decode cX8_shorten 54 = .ok (.aload_n 0, 1) := by decide +kernel
theorem dX8_shorten_55 : decode cX8_shorten 55 = .ok (.getfield 19, 3) := by decide +kernel
theorem dX8_shorten_58 : decode cX8_shorten 58 = .ok (.iload_n 1, 1) := by decide +kernel
theorem dX8_shorten_59 : decode cX8_shorten 59 = .ok (.iaload, 1) := by decide +kernel
theorem dX8_shorten_60 : decode cX8_shorten 60 = .ok (.if_icmp .ge 26, 3) := by decide +kernel
theorem dX8_shorten_63 : decode cX8_shorten 63 = .ok (.aload_n 0, 1) := by decide +kernel
theorem dX8_shorten_64 : decode cX8_shorten 64 = .ok (.getfield 13, 3) := by decide +kernel
theorem dX8_shorten_67 : decode cX8_shorten 67 = .ok (.bipush 40, 2) := by decide +kernel
theorem dX8_shorten_69 : decode cX8_shorten 69 = .ok (.iload_n 1, 1) := by decide +kernel
theorem dX8_shorten_70 : decode cX8_shorten 70 = .ok (.imul, 1) := by decide +kernel
theorem dX8_shorten_71 : decode cX8_shorten 71 = .ok (.iload_n 2, 1) := by decide +kernel
theorem dX8_shorten_72 : decode cX8_shorten 72 = .ok (.iadd, 1) := by decide +kernel
theorem dX8_shorten_73 : decode cX8_shorten 73 = .ok (.aload_n 0, 1) := by decide +kernel
theorem dX8_shorten_74 : decode cX8_shorten 74 = .ok (.getfield 41, 3) := by decide +kernel
theorem dX8_shorten_77 : decode cX8_shorten 77 = .ok (.iload_n 2, 1) := by decide +kernel
theorem dX8_shorten_78 : decode cX8_shorten 78 = .ok (.iaload, 1) := by decide +kernel
theorem dX8_shorten_79 : decode cX8_shorten 79 = .ok (.iastore, 1) := by decide +kernel
theorem dX8_shorten_80 : decode cX8_shorten 80 = .ok (.iinc 2 1, 3) := by decide +kernel
theorem dX8_shorten_83 : decode cX8_shorten 83 = .ok (.goto (-30), 3) := by decide +kernel
theorem dX8_shorten_86 : decode cX8_shorten 86 = .ok (.iinc 1 1, 3) := by decide +kernel
theorem dX8_shorten_89 : decode cX8_shorten 89 = .ok (.goto (-87), 3) := by decide +kernel
theorem dX8_shorten_92 : decode cX8_shorten 92 = .ok (.return_, 1) := by decide +kernel
set_option maxHeartbeats 4000000 in
set_option maxRecDepth 100000 in
theorem ggX8_overlaps_X8_overlap : GoodIn wsX8_overlaps wsX8_overlap := goodIn_r _ [7, 8, 2, 9, 10, 11, 12, 13, 14, 15, 16, 6, 17, 18, 19, 20, 21, 22, 23, 24, 25, 26, 27, 28, 29, 30, 31, 32, 33, 34, 35, 36, 37, 38, 39, 40, 41, 42, 43, 44, 45, 46, 47, 48, 49, 50, 51, 52, 53, 54, 55, 56, 57, 58, 59, 60, 61, 62] (by first | rfl | decide +kernel) (by decide +kernel)
set_option maxRecDepth 20000 in
theorem gX8_overlaps_X8_overlap : GoodIn wsX8_overlaps (wsV RX8 157 RX8 yX8_overlap wsX8_overlap) := goodIn_app (goodIn_of _ (by decide +kernel)) ggX8_overlaps_X8_overlap
theorem dX8_overlaps_0 : decode cX8_overlaps 0 = .ok (.aload_n 0, 1) := by decide +kernel
theorem dX8_overlaps_1 : decode cX8_overlaps 1 = .ok (.getfield 97, 3) := by decide +kernel
theorem dX8_overlaps_4 : decode cX8_overlaps 4 = .ok (.iconst 1, 1) := by decide +kernel
theorem dX8_overlaps_5 : decode cX8_overlaps 5 = .ok (.isub, 1) := by decide +kernel
theorem dX8_overlaps_6 : decode cX8_overlaps 6 = .ok (.istore_n 1, 1) := by decide +kernel
theorem dX8_overlaps_7 : decode cX8_overlaps 7 = .ok (.iconst 0, 1) := by decide +kernel
theorem dX8_overlaps_8 : decode cX8_overlaps 8 = .ok (.istore_n 2, 1) := by decide +kernel
theorem dX8_overlaps_9 : decode cX8_overlaps 9 = .ok (.iload_n 2, 1) := by decide +kernel
theorem dX8_overlaps_10 : decode cX8_overlaps 10 = .ok (.aload_n 0, 1) := by decide +kernel
theorem dX8_overlaps_11 : decode cX8_overlaps 11 = .ok (.getfield 97, 3) := by decide +kernel
theorem dX8_overlaps_14 : decode cX8_overlaps 14 = .ok (.if_icmp .ge 40, 3) := by decide +kernel
theorem dX8_overlaps_17 : decode cX8_overlaps 17 = .ok (.aload_n 0, 1) := by decide +kernel
theorem dX8_overlaps_18 : decode cX8_overlaps 18 = .ok (.getfield 109, 3) := by decide +kernel
theorem dX8_overlaps_21 : decode cX8_overlaps 21 = .ok (.ifCond .ne 33, 3) := by decide +kernel
theorem dX8_overlaps_24 : decode cX8_overlaps 24 = .ok (.aload_n 0, 1) := by decide +kernel
theorem dX8_overlaps_25 : decode cX8_overlaps 25 = .ok (.iload_n 1, 1) := by decide +kernel
theorem dX8_overlaps_26 : decode cX8_overlaps 26 = .ok (.iload_n 2, 1) := by decide +kernel
theorem dX8_overlaps_27 : decode cX8_overlaps 27 = .ok (.invokevirtual 157, 3) := by decide +kernel
theorem dX8_overlaps_30 : decode cX8_overlaps 30 = .ok (.iload_n 2, 1) := by decide +kernel
theorem dX8_overlaps_31 : decode cX8_overlaps 31 = .ok (.iload_n 1, 1) := by decide +kernel
theorem dX8_overlaps_32 : decode cX8_overlaps 32 = .ok (.if_icmp .ge 16, 3) := by decide +kernel
theorem dX8_overlaps_35 : decode cX8_overlaps 35 = .ok (.aload_n 0, 1) := by decide +kernel
theorem dX8_overlaps_36 : decode cX8_overlaps 36 = .ok (.getfield 109, 3) := by decide +kernel
theorem dX8_overlaps_39 : decode cX8_overlaps 39 = .ok (.ifCond .ne 9, 3) := by decide +kernel
theorem dX8_overlaps_42 : decode cX8_overlaps 42 = .ok (.aload_n 0, 1) := by decide +kernel
theorem dX8_overlaps_43 : decode cX8_overlaps 43 = .ok (.iload_n 2, 1) := by decide +kernel
theorem dX8_overlaps_44 : decode cX8_overlaps 44 = .ok (.iload_n 1, 1) := by decide +kernel
theorem dX8_overlaps_45 : decode cX8_overlaps 45 = .ok (.invokevirtual 157, 3) := by decide +kernel
theorem dX8_overlaps_48 : decode cX8_overlaps 48 = .ok (.iinc 2 1, 3) := by decide +kernel
theorem dX8_overlaps_51 : decode cX8_overlaps 51 = .ok (.goto (-42), 3) := by decide +kernel
theorem dX8_overlaps_54 : decode cX8_overlaps 54 = .ok (.return_, 1) := by decide +kernel
set_option maxHeartbeats 4000000 in
set_option maxRecDepth 100000 in
theorem ggX8_overlap_X8_word : GoodIn wsX8_overlap wsX8_word := goodIn_r _ [12] (by first | rfl | decide +kernel) (by decide +kernel)
set_option maxRecDepth 20000 in
theorem gX8_overlap_X8_word : GoodIn wsX8_overlap (wsV RX8 149 RX8 yX8_word wsX8_word) := goodIn_app (goodIn_of _ (by decide +kernel)) ggX8_overlap_X8_word
set_option maxHeartbeats 4000000 in
set_option maxRecDepth 100000 in
theorem ggX8_overlap_X8_waits : GoodIn wsX8_overlap wsX8_waits := goodIn_r _ [16, 17, 2, 18, 19, 20, 21, 22, 23, 24, 25, 26, 27, 28, 29, 30, 31, 32, 33, 34, 35, 36, 37, 38, 39, 40, 41, 42, 43, 44, 45, 46, 47, 48, 49, 50, 51, 52, 53, 54, 55, 56, 57] (by first | rfl | decide +kernel) (by decide +kernel)
set_option maxRecDepth 20000 in
theorem gX8_overlap_X8_waits : GoodIn wsX8_overlap (wsV RX8 115 RX8 yX8_waits wsX8_waits) := goodIn_app (goodIn_of _ (by decide +kernel)) ggX8_overlap_X8_waits
theorem dX8_overlap_0 : decode cX8_overlap 0 = .ok (.aload_n 0, 1) := by decide +kernel
theorem dX8_overlap_1 : decode cX8_overlap 1 = .ok (.getfield 16, 3) := by decide +kernel
theorem dX8_overlap_4 : decode cX8_overlap 4 = .ok (.iload_n 1, 1) := by decide +kernel
theorem dX8_overlap_5 : decode cX8_overlap 5 = .ok (.iaload, 1) := by decide +kernel
theorem dX8_overlap_6 : decode cX8_overlap 6 = .ok (.istore_n 3, 1) := by decide +kernel
theorem dX8_overlap_7 : decode cX8_overlap 7 = .ok (.aload_n 0, 1) := by decide +kernel
theorem dX8_overlap_8 : decode cX8_overlap 8 = .ok (.getfield 16, 3) := by decide +kernel
theorem dX8_overlap_11 : decode cX8_overlap 11 = .ok (.iload_n 2, 1) := by decide +kernel
theorem dX8_overlap_12 : decode cX8_overlap 12 = .ok (.iaload, 1) := by decide +kernel
theorem dX8_overlap_13 : decode cX8_overlap 13 = .ok (.istore 4, 2) := by decide +kernel
theorem dX8_overlap_15 : decode cX8_overlap 15 = .ok (.iconst 1, 1) := by decide +kernel
theorem dX8_overlap_16 : decode cX8_overlap 16 = .ok (.istore 5, 2) := by decide +kernel
theorem dX8_overlap_18 : decode cX8_overlap 18 = .ok (.iload 5, 2) := by decide +kernel
theorem dX8_overlap_20 : decode cX8_overlap 20 = .ok (.iload_n 3, 1) := by decide +kernel
theorem dX8_overlap_21 : decode cX8_overlap 21 = .ok (.if_icmp .ge 284, 3) := by decide +kernel
theorem dX8_overlap_24 : decode cX8_overlap 24 = .ok (.iload 5, 2) := by decide +kernel
theorem dX8_overlap_26 : decode cX8_overlap 26 = .ok (.iload 4, 2) := by decide +kernel
theorem dX8_overlap_28 : decode cX8_overlap 28 = .ok (.if_icmp .ge 277, 3) := by decide +kernel
theorem dX8_overlap_31 : decode cX8_overlap 31 = .ok (.aload_n 0, 1) := by decide +kernel
theorem dX8_overlap_32 : decode cX8_overlap 32 = .ok (.getfield 109, 3) := by decide +kernel
theorem dX8_overlap_35 : decode cX8_overlap 35 = .ok (.ifCond .ne 270, 3) := by decide +kernel
theorem dX8_overlap_38 : decode cX8_overlap 38 = .ok (.iconst 1, 1) := by decide +kernel
theorem dX8_overlap_39 : decode cX8_overlap 39 = .ok (.istore 6, 2) := by decide +kernel
theorem dX8_overlap_41 : decode cX8_overlap 41 = .ok (.iconst 0, 1) := by decide +kernel
theorem dX8_overlap_42 : decode cX8_overlap 42 = .ok (.istore 7, 2) := by decide +kernel
theorem dX8_overlap_44 : decode cX8_overlap 44 = .ok (.iload 7, 2) := by decide +kernel
theorem dX8_overlap_46 : decode cX8_overlap 46 = .ok (.iload 5, 2) := by decide +kernel
theorem dX8_overlap_48 : decode cX8_overlap 48 = .ok (.if_icmp .ge 53, 3) := by decide +kernel
theorem dX8_overlap_51 : decode cX8_overlap 51 = .ok (.iload 6, 2) := by decide +kernel
theorem dX8_overlap_53 : decode cX8_overlap 53 = .ok (.ifCond .eq 39, 3) := by decide +kernel
theorem dX8_overlap_56 : decode cX8_overlap 56 = .ok (.aload_n 0, 1) := by decide +kernel
theorem dX8_overlap_57 : decode cX8_overlap 57 = .ok (.getfield 7, 3) := by decide +kernel
theorem dX8_overlap_60 : decode cX8_overlap 60 = .ok (.bipush 40, 2) := by decide +kernel
theorem dX8_overlap_62 : decode cX8_overlap 62 = .ok (.iload_n 1, 1) := by decide +kernel
theorem dX8_overlap_63 : decode cX8_overlap 63 = .ok (.imul, 1) := by decide +kernel
theorem dX8_overlap_64 : decode cX8_overlap 64 = .ok (.iload_n 3, 1) := by decide +kernel
theorem dX8_overlap_65 : decode cX8_overlap 65 = .ok (.iadd, 1) := by decide +kernel
theorem dX8_overlap_66 : decode cX8_overlap 66 = .ok (.iload 5, 2) := by decide +kernel
theorem dX8_overlap_68 : decode cX8_overlap 68 = .ok (.isub, 1) := by decide +kernel
theorem dX8_overlap_69 : decode cX8_overlap 69 = .ok (.iload 7, 2) := by decide +kernel
theorem dX8_overlap_71 : decode cX8_overlap 71 = .ok (.iadd, 1) := by decide +kernel
theorem dX8_overlap_72 : decode cX8_overlap 72 = .ok (.iaload, 1) := by decide +kernel
theorem dX8_overlap_73 : decode cX8_overlap 73 = .ok (.aload_n 0, 1) := by decide +kernel
theorem dX8_overlap_74 : decode cX8_overlap 74 = .ok (.getfield 7, 3) := by decide +kernel
theorem dX8_overlap_77 : decode cX8_overlap 77 = .ok (.bipush 40, 2) := by decide +kernel
theorem dX8_overlap_79 : decode cX8_overlap 79 = .ok (.iload_n 2, 1) := by decide +kernel
theorem dX8_overlap_80 : decode cX8_overlap 80 = .ok (.imul, 1) := by decide +kernel
theorem dX8_overlap_81 : decode cX8_overlap 81 = .ok (.iload 7, 2) := by decide +kernel
theorem dX8_overlap_83 : decode cX8_overlap 83 = .ok (.iadd, 1) := by decide +kernel
theorem dX8_overlap_84 : decode cX8_overlap 84 = .ok (.iaload, 1) := by decide +kernel
theorem dX8_overlap_85 : decode cX8_overlap 85 = .ok (.if_icmp .ne 7, 3) := by decide +kernel
theorem dX8_overlap_88 : decode cX8_overlap 88 = .ok (.iconst 1, 1) := by decide +kernel
theorem dX8_overlap_89 : decode cX8_overlap 89 = .ok (.goto 4, 3) := by decide +kernel
theorem dX8_overlap_92 : decode cX8_overlap 92 = .ok (.iconst 0, 1) := by decide +kernel
theorem dX8_overlap_93 : decode cX8_overlap 93 = .ok (.istore 6, 2) := by decide +kernel
theorem dX8_overlap_95 : decode cX8_overlap 95 = .ok (.iinc 7 1, 3) := by decide +kernel
theorem dX8_overlap_98 : decode cX8_overlap 98 = .ok (.goto (-54), 3) := by decide +kernel
theorem dX8_overlap_101 : decode cX8_overlap 101 = .ok (.iload 6, 2) := by decide +kernel
theorem dX8_overlap_103 : decode cX8_overlap 103 = .ok (.ifCond .ne 6, 3) := by decide +kernel
theorem dX8_overlap_106 : decode cX8_overlap 106 = .ok (.goto 193, 3) := by decide +kernel
theorem dX8_overlap_109 : decode cX8_overlap 109 = .ok (.aload_n 0, 1) := by decide +kernel
theorem dX8_overlap_110 : decode cX8_overlap 110 = .ok (.getfield 19, 3) := by decide +kernel
theorem dX8_overlap_113 : decode cX8_overlap 113 = .ok (.iload_n 1, 1) := by decide +kernel
theorem dX8_overlap_114 : decode cX8_overlap 114 = .ok (.iaload, 1) := by decide +kernel
theorem dX8_overlap_115 : decode cX8_overlap 115 = .ok (.iload 4, 2) := by decide +kernel
theorem dX8_overlap_117 : decode cX8_overlap 117 = .ok (.iadd, 1) := by decide +kernel
theorem dX8_overlap_118 : decode cX8_overlap 118 = .ok (.iload 5, 2) := by decide +kernel
theorem dX8_overlap_120 : decode cX8_overlap 120 = .ok (.isub, 1) := by decide +kernel
theorem dX8_overlap_121 : decode cX8_overlap 121 = .ok (.istore 7, 2) := by decide +kernel
theorem dX8_overlap_123 : decode cX8_overlap 123 = .ok (.iload_n 3, 1) := by decide +kernel
theorem dX8_overlap_124 : decode cX8_overlap 124 = .ok (.iload 5, 2) := by decide +kernel
theorem dX8_overlap_126 : decode cX8_overlap 126 = .ok (.isub, 1) := by decide +kernel
theorem dX8_overlap_127 : decode cX8_overlap 127 = .ok (.aload_n 0, 1) := by decide +kernel
theorem dX8_overlap_128 : decode cX8_overlap 128 = .ok (.getfield 19, 3) := by decide +kernel
theorem dX8_overlap_131 : decode cX8_overlap 131 = .ok (.iload_n 2, 1) := by decide +kernel
theorem dX8_overlap_132 : decode cX8_overlap 132 = .ok (.iaload, 1) := by decide +kernel
theorem dX8_overlap_133 : decode cX8_overlap 133 = .ok (.iadd, 1) := by decide +kernel
theorem dX8_overlap_134 : decode cX8_overlap 134 = .ok (.istore 8, 2) := by decide +kernel
theorem dX8_overlap_136 : decode cX8_overlap 136 = .ok (.iload 7, 2) := by decide +kernel
theorem dX8_overlap_138 : decode cX8_overlap 138 = .ok (.bipush 40, 2) := by decide +kernel
theorem dX8_overlap_140 : decode cX8_overlap 140 = .ok (.if_icmp .gt 10, 3) := by decide +kernel
theorem dX8_overlap_143 : decode cX8_overlap 143 = .ok (.iload 8, 2) := by decide +kernel
theorem dX8_overlap_145 : decode cX8_overlap 145 = .ok (.bipush 40, 2) := by decide +kernel
theorem dX8_overlap_147 : decode cX8_overlap 147 = .ok (.if_icmp .le 9, 3) := by decide +kernel
theorem dX8_overlap_150 : decode cX8_overlap 150 = .ok (.aload_n 0, 1) := by decide +kernel
theorem dX8_overlap_151 : decode cX8_overlap 151 = .ok (.iconst 2, 1) := by decide +kernel
theorem dX8_overlap_152 : decode cX8_overlap 152 = .ok (.putfield 109, 3) := by decide +kernel
theorem dX8_overlap_155 : decode cX8_overlap 155 = .ok (.return_, 1) := by decide +kernel
theorem dX8_overlap_156 : decode cX8_overlap 156 = .ok (.aload_n 0, 1) := by decide +kernel
theorem dX8_overlap_157 : decode cX8_overlap 157 = .ok (.aload_n 0, 1) := by decide +kernel
theorem dX8_overlap_158 : decode cX8_overlap 158 = .ok (.getfield 13, 3) := by decide +kernel
theorem dX8_overlap_161 : decode cX8_overlap 161 = .ok (.iload_n 1, 1) := by decide +kernel
theorem dX8_overlap_162 : decode cX8_overlap 162 = .ok (.aload_n 0, 1) := by decide +kernel
theorem dX8_overlap_163 : decode cX8_overlap 163 = .ok (.getfield 19, 3) := by decide +kernel
theorem dX8_overlap_166 : decode cX8_overlap 166 = .ok (.iload_n 1, 1) := by decide +kernel
theorem dX8_overlap_167 : decode cX8_overlap 167 = .ok (.iaload, 1) := by decide +kernel
theorem dX8_overlap_168 : decode cX8_overlap 168 = .ok (.aload_n 0, 1) := by decide +kernel
theorem dX8_overlap_169 : decode cX8_overlap 169 = .ok (.getfield 41, 3) := by decide +kernel
theorem dX8_overlap_172 : decode cX8_overlap 172 = .ok (.invokevirtual 149, 3) := by decide +kernel
theorem dX8_overlap_175 : decode cX8_overlap 175 = .ok (.iload 5, 2) := by decide +kernel
theorem dX8_overlap_177 : decode cX8_overlap 177 = .ok (.istore 9, 2) := by decide +kernel
theorem dX8_overlap_179 : decode cX8_overlap 179 = .ok (.iload 9, 2) := by decide +kernel
theorem dX8_overlap_181 : decode cX8_overlap 181 = .ok (.iload 4, 2) := by decide +kernel
theorem dX8_overlap_183 : decode cX8_overlap 183 = .ok (.if_icmp .ge 38, 3) := by decide +kernel
theorem dX8_overlap_186 : decode cX8_overlap 186 = .ok (.aload_n 0, 1) := by decide +kernel
theorem dX8_overlap_187 : decode cX8_overlap 187 = .ok (.getfield 41, 3) := by decide +kernel
theorem dX8_overlap_190 : decode cX8_overlap 190 = .ok (.aload_n 0, 1) := by decide +kernel
theorem dX8_overlap_191 : decode cX8_overlap 191 = .ok (.getfield 19, 3) := by decide +kernel
theorem dX8_overlap_194 : decode cX8_overlap 194 = .ok (.iload_n 1, 1) := by decide +kernel
theorem dX8_overlap_195 : decode cX8_overlap 195 = .ok (.iaload, 1) := by decide +kernel
theorem dX8_overlap_196 : decode cX8_overlap 196 = .ok (.iload 9, 2) := by decide +kernel
theorem dX8_overlap_198 : decode cX8_overlap 198 = .ok (.iadd, 1) := by decide +kernel
theorem dX8_overlap_199 : decode cX8_overlap 199 = .ok (.iload 5, 2) := by decide +kernel
theorem dX8_overlap_201 : decode cX8_overlap 201 = .ok (.isub, 1) := by decide +kernel
theorem dX8_overlap_202 : decode cX8_overlap 202 = .ok (.aload_n 0, 1) := by decide +kernel
theorem dX8_overlap_203 : decode cX8_overlap 203 = .ok (.getfield 7, 3) := by decide +kernel
theorem dX8_overlap_206 : decode cX8_overlap 206 = .ok (.bipush 40, 2) := by decide +kernel
theorem dX8_overlap_208 : decode cX8_overlap 208 = .ok (.iload_n 2, 1) := by decide +kernel
theorem dX8_overlap_209 : decode cX8_overlap 209 = .ok (.imul, 1) := by decide +kernel
theorem dX8_overlap_210 : decode cX8_overlap 210 = .ok (.iload 9, 2) := by decide +kernel
theorem dX8_overlap_212 : decode cX8_overlap 212 = .ok (.iadd, 1) := by decide +kernel
theorem dX8_overlap_213 : decode cX8_overlap 213 = .ok (.iaload, 1) := by decide +kernel
theorem dX8_overlap_214 : decode cX8_overlap 214 = .ok (.iastore, 1) := by decide +kernel
theorem dX8_overlap_215 : decode cX8_overlap 215 = .ok (.iinc 9 1, 3) := by decide +kernel
theorem dX8_overlap_218 : decode cX8_overlap 218 = .ok (.goto (-39), 3) := by decide +kernel
theorem dX8_overlap_221 : decode cX8_overlap 221 = .ok (.aload_n 0, 1) := by decide +kernel
theorem dX8_overlap_222 : decode cX8_overlap 222 = .ok (.aload_n 0, 1) := by decide +kernel
theorem dX8_overlap_223 : decode cX8_overlap 223 = .ok (.getfield 7, 3) := by decide +kernel
theorem dX8_overlap_226 : decode cX8_overlap 226 = .ok (.iload_n 1, 1) := by decide +kernel
theorem dX8_overlap_227 : decode cX8_overlap 227 = .ok (.iload_n 3, 1) := by decide +kernel
theorem dX8_overlap_228 : decode cX8_overlap 228 = .ok (.iload 5, 2) := by decide +kernel
theorem dX8_overlap_230 : decode cX8_overlap 230 = .ok (.isub, 1) := by decide +kernel
theorem dX8_overlap_231 : decode cX8_overlap 231 = .ok (.aload_n 0, 1) := by decide +kernel
theorem dX8_overlap_232 : decode cX8_overlap 232 = .ok (.getfield 44, 3) := by decide +kernel
theorem dX8_overlap_235 : decode cX8_overlap 235 = .ok (.invokevirtual 149, 3) := by decide +kernel
theorem dX8_overlap_238 : decode cX8_overlap 238 = .ok (.iconst 0, 1) := by decide +kernel
theorem dX8_overlap_239 : decode cX8_overlap 239 = .ok (.istore 9, 2) := by decide +kernel
theorem dX8_overlap_241 : decode cX8_overlap 241 = .ok (.iload 9, 2) := by decide +kernel
theorem dX8_overlap_243 : decode cX8_overlap 243 = .ok (.aload_n 0, 1) := by decide +kernel
theorem dX8_overlap_244 : decode cX8_overlap 244 = .ok (.getfield 19, 3) := by decide +kernel
theorem dX8_overlap_247 : decode cX8_overlap 247 = .ok (.iload_n 2, 1) := by decide +kernel
theorem dX8_overlap_248 : decode cX8_overlap 248 = .ok (.iaload, 1) := by decide +kernel
theorem dX8_overlap_249 : decode cX8_overlap 249 = .ok (.if_icmp .ge 33, 3) := by decide +kernel
theorem dX8_overlap_252 : decode cX8_overlap 252 = .ok (.aload_n 0, 1) := by decide +kernel
theorem dX8_overlap_253 : decode cX8_overlap 253 = .ok (.getfield 44, 3) := by decide +kernel
theorem dX8_overlap_256 : decode cX8_overlap 256 = .ok (.iload_n 3, 1) := by decide +kernel
theorem dX8_overlap_257 : decode cX8_overlap 257 = .ok (.iload 5, 2) := by decide +kernel
theorem dX8_overlap_259 : decode cX8_overlap 259 = .ok (.isub, 1) := by decide +kernel
theorem dX8_overlap_260 : decode cX8_overlap 260 = .ok (.iload 9, 2) := by decide +kernel
theorem dX8_overlap_262 : decode cX8_overlap 262 = .ok (.iadd, 1) := by decide +kernel
theorem dX8_overlap_263 : decode cX8_overlap 263 = .ok (.aload_n 0, 1) := by decide +kernel
theorem dX8_overlap_264 : decode cX8_overlap 264 = .ok (.getfield 13, 3) := by decide +kernel
theorem dX8_overlap_267 : decode cX8_overlap 267 = .ok (.bipush 40, 2) := by decide +kernel
theorem dX8_overlap_269 : decode cX8_overlap 269 = .ok (.iload_n 2, 1) := by decide +kernel
theorem dX8_overlap_270 : decode cX8_overlap 270 = .ok (.imul, 1) := by decide +kernel
theorem dX8_overlap_271 : decode cX8_overlap 271 = .ok (.iload 9, 2) := by decide +kernel
theorem dX8_overlap_273 : decode cX8_overlap 273 = .ok (.iadd, 1) := by decide +kernel
theorem dX8_overlap_274 : decode cX8_overlap 274 = .ok (.iaload, 1) := by decide +kernel
theorem dX8_overlap_275 : decode cX8_overlap 275 = .ok (.iastore, 1) := by decide +kernel
theorem dX8_overlap_276 : decode cX8_overlap 276 = .ok (.iinc 9 1, 3) := by decide +kernel
theorem dX8_overlap_279 : decode cX8_overlap 279 = .ok (.goto (-38), 3) := by decide +kernel
theorem dX8_overlap_282 : decode cX8_overlap 282 = .ok (.aload_n 0, 1) := by decide +kernel
theorem dX8_overlap_283 : decode cX8_overlap 283 = .ok (.aload_n 0, 1) := by decide +kernel
theorem dX8_overlap_284 : decode cX8_overlap 284 = .ok (.getfield 41, 3) := by decide +kernel
theorem dX8_overlap_287 : decode cX8_overlap 287 = .ok (.iload 7, 2) := by decide +kernel
theorem dX8_overlap_289 : decode cX8_overlap 289 = .ok (.aload_n 0, 1) := by decide +kernel
theorem dX8_overlap_290 : decode cX8_overlap 290 = .ok (.getfield 44, 3) := by decide +kernel
theorem dX8_overlap_293 : decode cX8_overlap 293 = .ok (.iload 8, 2) := by decide +kernel
theorem dX8_overlap_295 : decode cX8_overlap 295 = .ok (.invokevirtual 115, 3) := by decide +kernel
theorem dX8_overlap_298 : decode cX8_overlap 298 = .ok (.pop, 1) := by decide +kernel
theorem dX8_overlap_299 : decode cX8_overlap 299 = .ok (.iinc 5 1, 3) := by decide +kernel
theorem dX8_overlap_302 : decode cX8_overlap 302 = .ok (.goto (-284), 3) := by decide +kernel
theorem dX8_overlap_305 : decode cX8_overlap 305 = .ok (.return_, 1) := by decide +kernel
theorem dX8_state_0 : decode cX8_state 0 = .ok (.aload_n 0, 1) := by decide +kernel
theorem dX8_state_1 : decode cX8_state 1 = .ok (.getfield 109, 3) := by decide +kernel
theorem dX8_state_4 : decode cX8_state 4 = .ok (.ifCond .le 10, 3) := by decide +kernel
theorem dX8_state_7 : decode cX8_state 7 = .ok (.aload_n 0, 1) := by decide +kernel
theorem dX8_state_8 : decode cX8_state 8 = .ok (.getfield 109, 3) := by decide +kernel
theorem dX8_state_11 : decode cX8_state 11 = .ok (.goto 15, 3) := by decide +kernel
theorem dX8_state_14 : decode cX8_state 14 = .ok (.aload_n 0, 1) := by decide +kernel
theorem dX8_state_15 : decode cX8_state 15 = .ok (.getfield 100, 3) := by decide +kernel
theorem dX8_state_18 : decode cX8_state 18 = .ok (.ifCond .le 7, 3) := by decide +kernel
theorem dX8_state_21 : decode cX8_state 21 = .ok (.iconst 0, 1) := by decide +kernel
theorem dX8_state_22 : decode cX8_state 22 = .ok (.goto 4, 3) := by decide +kernel
theorem dX8_state_25 : decode cX8_state 25 = .ok (.iconst 1, 1) := by decide +kernel
theorem dX8_state_26 : decode cX8_state 26 = .ok (.ireturn, 1) := by decide +kernel
set_option maxHeartbeats 4000000 in
set_option maxRecDepth 100000 in
theorem ggX8_run_X8_fails : GoodIn wsX8_run wsX8_fails := goodIn_r _ [7, 8, 76, 77, 78, 79, 80, 81, 82, 83, 84, 85, 86, 87, 88, 89, 90, 91, 92, 93, 94, 95, 96, 97, 98, 99, 100, 101, 102, 103, 104, 105, 106, 107, 108, 109, 110] (by first | rfl | decide +kernel) (by decide +kernel)
set_option maxRecDepth 20000 in
theorem gX8_run_X8_fails : GoodIn wsX8_run (wsV RX8 93 RX8 yX8_fails wsX8_fails) := goodIn_app (goodIn_of _ (by decide +kernel)) ggX8_run_X8_fails
set_option maxHeartbeats 4000000 in
set_option maxRecDepth 100000 in
theorem ggX8_run_X8_step : GoodIn wsX8_run wsX8_step := goodIn_r _ [12, 13, 14, 15, 16, 17, 18, 1, 19, 20, 21, 22, 23, 24, 25, 6, 26, 27, 28, 29, 30, 31, 2, 32, 33, 34, 35, 36, 37, 38, 39, 40, 41, 42, 43, 44, 45, 46, 47, 48, 49, 50, 51, 52, 53, 54, 55, 56, 57, 58, 59, 60, 61, 62, 63, 64, 65, 66, 67, 68, 69, 70, 71, 76, 77, 78, 79, 80, 81, 82, 83, 84, 85, 86, 87, 88, 89, 90, 91, 92, 93, 94, 95, 96, 97, 98, 99, 100, 101, 102, 103, 104, 105, 106, 107, 108, 109, 110] (by first | rfl | decide +kernel) (by decide +kernel)
set_option maxRecDepth 20000 in
theorem gX8_run_X8_step : GoodIn wsX8_run (wsV RX8 161 RX8 yX8_step wsX8_step) := goodIn_app (goodIn_of _ (by decide +kernel)) ggX8_run_X8_step
set_option maxHeartbeats 4000000 in
set_option maxRecDepth 100000 in
theorem ggX8_run_X8_state : GoodIn wsX8_run wsX8_state := goodIn_r _ [75, 1, 2, 76, 77, 78, 79, 80, 81, 82, 83, 84, 85, 86, 87, 88, 89, 90, 91, 92, 93, 94, 95, 96, 97, 98, 99, 100, 101, 102, 103, 104, 105, 106, 107, 108, 109, 110] (by first | rfl | decide +kernel) (by decide +kernel)
set_option maxRecDepth 20000 in
theorem gX8_run_X8_state : GoodIn wsX8_run (wsV RX8 164 RX8 yX8_state wsX8_state) := goodIn_app (goodIn_of _ (by decide +kernel)) ggX8_run_X8_state
theorem dX8_run_0 : decode cX8_run 0 = .ok (.aload_n 0, 1) := by decide +kernel
theorem dX8_run_1 : decode cX8_run 1 = .ok (.iload_n 1, 1) := by decide +kernel
theorem dX8_run_2 : decode cX8_run 2 = .ok (.ifCond .lt 10, 3) := by decide +kernel
theorem dX8_run_5 : decode cX8_run 5 = .ok (.iload_n 1, 1) := by decide +kernel
theorem dX8_run_6 : decode cX8_run 6 = .ok (.sipush 500, 3) := by decide +kernel
theorem dX8_run_9 : decode cX8_run 9 = .ok (.if_icmp .le 7, 3) := by decide +kernel
theorem dX8_run_12 : decode cX8_run 12 = .ok (.iconst 1, 1) := by decide +kernel
theorem dX8_run_13 : decode cX8_run 13 = .ok (.goto 4, 3) := by decide +kernel
theorem dX8_run_16 : decode cX8_run 16 = .ok (.iconst 0, 1) := by decide +kernel
theorem dX8_run_17 : decode cX8_run 17 = .ok (.iconst 0, 1) := by decide +kernel
theorem dX8_run_18 : decode cX8_run 18 = .ok (.invokevirtual 93, 3) := by decide +kernel
theorem dX8_run_21 : decode cX8_run 21 = .ok (.ifCond .eq 5, 3) := by decide +kernel
theorem dX8_run_24 : decode cX8_run 24 = .ok (.iconst 0, 1) := by decide +kernel
theorem dX8_run_25 : decode cX8_run 25 = .ok (.ireturn, 1) := by decide +kernel
theorem dX8_run_26 : decode cX8_run 26 = .ok (.iconst 0, 1) := by decide +kernel
theorem dX8_run_27 : decode cX8_run 27 = .ok (.istore_n 2, 1) := by decide +kernel
theorem dX8_run_28 : decode cX8_run 28 = .ok (.iload_n 2, 1) := by decide +kernel
theorem dX8_run_29 : decode cX8_run 29 = .ok (.iload_n 1, 1) := by decide +kernel
theorem dX8_run_30 : decode cX8_run 30 = .ok (.if_icmp .ge 27, 3) := by decide +kernel
theorem dX8_run_33 : decode cX8_run 33 = .ok (.aload_n 0, 1) := by decide +kernel
theorem dX8_run_34 : decode cX8_run 34 = .ok (.getfield 109, 3) := by decide +kernel
theorem dX8_run_37 : decode cX8_run 37 = .ok (.ifCond .ne 20, 3) := by decide +kernel
theorem dX8_run_40 : decode cX8_run 40 = .ok (.aload_n 0, 1) := by decide +kernel
theorem dX8_run_41 : decode cX8_run 41 = .ok (.getfield 100, 3) := by decide +kernel
theorem dX8_run_44 : decode cX8_run 44 = .ok (.ifCond .le 13, 3) := by decide +kernel
theorem dX8_run_47 : decode cX8_run 47 = .ok (.aload_n 0, 1) := by decide +kernel
theorem dX8_run_48 : decode cX8_run 48 = .ok (.invokevirtual 161, 3) := by decide +kernel
theorem dX8_run_51 : decode cX8_run 51 = .ok (.iinc 2 1, 3) := by decide +kernel
theorem dX8_run_54 : decode cX8_run 54 = .ok (.goto (-26), 3) := by decide +kernel
theorem dX8_run_57 : decode cX8_run 57 = .ok (.aload_n 0, 1) := by decide +kernel
theorem dX8_run_58 : decode cX8_run 58 = .ok (.invokevirtual 164, 3) := by decide +kernel
theorem dX8_run_61 : decode cX8_run 61 = .ok (.ireturn, 1) := by decide +kernel
set_option maxHeartbeats 4000000 in
set_option maxRecDepth 100000 in
theorem ggX8_copy_X8_reduced : GoodIn wsX8_copy wsX8_reduced := goodIn_r _ [7, 8, 9, 10, 11, 12, 13, 14, 6, 15, 16, 17, 18, 19, 20, 21, 22, 23, 24, 25, 26, 27, 28, 29, 30, 31, 32, 33, 34, 35, 36, 37, 38, 39, 40, 41, 42, 43, 44, 45, 46, 47, 48, 49, 50, 51] (by first | rfl | decide +kernel) (by decide +kernel)
set_option maxRecDepth 20000 in
theorem gX8_copy_X8_reduced : GoodIn wsX8_copy (wsV RX8 123 RX8 yX8_reduced wsX8_reduced) := goodIn_app (goodIn_of _ (by decide +kernel)) ggX8_copy_X8_reduced
theorem dX8_copy_0 : decode cX8_copy 0 = .ok (.iconst 0, 1) := by decide +kernel
theorem dX8_copy_1 : decode cX8_copy 1 = .ok (.istore_n 3, 1) := by decide +kernel
theorem dX8_copy_2 : decode cX8_copy 2 = .ok (.iload_n 3, 1) := by decide +kernel
theorem dX8_copy_3 : decode cX8_copy 3 = .ok (.aload_n 0, 1) := by decide +kernel
theorem dX8_copy_4 : decode cX8_copy 4 = .ok (.getfield 38, 3) := by decide +kernel
theorem dX8_copy_7 : decode cX8_copy 7 = .ok (.iload_n 1, 1) := by decide +kernel
theorem dX8_copy_8 : decode cX8_copy 8 = .ok (.iaload, 1) := by decide +kernel
theorem dX8_copy_9 : decode cX8_copy 9 = .ok (.if_icmp .ge 23, 3) := by decide +kernel
theorem dX8_copy_12 : decode cX8_copy 12 = .ok (.aload_n 2, 1) := by decide +kernel
theorem dX8_copy_13 : decode cX8_copy 13 = .ok (.iload_n 3, 1) := by decide +kernel
theorem dX8_copy_14 : decode cX8_copy 14 = .ok (.aload_n 0, 1) := by decide +kernel
theorem dX8_copy_15 : decode cX8_copy 15 = .ok (.getfield 35, 3) := by decide +kernel
theorem dX8_copy_18 : decode cX8_copy 18 = .ok (.bipush 40, 2) := by decide +kernel
theorem dX8_copy_20 : decode cX8_copy 20 = .ok (.iload_n 1, 1) := by decide +kernel
theorem dX8_copy_21 : decode cX8_copy 21 = .ok (.imul, 1) := by decide +kernel
theorem dX8_copy_22 : decode cX8_copy 22 = .ok (.iload_n 3, 1) := by decide +kernel
theorem dX8_copy_23 : decode cX8_copy 23 = .ok (.iadd, 1) := by decide +kernel
theorem dX8_copy_24 : decode cX8_copy 24 = .ok (.iaload, 1) := by decide +kernel
theorem dX8_copy_25 : decode cX8_copy 25 = .ok (.iastore, 1) := by decide +kernel
theorem dX8_copy_26 : decode cX8_copy 26 = .ok (.iinc 3 1, 3) := by decide +kernel
theorem dX8_copy_29 : decode cX8_copy 29 = .ok (.goto (-27), 3) := by decide +kernel
theorem dX8_copy_32 : decode cX8_copy 32 = .ok (.aload_n 0, 1) := by decide +kernel
theorem dX8_copy_33 : decode cX8_copy 33 = .ok (.aload_n 2, 1) := by decide +kernel
theorem dX8_copy_34 : decode cX8_copy 34 = .ok (.aload_n 0, 1) := by decide +kernel
theorem dX8_copy_35 : decode cX8_copy 35 = .ok (.getfield 38, 3) := by decide +kernel
theorem dX8_copy_38 : decode cX8_copy 38 = .ok (.iload_n 1, 1) := by decide +kernel
theorem dX8_copy_39 : decode cX8_copy 39 = .ok (.iaload, 1) := by decide +kernel
theorem dX8_copy_40 : decode cX8_copy 40 = .ok (.invokevirtual 123, 3) := by decide +kernel
theorem dX8_copy_43 : decode cX8_copy 43 = .ok (.ireturn, 1) := by decide +kernel
set_option maxHeartbeats 4000000 in
set_option maxRecDepth 100000 in
theorem ggX8_reduce_X8_fails : GoodIn wsX8_reduce wsX8_fails := goodIn_r _ [8, 9, 27, 28, 29, 30, 31, 32, 33, 34, 35, 36, 37, 38, 39, 40, 41, 42, 43, 44, 45, 46, 47, 48, 49, 50, 51, 52, 53, 54, 55, 56, 57, 58, 59, 60, 61] (by first | rfl | decide +kernel) (by decide +kernel)
set_option maxRecDepth 20000 in
theorem gX8_reduce_X8_fails : GoodIn wsX8_reduce (wsV RX8 93 RX8 yX8_fails wsX8_fails) := goodIn_app (goodIn_of _ (by decide +kernel)) ggX8_reduce_X8_fails
set_option maxHeartbeats 4000000 in
set_option maxRecDepth 100000 in
theorem ggX8_reduce_X8_copy : GoodIn wsX8_reduce wsX8_copy := goodIn_r _ [13, 1, 3, 14, 15, 16, 7, 17, 18, 19, 20, 21, 22, 23, 24, 25, 26, 27, 28, 29, 30, 31, 32, 33, 34, 35, 36, 37, 38, 39, 40, 41, 42, 43, 44, 45, 46, 47, 48, 49, 50, 51, 52, 53, 54, 55, 56, 57, 58, 59, 60, 61] (by first | rfl | decide +kernel) (by decide +kernel)
set_option maxRecDepth 20000 in
theorem gX8_reduce_X8_copy : GoodIn wsX8_reduce (wsV RX8 168 RX8 yX8_copy wsX8_copy) := goodIn_app (goodIn_of _ (by decide +kernel)) ggX8_reduce_X8_copy
theorem dX8_reduce_0 : decode cX8_reduce 0 = .ok (.aload_n 0, 1) := by decide +kernel
theorem dX8_reduce_1 : decode cX8_reduce 1 = .ok (.iload_n 1, 1) := by decide +kernel
theorem dX8_reduce_2 : decode cX8_reduce 2 = .ok (.ifCond .lt 8, 3) := by decide +kernel
theorem dX8_reduce_5 : decode cX8_reduce 5 = .ok (.iload_n 1, 1) := by decide +kernel
theorem dX8_reduce_6 : decode cX8_reduce 6 = .ok (.iconst 1, 1) := by decide +kernel
theorem dX8_reduce_7 : decode cX8_reduce 7 = .ok (.if_icmp .le 7, 3) := by decide +kernel
theorem dX8_reduce_10 : decode cX8_reduce 10 = .ok (.iconst 1, 1) := by decide +kernel
theorem dX8_reduce_11 : decode cX8_reduce 11 = .ok (.goto 4, 3) := by decide +kernel
theorem dX8_reduce_14 : decode cX8_reduce 14 = .ok (.iconst 0, 1) := by decide +kernel
theorem dX8_reduce_15 : decode cX8_reduce 15 = .ok (.iconst 0, 1) := by decide +kernel
theorem dX8_reduce_16 : decode cX8_reduce 16 = .ok (.invokevirtual 93, 3) := by decide +kernel
theorem dX8_reduce_19 : decode cX8_reduce 19 = .ok (.ifCond .eq 5, 3) := by decide +kernel
theorem dX8_reduce_22 : decode cX8_reduce 22 = .ok (.iconst 0, 1) := by decide +kernel
theorem dX8_reduce_23 : decode cX8_reduce 23 = .ok (.ireturn, 1) := by decide +kernel
theorem dX8_reduce_24 : decode cX8_reduce 24 = .ok (.aload_n 0, 1) := by decide +kernel
theorem dX8_reduce_25 : decode cX8_reduce 25 = .ok (.getfield 38, 3) := by decide +kernel
theorem dX8_reduce_28 : decode cX8_reduce 28 = .ok (.iload_n 1, 1) := by decide +kernel
theorem dX8_reduce_29 : decode cX8_reduce 29 = .ok (.aload_n 0, 1) := by decide +kernel
theorem dX8_reduce_30 : decode cX8_reduce 30 = .ok (.iload_n 1, 1) := by decide +kernel
theorem dX8_reduce_31 : decode cX8_reduce 31 = .ok (.aload_n 0, 1) := by decide +kernel
theorem dX8_reduce_32 : decode cX8_reduce 32 = .ok (.getfield 41, 3) := by decide +kernel
theorem dX8_reduce_35 : decode cX8_reduce 35 = .ok (.invokevirtual 168, 3) := by decide +kernel
theorem dX8_reduce_38 : decode cX8_reduce 38 = .ok (.iastore, 1) := by decide +kernel
theorem dX8_reduce_39 : decode cX8_reduce 39 = .ok (.iconst 0, 1) := by decide +kernel
theorem dX8_reduce_40 : decode cX8_reduce 40 = .ok (.istore_n 2, 1) := by decide +kernel
theorem dX8_reduce_41 : decode cX8_reduce 41 = .ok (.iload_n 2, 1) := by decide +kernel
theorem dX8_reduce_42 : decode cX8_reduce 42 = .ok (.aload_n 0, 1) := by decide +kernel
theorem dX8_reduce_43 : decode cX8_reduce 43 = .ok (.getfield 38, 3) := by decide +kernel
theorem dX8_reduce_46 : decode cX8_reduce 46 = .ok (.iload_n 1, 1) := by decide +kernel
theorem dX8_reduce_47 : decode cX8_reduce 47 = .ok (.iaload, 1) := by decide +kernel
theorem dX8_reduce_48 : decode cX8_reduce 48 = .ok (.if_icmp .ge 26, 3) := by decide +kernel
theorem dX8_reduce_51 : decode cX8_reduce 51 = .ok (.aload_n 0, 1) := by decide +kernel
theorem dX8_reduce_52 : decode cX8_reduce 52 = .ok (.getfield 35, 3) := by decide +kernel
theorem dX8_reduce_55 : decode cX8_reduce 55 = .ok (.bipush 40, 2) := by decide +kernel
theorem dX8_reduce_57 : decode cX8_reduce 57 = .ok (.iload_n 1, 1) := by decide +kernel
theorem dX8_reduce_58 : decode cX8_reduce 58 = .ok (.imul, 1) := by decide +kernel
theorem dX8_reduce_59 : decode cX8_reduce 59 = .ok (.iload_n 2, 1) := by decide +kernel
theorem dX8_reduce_60 : decode cX8_reduce 60 = .ok (.iadd, 1) := by decide +kernel
theorem dX8_reduce_61 : decode cX8_reduce 61 = .ok (.aload_n 0, 1) := by decide +kernel
theorem dX8_reduce_62 : decode cX8_reduce 62 = .ok (.getfield 41, 3) := by decide +kernel
theorem dX8_reduce_65 : decode cX8_reduce 65 = .ok (.iload_n 2, 1) := by decide +kernel
theorem dX8_reduce_66 : decode cX8_reduce 66 = .ok (.iaload, 1) := by decide +kernel
theorem dX8_reduce_67 : decode cX8_reduce 67 = .ok (.iastore, 1) := by decide +kernel
theorem dX8_reduce_68 : decode cX8_reduce 68 = .ok (.iinc 2 1, 3) := by decide +kernel
theorem dX8_reduce_71 : decode cX8_reduce 71 = .ok (.goto (-30), 3) := by decide +kernel
theorem dX8_reduce_74 : decode cX8_reduce 74 = .ok (.aload_n 0, 1) := by decide +kernel
theorem dX8_reduce_75 : decode cX8_reduce 75 = .ok (.getfield 38, 3) := by decide +kernel
theorem dX8_reduce_78 : decode cX8_reduce 78 = .ok (.iload_n 1, 1) := by decide +kernel
theorem dX8_reduce_79 : decode cX8_reduce 79 = .ok (.iaload, 1) := by decide +kernel
theorem dX8_reduce_80 : decode cX8_reduce 80 = .ok (.ireturn, 1) := by decide +kernel
set_option maxHeartbeats 4000000 in
set_option maxRecDepth 100000 in
theorem ggX8_same_X8_copy : GoodIn wsX8_same wsX8_copy := goodIn_r _ [8, 9, 10, 11, 12, 13, 7, 14, 15, 16, 17, 18, 19, 20, 21, 22, 23, 33, 34, 35, 36, 37, 38, 39, 40, 41, 42, 43, 44, 45, 46, 47, 48, 49, 50, 51, 52, 53, 54, 55, 56, 57, 58, 59, 60, 61, 62, 63, 64, 65, 66, 67] (by first | rfl | decide +kernel) (by decide +kernel)
set_option maxRecDepth 20000 in
theorem gX8_same_X8_copy : GoodIn wsX8_same (wsV RX8 168 RX8 yX8_copy wsX8_copy) := goodIn_app (goodIn_of _ (by decide +kernel)) ggX8_same_X8_copy
set_option maxHeartbeats 4000000 in
set_option maxRecDepth 100000 in
theorem ggX8_same_X8_compare : GoodIn wsX8_same wsX8_compare := goodIn_r _ [26] (by first | rfl | decide +kernel) (by decide +kernel)
set_option maxRecDepth 20000 in
theorem gX8_same_X8_compare : GoodIn wsX8_same (va_wsS RX8 136 yX8_compare wsX8_compare) := goodIn_app (goodIn_of _ (by decide +kernel)) ggX8_same_X8_compare
set_option maxHeartbeats 4000000 in
set_option maxRecDepth 100000 in
theorem ggX8_same_X8_state : GoodIn wsX8_same wsX8_state := goodIn_r _ [30, 31, 32, 33, 34, 35, 36, 37, 38, 39, 40, 41, 42, 43, 44, 45, 46, 47, 48, 49, 50, 51, 52, 53, 54, 55, 56, 57, 58, 59, 60, 61, 62, 63, 64, 65, 66, 67] (by first | rfl | decide +kernel) (by decide +kernel)
set_option maxRecDepth 20000 in
theorem gX8_same_X8_state : GoodIn wsX8_same (wsV RX8 164 RX8 yX8_state wsX8_state) := goodIn_app (goodIn_of _ (by decide +kernel)) ggX8_same_X8_state
theorem dX8_same_0 : decode cX8_same 0 = .ok (.aload_n 0, 1) := by decide +kernel
theorem dX8_same_1 : decode cX8_same 1 = .ok (.iconst 0, 1) := by decide +kernel
theorem dX8_same_2 : decode cX8_same 2 = .ok (.putfield 90, 3) := by decide +kernel
theorem dX8_same_5 : decode cX8_same 5 = .ok (.aload_n 0, 1) := by decide +kernel
theorem dX8_same_6 : decode cX8_same 6 = .ok (.iconst 0, 1) := by decide +kernel
theorem dX8_same_7 : decode cX8_same 7 = .ok (.aload_n 0, 1) := by decide +kernel
theorem dX8_same_8 : decode cX8_same 8 = .ok (.getfield 41, 3) := by decide +kernel
theorem dX8_same_11 : decode cX8_same 11 = .ok (.invokevirtual 168, 3) := by decide +kernel
theorem dX8_same_14 : decode cX8_same 14 = .ok (.istore_n 1, 1) := by decide +kernel
theorem dX8_same_15 : decode cX8_same 15 = .ok (.aload_n 0, 1) := by decide +kernel
theorem dX8_same_16 : decode cX8_same 16 = .ok (.iconst 1, 1) := by decide +kernel
theorem dX8_same_17 : decode cX8_same 17 = .ok (.aload_n 0, 1) := by decide +kernel
theorem dX8_same_18 : decode cX8_same 18 = .ok (.getfield 44, 3) := by decide +kernel
theorem dX8_same_21 : decode cX8_same 21 = .ok (.invokevirtual 168, 3) := by decide +kernel
theorem dX8_same_24 : decode cX8_same 24 = .ok (.istore_n 2, 1) := by decide +kernel
theorem dX8_same_25 : decode cX8_same 25 = .ok (.aload_n 0, 1) := by decide +kernel
theorem dX8_same_26 : decode cX8_same 26 = .ok (.getfield 41, 3) := by decide +kernel
theorem dX8_same_29 : decode cX8_same 29 = .ok (.iload_n 1, 1) := by decide +kernel
theorem dX8_same_30 : decode cX8_same 30 = .ok (.aload_n 0, 1) := by decide +kernel
theorem dX8_same_31 : decode cX8_same 31 = .ok (.getfield 44, 3) := by decide +kernel
theorem dX8_same_34 : decode cX8_same 34 = .ok (.iload_n 2, 1) := by decide +kernel
theorem dX8_same_35 : decode cX8_same 35 = .ok (.invokestatic 136, 3) := by decide +kernel
theorem dX8_same_38 : decode cX8_same 38 = .ok (.ifCond .ne 7, 3) := by decide +kernel
theorem dX8_same_41 : decode cX8_same 41 = .ok (.iconst 1, 1) := by decide +kernel
theorem dX8_same_42 : decode cX8_same 42 = .ok (.goto 16, 3) := by decide +kernel
theorem dX8_same_45 : decode cX8_same 45 = .ok (.aload_n 0, 1) := by decide +kernel
theorem dX8_same_46 : decode cX8_same 46 = .ok (.invokevirtual 164, 3) := by decide +kernel
theorem dX8_same_49 : decode cX8_same 49 = .ok (.iconst 1, 1) := by decide +kernel
theorem dX8_same_50 : decode cX8_same 50 = .ok (.if_icmp .ne 7, 3) := by decide +kernel
theorem dX8_same_53 : decode cX8_same 53 = .ok (.iconst 0, 1) := by decide +kernel
theorem dX8_same_54 : decode cX8_same 54 = .ok (.goto 4, 3) := by decide +kernel
theorem dX8_same_57 : decode cX8_same 57 = .ok (.iconst (-1), 1) := by decide +kernel
theorem dX8_same_58 : decode cX8_same 58 = .ok (.ireturn, 1) := by decide +kernel
theorem dX8_at_0 : decode cX8_at 0 = .ok (.aload_n 0, 1) := by decide +kernel
theorem dX8_at_1 : decode cX8_at 1 = .ok (.iconst 0, 1) := by decide +kernel
theorem dX8_at_2 : decode cX8_at 2 = .ok (.putfield 90, 3) := by decide +kernel
theorem dX8_at_5 : decode cX8_at 5 = .ok (.iload_n 1, 1) := by decide +kernel
theorem dX8_at_6 : decode cX8_at 6 = .ok (.ifCond .lt 7, 3) := by decide +kernel
theorem dX8_at_9 : decode cX8_at 9 = .ok (.iload_n 2, 1) := by decide +kernel
theorem dX8_at_10 : decode cX8_at 10 = .ok (.ifCond .ge 5, 3) := by decide +kernel
theorem dX8_at_13 : decode cX8_at 13 = .ok (.iconst (-1), 1) := by decide +kernel
theorem dX8_at_14 : decode cX8_at 14 = .ok (.ireturn, 1) := by decide +kernel
theorem dX8_at_15 : decode cX8_at 15 = .ok (.iload_n 1, 1) := by decide +kernel
theorem dX8_at_16 : decode cX8_at 16 = .ok (.iconst 2, 1) := by decide +kernel
theorem dX8_at_17 : decode cX8_at 17 = .ok (.if_icmp .ge 29, 3) := by decide +kernel
theorem dX8_at_20 : decode cX8_at 20 = .ok (.iload_n 2, 1) := by decide +kernel
theorem dX8_at_21 : decode cX8_at 21 = .ok (.aload_n 0, 1) := by decide +kernel
theorem dX8_at_22 : decode cX8_at 22 = .ok (.getfield 38, 3) := by decide +kernel
theorem dX8_at_25 : decode cX8_at 25 = .ok (.iload_n 1, 1) := by decide +kernel
theorem dX8_at_26 : decode cX8_at 26 = .ok (.iaload, 1) := by decide +kernel
theorem dX8_at_27 : decode cX8_at 27 = .ok (.if_icmp .ge 17, 3) := by decide +kernel
theorem dX8_at_30 : decode cX8_at 30 = .ok (.aload_n 0, 1) := by decide +kernel
theorem dX8_at_31 : decode cX8_at 31 = .ok (.getfield 35, 3) := by decide +kernel
theorem dX8_at_34 : decode cX8_at 34 = .ok (.bipush 40, 2) := by decide +kernel
theorem dX8_at_36 : decode cX8_at 36 = .ok (.iload_n 1, 1) := by decide +kernel
theorem dX8_at_37 : decode cX8_at 37 = .ok (.imul, 1) := by decide +kernel
theorem dX8_at_38 : decode cX8_at 38 = .ok (.iload_n 2, 1) := by decide +kernel
theorem dX8_at_39 : decode cX8_at 39 = .ok (.iadd, 1) := by decide +kernel
theorem dX8_at_40 : decode cX8_at 40 = .ok (.iaload, 1) := by decide +kernel
theorem dX8_at_41 : decode cX8_at 41 = .ok (.goto 4, 3) := by decide +kernel
theorem dX8_at_44 : decode cX8_at 44 = .ok (.iconst (-1), 1) := by decide +kernel
theorem dX8_at_45 : decode cX8_at 45 = .ok (.ireturn, 1) := by decide +kernel
theorem dX8_at_46 : decode cX8_at 46 = .ok (.iload_n 1, 1) := by decide +kernel
theorem dX8_at_47 : decode cX8_at 47 = .ok (.iconst 2, 1) := by decide +kernel
theorem dX8_at_48 : decode cX8_at 48 = .ok (.idiv, 1) := by decide +kernel
theorem dX8_at_49 : decode cX8_at 49 = .ok (.iconst 1, 1) := by decide +kernel
theorem dX8_at_50 : decode cX8_at 50 = .ok (.isub, 1) := by decide +kernel
theorem dX8_at_51 : decode cX8_at 51 = .ok (.istore_n 3, 1) := by decide +kernel
theorem dX8_at_52 : decode cX8_at 52 = .ok (.iload_n 3, 1) := by decide +kernel
theorem dX8_at_53 : decode cX8_at 53 = .ok (.aload_n 0, 1) := by decide +kernel
theorem dX8_at_54 : decode cX8_at 54 = .ok (.getfield 97, 3) := by decide +kernel
theorem dX8_at_57 : decode cX8_at 57 = .ok (.if_icmp .ge 28, 3) := by decide +kernel
theorem dX8_at_60 : decode cX8_at 60 = .ok (.iload_n 2, 1) := by decide +kernel
theorem dX8_at_61 : decode cX8_at 61 = .ok (.iload_n 1, 1) := by decide +kernel
theorem dX8_at_62 : decode cX8_at 62 = .ok (.iconst 2, 1) := by decide +kernel
theorem dX8_at_63 : decode cX8_at 63 = .ok (.irem, 1) := by decide +kernel
theorem dX8_at_64 : decode cX8_at 64 = .ok (.ifCond .ne 12, 3) := by decide +kernel
theorem dX8_at_67 : decode cX8_at 67 = .ok (.aload_n 0, 1) := by decide +kernel
theorem dX8_at_68 : decode cX8_at 68 = .ok (.getfield 16, 3) := by decide +kernel
theorem dX8_at_71 : decode cX8_at 71 = .ok (.iload_n 3, 1) := by decide +kernel
theorem dX8_at_72 : decode cX8_at 72 = .ok (.iaload, 1) := by decide +kernel
theorem dX8_at_73 : decode cX8_at 73 = .ok (.goto 9, 3) := by decide +kernel
theorem dX8_at_76 : decode cX8_at 76 = .ok (.aload_n 0, 1) := by decide +kernel
theorem dX8_at_77 : decode cX8_at 77 = .ok (.getfield 19, 3) := by decide +kernel
theorem dX8_at_80 : decode cX8_at 80 = .ok (.iload_n 3, 1) := by decide +kernel
theorem dX8_at_81 : decode cX8_at 81 = .ok (.iaload, 1) := by decide +kernel
theorem dX8_at_82 : decode cX8_at 82 = .ok (.if_icmp .lt 5, 3) := by decide +kernel
theorem dX8_at_85 : decode cX8_at 85 = .ok (.iconst (-1), 1) := by decide +kernel
theorem dX8_at_86 : decode cX8_at 86 = .ok (.ireturn, 1) := by decide +kernel
theorem dX8_at_87 : decode cX8_at 87 = .ok (.iload_n 1, 1) := by decide +kernel
theorem dX8_at_88 : decode cX8_at 88 = .ok (.iconst 2, 1) := by decide +kernel
theorem dX8_at_89 : decode cX8_at 89 = .ok (.irem, 1) := by decide +kernel
theorem dX8_at_90 : decode cX8_at 90 = .ok (.ifCond .ne 17, 3) := by decide +kernel
theorem dX8_at_93 : decode cX8_at 93 = .ok (.aload_n 0, 1) := by decide +kernel
theorem dX8_at_94 : decode cX8_at 94 = .ok (.getfield 7, 3) := by decide +kernel
theorem dX8_at_97 : decode cX8_at 97 = .ok (.bipush 40, 2) := by decide +kernel
theorem dX8_at_99 : decode cX8_at 99 = .ok (.iload_n 3, 1) := by decide +kernel
theorem dX8_at_100 : decode cX8_at 100 = .ok (.imul, 1) := by decide +kernel
theorem dX8_at_101 : decode cX8_at 101 = .ok (.iload_n 2, 1) := by decide +kernel
theorem dX8_at_102 : decode cX8_at 102 = .ok (.iadd, 1) := by decide +kernel
theorem dX8_at_103 : decode cX8_at 103 = .ok (.iaload, 1) := by decide +kernel
theorem dX8_at_104 : decode cX8_at 104 = .ok (.goto 14, 3) := by decide +kernel
theorem dX8_at_107 : decode cX8_at 107 = .ok (.aload_n 0, 1) := by decide +kernel
theorem dX8_at_108 : decode cX8_at 108 = .ok (.getfield 13, 3) := by decide +kernel
theorem dX8_at_111 : decode cX8_at 111 = .ok (.bipush 40, 2) := by decide +kernel
theorem dX8_at_113 : decode cX8_at 113 = .ok (.iload_n 3, 1) := by decide +kernel
theorem dX8_at_114 : decode cX8_at 114 = .ok (.imul, 1) := by decide +kernel
theorem dX8_at_115 : decode cX8_at 115 = .ok (.iload_n 2, 1) := by decide +kernel
theorem dX8_at_116 : decode cX8_at 116 = .ok (.iadd, 1) := by decide +kernel
theorem dX8_at_117 : decode cX8_at 117 = .ok (.iaload, 1) := by decide +kernel
theorem dX8_at_118 : decode cX8_at 118 = .ok (.ireturn, 1) := by decide +kernel
set_option maxHeartbeats 4000000 in
set_option maxRecDepth 100000 in
theorem ggX8_order_X8_reduced : GoodIn wsX8_order wsX8_reduced := goodIn_r _ [9, 10, 11, 12, 13, 14, 15, 16, 8, 17, 18, 19, 20, 21, 22, 23, 24, 25, 26, 27, 28, 29, 30, 31, 32, 33, 34, 35, 36, 37, 38, 39, 40, 41, 42, 43, 44, 45, 46, 47, 48, 49, 50, 51, 52, 53] (by first | rfl | decide +kernel) (by decide +kernel)
set_option maxRecDepth 20000 in
theorem gX8_order_X8_reduced : GoodIn wsX8_order (wsV RX8 123 RX8 yX8_reduced wsX8_reduced) := goodIn_app (goodIn_of _ (by decide +kernel)) ggX8_order_X8_reduced
theorem dX8_order_0 : decode cX8_order 0 = .ok (.aload_n 0, 1) := by decide +kernel
theorem dX8_order_1 : decode cX8_order 1 = .ok (.iconst 0, 1) := by decide +kernel
theorem dX8_order_2 : decode cX8_order 2 = .ok (.putfield 90, 3) := by decide +kernel
theorem dX8_order_5 : decode cX8_order 5 = .ok (.iconst 0, 1) := by decide +kernel
theorem dX8_order_6 : decode cX8_order 6 = .ok (.istore_n 1, 1) := by decide +kernel
theorem dX8_order_7 : decode cX8_order 7 = .ok (.iconst 1, 1) := by decide +kernel
theorem dX8_order_8 : decode cX8_order 8 = .ok (.istore_n 2, 1) := by decide +kernel
theorem dX8_order_9 : decode cX8_order 9 = .ok (.iload_n 2, 1) := by decide +kernel
theorem dX8_order_10 : decode cX8_order 10 = .ok (.sipush 200, 3) := by decide +kernel
theorem dX8_order_13 : decode cX8_order 13 = .ok (.if_icmp .gt 79, 3) := by decide +kernel
theorem dX8_order_16 : decode cX8_order 16 = .ok (.iload_n 1, 1) := by decide +kernel
theorem dX8_order_17 : decode cX8_order 17 = .ok (.aload_n 0, 1) := by decide +kernel
theorem dX8_order_18 : decode cX8_order 18 = .ok (.getfield 38, 3) := by decide +kernel
theorem dX8_order_21 : decode cX8_order 21 = .ok (.iconst 0, 1) := by decide +kernel
theorem dX8_order_22 : decode cX8_order 22 = .ok (.iaload, 1) := by decide +kernel
theorem dX8_order_23 : decode cX8_order 23 = .ok (.iadd, 1) := by decide +kernel
theorem dX8_order_24 : decode cX8_order 24 = .ok (.bipush 40, 2) := by decide +kernel
theorem dX8_order_26 : decode cX8_order 26 = .ok (.if_icmp .le 5, 3) := by decide +kernel
theorem dX8_order_29 : decode cX8_order 29 = .ok (.iconst (-1), 1) := by decide +kernel
theorem dX8_order_30 : decode cX8_order 30 = .ok (.ireturn, 1) := by decide +kernel
theorem dX8_order_31 : decode cX8_order 31 = .ok (.iconst 0, 1) := by decide +kernel
theorem dX8_order_32 : decode cX8_order 32 = .ok (.istore_n 3, 1) := by decide +kernel
theorem dX8_order_33 : decode cX8_order 33 = .ok (.iload_n 3, 1) := by decide +kernel
theorem dX8_order_34 : decode cX8_order 34 = .ok (.aload_n 0, 1) := by decide +kernel
theorem dX8_order_35 : decode cX8_order 35 = .ok (.getfield 38, 3) := by decide +kernel
theorem dX8_order_38 : decode cX8_order 38 = .ok (.iconst 0, 1) := by decide +kernel
theorem dX8_order_39 : decode cX8_order 39 = .ok (.iaload, 1) := by decide +kernel
theorem dX8_order_40 : decode cX8_order 40 = .ok (.if_icmp .ge 23, 3) := by decide +kernel
theorem dX8_order_43 : decode cX8_order 43 = .ok (.aload_n 0, 1) := by decide +kernel
theorem dX8_order_44 : decode cX8_order 44 = .ok (.getfield 41, 3) := by decide +kernel
theorem dX8_order_47 : decode cX8_order 47 = .ok (.iload_n 1, 1) := by decide +kernel
theorem dX8_order_48 : decode cX8_order 48 = .ok (.iload_n 3, 1) := by decide +kernel
theorem dX8_order_49 : decode cX8_order 49 = .ok (.iadd, 1) := by decide +kernel
theorem dX8_order_50 : decode cX8_order 50 = .ok (.aload_n 0, 1) := by decide +kernel
theorem dX8_order_51 : decode cX8_order 51 = .ok (.getfield 35, 3) := by decide +kernel
theorem dX8_order_54 : decode cX8_order 54 = .ok (.iload_n 3, 1) := by decide +kernel
theorem dX8_order_55 : decode cX8_order 55 = .ok (.iaload, 1) := by decide +kernel
theorem dX8_order_56 : decode cX8_order 56 = .ok (.iastore, 1) := by decide +kernel
theorem dX8_order_57 : decode cX8_order 57 = .ok (.iinc 3 1, 3) := by decide +kernel
theorem dX8_order_60 : decode cX8_order 60 = .ok (.goto (-27), 3) := by decide +kernel
theorem dX8_order_63 : decode cX8_order 63 = .ok (.aload_n 0, 1) := by decide +kernel
theorem dX8_order_64 : decode cX8_order 64 = .ok (.aload_n 0, 1) := by decide +kernel
theorem dX8_order_65 : decode cX8_order 65 = .ok (.getfield 41, 3) := by decide +kernel
theorem dX8_order_68 : decode cX8_order 68 = .ok (.iload_n 1, 1) := by decide +kernel
theorem dX8_order_69 : decode cX8_order 69 = .ok (.aload_n 0, 1) := by decide +kernel
theorem dX8_order_70 : decode cX8_order 70 = .ok (.getfield 38, 3) := by decide +kernel
theorem dX8_order_73 : decode cX8_order 73 = .ok (.iconst 0, 1) := by decide +kernel
theorem dX8_order_74 : decode cX8_order 74 = .ok (.iaload, 1) := by decide +kernel
theorem dX8_order_75 : decode cX8_order 75 = .ok (.iadd, 1) := by decide +kernel
theorem dX8_order_76 : decode cX8_order 76 = .ok (.invokevirtual 123, 3) := by decide +kernel
theorem dX8_order_79 : decode cX8_order 79 = .ok (.istore_n 1, 1) := by decide +kernel
theorem dX8_order_80 : decode cX8_order 80 = .ok (.iload_n 1, 1) := by decide +kernel
theorem dX8_order_81 : decode cX8_order 81 = .ok (.ifCond .ne 5, 3) := by decide +kernel
theorem dX8_order_84 : decode cX8_order 84 = .ok (.iload_n 2, 1) := by decide +kernel
theorem dX8_order_85 : decode cX8_order 85 = .ok (.ireturn, 1) := by decide +kernel
theorem dX8_order_86 : decode cX8_order 86 = .ok (.iinc 2 1, 3) := by decide +kernel
theorem dX8_order_89 : decode cX8_order 89 = .ok (.goto (-80), 3) := by decide +kernel
theorem dX8_order_92 : decode cX8_order 92 = .ok (.iconst (-1), 1) := by decide +kernel
theorem dX8_order_93 : decode cX8_order 93 = .ok (.ireturn, 1) := by decide +kernel
set_option maxHeartbeats 4000000 in
set_option maxRecDepth 100000 in
theorem ggX8_lay_X8_grown : GoodIn wsX8_lay wsX8_grown := goodIn_r _ [17, 4, 1, 10, 9, 3, 2, 22, 23, 24, 25, 26, 27, 28, 29, 30, 31, 32, 33, 34, 35, 36, 37, 38, 39, 40, 41, 42, 43, 44, 45, 46, 47, 48, 49, 50, 51, 52, 53, 54, 55, 56] (by first | rfl | decide +kernel) (by decide +kernel)
set_option maxRecDepth 20000 in
theorem gX8_lay_X8_grown : GoodIn wsX8_lay (wsV RX8 175 RX8 yX8_grown wsX8_grown) := goodIn_app (goodIn_of _ (by decide +kernel)) ggX8_lay_X8_grown
set_option maxHeartbeats 4000000 in
set_option maxRecDepth 100000 in
theorem ggX8_lay_X8_reached : GoodIn wsX8_lay wsX8_reached := goodIn_r _ [21, 4, 8, 2, 22, 23, 24, 25, 26, 27, 28, 29, 30, 31, 32, 33, 34, 35, 36, 37, 38, 39, 40, 41, 42, 43, 44, 45, 46, 47, 48, 49, 50, 51, 52, 53, 54, 55, 56] (by first | rfl | decide +kernel) (by decide +kernel)
set_option maxRecDepth 20000 in
theorem gX8_lay_X8_reached : GoodIn wsX8_lay (wsV RX8 179 RX8 yX8_reached wsX8_reached) := goodIn_app (goodIn_of _ (by decide +kernel)) ggX8_lay_X8_reached
theorem dX8_lay_0 : decode cX8_lay 0 = .ok (.aload_n 0, 1) := by decide +kernel
theorem dX8_lay_1 : decode cX8_lay 1 = .ok (.iconst 1, 1) := by decide +kernel
theorem dX8_lay_2 : decode cX8_lay 2 = .ok (.putfield 172, 3) := by decide +kernel
theorem dX8_lay_5 : decode cX8_lay 5 = .ok (.aload_n 0, 1) := by decide +kernel
theorem dX8_lay_6 : decode cX8_lay 6 = .ok (.getfield 65, 3) := by decide +kernel
theorem dX8_lay_9 : decode cX8_lay 9 = .ok (.iconst 0, 1) := by decide +kernel
theorem dX8_lay_10 : decode cX8_lay 10 = .ok (.iconst 0, 1) := by decide +kernel
theorem dX8_lay_11 : decode cX8_lay 11 = .ok (.bastore, 1) := by decide +kernel
theorem dX8_lay_12 : decode cX8_lay 12 = .ok (.aload_n 0, 1) := by decide +kernel
theorem dX8_lay_13 : decode cX8_lay 13 = .ok (.getfield 56, 3) := by decide +kernel
theorem dX8_lay_16 : decode cX8_lay 16 = .ok (.iconst 0, 1) := by decide +kernel
theorem dX8_lay_17 : decode cX8_lay 17 = .ok (.iconst 0, 1) := by decide +kernel
theorem dX8_lay_18 : decode cX8_lay 18 = .ok (.iastore, 1) := by decide +kernel
theorem dX8_lay_19 : decode cX8_lay 19 = .ok (.iconst 0, 1) := by decide +kernel
theorem dX8_lay_20 : decode cX8_lay 20 = .ok (.istore_n 1, 1) := by decide +kernel
theorem dX8_lay_21 : decode cX8_lay 21 = .ok (.iload_n 1, 1) := by decide +kernel
theorem dX8_lay_22 : decode cX8_lay 22 = .ok (.bipush 6, 2) := by decide +kernel
theorem dX8_lay_24 : decode cX8_lay 24 = .ok (.if_icmp .ge 16, 3) := by decide +kernel
theorem dX8_lay_27 : decode cX8_lay 27 = .ok (.aload_n 0, 1) := by decide +kernel
theorem dX8_lay_28 : decode cX8_lay 28 = .ok (.getfield 47, 3) := by decide +kernel
theorem dX8_lay_31 : decode cX8_lay 31 = .ok (.iload_n 1, 1) := by decide +kernel
theorem dX8_lay_32 : decode cX8_lay 32 = .ok (.iconst (-1), 1) := by decide +kernel
theorem dX8_lay_33 : decode cX8_lay 33 = .ok (.iastore, 1) := by decide +kernel
theorem dX8_lay_34 : decode cX8_lay 34 = .ok (.iinc 1 1, 3) := by decide +kernel
theorem dX8_lay_37 : decode cX8_lay 37 = .ok (.goto (-16), 3) := by decide +kernel
theorem dX8_lay_40 : decode cX8_lay 40 = .ok (.iconst 0, 1) := by decide +kernel
theorem dX8_lay_41 : decode cX8_lay 41 = .ok (.istore_n 1, 1) := by decide +kernel
theorem dX8_lay_42 : decode cX8_lay 42 = .ok (.iload_n 1, 1) := by decide +kernel
theorem dX8_lay_43 : decode cX8_lay 43 = .ok (.aload_n 0, 1) := by decide +kernel
theorem dX8_lay_44 : decode cX8_lay 44 = .ok (.getfield 97, 3) := by decide +kernel
theorem dX8_lay_47 : decode cX8_lay 47 = .ok (.if_icmp .ge 53, 3) := by decide +kernel
theorem dX8_lay_50 : decode cX8_lay 50 = .ok (.iconst 0, 1) := by decide +kernel
theorem dX8_lay_51 : decode cX8_lay 51 = .ok (.istore_n 2, 1) := by decide +kernel
theorem dX8_lay_52 : decode cX8_lay 52 = .ok (.iconst 0, 1) := by decide +kernel
theorem dX8_lay_53 : decode cX8_lay 53 = .ok (.istore_n 3, 1) := by decide +kernel
theorem dX8_lay_54 : decode cX8_lay 54 = .ok (.iload_n 3, 1) := by decide +kernel
theorem dX8_lay_55 : decode cX8_lay 55 = .ok (.aload_n 0, 1) := by decide +kernel
theorem dX8_lay_56 : decode cX8_lay 56 = .ok (.getfield 16, 3) := by decide +kernel
theorem dX8_lay_59 : decode cX8_lay 59 = .ok (.iload_n 1, 1) := by decide +kernel
theorem dX8_lay_60 : decode cX8_lay 60 = .ok (.iaload, 1) := by decide +kernel
theorem dX8_lay_61 : decode cX8_lay 61 = .ok (.if_icmp .ge 26, 3) := by decide +kernel
theorem dX8_lay_64 : decode cX8_lay 64 = .ok (.aload_n 0, 1) := by decide +kernel
theorem dX8_lay_65 : decode cX8_lay 65 = .ok (.iload_n 2, 1) := by decide +kernel
theorem dX8_lay_66 : decode cX8_lay 66 = .ok (.aload_n 0, 1) := by decide +kernel
theorem dX8_lay_67 : decode cX8_lay 67 = .ok (.getfield 7, 3) := by decide +kernel
theorem dX8_lay_70 : decode cX8_lay 70 = .ok (.bipush 40, 2) := by decide +kernel
theorem dX8_lay_72 : decode cX8_lay 72 = .ok (.iload_n 1, 1) := by decide +kernel
theorem dX8_lay_73 : decode cX8_lay 73 = .ok (.imul, 1) := by decide +kernel
theorem dX8_lay_74 : decode cX8_lay 74 = .ok (.iload_n 3, 1) := by decide +kernel
theorem dX8_lay_75 : decode cX8_lay 75 = .ok (.iadd, 1) := by decide +kernel
theorem dX8_lay_76 : decode cX8_lay 76 = .ok (.iaload, 1) := by decide +kernel
theorem dX8_lay_77 : decode cX8_lay 77 = .ok (.invokevirtual 175, 3) := by decide +kernel
theorem dX8_lay_80 : decode cX8_lay 80 = .ok (.istore_n 2, 1) := by decide +kernel
theorem dX8_lay_81 : decode cX8_lay 81 = .ok (.iinc 3 1, 3) := by decide +kernel
theorem dX8_lay_84 : decode cX8_lay 84 = .ok (.goto (-30), 3) := by decide +kernel
theorem dX8_lay_87 : decode cX8_lay 87 = .ok (.aload_n 0, 1) := by decide +kernel
theorem dX8_lay_88 : decode cX8_lay 88 = .ok (.getfield 65, 3) := by decide +kernel
theorem dX8_lay_91 : decode cX8_lay 91 = .ok (.iload_n 2, 1) := by decide +kernel
theorem dX8_lay_92 : decode cX8_lay 92 = .ok (.iconst 1, 1) := by decide +kernel
theorem dX8_lay_93 : decode cX8_lay 93 = .ok (.bastore, 1) := by decide +kernel
theorem dX8_lay_94 : decode cX8_lay 94 = .ok (.iinc 1 1, 3) := by decide +kernel
theorem dX8_lay_97 : decode cX8_lay 97 = .ok (.goto (-55), 3) := by decide +kernel
theorem dX8_lay_100 : decode cX8_lay 100 = .ok (.iconst 0, 1) := by decide +kernel
theorem dX8_lay_101 : decode cX8_lay 101 = .ok (.istore_n 1, 1) := by decide +kernel
theorem dX8_lay_102 : decode cX8_lay 102 = .ok (.iload_n 1, 1) := by decide +kernel
theorem dX8_lay_103 : decode cX8_lay 103 = .ok (.aload_n 0, 1) := by decide +kernel
theorem dX8_lay_104 : decode cX8_lay 104 = .ok (.getfield 172, 3) := by decide +kernel
theorem dX8_lay_107 : decode cX8_lay 107 = .ok (.if_icmp .ge 99, 3) := by decide +kernel
theorem dX8_lay_110 : decode cX8_lay 110 = .ok (.aload_n 0, 1) := by decide +kernel
theorem dX8_lay_111 : decode cX8_lay 111 = .ok (.getfield 56, 3) := by decide +kernel
theorem dX8_lay_114 : decode cX8_lay 114 = .ok (.iload_n 1, 1) := by decide +kernel
theorem dX8_lay_115 : decode cX8_lay 115 = .ok (.iaload, 1) := by decide +kernel
theorem dX8_lay_116 : decode cX8_lay 116 = .ok (.istore_n 2, 1) := by decide +kernel
theorem dX8_lay_117 : decode cX8_lay 117 = .ok (.iload_n 1, 1) := by decide +kernel
theorem dX8_lay_118 : decode cX8_lay 118 = .ok (.istore_n 3, 1) := by decide +kernel
theorem dX8_lay_119 : decode cX8_lay 119 = .ok (.iload_n 2, 1) := by decide +kernel
theorem dX8_lay_120 : decode cX8_lay 120 = .ok (.iconst 1, 1) := by decide +kernel
theorem dX8_lay_121 : decode cX8_lay 121 = .ok (.isub, 1) := by decide +kernel
theorem dX8_lay_122 : decode cX8_lay 122 = .ok (.istore 4, 2) := by decide +kernel
theorem dX8_lay_124 : decode cX8_lay 124 = .ok (.iload 4, 2) := by decide +kernel
theorem dX8_lay_126 : decode cX8_lay 126 = .ok (.ifCond .lt 29, 3) := by decide +kernel
theorem dX8_lay_129 : decode cX8_lay 129 = .ok (.aload_n 0, 1) := by decide +kernel
theorem dX8_lay_130 : decode cX8_lay 130 = .ok (.getfield 62, 3) := by decide +kernel
theorem dX8_lay_133 : decode cX8_lay 133 = .ok (.iload 4, 2) := by decide +kernel
theorem dX8_lay_135 : decode cX8_lay 135 = .ok (.aload_n 0, 1) := by decide +kernel
theorem dX8_lay_136 : decode cX8_lay 136 = .ok (.getfield 53, 3) := by decide +kernel
theorem dX8_lay_139 : decode cX8_lay 139 = .ok (.iload_n 3, 1) := by decide +kernel
theorem dX8_lay_140 : decode cX8_lay 140 = .ok (.iaload, 1) := by decide +kernel
theorem dX8_lay_141 : decode cX8_lay 141 = .ok (.iastore, 1) := by decide +kernel
theorem dX8_lay_142 : decode cX8_lay 142 = .ok (.aload_n 0, 1) := by decide +kernel
theorem dX8_lay_143 : decode cX8_lay 143 = .ok (.getfield 50, 3) := by decide +kernel
theorem dX8_lay_146 : decode cX8_lay 146 = .ok (.iload_n 3, 1) := by decide +kernel
theorem dX8_lay_147 : decode cX8_lay 147 = .ok (.iaload, 1) := by decide +kernel
theorem dX8_lay_148 : decode cX8_lay 148 = .ok (.istore_n 3, 1) := by decide +kernel
theorem dX8_lay_149 : decode cX8_lay 149 = .ok (.iinc 4 (-1), 3) := by decide +kernel
theorem dX8_lay_152 : decode cX8_lay 152 = .ok (.goto (-28), 3) := by decide +kernel
theorem dX8_lay_155 : decode cX8_lay 155 = .ok (.iconst 0, 1) := by decide +kernel
theorem dX8_lay_156 : decode cX8_lay 156 = .ok (.istore 4, 2) := by decide +kernel
theorem dX8_lay_158 : decode cX8_lay 158 = .ok (.iload 4, 2) := by decide +kernel
theorem dX8_lay_160 : decode cX8_lay 160 = .ok (.aload_n 0, 1) := by decide +kernel
theorem dX8_lay_161 : decode cX8_lay 161 = .ok (.getfield 86, 3) := by decide +kernel
theorem dX8_lay_164 : decode cX8_lay 164 = .ok (.if_icmp .ge 36, 3) := by decide +kernel
theorem dX8_lay_167 : decode cX8_lay 167 = .ok (.aload_n 0, 1) := by decide +kernel
theorem dX8_lay_168 : decode cX8_lay 168 = .ok (.getfield 62, 3) := by decide +kernel
theorem dX8_lay_171 : decode cX8_lay 171 = .ok (.iload_n 2, 1) := by decide +kernel
theorem dX8_lay_172 : decode cX8_lay 172 = .ok (.iload 4, 2) := by decide +kernel
theorem dX8_lay_174 : decode cX8_lay 174 = .ok (.iastore, 1) := by decide +kernel
theorem dX8_lay_175 : decode cX8_lay 175 = .ok (.aload_n 0, 1) := by decide +kernel
theorem dX8_lay_176 : decode cX8_lay 176 = .ok (.getfield 59, 3) := by decide +kernel
theorem dX8_lay_179 : decode cX8_lay 179 = .ok (.bipush 6, 2) := by decide +kernel
theorem dX8_lay_181 : decode cX8_lay 181 = .ok (.iload_n 1, 1) := by decide +kernel
theorem dX8_lay_182 : decode cX8_lay 182 = .ok (.imul, 1) := by decide +kernel
theorem dX8_lay_183 : decode cX8_lay 183 = .ok (.iload 4, 2) := by decide +kernel
theorem dX8_lay_185 : decode cX8_lay 185 = .ok (.iadd, 1) := by decide +kernel
theorem dX8_lay_186 : decode cX8_lay 186 = .ok (.aload_n 0, 1) := by decide +kernel
theorem dX8_lay_187 : decode cX8_lay 187 = .ok (.iload_n 2, 1) := by decide +kernel
theorem dX8_lay_188 : decode cX8_lay 188 = .ok (.iconst 1, 1) := by decide +kernel
theorem dX8_lay_189 : decode cX8_lay 189 = .ok (.iadd, 1) := by decide +kernel
theorem dX8_lay_190 : decode cX8_lay 190 = .ok (.invokevirtual 179, 3) := by decide +kernel
theorem dX8_lay_193 : decode cX8_lay 193 = .ok (.iastore, 1) := by decide +kernel
theorem dX8_lay_194 : decode cX8_lay 194 = .ok (.iinc 4 1, 3) := by decide +kernel
theorem dX8_lay_197 : decode cX8_lay 197 = .ok (.goto (-39), 3) := by decide +kernel
theorem dX8_lay_200 : decode cX8_lay 200 = .ok (.iinc 1 1, 3) := by decide +kernel
theorem dX8_lay_203 : decode cX8_lay 203 = .ok (.goto (-101), 3) := by decide +kernel
theorem dX8_lay_206 : decode cX8_lay 206 = .ok (.return_, 1) := by decide +kernel
theorem dX8_grown_0 : decode cX8_grown 0 = .ok (.aload_n 0, 1) := by decide +kernel
theorem dX8_grown_1 : decode cX8_grown 1 = .ok (.getfield 47, 3) := by decide +kernel
theorem dX8_grown_4 : decode cX8_grown 4 = .ok (.bipush 6, 2) := by decide +kernel
theorem dX8_grown_6 : decode cX8_grown 6 = .ok (.iload_n 1, 1) := by decide +kernel
theorem dX8_grown_7 : decode cX8_grown 7 = .ok (.imul, 1) := by decide +kernel
theorem dX8_grown_8 : decode cX8_grown 8 = .ok (.iload_n 2, 1) := by decide +kernel
theorem dX8_grown_9 : decode cX8_grown 9 = .ok (.iadd, 1) := by decide +kernel
theorem dX8_grown_10 : decode cX8_grown 10 = .ok (.iaload, 1) := by decide +kernel
theorem dX8_grown_11 : decode cX8_grown 11 = .ok (.iconst (-1), 1) := by decide +kernel
theorem dX8_grown_12 : decode cX8_grown 12 = .ok (.if_icmp .eq 15, 3) := by decide +kernel
theorem dX8_grown_15 : decode cX8_grown 15 = .ok (.aload_n 0, 1) := by decide +kernel
theorem dX8_grown_16 : decode cX8_grown 16 = .ok (.getfield 47, 3) := by decide +kernel
theorem dX8_grown_19 : decode cX8_grown 19 = .ok (.bipush 6, 2) := by decide +kernel
theorem dX8_grown_21 : decode cX8_grown 21 = .ok (.iload_n 1, 1) := by decide +kernel
theorem dX8_grown_22 : decode cX8_grown 22 = .ok (.imul, 1) := by decide +kernel
theorem dX8_grown_23 : decode cX8_grown 23 = .ok (.iload_n 2, 1) := by decide +kernel
theorem dX8_grown_24 : decode cX8_grown 24 = .ok (.iadd, 1) := by decide +kernel
theorem dX8_grown_25 : decode cX8_grown 25 = .ok (.iaload, 1) := by decide +kernel
theorem dX8_grown_26 : decode cX8_grown 26 = .ok (.ireturn, 1) := by decide +kernel
theorem dX8_grown_27 : decode cX8_grown 27 = .ok (.aload_n 0, 1) := by decide +kernel
theorem dX8_grown_28 : decode cX8_grown 28 = .ok (.getfield 172, 3) := by decide +kernel
theorem dX8_grown_31 : decode cX8_grown 31 = .ok (.istore_n 3, 1) := by decide +kernel
theorem dX8_grown_32 : decode cX8_grown 32 = .ok (.aload_n 0, 1) := by decide +kernel
theorem dX8_grown_33 : decode cX8_grown 33 = .ok (.dup, 1) := by decide +kernel
theorem dX8_grown_34 : decode cX8_grown 34 = .ok (.getfield 172, 3) := by decide +kernel
theorem dX8_grown_37 : decode cX8_grown 37 = .ok (.iconst 1, 1) := by decide +kernel
theorem dX8_grown_38 : decode cX8_grown 38 = .ok (.iadd, 1) := by decide +kernel
theorem dX8_grown_39 : decode cX8_grown 39 = .ok (.putfield 172, 3) := by decide +kernel
theorem dX8_grown_42 : decode cX8_grown 42 = .ok (.aload_n 0, 1) := by decide +kernel
theorem dX8_grown_43 : decode cX8_grown 43 = .ok (.getfield 47, 3) := by decide +kernel
theorem dX8_grown_46 : decode cX8_grown 46 = .ok (.bipush 6, 2) := by decide +kernel
theorem dX8_grown_48 : decode cX8_grown 48 = .ok (.iload_n 1, 1) := by decide +kernel
theorem dX8_grown_49 : decode cX8_grown 49 = .ok (.imul, 1) := by decide +kernel
theorem dX8_grown_50 : decode cX8_grown 50 = .ok (.iload_n 2, 1) := by decide +kernel
theorem dX8_grown_51 : decode cX8_grown 51 = .ok (.iadd, 1) := by decide +kernel
theorem dX8_grown_52 : decode cX8_grown 52 = .ok (.iload_n 3, 1) := by decide +kernel
theorem dX8_grown_53 : decode cX8_grown 53 = .ok (.iastore, 1) := by decide +kernel
theorem dX8_grown_54 : decode cX8_grown 54 = .ok (.iconst 0, 1) := by decide +kernel
theorem dX8_grown_55 : decode cX8_grown 55 = .ok (.istore 4, 2) := by decide +kernel
theorem dX8_grown_57 : decode cX8_grown 57 = .ok (.iload 4, 2) := by decide +kernel
theorem dX8_grown_59 : decode cX8_grown 59 = .ok (.bipush 6, 2) := by decide +kernel
theorem dX8_grown_61 : decode cX8_grown 61 = .ok (.if_icmp .ge 22, 3) := by decide +kernel
theorem dX8_grown_64 : decode cX8_grown 64 = .ok (.aload_n 0, 1) := by decide +kernel
theorem dX8_grown_65 : decode cX8_grown 65 = .ok (.getfield 47, 3) := by decide +kernel
theorem dX8_grown_68 : decode cX8_grown 68 = .ok (.bipush 6, 2) := by decide +kernel
theorem dX8_grown_70 : decode cX8_grown 70 = .ok (.iload_n 3, 1) := by decide +kernel
theorem dX8_grown_71 : decode cX8_grown 71 = .ok (.imul, 1) := by decide +kernel
theorem dX8_grown_72 : decode cX8_grown 72 = .ok (.iload 4, 2) := by decide +kernel
theorem dX8_grown_74 : decode cX8_grown 74 = .ok (.iadd, 1) := by decide +kernel
theorem dX8_grown_75 : decode cX8_grown 75 = .ok (.iconst (-1), 1) := by decide +kernel
theorem dX8_grown_76 : decode cX8_grown 76 = .ok (.iastore, 1) := by decide +kernel
theorem dX8_grown_77 : decode cX8_grown 77 = .ok (.iinc 4 1, 3) := by decide +kernel
theorem dX8_grown_80 : decode cX8_grown 80 = .ok (.goto (-23), 3) := by decide +kernel
theorem dX8_grown_83 : decode cX8_grown 83 = .ok (.aload_n 0, 1) := by decide +kernel
theorem dX8_grown_84 : decode cX8_grown 84 = .ok (.getfield 50, 3) := by decide +kernel
theorem dX8_grown_87 : decode cX8_grown 87 = .ok (.iload_n 3, 1) := by decide +kernel
theorem dX8_grown_88 : decode cX8_grown 88 = .ok (.iload_n 1, 1) := by decide +kernel
theorem dX8_grown_89 : decode cX8_grown 89 = .ok (.iastore, 1) := by decide +kernel
theorem dX8_grown_90 : decode cX8_grown 90 = .ok (.aload_n 0, 1) := by decide +kernel
theorem dX8_grown_91 : decode cX8_grown 91 = .ok (.getfield 53, 3) := by decide +kernel
theorem dX8_grown_94 : decode cX8_grown 94 = .ok (.iload_n 3, 1) := by decide +kernel
theorem dX8_grown_95 : decode cX8_grown 95 = .ok (.iload_n 2, 1) := by decide +kernel
theorem dX8_grown_96 : decode cX8_grown 96 = .ok (.iastore, 1) := by decide +kernel
theorem dX8_grown_97 : decode cX8_grown 97 = .ok (.aload_n 0, 1) := by decide +kernel
theorem dX8_grown_98 : decode cX8_grown 98 = .ok (.getfield 56, 3) := by decide +kernel
theorem dX8_grown_101 : decode cX8_grown 101 = .ok (.iload_n 3, 1) := by decide +kernel
theorem dX8_grown_102 : decode cX8_grown 102 = .ok (.aload_n 0, 1) := by decide +kernel
theorem dX8_grown_103 : decode cX8_grown 103 = .ok (.getfield 56, 3) := by decide +kernel
theorem dX8_grown_106 : decode cX8_grown 106 = .ok (.iload_n 1, 1) := by decide +kernel
theorem dX8_grown_107 : decode cX8_grown 107 = .ok (.iaload, 1) := by decide +kernel
theorem dX8_grown_108 : decode cX8_grown 108 = .ok (.iconst 1, 1) := by decide +kernel
theorem dX8_grown_109 : decode cX8_grown 109 = .ok (.iadd, 1) := by decide +kernel
theorem dX8_grown_110 : decode cX8_grown 110 = .ok (.iastore, 1) := by decide +kernel
theorem dX8_grown_111 : decode cX8_grown 111 = .ok (.aload_n 0, 1) := by decide +kernel
theorem dX8_grown_112 : decode cX8_grown 112 = .ok (.getfield 65, 3) := by decide +kernel
theorem dX8_grown_115 : decode cX8_grown 115 = .ok (.iload_n 3, 1) := by decide +kernel
theorem dX8_grown_116 : decode cX8_grown 116 = .ok (.iconst 0, 1) := by decide +kernel
theorem dX8_grown_117 : decode cX8_grown 117 = .ok (.bastore, 1) := by decide +kernel
theorem dX8_grown_118 : decode cX8_grown 118 = .ok (.iload_n 3, 1) := by decide +kernel
theorem dX8_grown_119 : decode cX8_grown 119 = .ok (.ireturn, 1) := by decide +kernel
theorem dX8_reached_0 : decode cX8_reached 0 = .ok (.iconst (-1), 1) := by decide +kernel
theorem dX8_reached_1 : decode cX8_reached 1 = .ok (.istore_n 2, 1) := by decide +kernel
theorem dX8_reached_2 : decode cX8_reached 2 = .ok (.iconst 0, 1) := by decide +kernel
theorem dX8_reached_3 : decode cX8_reached 3 = .ok (.istore_n 3, 1) := by decide +kernel
theorem dX8_reached_4 : decode cX8_reached 4 = .ok (.iload_n 3, 1) := by decide +kernel
theorem dX8_reached_5 : decode cX8_reached 5 = .ok (.iload_n 1, 1) := by decide +kernel
theorem dX8_reached_6 : decode cX8_reached 6 = .ok (.if_icmp .gt 86, 3) := by decide +kernel
theorem dX8_reached_9 : decode cX8_reached 9 = .ok (.iconst 0, 1) := by decide +kernel
theorem dX8_reached_10 : decode cX8_reached 10 = .ok (.istore 4, 2) := by decide +kernel
theorem dX8_reached_12 : decode cX8_reached 12 = .ok (.iload_n 3, 1) := by decide +kernel
theorem dX8_reached_13 : decode cX8_reached 13 = .ok (.istore 5, 2) := by decide +kernel
theorem dX8_reached_15 : decode cX8_reached 15 = .ok (.iload 5, 2) := by decide +kernel
theorem dX8_reached_17 : decode cX8_reached 17 = .ok (.iload_n 1, 1) := by decide +kernel
theorem dX8_reached_18 : decode cX8_reached 18 = .ok (.if_icmp .ge 35, 3) := by decide +kernel
theorem dX8_reached_21 : decode cX8_reached 21 = .ok (.iload 4, 2) := by decide +kernel
theorem dX8_reached_23 : decode cX8_reached 23 = .ok (.iconst (-1), 1) := by decide +kernel
theorem dX8_reached_24 : decode cX8_reached 24 = .ok (.if_icmp .eq 29, 3) := by decide +kernel
theorem dX8_reached_27 : decode cX8_reached 27 = .ok (.aload_n 0, 1) := by decide +kernel
theorem dX8_reached_28 : decode cX8_reached 28 = .ok (.getfield 47, 3) := by decide +kernel
theorem dX8_reached_31 : decode cX8_reached 31 = .ok (.bipush 6, 2) := by decide +kernel
theorem dX8_reached_33 : decode cX8_reached 33 = .ok (.iload 4, 2) := by decide +kernel
theorem dX8_reached_35 : decode cX8_reached 35 = .ok (.imul, 1) := by decide +kernel
theorem dX8_reached_36 : decode cX8_reached 36 = .ok (.aload_n 0, 1) := by decide +kernel
theorem dX8_reached_37 : decode cX8_reached 37 = .ok (.getfield 62, 3) := by decide +kernel
theorem dX8_reached_40 : decode cX8_reached 40 = .ok (.iload 5, 2) := by decide +kernel
theorem dX8_reached_42 : decode cX8_reached 42 = .ok (.iaload, 1) := by decide +kernel
theorem dX8_reached_43 : decode cX8_reached 43 = .ok (.iadd, 1) := by decide +kernel
theorem dX8_reached_44 : decode cX8_reached 44 = .ok (.iaload, 1) := by decide +kernel
theorem dX8_reached_45 : decode cX8_reached 45 = .ok (.istore 4, 2) := by decide +kernel
theorem dX8_reached_47 : decode cX8_reached 47 = .ok (.iinc 5 1, 3) := by decide +kernel
theorem dX8_reached_50 : decode cX8_reached 50 = .ok (.goto (-35), 3) := by decide +kernel
theorem dX8_reached_53 : decode cX8_reached 53 = .ok (.iload 4, 2) := by decide +kernel
theorem dX8_reached_55 : decode cX8_reached 55 = .ok (.iconst (-1), 1) := by decide +kernel
theorem dX8_reached_56 : decode cX8_reached 56 = .ok (.if_icmp .ne 6, 3) := by decide +kernel
theorem dX8_reached_59 : decode cX8_reached 59 = .ok (.goto 27, 3) := by decide +kernel
theorem dX8_reached_62 : decode cX8_reached 62 = .ok (.aload_n 0, 1) := by decide +kernel
theorem dX8_reached_63 : decode cX8_reached 63 = .ok (.getfield 65, 3) := by decide +kernel
theorem dX8_reached_66 : decode cX8_reached 66 = .ok (.iload 4, 2) := by decide +kernel
theorem dX8_reached_68 : decode cX8_reached 68 = .ok (.baload, 1) := by decide +kernel
theorem dX8_reached_69 : decode cX8_reached 69 = .ok (.ifCond .eq 5, 3) := by decide +kernel
theorem dX8_reached_72 : decode cX8_reached 72 = .ok (.iconst (-1), 1) := by decide +kernel
theorem dX8_reached_73 : decode cX8_reached 73 = .ok (.ireturn, 1) := by decide +kernel
theorem dX8_reached_74 : decode cX8_reached 74 = .ok (.iload_n 2, 1) := by decide +kernel
theorem dX8_reached_75 : decode cX8_reached 75 = .ok (.iconst (-1), 1) := by decide +kernel
theorem dX8_reached_76 : decode cX8_reached 76 = .ok (.if_icmp .ne 8, 3) := by decide +kernel
theorem dX8_reached_79 : decode cX8_reached 79 = .ok (.iload 4, 2) := by decide +kernel
theorem dX8_reached_81 : decode cX8_reached 81 = .ok (.goto 4, 3) := by decide +kernel
theorem dX8_reached_84 : decode cX8_reached 84 = .ok (.iload_n 2, 1) := by decide +kernel
theorem dX8_reached_85 : decode cX8_reached 85 = .ok (.istore_n 2, 1) := by decide +kernel
theorem dX8_reached_86 : decode cX8_reached 86 = .ok (.iinc 3 1, 3) := by decide +kernel
theorem dX8_reached_89 : decode cX8_reached 89 = .ok (.goto (-85), 3) := by decide +kernel
theorem dX8_reached_92 : decode cX8_reached 92 = .ok (.iload_n 2, 1) := by decide +kernel
theorem dX8_reached_93 : decode cX8_reached 93 = .ok (.ireturn, 1) := by decide +kernel
set_option maxHeartbeats 4000000 in
set_option maxRecDepth 100000 in
theorem ggX8_tables_X8_lay : GoodIn wsX8_tables wsX8_lay := goodIn_r _ [10, 1, 3, 11, 12, 13, 14, 15, 16, 17, 18, 4, 5, 19, 20, 21, 9, 22, 23, 24, 25, 26, 27, 28, 29, 30, 31, 32, 33, 34, 35, 36, 37, 38, 39, 40, 41, 42, 43, 44, 45, 46, 47, 48, 49, 50, 51, 52, 53, 54, 55, 56, 57, 58, 59, 60, 61] (by first | rfl | decide +kernel) (by decide +kernel)
set_option maxRecDepth 20000 in
theorem gX8_tables_X8_lay : GoodIn wsX8_tables (wsV RX8 183 RX8 yX8_lay wsX8_lay) := goodIn_app (goodIn_of _ (by decide +kernel)) ggX8_tables_X8_lay
theorem dX8_tables_0 : decode cX8_tables 0 = .ok (.aload_n 0, 1) := by decide +kernel
theorem dX8_tables_1 : decode cX8_tables 1 = .ok (.invokevirtual 183, 3) := by decide +kernel
theorem dX8_tables_4 : decode cX8_tables 4 = .ok (.iconst 0, 1) := by decide +kernel
theorem dX8_tables_5 : decode cX8_tables 5 = .ok (.istore_n 1, 1) := by decide +kernel
theorem dX8_tables_6 : decode cX8_tables 6 = .ok (.iload_n 1, 1) := by decide +kernel
theorem dX8_tables_7 : decode cX8_tables 7 = .ok (.aload_n 0, 1) := by decide +kernel
theorem dX8_tables_8 : decode cX8_tables 8 = .ok (.getfield 172, 3) := by decide +kernel
theorem dX8_tables_11 : decode cX8_tables 11 = .ok (.if_icmp .ge 29, 3) := by decide +kernel
theorem dX8_tables_14 : decode cX8_tables 14 = .ok (.aload_n 0, 1) := by decide +kernel
theorem dX8_tables_15 : decode cX8_tables 15 = .ok (.getfield 76, 3) := by decide +kernel
theorem dX8_tables_18 : decode cX8_tables 18 = .ok (.iload_n 1, 1) := by decide +kernel
theorem dX8_tables_19 : decode cX8_tables 19 = .ok (.aload_n 0, 1) := by decide +kernel
theorem dX8_tables_20 : decode cX8_tables 20 = .ok (.getfield 65, 3) := by decide +kernel
theorem dX8_tables_23 : decode cX8_tables 23 = .ok (.iload_n 1, 1) := by decide +kernel
theorem dX8_tables_24 : decode cX8_tables 24 = .ok (.baload, 1) := by decide +kernel
theorem dX8_tables_25 : decode cX8_tables 25 = .ok (.ifCond .eq 7, 3) := by decide +kernel
theorem dX8_tables_28 : decode cX8_tables 28 = .ok (.lconst 0, 1) := by decide +kernel
theorem dX8_tables_29 : decode cX8_tables 29 = .ok (.goto 4, 3) := by decide +kernel
theorem dX8_tables_32 : decode cX8_tables 32 = .ok (.lconst 1, 1) := by decide +kernel
theorem dX8_tables_33 : decode cX8_tables 33 = .ok (.lastore, 1) := by decide +kernel
theorem dX8_tables_34 : decode cX8_tables 34 = .ok (.iinc 1 1, 3) := by decide +kernel
theorem dX8_tables_37 : decode cX8_tables 37 = .ok (.goto (-31), 3) := by decide +kernel
theorem dX8_tables_40 : decode cX8_tables 40 = .ok (.iconst 1, 1) := by decide +kernel
theorem dX8_tables_41 : decode cX8_tables 41 = .ok (.istore_n 1, 1) := by decide +kernel
theorem dX8_tables_42 : decode cX8_tables 42 = .ok (.iload_n 1, 1) := by decide +kernel
theorem dX8_tables_43 : decode cX8_tables 43 = .ok (.bipush 20, 2) := by decide +kernel
theorem dX8_tables_45 : decode cX8_tables 45 = .ok (.if_icmp .gt 115, 3) := by decide +kernel
theorem dX8_tables_48 : decode cX8_tables 48 = .ok (.iconst 0, 1) := by decide +kernel
theorem dX8_tables_49 : decode cX8_tables 49 = .ok (.istore_n 2, 1) := by decide +kernel
theorem dX8_tables_50 : decode cX8_tables 50 = .ok (.iload_n 2, 1) := by decide +kernel
theorem dX8_tables_51 : decode cX8_tables 51 = .ok (.aload_n 0, 1) := by decide +kernel
theorem dX8_tables_52 : decode cX8_tables 52 = .ok (.getfield 172, 3) := by decide +kernel
theorem dX8_tables_55 : decode cX8_tables 55 = .ok (.if_icmp .ge 99, 3) := by decide +kernel
theorem dX8_tables_58 : decode cX8_tables 58 = .ok (.lconst 0, 1) := by decide +kernel
theorem dX8_tables_59 : decode cX8_tables 59 = .ok (.lstore_n 3, 1) := by decide +kernel
theorem dX8_tables_60 : decode cX8_tables 60 = .ok (.iconst 0, 1) := by decide +kernel
theorem dX8_tables_61 : decode cX8_tables 61 = .ok (.istore 5, 2) := by decide +kernel
theorem dX8_tables_63 : decode cX8_tables 63 = .ok (.iload 5, 2) := by decide +kernel
theorem dX8_tables_65 : decode cX8_tables 65 = .ok (.aload_n 0, 1) := by decide +kernel
theorem dX8_tables_66 : decode cX8_tables 66 = .ok (.getfield 86, 3) := by decide +kernel
theorem dX8_tables_69 : decode cX8_tables 69 = .ok (.if_icmp .ge 66, 3) := by decide +kernel
theorem dX8_tables_72 : decode cX8_tables 72 = .ok (.aload_n 0, 1) := by decide +kernel
theorem dX8_tables_73 : decode cX8_tables 73 = .ok (.getfield 65, 3) := by decide +kernel
theorem dX8_tables_76 : decode cX8_tables 76 = .ok (.iload_n 2, 1) := by decide +kernel
theorem dX8_tables_77 : decode cX8_tables 77 = .ok (.baload, 1) := by decide +kernel
theorem dX8_tables_78 : decode cX8_tables 78 = .ok (.ifCond .ne 57, 3) := by decide +kernel
theorem dX8_tables_81 : decode cX8_tables 81 = .ok (.lload_n 3, 1) := by decide +kernel
theorem dX8_tables_82 : decode cX8_tables 82 = .ok (.aload_n 0, 1) := by decide +kernel
theorem dX8_tables_83 : decode cX8_tables 83 = .ok (.getfield 59, 3) := by decide +kernel
theorem dX8_tables_86 : decode cX8_tables 86 = .ok (.bipush 6, 2) := by decide +kernel
theorem dX8_tables_88 : decode cX8_tables 88 = .ok (.iload_n 2, 1) := by decide +kernel
theorem dX8_tables_89 : decode cX8_tables 89 = .ok (.imul, 1) := by decide +kernel
theorem dX8_tables_90 : decode cX8_tables 90 = .ok (.iload 5, 2) := by decide +kernel
theorem dX8_tables_92 : decode cX8_tables 92 = .ok (.iadd, 1) := by decide +kernel
theorem dX8_tables_93 : decode cX8_tables 93 = .ok (.iaload, 1) := by decide +kernel
theorem dX8_tables_94 : decode cX8_tables 94 = .ok (.iconst (-1), 1) := by decide +kernel
theorem dX8_tables_95 : decode cX8_tables 95 = .ok (.if_icmp .ne 7, 3) := by decide +kernel
theorem dX8_tables_98 : decode cX8_tables 98 = .ok (.lconst 0, 1) := by decide +kernel
theorem dX8_tables_99 : decode cX8_tables 99 = .ok (.goto 28, 3) := by decide +kernel
theorem dX8_tables_102 : decode cX8_tables 102 = .ok (.aload_n 0, 1) := by decide +kernel
theorem dX8_tables_103 : decode cX8_tables 103 = .ok (.getfield 76, 3) := by decide +kernel
theorem dX8_tables_106 : decode cX8_tables 106 = .ok (.sipush 2561, 3) := by decide +kernel
theorem dX8_tables_109 : decode cX8_tables 109 = .ok (.iload_n 1, 1) := by decide +kernel
theorem dX8_tables_110 : decode cX8_tables 110 = .ok (.iconst 1, 1) := by decide +kernel
theorem dX8_tables_111 : decode cX8_tables 111 = .ok (.isub, 1) := by decide +kernel
theorem dX8_tables_112 : decode cX8_tables 112 = .ok (.imul, 1) := by decide +kernel
theorem dX8_tables_113 : decode cX8_tables 113 = .ok (.aload_n 0, 1) := by decide +kernel
theorem dX8_tables_114 : decode cX8_tables 114 = .ok (.getfield 59, 3) := by decide +kernel
theorem dX8_tables_117 : decode cX8_tables 117 = .ok (.bipush 6, 2) := by decide +kernel
theorem dX8_tables_119 : decode cX8_tables 119 = .ok (.iload_n 2, 1) := by decide +kernel
theorem dX8_tables_120 : decode cX8_tables 120 = .ok (.imul, 1) := by decide +kernel
theorem dX8_tables_121 : decode cX8_tables 121 = .ok (.iload 5, 2) := by decide +kernel
theorem dX8_tables_123 : decode cX8_tables 123 = .ok (.iadd, 1) := by decide +kernel
theorem dX8_tables_124 : decode cX8_tables 124 = .ok (.iaload, 1) := by decide +kernel
theorem dX8_tables_125 : decode cX8_tables 125 = .ok (.iadd, 1) := by decide +kernel
theorem dX8_tables_126 : decode cX8_tables 126 = .ok (.laload, 1) := by decide +kernel
theorem dX8_tables_127 : decode cX8_tables 127 = .ok (.ladd, 1) := by decide +kernel
theorem dX8_tables_128 : decode cX8_tables 128 = .ok (.lstore_n 3, 1) := by decide +kernel
theorem dX8_tables_129 : decode cX8_tables 129 = .ok (.iinc 5 1, 3) := by decide +kernel
theorem dX8_tables_132 : decode cX8_tables 132 = .ok (.goto (-69), 3) := by decide +kernel
theorem dX8_tables_135 : decode cX8_tables 135 = .ok (.aload_n 0, 1) := by decide +kernel
theorem dX8_tables_136 : decode cX8_tables 136 = .ok (.getfield 76, 3) := by decide +kernel
theorem dX8_tables_139 : decode cX8_tables 139 = .ok (.sipush 2561, 3) := by decide +kernel
theorem dX8_tables_142 : decode cX8_tables 142 = .ok (.iload_n 1, 1) := by decide +kernel
theorem dX8_tables_143 : decode cX8_tables 143 = .ok (.imul, 1) := by decide +kernel
theorem dX8_tables_144 : decode cX8_tables 144 = .ok (.iload_n 2, 1) := by decide +kernel
theorem dX8_tables_145 : decode cX8_tables 145 = .ok (.iadd, 1) := by decide +kernel
theorem dX8_tables_146 : decode cX8_tables 146 = .ok (.lload_n 3, 1) := by decide +kernel
theorem dX8_tables_147 : decode cX8_tables 147 = .ok (.lastore, 1) := by decide +kernel
theorem dX8_tables_148 : decode cX8_tables 148 = .ok (.iinc 2 1, 3) := by decide +kernel
theorem dX8_tables_151 : decode cX8_tables 151 = .ok (.goto (-101), 3) := by decide +kernel
theorem dX8_tables_154 : decode cX8_tables 154 = .ok (.iinc 1 1, 3) := by decide +kernel
theorem dX8_tables_157 : decode cX8_tables 157 = .ok (.goto (-115), 3) := by decide +kernel
theorem dX8_tables_160 : decode cX8_tables 160 = .ok (.return_, 1) := by decide +kernel
set_option maxHeartbeats 4000000 in
set_option maxRecDepth 100000 in
theorem ggX8_words_X8_fails : GoodIn wsX8_words wsX8_fails := goodIn_r _ [6, 7, 36, 37, 38, 39, 40, 41, 42, 43, 44, 45, 46, 47, 48, 49, 50, 51, 52, 53, 54, 55, 56, 57, 58, 59, 60, 61, 62, 63, 64, 65, 66, 67, 68, 69, 70] (by first | rfl | decide +kernel) (by decide +kernel)
set_option maxRecDepth 20000 in
theorem gX8_words_X8_fails : GoodIn wsX8_words (wsV RX8 93 RX8 yX8_fails wsX8_fails) := goodIn_app (goodIn_of _ (by decide +kernel)) ggX8_words_X8_fails
set_option maxHeartbeats 4000000 in
set_option maxRecDepth 100000 in
theorem ggX8_words_X8_tables : GoodIn wsX8_words wsX8_tables := goodIn_r _ [11, 12, 1, 13, 14, 15, 16, 17, 18, 5, 19, 20, 21, 22, 23, 24, 25, 26, 27, 28, 29, 30, 31, 32, 33, 34, 35, 36, 37, 38, 39, 40, 41, 42, 43, 44, 45, 46, 47, 48, 49, 50, 51, 52, 53, 54, 55, 56, 57, 58, 59, 60, 61, 62, 63, 64, 65, 66, 67, 68, 69, 70] (by first | rfl | decide +kernel) (by decide +kernel)
set_option maxRecDepth 20000 in
theorem gX8_words_X8_tables : GoodIn wsX8_words (wsV RX8 186 RX8 yX8_tables wsX8_tables) := goodIn_app (goodIn_of _ (by decide +kernel)) ggX8_words_X8_tables
theorem dX8_words_0 : decode cX8_words 0 = .ok (.aload_n 0, 1) := by decide +kernel
theorem dX8_words_1 : decode cX8_words 1 = .ok (.iload_n 1, 1) := by decide +kernel
theorem dX8_words_2 : decode cX8_words 2 = .ok (.ifCond .lt 9, 3) := by decide +kernel
theorem dX8_words_5 : decode cX8_words 5 = .ok (.iload_n 1, 1) := by decide +kernel
theorem dX8_words_6 : decode cX8_words 6 = .ok (.bipush 20, 2) := by decide +kernel
theorem dX8_words_8 : decode cX8_words 8 = .ok (.if_icmp .le 7, 3) := by decide +kernel
theorem dX8_words_11 : decode cX8_words 11 = .ok (.iconst 1, 1) := by decide +kernel
theorem dX8_words_12 : decode cX8_words 12 = .ok (.goto 4, 3) := by decide +kernel
theorem dX8_words_15 : decode cX8_words 15 = .ok (.iconst 0, 1) := by decide +kernel
theorem dX8_words_16 : decode cX8_words 16 = .ok (.iconst 0, 1) := by decide +kernel
theorem dX8_words_17 : decode cX8_words 17 = .ok (.invokevirtual 93, 3) := by decide +kernel
theorem dX8_words_20 : decode cX8_words 20 = .ok (.ifCond .eq 5, 3) := by decide +kernel
theorem dX8_words_23 : decode cX8_words 23 = .ok (.lconst 0, 1) := by decide +kernel
theorem dX8_words_24 : decode cX8_words 24 = .ok (.lreturn, 1) := by decide +kernel
theorem dX8_words_25 : decode cX8_words 25 = .ok (.aload_n 0, 1) := by decide +kernel
theorem dX8_words_26 : decode cX8_words 26 = .ok (.invokevirtual 186, 3) := by decide +kernel
theorem dX8_words_29 : decode cX8_words 29 = .ok (.aload_n 0, 1) := by decide +kernel
theorem dX8_words_30 : decode cX8_words 30 = .ok (.getfield 76, 3) := by decide +kernel
theorem dX8_words_33 : decode cX8_words 33 = .ok (.sipush 2561, 3) := by decide +kernel
theorem dX8_words_36 : decode cX8_words 36 = .ok (.iload_n 1, 1) := by decide +kernel
theorem dX8_words_37 : decode cX8_words 37 = .ok (.imul, 1) := by decide +kernel
theorem dX8_words_38 : decode cX8_words 38 = .ok (.laload, 1) := by decide +kernel
theorem dX8_words_39 : decode cX8_words 39 = .ok (.lreturn, 1) := by decide +kernel
set_option maxHeartbeats 4000000 in
set_option maxRecDepth 100000 in
theorem ggX8_size_X8_lay : GoodIn wsX8_size wsX8_lay := goodIn_r _ [12, 2, 13, 14, 15, 16, 17, 18, 19, 20, 21, 22, 23, 24, 25, 26, 11, 27, 28, 29, 30, 31, 36, 37, 38, 39, 40, 41, 42, 43, 44, 45, 46, 47, 48, 49, 50, 51, 52, 53, 54, 55, 56, 57, 58, 59, 60, 61, 62, 63, 64, 65, 66, 67, 68, 69, 70] (by first | rfl | decide +kernel) (by decide +kernel)
set_option maxRecDepth 20000 in
theorem gX8_size_X8_lay : GoodIn wsX8_size (wsV RX8 183 RX8 yX8_lay wsX8_lay) := goodIn_app (goodIn_of _ (by decide +kernel)) ggX8_size_X8_lay
set_option maxHeartbeats 4000000 in
set_option maxRecDepth 100000 in
theorem ggX8_size_X8_spread : GoodIn wsX8_size wsX8_spread := goodIn_r _ [35, 2, 22, 3, 23, 6, 7, 4, 36, 37, 38, 39, 40, 41, 42, 43, 44, 45, 46, 47, 48, 49, 50, 51, 52, 53, 54, 55, 56, 57, 58, 59, 60, 61, 62, 63, 64, 65, 66, 67, 68, 69, 70] (by first | rfl | decide +kernel) (by decide +kernel)
set_option maxRecDepth 20000 in
theorem gX8_size_X8_spread : GoodIn wsX8_size (wsV RX8 191 RX8 yX8_spread wsX8_spread) := goodIn_app (goodIn_of _ (by decide +kernel)) ggX8_size_X8_spread
theorem dX8_size_0 : decode cX8_size 0 = .ok (.aload_n 0, 1) := by decide +kernel
theorem dX8_size_1 : decode cX8_size 1 = .ok (.iconst 0, 1) := by decide +kernel
theorem dX8_size_2 : decode cX8_size 2 = .ok (.putfield 90, 3) := by decide +kernel
theorem dX8_size_5 : decode cX8_size 5 = .ok (.aload_n 0, 1) := by decide +kernel
theorem dX8_size_6 : decode cX8_size 6 = .ok (.invokevirtual 183, 3) := by decide +kernel
theorem dX8_size_9 : decode cX8_size 9 = .ok (.iconst 0, 1) := by decide +kernel
theorem dX8_size_10 : decode cX8_size 10 = .ok (.istore_n 1, 1) := by decide +kernel
theorem dX8_size_11 : decode cX8_size 11 = .ok (.iload_n 1, 1) := by decide +kernel
theorem dX8_size_12 : decode cX8_size 12 = .ok (.aload_n 0, 1) := by decide +kernel
theorem dX8_size_13 : decode cX8_size 13 = .ok (.getfield 172, 3) := by decide +kernel
theorem dX8_size_16 : decode cX8_size 16 = .ok (.if_icmp .ge 39, 3) := by decide +kernel
theorem dX8_size_19 : decode cX8_size 19 = .ok (.aload_n 0, 1) := by decide +kernel
theorem dX8_size_20 : decode cX8_size 20 = .ok (.getfield 69, 3) := by decide +kernel
theorem dX8_size_23 : decode cX8_size 23 = .ok (.iload_n 1, 1) := by decide +kernel
theorem dX8_size_24 : decode cX8_size 24 = .ok (.iload_n 1, 1) := by decide +kernel
theorem dX8_size_25 : decode cX8_size 25 = .ok (.ifCond .ne 7, 3) := by decide +kernel
theorem dX8_size_28 : decode cX8_size 28 = .ok (.iconst 1, 1) := by decide +kernel
theorem dX8_size_29 : decode cX8_size 29 = .ok (.goto 4, 3) := by decide +kernel
theorem dX8_size_32 : decode cX8_size 32 = .ok (.iconst 0, 1) := by decide +kernel
theorem dX8_size_33 : decode cX8_size 33 = .ok (.bastore, 1) := by decide +kernel
theorem dX8_size_34 : decode cX8_size 34 = .ok (.aload_n 0, 1) := by decide +kernel
theorem dX8_size_35 : decode cX8_size 35 = .ok (.getfield 80, 3) := by decide +kernel
theorem dX8_size_38 : decode cX8_size 38 = .ok (.iload_n 1, 1) := by decide +kernel
theorem dX8_size_39 : decode cX8_size 39 = .ok (.iload_n 1, 1) := by decide +kernel
theorem dX8_size_40 : decode cX8_size 40 = .ok (.ifCond .ne 7, 3) := by decide +kernel
theorem dX8_size_43 : decode cX8_size 43 = .ok (.lconst 1, 1) := by decide +kernel
theorem dX8_size_44 : decode cX8_size 44 = .ok (.goto 4, 3) := by decide +kernel
theorem dX8_size_47 : decode cX8_size 47 = .ok (.lconst 0, 1) := by decide +kernel
theorem dX8_size_48 : decode cX8_size 48 = .ok (.lastore, 1) := by decide +kernel
theorem dX8_size_49 : decode cX8_size 49 = .ok (.iinc 1 1, 3) := by decide +kernel
theorem dX8_size_52 : decode cX8_size 52 = .ok (.goto (-41), 3) := by decide +kernel
theorem dX8_size_55 : decode cX8_size 55 = .ok (.lconst 0, 1) := by decide +kernel
theorem dX8_size_56 : decode cX8_size 56 = .ok (.lstore_n 1, 1) := by decide +kernel
theorem dX8_size_57 : decode cX8_size 57 = .ok (.iconst 1, 1) := by decide +kernel
theorem dX8_size_58 : decode cX8_size 58 = .ok (.istore_n 3, 1) := by decide +kernel
theorem dX8_size_59 : decode cX8_size 59 = .ok (.iconst 0, 1) := by decide +kernel
theorem dX8_size_60 : decode cX8_size 60 = .ok (.istore 4, 2) := by decide +kernel
theorem dX8_size_62 : decode cX8_size 62 = .ok (.iload_n 3, 1) := by decide +kernel
theorem dX8_size_63 : decode cX8_size 63 = .ok (.ifCond .eq 71, 3) := by decide +kernel
theorem dX8_size_66 : decode cX8_size 66 = .ok (.iload 4, 2) := by decide +kernel
theorem dX8_size_68 : decode cX8_size 68 = .ok (.aload_n 0, 1) := by decide +kernel
theorem dX8_size_69 : decode cX8_size 69 = .ok (.getfield 172, 3) := by decide +kernel
theorem dX8_size_72 : decode cX8_size 72 = .ok (.if_icmp .le 7, 3) := by decide +kernel
theorem dX8_size_75 : decode cX8_size 75 = .ok (.ldc2_w 189, 3) := by decide +kernel
theorem dX8_size_78 : decode cX8_size 78 = .ok (.lreturn, 1) := by decide +kernel
theorem dX8_size_79 : decode cX8_size 79 = .ok (.iconst 0, 1) := by decide +kernel
theorem dX8_size_80 : decode cX8_size 80 = .ok (.istore 5, 2) := by decide +kernel
theorem dX8_size_82 : decode cX8_size 82 = .ok (.iload 5, 2) := by decide +kernel
theorem dX8_size_84 : decode cX8_size 84 = .ok (.aload_n 0, 1) := by decide +kernel
theorem dX8_size_85 : decode cX8_size 85 = .ok (.getfield 172, 3) := by decide +kernel
theorem dX8_size_88 : decode cX8_size 88 = .ok (.if_icmp .ge 35, 3) := by decide +kernel
theorem dX8_size_91 : decode cX8_size 91 = .ok (.lload_n 1, 1) := by decide +kernel
theorem dX8_size_92 : decode cX8_size 92 = .ok (.aload_n 0, 1) := by decide +kernel
theorem dX8_size_93 : decode cX8_size 93 = .ok (.getfield 80, 3) := by decide +kernel
theorem dX8_size_96 : decode cX8_size 96 = .ok (.iload 5, 2) := by decide +kernel
theorem dX8_size_98 : decode cX8_size 98 = .ok (.laload, 1) := by decide +kernel
theorem dX8_size_99 : decode cX8_size 99 = .ok (.ladd, 1) := by decide +kernel
theorem dX8_size_100 : decode cX8_size 100 = .ok (.lstore_n 1, 1) := by decide +kernel
theorem dX8_size_101 : decode cX8_size 101 = .ok (.aload_n 0, 1) := by decide +kernel
theorem dX8_size_102 : decode cX8_size 102 = .ok (.getfield 72, 3) := by decide +kernel
theorem dX8_size_105 : decode cX8_size 105 = .ok (.iload 5, 2) := by decide +kernel
theorem dX8_size_107 : decode cX8_size 107 = .ok (.iconst 0, 1) := by decide +kernel
theorem dX8_size_108 : decode cX8_size 108 = .ok (.bastore, 1) := by decide +kernel
theorem dX8_size_109 : decode cX8_size 109 = .ok (.aload_n 0, 1) := by decide +kernel
theorem dX8_size_110 : decode cX8_size 110 = .ok (.getfield 83, 3) := by decide +kernel
theorem dX8_size_113 : decode cX8_size 113 = .ok (.iload 5, 2) := by decide +kernel
theorem dX8_size_115 : decode cX8_size 115 = .ok (.lconst 0, 1) := by decide +kernel
theorem dX8_size_116 : decode cX8_size 116 = .ok (.lastore, 1) := by decide +kernel
theorem dX8_size_117 : decode cX8_size 117 = .ok (.iinc 5 1, 3) := by decide +kernel
theorem dX8_size_120 : decode cX8_size 120 = .ok (.goto (-38), 3) := by decide +kernel
theorem dX8_size_123 : decode cX8_size 123 = .ok (.aload_n 0, 1) := by decide +kernel
theorem dX8_size_124 : decode cX8_size 124 = .ok (.invokevirtual 191, 3) := by decide +kernel
theorem dX8_size_127 : decode cX8_size 127 = .ok (.istore_n 3, 1) := by decide +kernel
theorem dX8_size_128 : decode cX8_size 128 = .ok (.iinc 4 1, 3) := by decide +kernel
theorem dX8_size_131 : decode cX8_size 131 = .ok (.goto (-69), 3) := by decide +kernel
theorem dX8_size_134 : decode cX8_size 134 = .ok (.lload_n 1, 1) := by decide +kernel
theorem dX8_size_135 : decode cX8_size 135 = .ok (.lreturn, 1) := by decide +kernel
theorem dX8_spread_0 : decode cX8_spread 0 = .ok (.iconst 0, 1) := by decide +kernel
theorem dX8_spread_1 : decode cX8_spread 1 = .ok (.istore_n 1, 1) := by decide +kernel
theorem dX8_spread_2 : decode cX8_spread 2 = .ok (.iconst 0, 1) := by decide +kernel
theorem dX8_spread_3 : decode cX8_spread 3 = .ok (.istore_n 2, 1) := by decide +kernel
theorem dX8_spread_4 : decode cX8_spread 4 = .ok (.iload_n 2, 1) := by decide +kernel
theorem dX8_spread_5 : decode cX8_spread 5 = .ok (.aload_n 0, 1) := by decide +kernel
theorem dX8_spread_6 : decode cX8_spread 6 = .ok (.getfield 172, 3) := by decide +kernel
theorem dX8_spread_9 : decode cX8_spread 9 = .ok (.if_icmp .ge 82, 3) := by decide +kernel
theorem dX8_spread_12 : decode cX8_spread 12 = .ok (.iconst 0, 1) := by decide +kernel
theorem dX8_spread_13 : decode cX8_spread 13 = .ok (.istore_n 3, 1) := by decide +kernel
theorem dX8_spread_14 : decode cX8_spread 14 = .ok (.iload_n 3, 1) := by decide +kernel
theorem dX8_spread_15 : decode cX8_spread 15 = .ok (.aload_n 0, 1) := by decide +kernel
theorem dX8_spread_16 : decode cX8_spread 16 = .ok (.getfield 86, 3) := by decide +kernel
theorem dX8_spread_19 : decode cX8_spread 19 = .ok (.if_icmp .ge 66, 3) := by decide +kernel
theorem dX8_spread_22 : decode cX8_spread 22 = .ok (.aload_n 0, 1) := by decide +kernel
theorem dX8_spread_23 : decode cX8_spread 23 = .ok (.getfield 69, 3) := by decide +kernel
theorem dX8_spread_26 : decode cX8_spread 26 = .ok (.iload_n 2, 1) := by decide +kernel
theorem dX8_spread_27 : decode cX8_spread 27 = .ok (.baload, 1) := by decide +kernel
theorem dX8_spread_28 : decode cX8_spread 28 = .ok (.ifCond .eq 57, 3) := by decide +kernel
theorem dX8_spread_31 : decode cX8_spread 31 = .ok (.aload_n 0, 1) := by decide +kernel
theorem dX8_spread_32 : decode cX8_spread 32 = .ok (.getfield 59, 3) := by decide +kernel
theorem dX8_spread_35 : decode cX8_spread 35 = .ok (.bipush 6, 2) := by decide +kernel
theorem dX8_spread_37 : decode cX8_spread 37 = .ok (.iload_n 2, 1) := by decide +kernel
theorem dX8_spread_38 : decode cX8_spread 38 = .ok (.imul, 1) := by decide +kernel
theorem dX8_spread_39 : decode cX8_spread 39 = .ok (.iload_n 3, 1) := by decide +kernel
theorem dX8_spread_40 : decode cX8_spread 40 = .ok (.iadd, 1) := by decide +kernel
theorem dX8_spread_41 : decode cX8_spread 41 = .ok (.iaload, 1) := by decide +kernel
theorem dX8_spread_42 : decode cX8_spread 42 = .ok (.istore 4, 2) := by decide +kernel
theorem dX8_spread_44 : decode cX8_spread 44 = .ok (.iload 4, 2) := by decide +kernel
theorem dX8_spread_46 : decode cX8_spread 46 = .ok (.iconst (-1), 1) := by decide +kernel
theorem dX8_spread_47 : decode cX8_spread 47 = .ok (.if_icmp .ne 6, 3) := by decide +kernel
theorem dX8_spread_50 : decode cX8_spread 50 = .ok (.goto 29, 3) := by decide +kernel
theorem dX8_spread_53 : decode cX8_spread 53 = .ok (.aload_n 0, 1) := by decide +kernel
theorem dX8_spread_54 : decode cX8_spread 54 = .ok (.getfield 72, 3) := by decide +kernel
theorem dX8_spread_57 : decode cX8_spread 57 = .ok (.iload 4, 2) := by decide +kernel
theorem dX8_spread_59 : decode cX8_spread 59 = .ok (.iconst 1, 1) := by decide +kernel
theorem dX8_spread_60 : decode cX8_spread 60 = .ok (.bastore, 1) := by decide +kernel
theorem dX8_spread_61 : decode cX8_spread 61 = .ok (.aload_n 0, 1) := by decide +kernel
theorem dX8_spread_62 : decode cX8_spread 62 = .ok (.getfield 83, 3) := by decide +kernel
theorem dX8_spread_65 : decode cX8_spread 65 = .ok (.iload 4, 2) := by decide +kernel
theorem dX8_spread_67 : decode cX8_spread 67 = .ok (.dup2, 1) := by decide +kernel
theorem dX8_spread_68 : decode cX8_spread 68 = .ok (.laload, 1) := by decide +kernel
theorem dX8_spread_69 : decode cX8_spread 69 = .ok (.aload_n 0, 1) := by decide +kernel
theorem dX8_spread_70 : decode cX8_spread 70 = .ok (.getfield 80, 3) := by decide +kernel
theorem dX8_spread_73 : decode cX8_spread 73 = .ok (.iload_n 2, 1) := by decide +kernel
theorem dX8_spread_74 : decode cX8_spread 74 = .ok (.laload, 1) := by decide +kernel
theorem dX8_spread_75 : decode cX8_spread 75 = .ok (.ladd, 1) := by decide +kernel
theorem dX8_spread_76 : decode cX8_spread 76 = .ok (.lastore, 1) := by decide +kernel
theorem dX8_spread_77 : decode cX8_spread 77 = .ok (.iconst 1, 1) := by decide +kernel
theorem dX8_spread_78 : decode cX8_spread 78 = .ok (.istore_n 1, 1) := by decide +kernel
theorem dX8_spread_79 : decode cX8_spread 79 = .ok (.iinc 3 1, 3) := by decide +kernel
theorem dX8_spread_82 : decode cX8_spread 82 = .ok (.goto (-68), 3) := by decide +kernel
theorem dX8_spread_85 : decode cX8_spread 85 = .ok (.iinc 2 1, 3) := by decide +kernel
theorem dX8_spread_88 : decode cX8_spread 88 = .ok (.goto (-84), 3) := by decide +kernel
theorem dX8_spread_91 : decode cX8_spread 91 = .ok (.iconst 0, 1) := by decide +kernel
theorem dX8_spread_92 : decode cX8_spread 92 = .ok (.istore_n 2, 1) := by decide +kernel
theorem dX8_spread_93 : decode cX8_spread 93 = .ok (.iload_n 2, 1) := by decide +kernel
theorem dX8_spread_94 : decode cX8_spread 94 = .ok (.aload_n 0, 1) := by decide +kernel
theorem dX8_spread_95 : decode cX8_spread 95 = .ok (.getfield 172, 3) := by decide +kernel
theorem dX8_spread_98 : decode cX8_spread 98 = .ok (.if_icmp .ge 33, 3) := by decide +kernel
theorem dX8_spread_101 : decode cX8_spread 101 = .ok (.aload_n 0, 1) := by decide +kernel
theorem dX8_spread_102 : decode cX8_spread 102 = .ok (.getfield 69, 3) := by decide +kernel
theorem dX8_spread_105 : decode cX8_spread 105 = .ok (.iload_n 2, 1) := by decide +kernel
theorem dX8_spread_106 : decode cX8_spread 106 = .ok (.aload_n 0, 1) := by decide +kernel
theorem dX8_spread_107 : decode cX8_spread 107 = .ok (.getfield 72, 3) := by decide +kernel
theorem dX8_spread_110 : decode cX8_spread 110 = .ok (.iload_n 2, 1) := by decide +kernel
theorem dX8_spread_111 : decode cX8_spread 111 = .ok (.baload, 1) := by decide +kernel
theorem dX8_spread_112 : decode cX8_spread 112 = .ok (.bastore, 1) := by decide +kernel
theorem dX8_spread_113 : decode cX8_spread 113 = .ok (.aload_n 0, 1) := by decide +kernel
theorem dX8_spread_114 : decode cX8_spread 114 = .ok (.getfield 80, 3) := by decide +kernel
theorem dX8_spread_117 : decode cX8_spread 117 = .ok (.iload_n 2, 1) := by decide +kernel
theorem dX8_spread_118 : decode cX8_spread 118 = .ok (.aload_n 0, 1) := by decide +kernel
theorem dX8_spread_119 : decode cX8_spread 119 = .ok (.getfield 83, 3) := by decide +kernel
theorem dX8_spread_122 : decode cX8_spread 122 = .ok (.iload_n 2, 1) := by decide +kernel
theorem dX8_spread_123 : decode cX8_spread 123 = .ok (.laload, 1) := by decide +kernel
theorem dX8_spread_124 : decode cX8_spread 124 = .ok (.lastore, 1) := by decide +kernel
theorem dX8_spread_125 : decode cX8_spread 125 = .ok (.iinc 2 1, 3) := by decide +kernel
theorem dX8_spread_128 : decode cX8_spread 128 = .ok (.goto (-35), 3) := by decide +kernel
theorem dX8_spread_131 : decode cX8_spread 131 = .ok (.iload_n 1, 1) := by decide +kernel
theorem dX8_spread_132 : decode cX8_spread 132 = .ok (.ireturn, 1) := by decide +kernel
set_option maxHeartbeats 4000000 in
set_option maxRecDepth 100000 in
theorem ggX8_find_X8_tables : GoodIn wsX8_find wsX8_tables := goodIn_r _ [10, 11, 2, 12, 13, 4, 14, 15, 16, 9, 17, 18, 19, 20, 21, 22, 23, 24, 25, 26, 27, 28, 29, 30, 31, 32, 33, 38, 39, 40, 41, 42, 43, 44, 45, 46, 47, 48, 49, 50, 51, 52, 53, 54, 55, 56, 57, 58, 59, 60, 61, 62, 63, 64, 65, 66, 67, 68, 69, 70, 71, 72] (by first | rfl | decide +kernel) (by decide +kernel)
set_option maxRecDepth 20000 in
theorem gX8_find_X8_tables : GoodIn wsX8_find (wsV RX8 186 RX8 yX8_tables wsX8_tables) := goodIn_app (goodIn_of _ (by decide +kernel)) ggX8_find_X8_tables
set_option maxHeartbeats 4000000 in
set_option maxRecDepth 100000 in
theorem ggX8_find_X8_rest : GoodIn wsX8_find wsX8_rest := goodIn_r _ [37, 4, 2, 38, 39, 40, 41, 42, 43, 44, 45, 46, 47, 48, 49, 50, 51, 52, 53, 54, 55, 56, 57, 58, 59, 60, 61, 62, 63, 64, 65, 66, 67, 68, 69, 70, 71, 72] (by first | rfl | decide +kernel) (by decide +kernel)
set_option maxRecDepth 20000 in
theorem gX8_find_X8_rest : GoodIn wsX8_find (wsV RX8 195 RX8 yX8_rest wsX8_rest) := goodIn_app (goodIn_of _ (by decide +kernel)) ggX8_find_X8_rest
theorem dX8_find_0 : decode cX8_find 0 = .ok (.aload_n 0, 1) := by decide +kernel
theorem dX8_find_1 : decode cX8_find 1 = .ok (.iconst 0, 1) := by decide +kernel
theorem dX8_find_2 : decode cX8_find 2 = .ok (.putfield 90, 3) := by decide +kernel
theorem dX8_find_5 : decode cX8_find 5 = .ok (.lload_n 1, 1) := by decide +kernel
theorem dX8_find_6 : decode cX8_find 6 = .ok (.lconst 0, 1) := by decide +kernel
theorem dX8_find_7 : decode cX8_find 7 = .ok (.lcmp, 1) := by decide +kernel
theorem dX8_find_8 : decode cX8_find 8 = .ok (.ifCond .ge 5, 3) := by decide +kernel
theorem dX8_find_11 : decode cX8_find 11 = .ok (.iconst (-1), 1) := by decide +kernel
theorem dX8_find_12 : decode cX8_find 12 = .ok (.ireturn, 1) := by decide +kernel
theorem dX8_find_13 : decode cX8_find 13 = .ok (.aload_n 0, 1) := by decide +kernel
theorem dX8_find_14 : decode cX8_find 14 = .ok (.invokevirtual 186, 3) := by decide +kernel
theorem dX8_find_17 : decode cX8_find 17 = .ok (.lload_n 1, 1) := by decide +kernel
theorem dX8_find_18 : decode cX8_find 18 = .ok (.lstore_n 3, 1) := by decide +kernel
theorem dX8_find_19 : decode cX8_find 19 = .ok (.iconst 0, 1) := by decide +kernel
theorem dX8_find_20 : decode cX8_find 20 = .ok (.istore 5, 2) := by decide +kernel
theorem dX8_find_22 : decode cX8_find 22 = .ok (.iload 5, 2) := by decide +kernel
theorem dX8_find_24 : decode cX8_find 24 = .ok (.bipush 20, 2) := by decide +kernel
theorem dX8_find_26 : decode cX8_find 26 = .ok (.if_icmp .gt 39, 3) := by decide +kernel
theorem dX8_find_29 : decode cX8_find 29 = .ok (.lload_n 3, 1) := by decide +kernel
theorem dX8_find_30 : decode cX8_find 30 = .ok (.aload_n 0, 1) := by decide +kernel
theorem dX8_find_31 : decode cX8_find 31 = .ok (.getfield 76, 3) := by decide +kernel
theorem dX8_find_34 : decode cX8_find 34 = .ok (.sipush 2561, 3) := by decide +kernel
theorem dX8_find_37 : decode cX8_find 37 = .ok (.iload 5, 2) := by decide +kernel
theorem dX8_find_39 : decode cX8_find 39 = .ok (.imul, 1) := by decide +kernel
theorem dX8_find_40 : decode cX8_find 40 = .ok (.laload, 1) := by decide +kernel
theorem dX8_find_41 : decode cX8_find 41 = .ok (.lcmp, 1) := by decide +kernel
theorem dX8_find_42 : decode cX8_find 42 = .ok (.ifCond .lt 23, 3) := by decide +kernel
theorem dX8_find_45 : decode cX8_find 45 = .ok (.lload_n 3, 1) := by decide +kernel
theorem dX8_find_46 : decode cX8_find 46 = .ok (.aload_n 0, 1) := by decide +kernel
theorem dX8_find_47 : decode cX8_find 47 = .ok (.getfield 76, 3) := by decide +kernel
theorem dX8_find_50 : decode cX8_find 50 = .ok (.sipush 2561, 3) := by decide +kernel
theorem dX8_find_53 : decode cX8_find 53 = .ok (.iload 5, 2) := by decide +kernel
theorem dX8_find_55 : decode cX8_find 55 = .ok (.imul, 1) := by decide +kernel
theorem dX8_find_56 : decode cX8_find 56 = .ok (.laload, 1) := by decide +kernel
theorem dX8_find_57 : decode cX8_find 57 = .ok (.lsub, 1) := by decide +kernel
theorem dX8_find_58 : decode cX8_find 58 = .ok (.lstore_n 3, 1) := by decide +kernel
theorem dX8_find_59 : decode cX8_find 59 = .ok (.iinc 5 1, 3) := by decide +kernel
theorem dX8_find_62 : decode cX8_find 62 = .ok (.goto (-40), 3) := by decide +kernel
theorem dX8_find_65 : decode cX8_find 65 = .ok (.iload 5, 2) := by decide +kernel
theorem dX8_find_67 : decode cX8_find 67 = .ok (.bipush 20, 2) := by decide +kernel
theorem dX8_find_69 : decode cX8_find 69 = .ok (.if_icmp .le 5, 3) := by decide +kernel
theorem dX8_find_72 : decode cX8_find 72 = .ok (.iconst (-1), 1) := by decide +kernel
theorem dX8_find_73 : decode cX8_find 73 = .ok (.ireturn, 1) := by decide +kernel
theorem dX8_find_74 : decode cX8_find 74 = .ok (.iconst 0, 1) := by decide +kernel
theorem dX8_find_75 : decode cX8_find 75 = .ok (.istore 6, 2) := by decide +kernel
theorem dX8_find_77 : decode cX8_find 77 = .ok (.iconst 0, 1) := by decide +kernel
theorem dX8_find_78 : decode cX8_find 78 = .ok (.istore 7, 2) := by decide +kernel
theorem dX8_find_80 : decode cX8_find 80 = .ok (.iload 7, 2) := by decide +kernel
theorem dX8_find_82 : decode cX8_find 82 = .ok (.iload 5, 2) := by decide +kernel
theorem dX8_find_84 : decode cX8_find 84 = .ok (.if_icmp .ge 80, 3) := by decide +kernel
theorem dX8_find_87 : decode cX8_find 87 = .ok (.iconst 0, 1) := by decide +kernel
theorem dX8_find_88 : decode cX8_find 88 = .ok (.istore 8, 2) := by decide +kernel
theorem dX8_find_90 : decode cX8_find 90 = .ok (.lload_n 3, 1) := by decide +kernel
theorem dX8_find_91 : decode cX8_find 91 = .ok (.aload_n 0, 1) := by decide +kernel
theorem dX8_find_92 : decode cX8_find 92 = .ok (.iload 6, 2) := by decide +kernel
theorem dX8_find_94 : decode cX8_find 94 = .ok (.iload 8, 2) := by decide +kernel
theorem dX8_find_96 : decode cX8_find 96 = .ok (.iload 5, 2) := by decide +kernel
theorem dX8_find_98 : decode cX8_find 98 = .ok (.iconst 1, 1) := by decide +kernel
theorem dX8_find_99 : decode cX8_find 99 = .ok (.isub, 1) := by decide +kernel
theorem dX8_find_100 : decode cX8_find 100 = .ok (.iload 7, 2) := by decide +kernel
theorem dX8_find_102 : decode cX8_find 102 = .ok (.isub, 1) := by decide +kernel
theorem dX8_find_103 : decode cX8_find 103 = .ok (.invokevirtual 195, 3) := by decide +kernel
theorem dX8_find_106 : decode cX8_find 106 = .ok (.lcmp, 1) := by decide +kernel
theorem dX8_find_107 : decode cX8_find 107 = .ok (.ifCond .lt 27, 3) := by decide +kernel
theorem dX8_find_110 : decode cX8_find 110 = .ok (.lload_n 3, 1) := by decide +kernel
theorem dX8_find_111 : decode cX8_find 111 = .ok (.aload_n 0, 1) := by decide +kernel
theorem dX8_find_112 : decode cX8_find 112 = .ok (.iload 6, 2) := by decide +kernel
theorem dX8_find_114 : decode cX8_find 114 = .ok (.iload 8, 2) := by decide +kernel
theorem dX8_find_116 : decode cX8_find 116 = .ok (.iload 5, 2) := by decide +kernel
theorem dX8_find_118 : decode cX8_find 118 = .ok (.iconst 1, 1) := by decide +kernel
theorem dX8_find_119 : decode cX8_find 119 = .ok (.isub, 1) := by decide +kernel
theorem dX8_find_120 : decode cX8_find 120 = .ok (.iload 7, 2) := by decide +kernel
theorem dX8_find_122 : decode cX8_find 122 = .ok (.isub, 1) := by decide +kernel
theorem dX8_find_123 : decode cX8_find 123 = .ok (.invokevirtual 195, 3) := by decide +kernel
theorem dX8_find_126 : decode cX8_find 126 = .ok (.lsub, 1) := by decide +kernel
theorem dX8_find_127 : decode cX8_find 127 = .ok (.lstore_n 3, 1) := by decide +kernel
theorem dX8_find_128 : decode cX8_find 128 = .ok (.iinc 8 1, 3) := by decide +kernel
theorem dX8_find_131 : decode cX8_find 131 = .ok (.goto (-41), 3) := by decide +kernel
theorem dX8_find_134 : decode cX8_find 134 = .ok (.aload_n 0, 1) := by decide +kernel
theorem dX8_find_135 : decode cX8_find 135 = .ok (.getfield 35, 3) := by decide +kernel
theorem dX8_find_138 : decode cX8_find 138 = .ok (.iload 7, 2) := by decide +kernel
theorem dX8_find_140 : decode cX8_find 140 = .ok (.iload 8, 2) := by decide +kernel
theorem dX8_find_142 : decode cX8_find 142 = .ok (.iastore, 1) := by decide +kernel
theorem dX8_find_143 : decode cX8_find 143 = .ok (.aload_n 0, 1) := by decide +kernel
theorem dX8_find_144 : decode cX8_find 144 = .ok (.getfield 59, 3) := by decide +kernel
theorem dX8_find_147 : decode cX8_find 147 = .ok (.bipush 6, 2) := by decide +kernel
theorem dX8_find_149 : decode cX8_find 149 = .ok (.iload 6, 2) := by decide +kernel
theorem dX8_find_151 : decode cX8_find 151 = .ok (.imul, 1) := by decide +kernel
theorem dX8_find_152 : decode cX8_find 152 = .ok (.iload 8, 2) := by decide +kernel
theorem dX8_find_154 : decode cX8_find 154 = .ok (.iadd, 1) := by decide +kernel
theorem dX8_find_155 : decode cX8_find 155 = .ok (.iaload, 1) := by decide +kernel
theorem dX8_find_156 : decode cX8_find 156 = .ok (.istore 6, 2) := by decide +kernel
theorem dX8_find_158 : decode cX8_find 158 = .ok (.iinc 7 1, 3) := by decide +kernel
theorem dX8_find_161 : decode cX8_find 161 = .ok (.goto (-81), 3) := by decide +kernel
theorem dX8_find_164 : decode cX8_find 164 = .ok (.aload_n 0, 1) := by decide +kernel
theorem dX8_find_165 : decode cX8_find 165 = .ok (.getfield 38, 3) := by decide +kernel
theorem dX8_find_168 : decode cX8_find 168 = .ok (.iconst 0, 1) := by decide +kernel
theorem dX8_find_169 : decode cX8_find 169 = .ok (.iload 5, 2) := by decide +kernel
theorem dX8_find_171 : decode cX8_find 171 = .ok (.iastore, 1) := by decide +kernel
theorem dX8_find_172 : decode cX8_find 172 = .ok (.iload 5, 2) := by decide +kernel
theorem dX8_find_174 : decode cX8_find 174 = .ok (.ireturn, 1) := by decide +kernel
theorem dX8_rest_0 : decode cX8_rest 0 = .ok (.aload_n 0, 1) := by decide +kernel
theorem dX8_rest_1 : decode cX8_rest 1 = .ok (.getfield 59, 3) := by decide +kernel
theorem dX8_rest_4 : decode cX8_rest 4 = .ok (.bipush 6, 2) := by decide +kernel
theorem dX8_rest_6 : decode cX8_rest 6 = .ok (.iload_n 1, 1) := by decide +kernel
theorem dX8_rest_7 : decode cX8_rest 7 = .ok (.imul, 1) := by decide +kernel
theorem dX8_rest_8 : decode cX8_rest 8 = .ok (.iload_n 2, 1) := by decide +kernel
theorem dX8_rest_9 : decode cX8_rest 9 = .ok (.iadd, 1) := by decide +kernel
theorem dX8_rest_10 : decode cX8_rest 10 = .ok (.iaload, 1) := by decide +kernel
theorem dX8_rest_11 : decode cX8_rest 11 = .ok (.iconst (-1), 1) := by decide +kernel
theorem dX8_rest_12 : decode cX8_rest 12 = .ok (.if_icmp .ne 7, 3) := by decide +kernel
theorem dX8_rest_15 : decode cX8_rest 15 = .ok (.lconst 0, 1) := by decide +kernel
theorem dX8_rest_16 : decode cX8_rest 16 = .ok (.goto 25, 3) := by decide +kernel
theorem dX8_rest_19 : decode cX8_rest 19 = .ok (.aload_n 0, 1) := by decide +kernel
theorem dX8_rest_20 : decode cX8_rest 20 = .ok (.getfield 76, 3) := by decide +kernel
theorem dX8_rest_23 : decode cX8_rest 23 = .ok (.sipush 2561, 3) := by decide +kernel
theorem dX8_rest_26 : decode cX8_rest 26 = .ok (.iload_n 3, 1) := by decide +kernel
theorem dX8_rest_27 : decode cX8_rest 27 = .ok (.imul, 1) := by decide +kernel
theorem dX8_rest_28 : decode cX8_rest 28 = .ok (.aload_n 0, 1) := by decide +kernel
theorem dX8_rest_29 : decode cX8_rest 29 = .ok (.getfield 59, 3) := by decide +kernel
theorem dX8_rest_32 : decode cX8_rest 32 = .ok (.bipush 6, 2) := by decide +kernel
theorem dX8_rest_34 : decode cX8_rest 34 = .ok (.iload_n 1, 1) := by decide +kernel
theorem dX8_rest_35 : decode cX8_rest 35 = .ok (.imul, 1) := by decide +kernel
theorem dX8_rest_36 : decode cX8_rest 36 = .ok (.iload_n 2, 1) := by decide +kernel
theorem dX8_rest_37 : decode cX8_rest 37 = .ok (.iadd, 1) := by decide +kernel
theorem dX8_rest_38 : decode cX8_rest 38 = .ok (.iaload, 1) := by decide +kernel
theorem dX8_rest_39 : decode cX8_rest 39 = .ok (.iadd, 1) := by decide +kernel
theorem dX8_rest_40 : decode cX8_rest 40 = .ok (.laload, 1) := by decide +kernel
theorem dX8_rest_41 : decode cX8_rest 41 = .ok (.lreturn, 1) := by decide +kernel
set_option maxHeartbeats 4000000 in
set_option maxRecDepth 100000 in
theorem ggX8_index_X8_copy : GoodIn wsX8_index wsX8_copy := goodIn_r _ [10, 11, 12, 13, 14, 15, 9, 16, 17, 18, 19, 20, 21, 22, 23, 24, 25, 54, 55, 56, 57, 58, 59, 60, 61, 62, 63, 64, 65, 66, 67, 68, 69, 70, 71, 72, 73, 74, 75, 76, 77, 78, 79, 80, 81, 82, 83, 84, 85, 86, 87, 88] (by first | rfl | decide +kernel) (by decide +kernel)
set_option maxRecDepth 20000 in
theorem gX8_index_X8_copy : GoodIn wsX8_index (wsV RX8 168 RX8 yX8_copy wsX8_copy) := goodIn_app (goodIn_of _ (by decide +kernel)) ggX8_index_X8_copy
set_option maxHeartbeats 4000000 in
set_option maxRecDepth 100000 in
theorem ggX8_index_X8_tables : GoodIn wsX8_index wsX8_tables := goodIn_r _ [29, 30, 4, 31, 32, 5, 33, 34, 35, 9, 36, 37, 38, 17, 18, 25, 39, 40, 41, 42, 43, 44, 45, 46, 47, 48, 49, 54, 55, 56, 57, 58, 59, 60, 61, 62, 63, 64, 65, 66, 67, 68, 69, 70, 71, 72, 73, 74, 75, 76, 77, 78, 79, 80, 81, 82, 83, 84, 85, 86, 87, 88] (by first | rfl | decide +kernel) (by decide +kernel)
set_option maxRecDepth 20000 in
theorem gX8_index_X8_tables : GoodIn wsX8_index (wsV RX8 186 RX8 yX8_tables wsX8_tables) := goodIn_app (goodIn_of _ (by decide +kernel)) ggX8_index_X8_tables
set_option maxHeartbeats 4000000 in
set_option maxRecDepth 100000 in
theorem ggX8_index_X8_rest : GoodIn wsX8_index wsX8_rest := goodIn_r _ [53, 5, 4, 54, 55, 56, 57, 58, 59, 60, 61, 62, 63, 64, 65, 66, 67, 68, 69, 70, 71, 72, 73, 74, 75, 76, 77, 78, 79, 80, 81, 82, 83, 84, 85, 86, 87, 88] (by first | rfl | decide +kernel) (by decide +kernel)
set_option maxRecDepth 20000 in
theorem gX8_index_X8_rest : GoodIn wsX8_index (wsV RX8 195 RX8 yX8_rest wsX8_rest) := goodIn_app (goodIn_of _ (by decide +kernel)) ggX8_index_X8_rest
theorem dX8_index_0 : decode cX8_index 0 = .ok (.aload_n 0, 1) := by decide +kernel
theorem dX8_index_1 : decode cX8_index 1 = .ok (.iconst 0, 1) := by decide +kernel
theorem dX8_index_2 : decode cX8_index 2 = .ok (.putfield 90, 3) := by decide +kernel
theorem dX8_index_5 : decode cX8_index 5 = .ok (.aload_n 0, 1) := by decide +kernel
theorem dX8_index_6 : decode cX8_index 6 = .ok (.iconst 0, 1) := by decide +kernel
theorem dX8_index_7 : decode cX8_index 7 = .ok (.aload_n 0, 1) := by decide +kernel
theorem dX8_index_8 : decode cX8_index 8 = .ok (.getfield 41, 3) := by decide +kernel
theorem dX8_index_11 : decode cX8_index 11 = .ok (.invokevirtual 168, 3) := by decide +kernel
theorem dX8_index_14 : decode cX8_index 14 = .ok (.istore_n 1, 1) := by decide +kernel
theorem dX8_index_15 : decode cX8_index 15 = .ok (.iload_n 1, 1) := by decide +kernel
theorem dX8_index_16 : decode cX8_index 16 = .ok (.bipush 20, 2) := by decide +kernel
theorem dX8_index_18 : decode cX8_index 18 = .ok (.if_icmp .le 7, 3) := by decide +kernel
theorem dX8_index_21 : decode cX8_index 21 = .ok (.ldc2_w 189, 3) := by decide +kernel
theorem dX8_index_24 : decode cX8_index 24 = .ok (.lreturn, 1) := by decide +kernel
theorem dX8_index_25 : decode cX8_index 25 = .ok (.aload_n 0, 1) := by decide +kernel
theorem dX8_index_26 : decode cX8_index 26 = .ok (.invokevirtual 186, 3) := by decide +kernel
theorem dX8_index_29 : decode cX8_index 29 = .ok (.lconst 0, 1) := by decide +kernel
theorem dX8_index_30 : decode cX8_index 30 = .ok (.lstore_n 2, 1) := by decide +kernel
theorem dX8_index_31 : decode cX8_index 31 = .ok (.iconst 0, 1) := by decide +kernel
theorem dX8_index_32 : decode cX8_index 32 = .ok (.istore 4, 2) := by decide +kernel
theorem dX8_index_34 : decode cX8_index 34 = .ok (.iload 4, 2) := by decide +kernel
theorem dX8_index_36 : decode cX8_index 36 = .ok (.iload_n 1, 1) := by decide +kernel
theorem dX8_index_37 : decode cX8_index 37 = .ok (.if_icmp .ge 23, 3) := by decide +kernel
theorem dX8_index_40 : decode cX8_index 40 = .ok (.lload_n 2, 1) := by decide +kernel
theorem dX8_index_41 : decode cX8_index 41 = .ok (.aload_n 0, 1) := by decide +kernel
theorem dX8_index_42 : decode cX8_index 42 = .ok (.getfield 76, 3) := by decide +kernel
theorem dX8_index_45 : decode cX8_index 45 = .ok (.sipush 2561, 3) := by decide +kernel
theorem dX8_index_48 : decode cX8_index 48 = .ok (.iload 4, 2) := by decide +kernel
theorem dX8_index_50 : decode cX8_index 50 = .ok (.imul, 1) := by decide +kernel
theorem dX8_index_51 : decode cX8_index 51 = .ok (.laload, 1) := by decide +kernel
theorem dX8_index_52 : decode cX8_index 52 = .ok (.ladd, 1) := by decide +kernel
theorem dX8_index_53 : decode cX8_index 53 = .ok (.lstore_n 2, 1) := by decide +kernel
theorem dX8_index_54 : decode cX8_index 54 = .ok (.iinc 4 1, 3) := by decide +kernel
theorem dX8_index_57 : decode cX8_index 57 = .ok (.goto (-23), 3) := by decide +kernel
theorem dX8_index_60 : decode cX8_index 60 = .ok (.iconst 0, 1) := by decide +kernel
theorem dX8_index_61 : decode cX8_index 61 = .ok (.istore 4, 2) := by decide +kernel
theorem dX8_index_63 : decode cX8_index 63 = .ok (.iconst 0, 1) := by decide +kernel
theorem dX8_index_64 : decode cX8_index 64 = .ok (.istore 5, 2) := by decide +kernel
theorem dX8_index_66 : decode cX8_index 66 = .ok (.iload 5, 2) := by decide +kernel
theorem dX8_index_68 : decode cX8_index 68 = .ok (.iload_n 1, 1) := by decide +kernel
theorem dX8_index_69 : decode cX8_index 69 = .ok (.if_icmp .ge 67, 3) := by decide +kernel
theorem dX8_index_72 : decode cX8_index 72 = .ok (.iconst 0, 1) := by decide +kernel
theorem dX8_index_73 : decode cX8_index 73 = .ok (.istore 6, 2) := by decide +kernel
theorem dX8_index_75 : decode cX8_index 75 = .ok (.iload 6, 2) := by decide +kernel
theorem dX8_index_77 : decode cX8_index 77 = .ok (.aload_n 0, 1) := by decide +kernel
theorem dX8_index_78 : decode cX8_index 78 = .ok (.getfield 41, 3) := by decide +kernel
theorem dX8_index_81 : decode cX8_index 81 = .ok (.iload 5, 2) := by decide +kernel
theorem dX8_index_83 : decode cX8_index 83 = .ok (.iaload, 1) := by decide +kernel
theorem dX8_index_84 : decode cX8_index 84 = .ok (.if_icmp .ge 26, 3) := by decide +kernel
theorem dX8_index_87 : decode cX8_index 87 = .ok (.lload_n 2, 1) := by decide +kernel
theorem dX8_index_88 : decode cX8_index 88 = .ok (.aload_n 0, 1) := by decide +kernel
theorem dX8_index_89 : decode cX8_index 89 = .ok (.iload 4, 2) := by decide +kernel
theorem dX8_index_91 : decode cX8_index 91 = .ok (.iload 6, 2) := by decide +kernel
theorem dX8_index_93 : decode cX8_index 93 = .ok (.iload_n 1, 1) := by decide +kernel
theorem dX8_index_94 : decode cX8_index 94 = .ok (.iconst 1, 1) := by decide +kernel
theorem dX8_index_95 : decode cX8_index 95 = .ok (.isub, 1) := by decide +kernel
theorem dX8_index_96 : decode cX8_index 96 = .ok (.iload 5, 2) := by decide +kernel
theorem dX8_index_98 : decode cX8_index 98 = .ok (.isub, 1) := by decide +kernel
theorem dX8_index_99 : decode cX8_index 99 = .ok (.invokevirtual 195, 3) := by decide +kernel
theorem dX8_index_102 : decode cX8_index 102 = .ok (.ladd, 1) := by decide +kernel
theorem dX8_index_103 : decode cX8_index 103 = .ok (.lstore_n 2, 1) := by decide +kernel
theorem dX8_index_104 : decode cX8_index 104 = .ok (.iinc 6 1, 3) := by decide +kernel
theorem dX8_index_107 : decode cX8_index 107 = .ok (.goto (-32), 3) := by decide +kernel
theorem dX8_index_110 : decode cX8_index 110 = .ok (.aload_n 0, 1) := by decide +kernel
theorem dX8_index_111 : decode cX8_index 111 = .ok (.getfield 59, 3) := by decide +kernel
theorem dX8_index_114 : decode cX8_index 114 = .ok (.bipush 6, 2) := by decide +kernel
theorem dX8_index_116 : decode cX8_index 116 = .ok (.iload 4, 2) := by decide +kernel
theorem dX8_index_118 : decode cX8_index 118 = .ok (.imul, 1) := by decide +kernel
theorem dX8_index_119 : decode cX8_index 119 = .ok (.aload_n 0, 1) := by decide +kernel
theorem dX8_index_120 : decode cX8_index 120 = .ok (.getfield 41, 3) := by decide +kernel
theorem dX8_index_123 : decode cX8_index 123 = .ok (.iload 5, 2) := by decide +kernel
theorem dX8_index_125 : decode cX8_index 125 = .ok (.iaload, 1) := by decide +kernel
theorem dX8_index_126 : decode cX8_index 126 = .ok (.iadd, 1) := by decide +kernel
theorem dX8_index_127 : decode cX8_index 127 = .ok (.iaload, 1) := by decide +kernel
theorem dX8_index_128 : decode cX8_index 128 = .ok (.istore 4, 2) := by decide +kernel
theorem dX8_index_130 : decode cX8_index 130 = .ok (.iinc 5 1, 3) := by decide +kernel
theorem dX8_index_133 : decode cX8_index 133 = .ok (.goto (-67), 3) := by decide +kernel
theorem dX8_index_136 : decode cX8_index 136 = .ok (.lload_n 2, 1) := by decide +kernel
theorem dX8_index_137 : decode cX8_index 137 = .ok (.lreturn, 1) := by decide +kernel
set_option maxHeartbeats 4000000 in
set_option maxRecDepth 100000 in
theorem ggX8_count_X8_state : GoodIn wsX8_count wsX8_state := goodIn_r _ [13, 14, 5, 15, 16, 17, 18, 19, 20, 21, 22, 23, 24, 25, 26, 27, 28, 29, 30, 31, 32, 33, 34, 35, 36, 37, 38, 39, 40, 41, 42, 43, 44, 45, 46, 47, 48, 49] (by first | rfl | decide +kernel) (by decide +kernel)
set_option maxRecDepth 20000 in
theorem gX8_count_X8_state : GoodIn wsX8_count (wsV RX8 164 RX8 yX8_state wsX8_state) := goodIn_app (goodIn_of _ (by decide +kernel)) ggX8_count_X8_state
theorem dX8_count_0 : decode cX8_count 0 = .ok (.aload_n 0, 1) := by decide +kernel
theorem dX8_count_1 : decode cX8_count 1 = .ok (.iconst 0, 1) := by decide +kernel
theorem dX8_count_2 : decode cX8_count 2 = .ok (.putfield 90, 3) := by decide +kernel
theorem dX8_count_5 : decode cX8_count 5 = .ok (.iconst 0, 1) := by decide +kernel
theorem dX8_count_6 : decode cX8_count 6 = .ok (.istore_n 2, 1) := by decide +kernel
theorem dX8_count_7 : decode cX8_count 7 = .ok (.iconst 0, 1) := by decide +kernel
theorem dX8_count_8 : decode cX8_count 8 = .ok (.istore_n 3, 1) := by decide +kernel
theorem dX8_count_9 : decode cX8_count 9 = .ok (.iload_n 3, 1) := by decide +kernel
theorem dX8_count_10 : decode cX8_count 10 = .ok (.aload_n 0, 1) := by decide +kernel
theorem dX8_count_11 : decode cX8_count 11 = .ok (.getfield 97, 3) := by decide +kernel
theorem dX8_count_14 : decode cX8_count 14 = .ok (.if_icmp .ge 30, 3) := by decide +kernel
theorem dX8_count_17 : decode cX8_count 17 = .ok (.aload_n 0, 1) := by decide +kernel
theorem dX8_count_18 : decode cX8_count 18 = .ok (.getfield 16, 3) := by decide +kernel
theorem dX8_count_21 : decode cX8_count 21 = .ok (.iload_n 3, 1) := by decide +kernel
theorem dX8_count_22 : decode cX8_count 22 = .ok (.iaload, 1) := by decide +kernel
theorem dX8_count_23 : decode cX8_count 23 = .ok (.iload_n 2, 1) := by decide +kernel
theorem dX8_count_24 : decode cX8_count 24 = .ok (.if_icmp .le 12, 3) := by decide +kernel
theorem dX8_count_27 : decode cX8_count 27 = .ok (.aload_n 0, 1) := by decide +kernel
theorem dX8_count_28 : decode cX8_count 28 = .ok (.getfield 16, 3) := by decide +kernel
theorem dX8_count_31 : decode cX8_count 31 = .ok (.iload_n 3, 1) := by decide +kernel
theorem dX8_count_32 : decode cX8_count 32 = .ok (.iaload, 1) := by decide +kernel
theorem dX8_count_33 : decode cX8_count 33 = .ok (.goto 4, 3) := by decide +kernel
theorem dX8_count_36 : decode cX8_count 36 = .ok (.iload_n 2, 1) := by decide +kernel
theorem dX8_count_37 : decode cX8_count 37 = .ok (.istore_n 2, 1) := by decide +kernel
theorem dX8_count_38 : decode cX8_count 38 = .ok (.iinc 3 1, 3) := by decide +kernel
theorem dX8_count_41 : decode cX8_count 41 = .ok (.goto (-32), 3) := by decide +kernel
theorem dX8_count_44 : decode cX8_count 44 = .ok (.iload_n 1, 1) := by decide +kernel
theorem dX8_count_45 : decode cX8_count 45 = .ok (.tableswitch 97 0 8 #[51, 56, 61, 66, 71, 76, 83, 90, 92], 51) := by decide +kernel
theorem dX8_count_96 : decode cX8_count 96 = .ok (.aload_n 0, 1) := by decide +kernel
theorem dX8_count_97 : decode cX8_count 97 = .ok (.getfield 86, 3) := by decide +kernel
theorem dX8_count_100 : decode cX8_count 100 = .ok (.ireturn, 1) := by decide +kernel
theorem dX8_count_101 : decode cX8_count 101 = .ok (.aload_n 0, 1) := by decide +kernel
theorem dX8_count_102 : decode cX8_count 102 = .ok (.getfield 97, 3) := by decide +kernel
theorem dX8_count_105 : decode cX8_count 105 = .ok (.ireturn, 1) := by decide +kernel
theorem dX8_count_106 : decode cX8_count 106 = .ok (.aload_n 0, 1) := by decide +kernel
theorem dX8_count_107 : decode cX8_count 107 = .ok (.getfield 100, 3) := by decide +kernel
theorem dX8_count_110 : decode cX8_count 110 = .ok (.ireturn, 1) := by decide +kernel
theorem dX8_count_111 : decode cX8_count 111 = .ok (.aload_n 0, 1) := by decide +kernel
theorem dX8_count_112 : decode cX8_count 112 = .ok (.getfield 106, 3) := by decide +kernel
theorem dX8_count_115 : decode cX8_count 115 = .ok (.ireturn, 1) := by decide +kernel
theorem dX8_count_116 : decode cX8_count 116 = .ok (.aload_n 0, 1) := by decide +kernel
theorem dX8_count_117 : decode cX8_count 117 = .ok (.invokevirtual 164, 3) := by decide +kernel
theorem dX8_count_120 : decode cX8_count 120 = .ok (.ireturn, 1) := by decide +kernel
theorem dX8_count_121 : decode cX8_count 121 = .ok (.aload_n 0, 1) := by decide +kernel
theorem dX8_count_122 : decode cX8_count 122 = .ok (.getfield 38, 3) := by decide +kernel
theorem dX8_count_125 : decode cX8_count 125 = .ok (.iconst 0, 1) := by decide +kernel
theorem dX8_count_126 : decode cX8_count 126 = .ok (.iaload, 1) := by decide +kernel
theorem dX8_count_127 : decode cX8_count 127 = .ok (.ireturn, 1) := by decide +kernel
theorem dX8_count_128 : decode cX8_count 128 = .ok (.aload_n 0, 1) := by decide +kernel
theorem dX8_count_129 : decode cX8_count 129 = .ok (.getfield 38, 3) := by decide +kernel
theorem dX8_count_132 : decode cX8_count 132 = .ok (.iconst 1, 1) := by decide +kernel
theorem dX8_count_133 : decode cX8_count 133 = .ok (.iaload, 1) := by decide +kernel
theorem dX8_count_134 : decode cX8_count 134 = .ok (.ireturn, 1) := by decide +kernel
theorem dX8_count_135 : decode cX8_count 135 = .ok (.iload_n 2, 1) := by decide +kernel
theorem dX8_count_136 : decode cX8_count 136 = .ok (.ireturn, 1) := by decide +kernel
theorem dX8_count_137 : decode cX8_count 137 = .ok (.aload_n 0, 1) := by decide +kernel
theorem dX8_count_138 : decode cX8_count 138 = .ok (.getfield 112, 3) := by decide +kernel
theorem dX8_count_141 : decode cX8_count 141 = .ok (.ireturn, 1) := by decide +kernel
theorem dX8_count_142 : decode cX8_count 142 = .ok (.iconst (-1), 1) := by decide +kernel
theorem dX8_count_143 : decode cX8_count 143 = .ok (.ireturn, 1) := by decide +kernel
