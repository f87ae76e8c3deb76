theorem l_inr {big : List Cond} (ws : List Cond) (ps : List Nat) (hp : ws = ps.filterMap (fun i => big[i]?)) : ∀ w ∈ ws, w ∈ big := by
  intro w hw
  rw [hp] at hw
  obtain ⟨i, -, hi⟩ := List.mem_filterMap.mp hw
  exact List.mem_of_getElem? hi
set_option maxHeartbeats 4000000 in
set_option maxRecDepth 100000 in
theorem in0_wsL_law0_r1 : ∀ w ∈ wsL_law0_r1, w ∈ lw_tbl := l_inr wsL_law0_r1 [73, 74, 48, 1016, 1017, 56, 150, 1279, 75, 76, 77, 78, 79, 80, 81, 82, 49, 283, 284, 285, 286, 287, 288, 103] (by rfl)
set_option maxHeartbeats 4000000 in
set_option maxRecDepth 100000 in
theorem in0_wsL_law0_r2 : ∀ w ∈ wsL_law0_r2, w ∈ lw_tbl := l_inr wsL_law0_r2 [104, 50, 289, 133, 134, 51, 290, 151, 152, 52, 291, 183, 184, 53, 292, 251, 252, 55, 293, 294, 295, 84, 85, 86] (by rfl)
set_option maxHeartbeats 4000000 in
set_option maxRecDepth 100000 in
theorem in0_wsL_law0_r3 : ∀ w ∈ wsL_law0_r3, w ∈ lw_tbl := l_inr wsL_law0_r3 [102, 87, 105, 106, 107, 108, 109, 112, 116, 122, 136, 137, 138, 139, 153, 154, 155, 156, 182, 158, 159, 160, 162, 157] (by rfl)
set_option maxHeartbeats 4000000 in
set_option maxRecDepth 100000 in
theorem in0_wsL_law0_r4 : ∀ w ∈ wsL_law0_r4, w ∈ lw_tbl := l_inr wsL_law0_r4 [185, 186, 187, 188, 189, 190, 54, 228, 229, 230, 231, 226, 227, 192, 193, 194, 195, 196, 197, 198, 200, 202, 204, 205] (by rfl)
set_option maxHeartbeats 4000000 in
set_option maxRecDepth 100000 in
theorem in0_wsL_law0_r5 : ∀ w ∈ wsL_law0_r5, w ∈ lw_tbl := l_inr wsL_law0_r5 [253, 254, 255, 256, 257, 259, 260, 261, 262, 258, 1018, 1019, 1020, 1021, 1031, 1032, 1033, 1034, 1022, 1035, 1036, 1037, 1038, 1040] (by rfl)
set_option maxHeartbeats 4000000 in
set_option maxRecDepth 100000 in
theorem in0_wsL_law0_r6 : ∀ w ∈ wsL_law0_r6, w ∈ lw_tbl := l_inr wsL_law0_r6 [1041, 1042, 1043, 1046, 1047, 1048, 1049, 1050, 1051, 1130, 1052, 1053, 1054, 1023, 1055, 1056, 1057, 1025, 846, 847, 47, 848, 849, 850] (by rfl)
set_option maxHeartbeats 4000000 in
set_option maxRecDepth 100000 in
theorem in0_wsL_law0_r7 : ∀ w ∈ wsL_law0_r7, w ∈ lw_tbl := l_inr wsL_law0_r7 [851, 852, 853, 854, 60, 120, 296, 297, 832, 686, 687, 688, 91, 857, 858, 859, 860, 119, 861, 862, 863, 864, 140, 141] (by rfl)
set_option maxHeartbeats 4000000 in
set_option maxRecDepth 100000 in
theorem in0_wsL_law0_r8 : ∀ w ∈ wsL_law0_r8, w ∈ lw_tbl := l_inr wsL_law0_r8 [1135, 1136, 1137, 1138, 1026, 1027, 1039, 1028, 1029, 1030, 1139, 1141, 27, 1142, 1024, 1131, 1132, 1133, 1134, 865, 866, 867, 868, 869] (by rfl)
set_option maxHeartbeats 4000000 in
set_option maxRecDepth 100000 in
theorem in0_wsL_law0_r9 : ∀ w ∈ wsL_law0_r9, w ∈ lw_tbl := l_inr wsL_law0_r9 [870, 871, 93, 755, 756, 757, 872, 874, 18, 875, 758, 760, 13, 761, 877, 700, 701, 702, 1143, 1144, 1145, 1146, 878, 879] (by rfl)
set_option maxHeartbeats 4000000 in
set_option maxRecDepth 100000 in
theorem in0_wsL_law0_r10 : ∀ w ∈ wsL_law0_r10, w ∈ lw_tbl := l_inr wsL_law0_r10 [880, 881, 882, 883, 884, 1147, 1148, 1149, 1150, 886, 887, 888, 889, 890, 891, 892, 893, 894, 61, 142, 910, 911, 912, 913] (by rfl)
set_option maxHeartbeats 4000000 in
set_option maxRecDepth 100000 in
theorem in0_wsL_law0_r11 : ∀ w ∈ wsL_law0_r11, w ∈ lw_tbl := l_inr wsL_law0_r11 [914, 915, 916, 917, 918, 919, 682, 683, 684, 1151, 1152, 1153, 1154, 1155, 1157, 28, 1158, 920, 921, 922, 923, 924, 925, 926] (by rfl)
set_option maxHeartbeats 4000000 in
set_option maxRecDepth 100000 in
theorem in0_wsL_law0_r12 : ∀ w ∈ wsL_law0_r12, w ∈ lw_tbl := l_inr wsL_law0_r12 [928, 930, 19, 931, 1159, 1160, 1161, 1162, 932, 933, 934, 935, 936, 937, 938, 747, 749, 12, 750, 940, 942, 20, 943, 944] (by rfl)
set_option maxHeartbeats 4000000 in
set_option maxRecDepth 100000 in
theorem in0_wsL_law0_r13 : ∀ w ∈ wsL_law0_r13, w ∈ lw_tbl := l_inr wsL_law0_r13 [945, 946, 947, 948, 949, 950, 951, 952, 953, 954, 340, 341, 342, 343, 232, 233, 712, 344, 345, 346, 347, 165, 123, 163] (by rfl)
set_option maxHeartbeats 4000000 in
set_option maxRecDepth 100000 in
theorem in0_wsL_law0_r14 : ∀ w ∈ wsL_law0_r14, w ∈ lw_tbl := l_inr wsL_law0_r14 [121, 113, 348, 349, 350, 351, 94, 352, 354, 0, 355, 356, 357, 62, 358, 359, 360, 361, 402, 403, 64, 665, 667, 2] (by rfl)
set_option maxHeartbeats 4000000 in
set_option maxRecDepth 100000 in
theorem in0_wsL_law0_r15 : ∀ w ∈ wsL_law0_r15, w ∈ lw_tbl := l_inr wsL_law0_r15 [668, 95, 88, 669, 671, 3, 672, 673, 674, 675, 676, 677, 679, 4, 680, 681, 685, 689, 691, 5, 692, 92, 161, 114] (by rfl)
set_option maxHeartbeats 4000000 in
set_option maxRecDepth 100000 in
theorem in0_wsL_law0_r16 : ∀ w ∈ wsL_law0_r16, w ∈ lw_tbl := l_inr wsL_law0_r16 [117, 693, 695, 6, 696, 697, 698, 699, 703, 705, 7, 706, 90, 707, 708, 709, 710, 711, 713, 715, 8, 716, 717, 719] (by rfl)
set_option maxHeartbeats 4000000 in
set_option maxRecDepth 100000 in
theorem in0_wsL_law0_r17 : ∀ w ∈ wsL_law0_r17, w ∈ lw_tbl := l_inr wsL_law0_r17 [9, 720, 199, 201, 203, 721, 722, 723, 724, 725, 727, 10, 728, 729, 730, 731, 732, 733, 734, 735, 737, 11, 738, 206] (by rfl)
set_option maxHeartbeats 4000000 in
set_option maxRecDepth 100000 in
theorem in0_wsL_law0_r18 : ∀ w ∈ wsL_law0_r18, w ∈ lw_tbl := l_inr wsL_law0_r18 [739, 740, 741, 742, 743, 744, 745, 746, 955, 956, 957, 958, 959, 960, 961, 962, 963, 334, 335, 336, 337, 339, 338, 69] (by rfl)
set_option maxHeartbeats 4000000 in
set_option maxRecDepth 100000 in
theorem in0_wsL_law0_r19 : ∀ w ∈ wsL_law0_r19, w ∈ lw_tbl := l_inr wsL_law0_r19 [964, 966, 21, 967, 115, 118, 968, 969, 970, 971, 972, 974, 22, 975, 976, 977, 978, 979, 980, 982, 23, 983, 984, 986] (by rfl)
set_option maxHeartbeats 4000000 in
set_option maxRecDepth 100000 in
theorem in0_wsL_law0_r20 : ∀ w ∈ wsL_law0_r20, w ∈ lw_tbl := l_inr wsL_law0_r20 [24, 987, 988, 990, 25, 991, 992, 475, 68, 476, 993, 994, 995, 996, 997, 999, 26, 1000, 333, 833, 834, 835, 836, 1163] (by rfl)
set_option maxHeartbeats 4000000 in
set_option maxRecDepth 100000 in
theorem in0_wsL_law0_r21 : ∀ w ∈ wsL_law0_r21, w ∈ lw_tbl := l_inr wsL_law0_r21 [1164, 1165, 1166, 1167, 1169, 29, 1170, 1044, 1045, 1171, 1173, 30, 1174, 1175, 1177, 31, 1178, 1179, 1181, 32, 1182, 1183, 1184, 1185] (by rfl)
set_option maxHeartbeats 4000000 in
set_option maxRecDepth 100000 in
theorem in0_wsL_law0_r22 : ∀ w ∈ wsL_law0_r22, w ∈ lw_tbl := l_inr wsL_law0_r22 [1186, 1188, 33, 1189, 1190, 1192, 34, 1193, 1194, 1196, 35, 1197, 1198, 1200, 36, 1201, 1202, 1204, 37, 1205, 1206, 1208, 38, 1209] (by rfl)
set_option maxHeartbeats 4000000 in
set_option maxRecDepth 100000 in
theorem in0_wsL_law0_r23 : ∀ w ∈ wsL_law0_r23, w ∈ lw_tbl := l_inr wsL_law0_r23 [1210, 1212, 39, 1213, 1001, 1002, 1003, 1004, 1005, 1006, 1007, 1214, 1215, 1216, 1217, 1218, 1220, 40, 1221, 329, 330, 331, 332, 1222] (by rfl)
set_option maxHeartbeats 4000000 in
set_option maxRecDepth 100000 in
theorem in0_wsL_law0_r24 : ∀ w ∈ wsL_law0_r24, w ∈ lw_tbl := l_inr wsL_law0_r24 [1223, 1224, 1225, 751, 752, 753, 754, 762, 763, 764, 765, 1226, 1227, 1228, 1229, 1008, 1009, 1010, 1011, 1012, 1013, 1014, 770, 771] (by rfl)
set_option maxHeartbeats 4000000 in
set_option maxRecDepth 100000 in
theorem in0_wsL_law0_r25 : ∀ w ∈ wsL_law0_r25, w ∈ lw_tbl := l_inr wsL_law0_r25 [772, 773, 264, 265, 166, 263, 774, 775, 777, 14, 778, 164, 779, 780, 781, 782, 783, 785, 15, 786, 787, 788, 790, 16] (by rfl)
set_option maxHeartbeats 4000000 in
set_option maxRecDepth 100000 in
theorem in0_wsL_law0_r26 : ∀ w ∈ wsL_law0_r26, w ∈ lw_tbl := l_inr wsL_law0_r26 [791, 809, 810, 811, 812, 1234, 1235, 1236, 1237, 1238, 1240, 41, 1241, 1058, 1242, 1244, 42, 1245, 1246, 1248, 43, 1249, 1250, 1252] (by rfl)
set_option maxHeartbeats 4000000 in
set_option maxRecDepth 100000 in
theorem in0_wsL_law0_r27 : ∀ w ∈ wsL_law0_r27, w ∈ lw_tbl := l_inr wsL_law0_r27 [44, 1253, 766, 767, 768, 769, 792, 793, 794, 795, 801, 796, 798, 17, 799, 800, 802, 803, 804, 1254, 1255, 1256, 1257, 1258] (by rfl)
set_option maxHeartbeats 4000000 in
set_option maxRecDepth 100000 in
theorem in0_wsL_law0_r28 : ∀ w ∈ wsL_law0_r28, w ∈ lw_tbl := l_inr wsL_law0_r28 [1259, 1261, 45, 1262, 805, 806, 807, 808, 813, 814, 815, 816, 817, 818, 1263, 1264, 1265, 1266, 1267, 1269, 46, 1270, 819, 820] (by rfl)
set_option maxHeartbeats 4000000 in
set_option maxRecDepth 100000 in
theorem in0_wsL_law0_r29 : ∀ w ∈ wsL_law0_r29, w ∈ lw_tbl := l_inr wsL_law0_r29 [821, 822, 823, 824, 825, 826, 827, 96, 89, 1271, 1272, 1273, 1274, 828, 829, 830, 831, 1230, 1231, 1232, 1233, 837, 838, 839] (by rfl)
set_option maxHeartbeats 4000000 in
set_option maxRecDepth 100000 in
theorem in0_wsL_law0_r30 : ∀ w ∈ wsL_law0_r30, w ∈ lw_tbl := l_inr wsL_law0_r30 [840, 841, 842, 843, 844, 845, 457, 458, 1275, 1276, 1277, 1278] (by rfl)
set_option maxHeartbeats 4000000 in
set_option maxRecDepth 100000 in
theorem in0_wsX70 : ∀ w ∈ wsX70, w ∈ lw_tbl := l_inr wsX70 [298, 300, 302, 304, 306, 308, 310, 312, 314, 316, 318, 320, 322, 324, 326] (by rfl)
set_option maxHeartbeats 4000000 in
set_option maxRecDepth 100000 in
theorem in0_wsX80 : ∀ w ∈ wsX80, w ∈ lw_tbl := l_inr wsX80 [1059, 1061, 1063, 1065, 1067, 1069, 1071, 1073, 1075, 1077, 1079, 1081, 1083, 1085, 1087, 1089, 1091, 1093, 1095, 1097, 1099, 1101, 1103, 1105, 1107, 1109, 1111, 1113, 1115, 1117, 1119, 1121, 1123, 1125, 1127] (by rfl)
set_option maxHeartbeats 4000000 in
set_option maxRecDepth 100000 in
theorem in0_wsX60 : ∀ w ∈ wsX60, w ∈ lw_tbl := l_inr wsX60 [97, 99] (by rfl)
set_option maxHeartbeats 4000000 in
set_option maxRecDepth 100000 in
theorem in0_wsX40 : ∀ w ∈ wsX40, w ∈ lw_tbl := l_inr wsX40 [124, 126, 128, 130] (by rfl)
set_option maxHeartbeats 4000000 in
set_option maxRecDepth 100000 in
theorem in0_wsX50 : ∀ w ∈ wsX50, w ∈ lw_tbl := l_inr wsX50 [143, 145, 147] (by rfl)
set_option maxHeartbeats 4000000 in
set_option maxRecDepth 100000 in
theorem in0_wsX10 : ∀ w ∈ wsX10, w ∈ lw_tbl := l_inr wsX10 [167, 169, 171, 173, 175, 177, 179] (by rfl)
set_option maxHeartbeats 4000000 in
set_option maxRecDepth 100000 in
theorem in0_wsX30 : ∀ w ∈ wsX30, w ∈ lw_tbl := l_inr wsX30 [234, 236, 238, 240, 242, 244, 246, 248] (by rfl)
set_option maxHeartbeats 4000000 in
set_option maxRecDepth 100000 in
theorem in0_wsX00 : ∀ w ∈ wsX00, w ∈ lw_tbl := l_inr wsX00 [266, 268, 270, 272, 274, 276, 278, 280] (by rfl)
set_option maxHeartbeats 4000000 in
set_option maxRecDepth 100000 in
theorem in0_wsX20 : ∀ w ∈ wsX20, w ∈ lw_tbl := l_inr wsX20 [207, 209, 211, 213, 215, 217, 219, 221, 223] (by rfl)
set_option maxHeartbeats 4000000 in
set_option maxRecDepth 100000 in
theorem in0_wsJ40 : ∀ w ∈ wsJ40, w ∈ lw_tbl := l_inr wsJ40 [424, 426, 428, 430] (by rfl)
theorem wsL_law_in0 : ∀ w ∈ wsL_law0, w ∈ lw_tbl := List.forall_mem_append.mpr ⟨List.forall_mem_append.mpr ⟨List.forall_mem_append.mpr ⟨List.forall_mem_append.mpr ⟨List.forall_mem_append.mpr ⟨List.forall_mem_append.mpr ⟨List.forall_mem_append.mpr ⟨List.forall_mem_append.mpr ⟨List.forall_mem_append.mpr ⟨List.forall_mem_append.mpr ⟨List.forall_mem_append.mpr ⟨List.forall_mem_append.mpr ⟨in0_wsL_law0_r1, List.forall_mem_append.mpr ⟨in0_wsL_law0_r2, List.forall_mem_append.mpr ⟨in0_wsL_law0_r3, List.forall_mem_append.mpr ⟨in0_wsL_law0_r4, List.forall_mem_append.mpr ⟨in0_wsL_law0_r5, List.forall_mem_append.mpr ⟨in0_wsL_law0_r6, List.forall_mem_append.mpr ⟨in0_wsL_law0_r7, List.forall_mem_append.mpr ⟨in0_wsL_law0_r8, List.forall_mem_append.mpr ⟨in0_wsL_law0_r9, List.forall_mem_append.mpr ⟨in0_wsL_law0_r10, List.forall_mem_append.mpr ⟨in0_wsL_law0_r11, List.forall_mem_append.mpr ⟨in0_wsL_law0_r12, List.forall_mem_append.mpr ⟨in0_wsL_law0_r13, List.forall_mem_append.mpr ⟨in0_wsL_law0_r14, List.forall_mem_append.mpr ⟨in0_wsL_law0_r15, List.forall_mem_append.mpr ⟨in0_wsL_law0_r16, List.forall_mem_append.mpr ⟨in0_wsL_law0_r17, List.forall_mem_append.mpr ⟨in0_wsL_law0_r18, List.forall_mem_append.mpr ⟨in0_wsL_law0_r19, List.forall_mem_append.mpr ⟨in0_wsL_law0_r20, List.forall_mem_append.mpr ⟨in0_wsL_law0_r21, List.forall_mem_append.mpr ⟨in0_wsL_law0_r22, List.forall_mem_append.mpr ⟨in0_wsL_law0_r23, List.forall_mem_append.mpr ⟨in0_wsL_law0_r24, List.forall_mem_append.mpr ⟨in0_wsL_law0_r25, List.forall_mem_append.mpr ⟨in0_wsL_law0_r26, List.forall_mem_append.mpr ⟨in0_wsL_law0_r27, List.forall_mem_append.mpr ⟨in0_wsL_law0_r28, List.forall_mem_append.mpr ⟨in0_wsL_law0_r29, in0_wsL_law0_r30⟩⟩⟩⟩⟩⟩⟩⟩⟩⟩⟩⟩⟩⟩⟩⟩⟩⟩⟩⟩⟩⟩⟩⟩⟩⟩⟩⟩⟩, in0_wsX70⟩, in0_wsX80⟩, in0_wsX60⟩, in0_wsX40⟩, in0_wsX50⟩, in0_wsX10⟩, in0_wsX30⟩, in0_wsX00⟩, in0_wsX20⟩, in0_wsJ40⟩, fun w h => absurd h List.not_mem_nil⟩
