set_option maxHeartbeats 4000000 in
set_option maxRecDepth 100000 in
theorem ggL_law_L_equation : GoodIn wsL_law wsL_equation := goodIn_ca (goodIn_r _ [227, 228, 229, 230, 231, 2, 232, 233, 234, 44, 30, 17, 18, 235, 236, 237, 238, 29, 239, 167, 240, 241, 242, 243, 166, 61, 244, 245, 246, 247, 16, 248, 156, 49, 152, 153, 154, 155, 708, 709, 710, 711, 712, 713, 714, 715, 716, 717, 718, 719, 720, 721, 722, 764, 765, 766, 758, 759] (by first | rfl | decide +kernel) (by decide +kernel)) (goodIn_sub (fun _ h => List.mem_append_right _ h) (by decide +kernel))
set_option maxRecDepth 20000 in
theorem gL_law_L_equation : GoodIn wsL_law (va_wsS RL 61 yL_equation wsL_equation) := goodIn_app (goodIn_of _ (by decide +kernel)) ggL_law_L_equation
set_option maxHeartbeats 4000000 in
set_option maxRecDepth 100000 in
theorem ggL_law_X8_equation : GoodIn wsL_law wsX8_equation := goodIn_r _ [252, 176, 173, 120, 121, 119, 122, 178, 179, 180, 5, 181, 182, 253, 254, 255, 256, 174, 115, 116, 117, 118, 723, 724, 725, 726, 727, 728, 729, 730, 731, 732, 733, 734, 735, 736, 737, 738, 739, 740, 741, 742, 743, 744, 745, 746, 747, 748, 749, 750, 751, 752, 753, 754, 755, 756, 757] (by first | rfl | decide +kernel) (by decide +kernel)
set_option maxRecDepth 20000 in
theorem gL_law_X8_equation : GoodIn wsL_law (wsV RL 64 RX8 yX8_equation wsX8_equation) := goodIn_app (goodIn_of _ (by decide +kernel)) ggL_law_X8_equation
set_option maxHeartbeats 4000000 in
set_option maxRecDepth 100000 in
theorem ggL_law_L_inverse : GoodIn wsL_law wsL_inverse := goodIn_ca (goodIn_ca (goodIn_r _ [259, 228, 142, 260, 261, 262, 2, 263, 233, 234, 147, 148, 44, 30, 235, 198, 199, 200, 201, 43, 236, 237, 238, 29, 239, 167, 264, 265, 266, 267, 21, 22, 152, 153, 154, 16, 155, 156, 206, 207, 208, 209, 49, 240, 241, 242, 243, 166, 61, 244, 245, 246, 247, 248, 708, 709, 710, 711, 712, 713, 714, 715, 716, 717, 718, 719, 720, 721, 722, 764, 765, 766, 758, 759] (by first | rfl | decide +kernel) (by decide +kernel)) (goodIn_sub (fun _ h => List.mem_append_right _ h) (by decide +kernel))) (goodIn_sub (fun _ h => List.mem_append_left _ (List.mem_append_right _ h)) (by decide +kernel))
set_option maxRecDepth 20000 in
theorem gL_law_L_inverse : GoodIn wsL_law (va_wsS RL 65 yL_inverse wsL_inverse) := goodIn_app (goodIn_of _ (by decide +kernel)) ggL_law_L_inverse
