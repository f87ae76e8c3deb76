set_option maxHeartbeats 4000000 in
set_option maxRecDepth 100000 in
theorem ggL_law_X8_begin : GoodIn wsL_law wsX8_begin := goodIn_r _ [171, 172, 137, 173, 174, 175, 176, 177, 120, 178, 179, 180, 5, 181, 182, 723, 724, 725, 726, 727, 728, 729, 730, 731, 732, 733, 734, 735, 736, 737, 738, 739, 740, 741, 742, 743, 744, 745, 746, 747, 748, 749, 750, 751, 752, 753, 754, 755, 756, 757] (by first | rfl | decide +kernel) (by decide +kernel)
set_option maxRecDepth 20000 in
theorem gL_law_X8_begin : GoodIn wsL_law (wsV RL 50 RX8 yX8_begin wsX8_begin) := goodIn_app (goodIn_of _ (by decide +kernel)) ggL_law_X8_begin
set_option maxHeartbeats 4000000 in
set_option maxRecDepth 100000 in
theorem ggL_law_X8_thrown : GoodIn wsL_law wsX8_thrown := goodIn_r _ [186, 182, 723, 724, 725, 726, 727, 728, 729, 730, 731, 732, 733, 734, 735, 736, 737, 738, 739, 740, 741, 742, 743, 744, 745, 746, 747, 748, 749, 750, 751, 752, 753, 754, 755, 756, 757] (by first | rfl | decide +kernel) (by decide +kernel)
set_option maxRecDepth 20000 in
theorem gL_law_X8_thrown : GoodIn wsL_law (wsV RL 51 RX8 yX8_thrown wsX8_thrown) := goodIn_app (goodIn_of _ (by decide +kernel)) ggL_law_X8_thrown
set_option maxHeartbeats 4000000 in
set_option maxRecDepth 100000 in
theorem ggL_law_L_letter : GoodIn wsL_law wsL_letter := goodIn_ca (goodIn_r _ [189, 142, 190, 191, 192, 2, 193, 147, 148, 194, 195, 196, 197, 198, 199, 200, 201, 43, 202, 203, 204, 205, 17, 18, 206, 207, 208, 16, 209, 156, 49, 758, 759, 708, 709, 710, 711, 712, 713, 714, 715, 716, 717, 718, 719, 720, 721, 722] (by first | rfl | decide +kernel) (by decide +kernel)) (goodIn_sub (fun _ h => List.mem_append_left _ (List.mem_append_right _ h)) (by decide +kernel))
set_option maxRecDepth 20000 in
theorem gL_law_L_letter : GoodIn wsL_law (va_wsS RL 54 yL_letter wsL_letter) := goodIn_app (goodIn_of _ (by decide +kernel)) ggL_law_L_letter
