set_option maxHeartbeats 4000000 in
set_option maxRecDepth 100000 in
theorem ggL_law_X8_letter : GoodIn wsL_law wsX8_letter := goodIn_r _ [213, 137, 120, 119, 178, 179, 180, 5, 181, 182, 723, 724, 725, 726, 727, 728, 729, 730, 731, 732, 733, 734, 735, 736, 737, 738, 739, 740, 741, 742, 743, 744, 745, 746, 747, 748, 749, 750, 751, 752, 753, 754, 755, 756, 757] (by first | rfl | decide +kernel) (by decide +kernel)
set_option maxRecDepth 20000 in
theorem gL_law_X8_letter : GoodIn wsL_law (wsV RL 57 RX8 yX8_letter wsX8_letter) := goodIn_app (goodIn_of _ (by decide +kernel)) ggL_law_X8_letter
set_option maxHeartbeats 4000000 in
set_option maxRecDepth 100000 in
theorem ggL_law_L_erase : GoodIn wsL_law wsL_erase := goodIn_ca (goodIn_r _ [216, 142, 217, 218, 219, 2, 220, 147, 148, 194, 195, 196, 197, 202, 203, 204, 205, 17, 18, 152, 153, 154, 16, 155, 156, 758, 759, 708, 709, 710, 711, 712, 713, 714, 715, 716, 717, 718, 719, 720, 721, 722] (by first | rfl | decide +kernel) (by decide +kernel)) (goodIn_sub (fun _ h => List.mem_append_left _ (List.mem_append_right _ h)) (by decide +kernel))
set_option maxRecDepth 20000 in
theorem gL_law_L_erase : GoodIn wsL_law (va_wsS RL 58 yL_erase wsL_erase) := goodIn_app (goodIn_of _ (by decide +kernel)) ggL_law_L_erase
set_option maxHeartbeats 4000000 in
set_option maxRecDepth 100000 in
theorem ggL_law_X8_erase : GoodIn wsL_law wsX8_erase := goodIn_r _ [224, 120, 178, 179, 180, 5, 181, 182, 723, 724, 725, 726, 727, 728, 729, 730, 731, 732, 733, 734, 735, 736, 737, 738, 739, 740, 741, 742, 743, 744, 745, 746, 747, 748, 749, 750, 751, 752, 753, 754, 755, 756, 757] (by first | rfl | decide +kernel) (by decide +kernel)
set_option maxRecDepth 20000 in
theorem gL_law_X8_erase : GoodIn wsL_law (wsV RL 60 RX8 yX8_erase wsX8_erase) := goodIn_app (goodIn_of _ (by decide +kernel)) ggL_law_X8_erase
