set_option maxHeartbeats 4000000 in
set_option maxRecDepth 100000 in
theorem ggL_law_X8_order : GoodIn wsL_law wsX8_order := goodIn_r _ [692, 182, 120, 121, 119, 493, 494, 495, 5, 496, 172, 112, 113, 111, 497, 498, 499, 500, 110, 723, 724, 725, 726, 727, 728, 729, 730, 731, 732, 733, 734, 735, 736, 737, 738, 739, 740, 741, 742, 743, 744, 745, 746, 747, 748, 749, 750, 751, 752, 753, 754, 755, 756, 757] (by rfl) (by decide +kernel)
set_option maxHeartbeats 4000000 in
set_option maxRecDepth 100000 in
theorem gL_law_X8_order : GoodIn wsL_law (wsV RL 104 RX8 yX8_order wsX8_order) := goodIn_app (goodIn_of _ (by decide +kernel)) ggL_law_X8_order
set_option maxHeartbeats 4000000 in
set_option maxRecDepth 100000 in
theorem ggL_law_X7_count : GoodIn wsL_law wsX7_count := goodIn_r _ [696, 43, 26, 149, 30, 235, 150, 17, 194, 18, 151, 279, 280, 281, 2, 282, 44, 697, 698, 699, 25, 700, 161, 55, 318, 701, 702, 464, 703, 708, 709, 710, 711, 712, 713, 714, 715, 716, 717, 718, 719, 720, 721, 722, 760, 761, 762, 763, 764, 765, 766, 758, 759] (by rfl) (by decide +kernel)
set_option maxHeartbeats 4000000 in
set_option maxRecDepth 100000 in
theorem gL_law_X7_count : GoodIn wsL_law (wsV RL 105 RX7 yX7_count wsX7_count) := goodIn_app (goodIn_of _ (by decide +kernel)) ggL_law_X7_count
set_option maxHeartbeats 4000000 in
set_option maxRecDepth 100000 in
theorem ggL_law_X8_count : GoodIn wsL_law wsX8_count := goodIn_r _ [707, 182, 172, 112, 137, 173, 175, 120, 177, 528, 529, 530, 5, 531, 176, 723, 724, 725, 726, 727, 728, 729, 730, 731, 732, 733, 734, 735, 736, 737, 738, 739, 740, 741, 742, 743, 744, 745, 746, 747, 748, 749, 750, 751, 752, 753, 754, 755, 756, 757] (by rfl) (by decide +kernel)
set_option maxHeartbeats 4000000 in
set_option maxRecDepth 100000 in
theorem gL_law_X8_count : GoodIn wsL_law (wsV RL 108 RX8 yX8_count wsX8_count) := goodIn_app (goodIn_of _ (by decide +kernel)) ggL_law_X8_count
