set_option maxHeartbeats 4000000 in
set_option maxRecDepth 100000 in
theorem ggL_law_X8_same : GoodIn wsL_law wsX8_same := goodIn_r _ [554, 182, 121, 122, 543, 544, 545, 5, 546, 120, 119, 493, 494, 495, 496, 172, 112, 113, 111, 497, 498, 499, 500, 110, 501, 502, 503, 528, 529, 530, 531, 176, 173, 723, 724, 725, 726, 727, 728, 729, 730, 731, 732, 733, 734, 735, 736, 737, 738, 739, 740, 741, 742, 743, 744, 745, 746, 747, 748, 749, 750, 751, 752, 753, 754, 755, 756, 757] (by rfl) (by decide +kernel)
set_option maxHeartbeats 4000000 in
set_option maxRecDepth 100000 in
theorem gL_law_X8_same : GoodIn wsL_law (wsV RL 77 RX8 yX8_same wsX8_same) := goodIn_app (goodIn_of _ (by decide +kernel)) ggL_law_X8_same
set_option maxHeartbeats 4000000 in
set_option maxRecDepth 100000 in
theorem ggL_law_X7_at : GoodIn wsL_law wsX7_at := goodIn_r _ [558, 26, 149, 436, 437, 195, 196, 2, 197, 202, 203, 204, 205, 17, 18, 559, 560, 561, 16, 562, 156, 49, 708, 709, 710, 711, 712, 713, 714, 715, 716, 717, 718, 719, 720, 721, 722, 760, 761, 762, 763, 758, 759] (by rfl) (by decide +kernel)
set_option maxHeartbeats 4000000 in
set_option maxRecDepth 100000 in
theorem gL_law_X7_at : GoodIn wsL_law (wsV RL 78 RX7 yX7_at wsX7_at) := goodIn_app (goodIn_of _ (by decide +kernel)) ggL_law_X7_at
set_option maxHeartbeats 4000000 in
set_option maxRecDepth 100000 in
theorem ggL_law_X8_at : GoodIn wsL_law wsX8_at := goodIn_r _ [566, 182, 120, 119, 172, 112, 113, 110, 111, 723, 724, 725, 726, 727, 728, 729, 730, 731, 732, 733, 734, 735, 736, 737, 738, 739, 740, 741, 742, 743, 744, 745, 746, 747, 748, 749, 750, 751, 752, 753, 754, 755, 756, 757] (by rfl) (by decide +kernel)
set_option maxHeartbeats 4000000 in
set_option maxRecDepth 100000 in
theorem gL_law_X8_at : GoodIn wsL_law (wsV RL 81 RX8 yX8_at wsX8_at) := goodIn_app (goodIn_of _ (by decide +kernel)) ggL_law_X8_at
