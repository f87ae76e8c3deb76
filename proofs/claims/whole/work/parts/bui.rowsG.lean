set_option maxHeartbeats 4000000 in
set_option maxRecDepth 100000 in
theorem ggL_law_X8_size : GoodIn wsL_law wsX8_size := goodIn_r _ [646, 182, 613, 131, 135, 647, 132, 136, 614, 615, 616, 5, 617, 130, 126, 123, 172, 112, 110, 128, 125, 124, 137, 127, 618, 619, 620, 621, 622, 623, 624, 625, 648, 649, 650, 651, 723, 724, 725, 726, 727, 728, 729, 730, 731, 732, 733, 734, 735, 736, 737, 738, 739, 740, 741, 742, 743, 744, 745, 746, 747, 748, 749, 750, 751, 752, 753, 754, 755, 756, 757] (by rfl) (by decide +kernel)
set_option maxHeartbeats 4000000 in
set_option maxRecDepth 100000 in
theorem gL_law_X8_size : GoodIn wsL_law (wsV RL 89 RX8 yX8_size wsX8_size) := goodIn_app (goodIn_of _ (by decide +kernel)) ggL_law_X8_size
set_option maxHeartbeats 4000000 in
set_option maxRecDepth 100000 in
theorem ggL_law_X7_find : GoodIn wsL_law wsX7_find := goodIn_r _ [655, 42, 43, 17, 574, 575, 576, 41, 577, 105, 578, 579, 580, 581, 582, 306, 307, 33, 308, 309, 71, 310, 311, 312, 313, 314, 315, 316, 25, 317, 161, 55, 318, 319, 320, 321, 322, 67, 68, 69, 323, 324, 325, 326, 327, 328, 329, 330, 331, 332, 333, 334, 335, 336, 337, 338, 339, 340, 341, 342, 70, 343, 344, 345, 346, 347, 348, 349, 350, 583, 584, 585, 586, 587, 101, 588, 589, 590, 591, 592, 593, 594, 595, 596, 597, 598, 599, 600, 601, 602, 603, 604, 656, 657, 658, 659, 660, 153, 154, 16, 155, 156, 661, 207, 208, 209, 49, 708, 709, 710, 711, 712, 713, 714, 715, 716, 717, 718, 719, 720, 721, 722, 782, 783, 784, 785, 786, 787, 788, 789, 767, 768, 769, 770, 771, 772, 773, 760, 761, 762, 763, 758, 759, 799, 800, 801, 802] (by rfl) (by decide +kernel)
set_option maxHeartbeats 4000000 in
set_option maxRecDepth 100000 in
theorem gL_law_X7_find : GoodIn wsL_law (wsV RL 92 RX7 yX7_find wsX7_find) := goodIn_app (goodIn_of _ (by decide +kernel)) ggL_law_X7_find
set_option maxHeartbeats 4000000 in
set_option maxRecDepth 100000 in
theorem ggL_law_X8_find : GoodIn wsL_law wsX8_find := goodIn_r _ [665, 182, 134, 119, 127, 120, 609, 610, 611, 5, 612, 613, 130, 137, 614, 615, 616, 617, 126, 123, 172, 112, 110, 128, 125, 124, 618, 619, 620, 621, 622, 623, 624, 625, 666, 667, 668, 669, 723, 724, 725, 726, 727, 728, 729, 730, 731, 732, 733, 734, 735, 736, 737, 738, 739, 740, 741, 742, 743, 744, 745, 746, 747, 748, 749, 750, 751, 752, 753, 754, 755, 756, 757] (by rfl) (by decide +kernel)
set_option maxHeartbeats 4000000 in
set_option maxRecDepth 100000 in
theorem gL_law_X8_find : GoodIn wsL_law (wsV RL 96 RX8 yX8_find wsX8_find) := goodIn_app (goodIn_of _ (by decide +kernel)) ggL_law_X8_find
