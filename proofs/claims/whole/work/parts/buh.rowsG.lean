set_option maxHeartbeats 4000000 in
set_option maxRecDepth 100000 in
theorem ggL_law_L_words : GoodIn wsL_law wsL_words := goodIn_ca (goodIn_r _ [569, 142, 570, 571, 572, 2, 573, 147, 148, 42, 43, 574, 575, 576, 41, 577, 105, 578, 579, 580, 581, 582, 306, 307, 33, 308, 309, 71, 310, 311, 312, 313, 314, 315, 316, 25, 317, 161, 55, 318, 319, 320, 321, 322, 67, 68, 69, 323, 324, 325, 326, 327, 328, 329, 330, 331, 332, 333, 334, 335, 336, 337, 338, 339, 340, 341, 342, 70, 343, 344, 345, 346, 347, 348, 349, 350, 583, 584, 585, 586, 587, 101, 588, 589, 590, 591, 592, 593, 594, 595, 596, 597, 598, 599, 600, 601, 602, 603, 604, 708, 709, 710, 711, 712, 713, 714, 715, 716, 717, 718, 719, 720, 721, 722, 782, 783, 784, 785, 786, 787, 788, 789, 767, 768, 769, 770, 771, 772, 773, 760, 761, 762, 763, 758, 759, 799, 800, 801, 802] (by rfl) (by decide +kernel)) (goodIn_sub (fun _ h => List.mem_append_left _ (List.mem_append_right _ h)) (by decide +kernel))
set_option maxHeartbeats 4000000 in
set_option maxRecDepth 100000 in
theorem gL_law_L_words : GoodIn wsL_law (va_wsS RL 82 yL_words wsL_words) := goodIn_app (goodIn_of _ (by decide +kernel)) ggL_law_L_words
set_option maxHeartbeats 4000000 in
set_option maxRecDepth 100000 in
theorem ggL_law_X8_words : GoodIn wsL_law wsX8_words := goodIn_r _ [608, 134, 178, 179, 180, 5, 181, 182, 609, 610, 611, 612, 613, 130, 137, 127, 614, 615, 616, 617, 126, 123, 172, 112, 110, 128, 125, 124, 618, 619, 620, 621, 622, 623, 624, 625, 723, 724, 725, 726, 727, 728, 729, 730, 731, 732, 733, 734, 735, 736, 737, 738, 739, 740, 741, 742, 743, 744, 745, 746, 747, 748, 749, 750, 751, 752, 753, 754, 755, 756, 757] (by rfl) (by decide +kernel)
set_option maxHeartbeats 4000000 in
set_option maxRecDepth 100000 in
theorem gL_law_X8_words : GoodIn wsL_law (wsV RL 84 RX8 yX8_words wsX8_words) := goodIn_app (goodIn_of _ (by decide +kernel)) ggL_law_X8_words
set_option maxHeartbeats 4000000 in
set_option maxRecDepth 100000 in
theorem ggL_law_X7_size : GoodIn wsL_law wsX7_size := goodIn_r _ [629, 42, 43, 574, 575, 576, 41, 577, 105, 578, 579, 580, 581, 582, 306, 307, 33, 308, 309, 71, 310, 311, 312, 313, 314, 315, 316, 25, 317, 161, 55, 318, 319, 320, 321, 322, 67, 68, 69, 323, 324, 325, 326, 327, 328, 329, 330, 331, 332, 333, 334, 335, 336, 337, 338, 339, 340, 341, 342, 70, 343, 344, 345, 346, 347, 348, 349, 350, 583, 584, 585, 586, 587, 101, 588, 589, 590, 591, 592, 593, 594, 595, 596, 597, 598, 599, 600, 630, 631, 632, 633, 103, 634, 102, 104, 635, 636, 637, 638, 639, 640, 641, 642, 708, 709, 710, 711, 712, 713, 714, 715, 716, 717, 718, 719, 720, 721, 722, 782, 783, 784, 785, 786, 787, 788, 789, 767, 768, 769, 770, 771, 772, 773, 760, 761, 762, 763, 758, 759, 799, 800, 801, 802] (by rfl) (by decide +kernel)
set_option maxHeartbeats 4000000 in
set_option maxRecDepth 100000 in
theorem gL_law_X7_size : GoodIn wsL_law (wsV RL 85 RX7 yX7_size wsX7_size) := goodIn_app (goodIn_of _ (by decide +kernel)) ggL_law_X7_size
