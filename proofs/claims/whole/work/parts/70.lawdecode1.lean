set_option maxRecDepth 20000 in
theorem ggL_law_X7_farthest : GoodIn wsL_law wsX7_farthest := goodIn_r _ [528, 99, 288, 289, 290, 5, 291, 97, 131, 132, 133, 331, 332, 333, 334, 343, 344, 345, 346, 779, 780, 781, 782, 783, 784, 785, 786, 787, 788, 789, 790, 791, 792, 793, 794, 795, 796, 797] (by decide +kernel) (by decide +kernel)
set_option maxRecDepth 20000 in
theorem gL_law_X7_farthest : GoodIn wsL_law (wsV RL 64 RX7 yX7_farthest wsX7_farthest) := goodIn_app (goodIn_of _ (by decide +kernel)) ggL_law_X7_farthest
set_option maxRecDepth 20000 in
theorem ggL_law_X6_plan : GoodIn wsL_law wsX6_plan := goodIn_r _ [532, 38, 31, 19, 314, 296, 252, 253, 37, 254, 91, 533, 534, 535, 2, 536, 180, 537, 538, 539, 30, 540, 76, 541, 542, 543, 544, 73, 74, 545, 546, 547, 548, 549, 550, 551, 552, 321, 322, 323, 89, 553, 316, 317, 318, 319, 215, 216, 217, 320, 324, 276, 277, 278, 80, 279, 272, 273, 274, 90, 325, 326, 554, 555, 556, 557, 558, 75, 559, 421, 422, 423, 424, 281, 282, 283, 81, 560, 434, 435, 436, 561, 562, 563, 564, 565, 566, 567, 568, 297, 298, 299, 18, 300, 53, 569, 570, 571, 572, 573, 574, 575, 576, 770, 771, 772, 773, 774, 775, 776, 777, 778, 803, 804, 805, 806, 807, 818, 819, 820, 821, 822, 823, 814, 815, 816, 817] (by decide +kernel) (by decide +kernel)
set_option maxRecDepth 20000 in
theorem gL_law_X6_plan : GoodIn wsL_law (wsV RL 65 RX6 yX6_plan wsX6_plan) := goodIn_app (goodIn_of _ (by decide +kernel)) ggL_law_X6_plan
set_option maxRecDepth 20000 in
theorem ggL_law_X7_plan : GoodIn wsL_law wsX7_plan := goodIn_r _ [580, 99, 331, 332, 333, 5, 334, 97, 131, 132, 133, 581, 582, 583, 584, 105, 106, 585, 586, 587, 466, 467, 468, 588, 589, 590, 591, 343, 344, 345, 346, 592, 593, 594, 595, 596, 597, 598, 599, 600, 601, 602, 603, 604, 605, 606, 607, 608, 609, 610, 611, 779, 780, 781, 782, 783, 784, 785, 786, 787, 788, 789, 790, 791, 792, 793, 794, 795, 796, 797] (by decide +kernel) (by decide +kernel)
set_option maxRecDepth 20000 in
theorem gL_law_X7_plan : GoodIn wsL_law (wsV RL 68 RX7 yX7_plan wsX7_plan) := goodIn_app (goodIn_of _ (by decide +kernel)) ggL_law_X7_plan
set_option maxRecDepth 20000 in
theorem ggL_law_X6_ways : GoodIn wsL_law wsX6_ways := goodIn_r _ [615, 38, 31, 19, 314, 296, 252, 253, 37, 254, 91, 533, 534, 535, 2, 536, 180, 537, 538, 539, 30, 540, 76, 541, 542, 543, 544, 73, 74, 545, 546, 547, 548, 549, 550, 551, 552, 321, 322, 323, 89, 553, 316, 317, 318, 319, 215, 216, 217, 320, 324, 276, 277, 278, 80, 279, 272, 273, 274, 90, 325, 326, 554, 555, 556, 557, 558, 75, 559, 421, 422, 423, 424, 281, 282, 283, 81, 560, 434, 435, 436, 561, 562, 563, 564, 565, 566, 567, 568, 297, 298, 299, 18, 300, 53, 616, 617, 618, 619, 770, 771, 772, 773, 774, 775, 776, 777, 778, 803, 804, 805, 806, 807, 818, 819, 820, 821, 822, 823, 814, 815, 816, 817] (by decide +kernel) (by decide +kernel)
set_option maxRecDepth 20000 in
theorem gL_law_X6_ways : GoodIn wsL_law (wsV RL 69 RX6 yX6_ways wsX6_ways) := goodIn_app (goodIn_of _ (by decide +kernel)) ggL_law_X6_ways
set_option maxRecDepth 20000 in
theorem ggL_law_X7_ways : GoodIn wsL_law wsX7_ways := goodIn_r _ [623, 99, 106, 331, 332, 333, 5, 334, 97, 131, 132, 133, 581, 582, 583, 584, 105, 585, 586, 587, 466, 467, 468, 588, 589, 590, 591, 343, 344, 345, 346, 592, 593, 594, 595, 596, 597, 598, 599, 600, 601, 602, 603, 604, 605, 606, 607, 779, 780, 781, 782, 783, 784, 785, 786, 787, 788, 789, 790, 791, 792, 793, 794, 795, 796, 797] (by decide +kernel) (by decide +kernel)
set_option maxRecDepth 20000 in
theorem gL_law_X7_ways : GoodIn wsL_law (wsV RL 72 RX7 yX7_ways wsX7_ways) := goodIn_app (goodIn_of _ (by decide +kernel)) ggL_law_X7_ways
set_option maxRecDepth 20000 in
theorem ggL_law_X6_setback : GoodIn wsL_law wsX6_setback := goodIn_r _ [627, 628, 19, 31, 314, 38, 379, 380, 381, 2, 382, 271, 272, 273, 37, 274, 90, 383, 384, 385, 296, 252, 253, 254, 91, 533, 534, 535, 536, 180, 537, 538, 539, 30, 540, 76, 541, 542, 543, 544, 73, 74, 545, 546, 547, 548, 549, 550, 551, 552, 321, 322, 323, 89, 553, 316, 317, 318, 319, 215, 216, 217, 320, 324, 276, 277, 278, 80, 279, 325, 326, 554, 555, 556, 557, 558, 75, 559, 421, 422, 423, 424, 281, 282, 283, 81, 560, 434, 435, 436, 561, 562, 563, 564, 565, 566, 567, 568, 297, 298, 299, 18, 300, 53, 398, 399, 400, 401, 402, 403, 404, 405, 406, 407, 364, 365, 366, 408, 409, 410, 569, 570, 571, 572, 411, 412, 413, 414, 415, 416, 417, 418, 419, 420, 425, 426, 427, 428, 429, 430, 431, 432, 433, 770, 771, 772, 773, 774, 775, 776, 777, 778, 803, 804, 805, 806, 807, 818, 819, 820, 821, 822, 823, 814, 815, 816, 817] (by decide +kernel) (by decide +kernel)
set_option maxRecDepth 20000 in
theorem gL_law_X6_setback : GoodIn wsL_law (wsV RL 73 RX6 yX6_setback wsX6_setback) := goodIn_app (goodIn_of _ (by decide +kernel)) ggL_law_X6_setback
set_option maxRecDepth 20000 in
theorem ggL_law_X7_setback : GoodIn wsL_law wsX7_setback := goodIn_r _ [632, 633, 99, 447, 448, 449, 5, 450, 288, 289, 290, 291, 97, 131, 132, 133, 331, 332, 333, 334, 581, 582, 583, 584, 105, 106, 585, 586, 587, 466, 467, 468, 588, 589, 590, 591, 343, 344, 345, 346, 592, 593, 594, 595, 596, 597, 598, 599, 600, 601, 602, 603, 604, 605, 606, 607, 634, 635, 636, 637, 107, 455, 456, 457, 458, 459, 460, 461, 462, 463, 464, 465, 638, 639, 640, 641, 779, 780, 781, 782, 783, 784, 785, 786, 787, 788, 789, 790, 791, 792, 793, 794, 795, 796, 797] (by decide +kernel) (by decide +kernel)
set_option maxRecDepth 20000 in
theorem gL_law_X7_setback : GoodIn wsL_law (wsV RL 76 RX7 yX7_setback wsX7_setback) := goodIn_app (goodIn_of _ (by decide +kernel)) ggL_law_X7_setback
set_option maxRecDepth 20000 in
theorem ggL_law_X6_odds : GoodIn wsL_law wsX6_odds := goodIn_r _ [645, 19, 314, 38, 379, 380, 381, 2, 382, 271, 272, 273, 37, 274, 90, 383, 384, 385, 296, 252, 253, 254, 91, 297, 298, 299, 18, 300, 53, 402, 403, 404, 405, 324, 276, 277, 278, 80, 279, 320, 321, 322, 323, 89, 406, 407, 364, 365, 216, 366, 408, 409, 410, 215, 217, 646, 647, 648, 649, 319, 416, 417, 418, 419, 650, 421, 422, 423, 424, 281, 282, 283, 81, 651, 434, 435, 436, 652, 653, 654, 655, 325, 326, 770, 771, 772, 773, 774, 775, 776, 777, 778, 803, 804, 805, 806, 807, 818, 819, 820, 821, 822, 823] (by decide +kernel) (by decide +kernel)
set_option maxRecDepth 20000 in
theorem gL_law_X6_odds : GoodIn wsL_law (wsV RL 77 RX6 yX6_odds wsX6_odds) := goodIn_app (goodIn_of _ (by decide +kernel)) ggL_law_X6_odds
set_option maxRecDepth 20000 in
theorem ggL_law_X7_odds : GoodIn wsL_law wsX7_odds := goodIn_r _ [659, 97, 447, 448, 449, 5, 450, 288, 289, 290, 291, 131, 132, 133, 331, 332, 333, 334, 634, 635, 636, 637, 107, 99, 459, 460, 461, 462, 463, 464, 465, 466, 467, 468, 455, 456, 457, 458, 638, 639, 640, 641, 779, 780, 781, 782, 783, 784, 785, 786, 787, 788, 789, 790, 791, 792, 793, 794, 795, 796, 797] (by decide +kernel) (by decide +kernel)
set_option maxRecDepth 20000 in
theorem gL_law_X7_odds : GoodIn wsL_law (wsV RL 81 RX7 yX7_odds wsX7_odds) := goodIn_app (goodIn_of _ (by decide +kernel)) ggL_law_X7_odds
set_option maxRecDepth 20000 in
theorem ggL_law_X6_shows : GoodIn wsL_law wsX6_shows := goodIn_r _ [663, 38, 27, 271, 272, 273, 37, 274, 90, 383, 384, 2, 385, 275, 276, 277, 278, 80, 279, 664, 406, 407, 364, 365, 216, 366, 665, 666, 667, 26, 668, 69, 66, 67, 68, 770, 771, 772, 773, 774, 775, 776, 777, 778, 818, 819, 820, 821, 822, 823, 810, 811, 812, 813] (by decide +kernel) (by decide +kernel)
set_option maxRecDepth 20000 in
theorem gL_law_X6_shows : GoodIn wsL_law (wsV RL 82 RX6 yX6_shows wsX6_shows) := goodIn_app (goodIn_of _ (by decide +kernel)) ggL_law_X6_shows
set_option maxRecDepth 20000 in
theorem ggL_law_X7_shows : GoodIn wsL_law wsX7_shows := goodIn_r _ [672, 151, 104, 288, 289, 290, 5, 291, 97, 131, 132, 133, 779, 780, 781, 782, 783, 784, 785, 786, 787, 788, 789, 790, 791, 792, 793, 794, 795, 796, 797] (by decide +kernel) (by decide +kernel)
set_option maxRecDepth 20000 in
theorem gL_law_X7_shows : GoodIn wsL_law (wsV RL 86 RX7 yX7_shows wsX7_shows) := goodIn_app (goodIn_of _ (by decide +kernel)) ggL_law_X7_shows
set_option maxRecDepth 20000 in
theorem ggL_law_X6_forget : GoodIn wsL_law wsX6_forget := goodIn_r _ [676, 27, 259, 260, 261, 26, 262, 69, 770, 771, 772, 773, 774, 775, 776, 777, 778, 810, 811, 812, 813] (by decide +kernel) (by decide +kernel)
set_option maxRecDepth 20000 in
theorem gL_law_X6_forget : GoodIn wsL_law (wsV RL 87 RX6 yX6_forget wsX6_forget) := goodIn_app (goodIn_of _ (by decide +kernel)) ggL_law_X6_forget
set_option maxRecDepth 20000 in
theorem ggL_law_X7_forget : GoodIn wsL_law wsX7_forget := goodIn_r _ [680, 151, 779, 780, 781, 782, 783, 784, 785, 786, 787, 788, 789, 790, 791, 792, 793, 794, 795, 796, 797] (by decide +kernel) (by decide +kernel)
set_option maxRecDepth 20000 in
theorem gL_law_X7_forget : GoodIn wsL_law (wsV RL 90 RX7 yX7_forget wsX7_forget) := goodIn_app (goodIn_of _ (by decide +kernel)) ggL_law_X7_forget
set_option maxRecDepth 20000 in
theorem ggL_law_X6_fits : GoodIn wsL_law wsX6_fits := goodIn_r _ [684, 27, 685, 686, 687, 26, 688, 69, 66, 67, 68, 408, 2, 409, 410, 215, 216, 217, 364, 365, 366, 770, 771, 772, 773, 774, 775, 776, 777, 778, 810, 811, 812, 813] (by decide +kernel) (by decide +kernel)
set_option maxRecDepth 20000 in
theorem gL_law_X6_fits : GoodIn wsL_law (wsV RL 91 RX6 yX6_fits wsX6_fits) := goodIn_app (goodIn_of _ (by decide +kernel)) ggL_law_X6_fits
set_option maxRecDepth 20000 in
theorem ggL_law_X7_fits : GoodIn wsL_law wsX7_fits := goodIn_r _ [692, 151, 97, 104, 463, 464, 5, 465, 466, 467, 468, 779, 780, 781, 782, 783, 784, 785, 786, 787, 788, 789, 790, 791, 792, 793, 794, 795, 796, 797] (by decide +kernel) (by decide +kernel)
set_option maxRecDepth 20000 in
theorem gL_law_X7_fits : GoodIn wsL_law (wsV RL 94 RX7 yX7_fits wsX7_fits) := goodIn_app (goodIn_of _ (by decide +kernel)) ggL_law_X7_fits
set_option maxRecDepth 20000 in
theorem ggL_law_X6_rate : GoodIn wsL_law wsX6_rate := goodIn_r _ [696, 38, 628, 271, 272, 273, 37, 274, 90, 697, 698, 699, 2, 700, 40, 275, 276, 277, 278, 80, 279, 701, 702, 703, 704, 705, 280, 281, 282, 283, 81, 706, 707, 708, 709, 710, 19, 314, 711, 712, 713, 714, 715, 716, 717, 718, 719, 720, 721, 722, 723, 724, 725, 351, 770, 771, 772, 773, 774, 775, 776, 777, 778, 818, 819, 820, 821, 822, 823, 803, 804, 805, 806, 807] (by decide +kernel) (by decide +kernel)
set_option maxRecDepth 20000 in
theorem gL_law_X6_rate : GoodIn wsL_law (wsV RL 95 RX6 yX6_rate wsX6_rate) := goodIn_app (goodIn_of _ (by decide +kernel)) ggL_law_X6_rate
set_option maxRecDepth 20000 in
theorem ggL_law_X7_rate : GoodIn wsL_law wsX7_rate := goodIn_r _ [729, 633, 730, 731, 732, 733, 734, 735, 97, 99, 131, 132, 5, 133, 288, 289, 290, 291, 779, 780, 781, 782, 783, 784, 785, 786, 787, 788, 789, 790, 791, 792, 793, 794, 795, 796, 797] (by decide +kernel) (by decide +kernel)
set_option maxRecDepth 20000 in
theorem gL_law_X7_rate : GoodIn wsL_law (wsV RL 98 RX7 yX7_rate wsX7_rate) := goodIn_app (goodIn_of _ (by decide +kernel)) ggL_law_X7_rate
set_option maxRecDepth 20000 in
theorem ggL_law_X6_keep : GoodIn wsL_law wsX6_keep := goodIn_r _ [739, 34, 19, 351, 386, 387, 388, 18, 389, 54, 55, 53, 56, 57, 770, 771, 772, 773, 774, 775, 776, 777, 778, 803, 804, 805, 806, 807] (by decide +kernel) (by decide +kernel)
set_option maxRecDepth 20000 in
theorem gL_law_X6_keep : GoodIn wsL_law (wsV RL 99 RX6 yX6_keep wsX6_keep) := goodIn_app (goodIn_of _ (by decide +kernel)) ggL_law_X6_keep
set_option maxRecDepth 20000 in
theorem ggL_law_X7_keep : GoodIn wsL_law wsX7_keep := goodIn_r _ [743, 101, 99, 103, 131, 132, 5, 133, 779, 780, 781, 782, 783, 784, 785, 786, 787, 788, 789, 790, 791, 792, 793, 794, 795, 796, 797] (by decide +kernel) (by decide +kernel)
set_option maxRecDepth 20000 in
theorem gL_law_X7_keep : GoodIn wsL_law (wsV RL 102 RX7 yX7_keep wsX7_keep) := goodIn_app (goodIn_of _ (by decide +kernel)) ggL_law_X7_keep
set_option maxRecDepth 20000 in
theorem ggL_law_X6_back : GoodIn wsL_law wsX6_back := goodIn_r _ [747, 34, 33, 19, 23, 351, 503, 504, 505, 18, 506, 57, 507, 56, 53, 508, 55, 54, 255, 256, 257, 22, 258, 62, 770, 771, 772, 773, 774, 775, 776, 777, 778, 803, 804, 805, 806, 807, 808, 809] (by decide +kernel) (by decide +kernel)
set_option maxRecDepth 20000 in
theorem gL_law_X6_back : GoodIn wsL_law (wsV RL 103 RX6 yX6_back wsX6_back) := goodIn_app (goodIn_of _ (by decide +kernel)) ggL_law_X6_back
set_option maxRecDepth 20000 in
theorem ggL_law_X7_back : GoodIn wsL_law wsX7_back := goodIn_r _ [751, 103, 99, 101, 150, 131, 132, 5, 133, 779, 780, 781, 782, 783, 784, 785, 786, 787, 788, 789, 790, 791, 792, 793, 794, 795, 796, 797] (by decide +kernel) (by decide +kernel)
set_option maxRecDepth 20000 in
theorem gL_law_X7_back : GoodIn wsL_law (wsV RL 106 RX7 yX7_back wsX7_back) := goodIn_app (goodIn_of _ (by decide +kernel)) ggL_law_X7_back
set_option maxRecDepth 20000 in
theorem ggL_law_X6_count : GoodIn wsL_law wsX6_count := goodIn_r _ [755, 38, 309, 359, 27, 756, 15, 757, 442, 321, 322, 37, 323, 89, 770, 771, 772, 773, 774, 775, 776, 777, 778, 818, 819, 820, 821, 822, 823, 810, 811, 812, 813, 798, 799, 800, 801, 802] (by decide +kernel) (by decide +kernel)
set_option maxRecDepth 20000 in
theorem gL_law_X6_count : GoodIn wsL_law (wsV RL 107 RX6 yX6_count wsX6_count) := goodIn_app (goodIn_of _ (by decide +kernel)) ggL_law_X6_count
set_option maxRecDepth 20000 in
theorem ggL_law_X7_count : GoodIn wsL_law wsX7_count := goodIn_r _ [761, 97, 151, 124, 779, 780, 781, 782, 783, 784, 785, 786, 787, 788, 789, 790, 791, 792, 793, 794, 795, 796, 797] (by decide +kernel) (by decide +kernel)
set_option maxRecDepth 20000 in
theorem gL_law_X7_count : GoodIn wsL_law (wsV RL 110 RX7 yX7_count wsX7_count) := goodIn_app (goodIn_of _ (by decide +kernel)) ggL_law_X7_count
set_option maxRecDepth 20000 in
theorem ggL_law_X6_trace : GoodIn wsL_law wsX6_trace := goodIn_r _ [765, 40, 770, 771, 772, 773, 774, 775, 776, 777, 778] (by decide +kernel) (by decide +kernel)
set_option maxRecDepth 20000 in
theorem gL_law_X6_trace : GoodIn wsL_law (wsV RL 111 RX6 yX6_trace wsX6_trace) := goodIn_app (goodIn_of _ (by decide +kernel)) ggL_law_X6_trace
set_option maxRecDepth 20000 in
theorem ggL_law_X7_trace : GoodIn wsL_law wsX7_trace := goodIn_r _ [769, 730, 779, 780, 781, 782, 783, 784, 785, 786, 787, 788, 789, 790, 791, 792, 793, 794, 795, 796, 797] (by decide +kernel) (by decide +kernel)
set_option maxRecDepth 20000 in
theorem gL_law_X7_trace : GoodIn wsL_law (wsV RL 115 RX7 yX7_trace wsX7_trace) := goodIn_app (goodIn_of _ (by decide +kernel)) ggL_law_X7_trace
