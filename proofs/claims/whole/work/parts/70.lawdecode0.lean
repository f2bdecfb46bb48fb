set_option maxRecDepth 20000 in
theorem ggL_law_X6_init : GoodIn wsL_law wsX6_init := goodIn_r _ [8, 9, 10, 11, 12, 13, 14, 15, 16, 17, 18, 19, 20, 21, 22, 23, 24, 25, 26, 27, 28, 29, 30, 31, 32, 33, 34, 35, 36, 37, 38, 39, 40, 41, 42, 43, 44, 45, 46, 47, 48, 49, 50, 51, 52, 53, 54, 55, 56, 57, 58, 59, 60, 61, 62, 63, 64, 65, 66, 67, 68, 69, 70, 71, 72, 73, 74, 75, 76, 77, 78, 79, 80, 81, 82, 83, 84, 85, 86, 87, 88, 89, 90, 91, 798, 799, 800, 801, 802, 770, 771, 772, 773, 774, 775, 776, 777, 778, 803, 804, 805, 806, 807, 808, 809, 810, 811, 812, 813, 814, 815, 816, 817, 818, 819, 820, 821, 822, 823] (by decide +kernel) (by decide +kernel)
set_option maxRecDepth 20000 in
theorem gL_law_X6_init : GoodIn wsL_law (wsX6_init) := ggL_law_X6_init
set_option maxRecDepth 20000 in
theorem ggL_law_X7_init : GoodIn wsL_law wsX7_init := goodIn_r _ [94, 95, 10, 11, 44, 96, 97, 98, 99, 100, 101, 102, 103, 104, 105, 106, 107, 108, 109, 110, 5, 111, 112, 113, 114, 115, 116, 117, 118, 119, 120, 121, 122, 123, 124, 125, 126, 127, 128, 129, 130, 131, 132, 133, 134, 135, 136, 137, 138, 139, 140, 141, 142, 143, 144, 145, 146, 147, 148, 149, 150, 151, 779, 780, 781, 782, 783, 784, 785, 786, 787, 788, 789, 790, 791, 792, 793, 794, 795, 796, 797] (by decide +kernel) (by decide +kernel)
set_option maxRecDepth 20000 in
theorem gL_law_X7_init : GoodIn wsL_law (wsX7_init) := ggL_law_X7_init
set_option maxRecDepth 20000 in
theorem ggL_law_X6_type : GoodIn wsL_law wsX6_type := goodIn_r _ [155, 15, 156, 157, 158, 14, 159, 46, 45, 770, 771, 772, 773, 774, 775, 776, 777, 778, 798, 799, 800, 801, 802] (by decide +kernel) (by decide +kernel)
set_option maxRecDepth 20000 in
theorem gL_law_X6_type : GoodIn wsL_law (wsV RL 13 RX6 yX6_type wsX6_type) := goodIn_app (goodIn_of _ (by decide +kernel)) ggL_law_X6_type
set_option maxRecDepth 20000 in
theorem ggL_law_X7_type : GoodIn wsL_law wsX7_type := goodIn_r _ [163, 124, 96, 131, 132, 5, 133, 779, 780, 781, 782, 783, 784, 785, 786, 787, 788, 789, 790, 791, 792, 793, 794, 795, 796, 797] (by decide +kernel) (by decide +kernel)
set_option maxRecDepth 20000 in
theorem gL_law_X7_type : GoodIn wsL_law (wsV RL 17 RX7 yX7_type wsX7_type) := goodIn_app (goodIn_of _ (by decide +kernel)) ggL_law_X7_type
set_option maxRecDepth 20000 in
theorem ggL_law_X6_clear : GoodIn wsL_law wsX6_clear := goodIn_r _ [167, 15, 168, 169, 170, 14, 171, 46, 770, 771, 772, 773, 774, 775, 776, 777, 778, 798, 799, 800, 801, 802] (by decide +kernel) (by decide +kernel)
set_option maxRecDepth 20000 in
theorem gL_law_X6_clear : GoodIn wsL_law (wsV RL 18 RX6 yX6_clear wsX6_clear) := goodIn_app (goodIn_of _ (by decide +kernel)) ggL_law_X6_clear
set_option maxRecDepth 20000 in
theorem ggL_law_X7_clear : GoodIn wsL_law wsX7_clear := goodIn_r _ [175, 124, 779, 780, 781, 782, 783, 784, 785, 786, 787, 788, 789, 790, 791, 792, 793, 794, 795, 796, 797] (by decide +kernel) (by decide +kernel)
set_option maxRecDepth 20000 in
theorem gL_law_X7_clear : GoodIn wsL_law (wsV RL 22 RX7 yX7_clear wsX7_clear) := goodIn_app (goodIn_of _ (by decide +kernel)) ggL_law_X7_clear
set_option maxRecDepth 20000 in
theorem ggL_law_X6_nursery : GoodIn wsL_law wsX6_nursery := goodIn_r _ [179, 15, 39, 38, 19, 23, 27, 31, 180, 34, 33, 181, 182, 183, 14, 184, 47, 49, 46, 48, 185, 186, 187, 37, 188, 90, 91, 89, 189, 190, 191, 192, 193, 194, 195, 196, 45, 197, 198, 199, 200, 201, 202, 203, 204, 205, 206, 207, 208, 209, 210, 211, 212, 213, 214, 215, 216, 217, 218, 219, 220, 221, 80, 81, 222, 223, 224, 225, 226, 227, 228, 229, 230, 231, 232, 233, 234, 82, 235, 236, 237, 238, 239, 240, 241, 242, 168, 169, 170, 171, 243, 244, 245, 18, 246, 53, 54, 55, 56, 57, 247, 248, 249, 250, 251, 252, 253, 254, 255, 256, 257, 22, 258, 62, 259, 260, 261, 26, 262, 69, 770, 771, 772, 773, 774, 775, 776, 777, 778, 814, 815, 816, 817, 798, 799, 800, 801, 802, 818, 819, 820, 821, 822, 823, 803, 804, 805, 806, 807, 808, 809, 810, 811, 812, 813] (by decide +kernel) (by decide +kernel)
set_option maxRecDepth 20000 in
theorem gL_law_X6_nursery : GoodIn wsL_law (wsV RL 23 RX6 yX6_nursery wsX6_nursery) := goodIn_app (goodIn_of _ (by decide +kernel)) ggL_law_X6_nursery
set_option maxRecDepth 20000 in
theorem ggL_law_X7_nursery : GoodIn wsL_law wsX7_nursery := goodIn_r _ [266, 118, 124, 97, 108, 109, 110, 5, 111, 98, 112, 113, 114, 115, 116, 117, 119, 96, 120, 121, 122, 123, 125, 126, 127, 128, 129, 130, 131, 132, 133, 134, 135, 136, 137, 138, 139, 140, 141, 142, 143, 144, 145, 146, 147, 148, 149, 99, 150, 151, 103, 779, 780, 781, 782, 783, 784, 785, 786, 787, 788, 789, 790, 791, 792, 793, 794, 795, 796, 797] (by decide +kernel) (by decide +kernel)
set_option maxRecDepth 20000 in
theorem gL_law_X7_nursery : GoodIn wsL_law (wsV RL 26 RX7 yX7_nursery wsX7_nursery) := goodIn_app (goodIn_of _ (by decide +kernel)) ggL_law_X7_nursery
set_option maxRecDepth 20000 in
theorem ggL_law_X6_goodbye : GoodIn wsL_law wsX6_goodbye := goodIn_r _ [270, 38, 271, 272, 273, 37, 274, 90, 275, 276, 277, 278, 80, 279, 280, 281, 282, 283, 81, 770, 771, 772, 773, 774, 775, 776, 777, 778, 818, 819, 820, 821, 822, 823] (by decide +kernel) (by decide +kernel)
set_option maxRecDepth 20000 in
theorem gL_law_X6_goodbye : GoodIn wsL_law (wsV RL 27 RX6 yX6_goodbye wsX6_goodbye) := goodIn_app (goodIn_of _ (by decide +kernel)) ggL_law_X6_goodbye
set_option maxRecDepth 20000 in
theorem ggL_law_X7_goodbye : GoodIn wsL_law wsX7_goodbye := goodIn_r _ [287, 97, 288, 289, 290, 5, 291, 131, 132, 133, 779, 780, 781, 782, 783, 784, 785, 786, 787, 788, 789, 790, 791, 792, 793, 794, 795, 796, 797] (by decide +kernel) (by decide +kernel)
set_option maxRecDepth 20000 in
theorem gL_law_X7_goodbye : GoodIn wsL_law (wsV RL 31 RX7 yX7_goodbye wsX7_goodbye) := goodIn_app (goodIn_of _ (by decide +kernel)) ggL_law_X7_goodbye
set_option maxRecDepth 20000 in
theorem ggL_law_X6_woman : GoodIn wsL_law wsX6_woman := goodIn_r _ [295, 38, 19, 296, 252, 253, 37, 254, 91, 297, 298, 299, 18, 300, 53, 301, 302, 303, 304, 56, 305, 306, 307, 2, 308, 309, 310, 311, 312, 313, 314, 315, 316, 317, 318, 319, 215, 216, 217, 320, 321, 322, 323, 89, 324, 276, 277, 278, 80, 279, 272, 273, 274, 90, 325, 326, 280, 281, 282, 283, 81, 770, 771, 772, 773, 774, 775, 776, 777, 778, 818, 819, 820, 821, 822, 823, 803, 804, 805, 806, 807] (by decide +kernel) (by decide +kernel)
set_option maxRecDepth 20000 in
theorem gL_law_X6_woman : GoodIn wsL_law (wsV RL 32 RX6 yX6_woman wsX6_woman) := goodIn_app (goodIn_of _ (by decide +kernel)) ggL_law_X6_woman
set_option maxRecDepth 20000 in
theorem ggL_law_X7_woman : GoodIn wsL_law wsX7_woman := goodIn_r _ [330, 99, 331, 332, 333, 5, 334, 97, 131, 132, 133, 335, 336, 337, 338, 339, 340, 341, 342, 343, 344, 345, 346, 779, 780, 781, 782, 783, 784, 785, 786, 787, 788, 789, 790, 791, 792, 793, 794, 795, 796, 797] (by decide +kernel) (by decide +kernel)
set_option maxRecDepth 20000 in
theorem gL_law_X7_woman : GoodIn wsL_law (wsV RL 35 RX7 yX7_woman wsX7_woman) := goodIn_app (goodIn_of _ (by decide +kernel)) ggL_law_X7_woman
set_option maxRecDepth 20000 in
theorem ggL_law_X6_now : GoodIn wsL_law wsX6_now := goodIn_r _ [350, 19, 351, 314, 352, 353, 23, 354, 355, 356, 357, 2, 358, 38, 359, 301, 302, 303, 18, 304, 56, 360, 361, 362, 363, 309, 364, 365, 216, 366, 310, 311, 312, 313, 297, 298, 299, 300, 53, 315, 316, 317, 37, 318, 319, 215, 217, 320, 321, 322, 323, 89, 324, 276, 277, 278, 80, 279, 272, 273, 274, 90, 325, 326, 770, 771, 772, 773, 774, 775, 776, 777, 778, 803, 804, 805, 806, 807, 808, 809, 818, 819, 820, 821, 822, 823] (by decide +kernel) (by decide +kernel)
set_option maxRecDepth 20000 in
theorem gL_law_X6_now : GoodIn wsL_law (wsV RL 36 RX6 yX6_now wsX6_now) := goodIn_app (goodIn_of _ (by decide +kernel)) ggL_law_X6_now
set_option maxRecDepth 20000 in
theorem ggL_law_X7_now : GoodIn wsL_law wsX7_now := goodIn_r _ [370, 99, 150, 371, 372, 373, 5, 374, 97, 339, 340, 341, 342, 343, 344, 345, 346, 335, 336, 337, 338, 779, 780, 781, 782, 783, 784, 785, 786, 787, 788, 789, 790, 791, 792, 793, 794, 795, 796, 797] (by decide +kernel) (by decide +kernel)
set_option maxRecDepth 20000 in
theorem gL_law_X7_now : GoodIn wsL_law (wsV RL 39 RX7 yX7_now wsX7_now) := goodIn_app (goodIn_of _ (by decide +kernel)) ggL_law_X7_now
set_option maxRecDepth 20000 in
theorem ggL_law_X6_morning : GoodIn wsL_law wsX6_morning := goodIn_r _ [378, 19, 351, 23, 38, 314, 352, 379, 380, 381, 2, 382, 271, 272, 273, 37, 274, 90, 383, 384, 385, 296, 252, 253, 254, 91, 301, 302, 303, 18, 304, 56, 386, 387, 388, 389, 54, 55, 53, 57, 390, 391, 392, 22, 393, 62, 61, 394, 395, 396, 397, 398, 399, 400, 401, 297, 298, 299, 300, 402, 403, 404, 405, 324, 276, 277, 278, 80, 279, 320, 321, 322, 323, 89, 406, 407, 364, 365, 216, 366, 408, 409, 410, 215, 217, 411, 412, 413, 414, 415, 416, 417, 418, 419, 420, 421, 422, 423, 319, 424, 281, 282, 283, 81, 425, 426, 427, 428, 429, 430, 431, 432, 433, 434, 435, 436, 437, 438, 439, 440, 441, 442, 770, 771, 772, 773, 774, 775, 776, 777, 778, 803, 804, 805, 806, 807, 818, 819, 820, 821, 822, 823, 808, 809] (by decide +kernel) (by decide +kernel)
set_option maxRecDepth 20000 in
theorem gL_law_X6_morning : GoodIn wsL_law (wsV RL 40 RX6 yX6_morning wsX6_morning) := goodIn_app (goodIn_of _ (by decide +kernel)) ggL_law_X6_morning
set_option maxRecDepth 20000 in
theorem ggL_law_X7_morning : GoodIn wsL_law wsX7_morning := goodIn_r _ [446, 99, 447, 448, 449, 5, 450, 288, 289, 290, 291, 97, 131, 132, 133, 331, 332, 333, 334, 335, 336, 337, 338, 451, 452, 453, 454, 150, 100, 455, 456, 457, 458, 459, 460, 461, 462, 463, 464, 465, 466, 467, 468, 779, 780, 781, 782, 783, 784, 785, 786, 787, 788, 789, 790, 791, 792, 793, 794, 795, 796, 797] (by decide +kernel) (by decide +kernel)
set_option maxRecDepth 20000 in
theorem gL_law_X7_morning : GoodIn wsL_law (wsV RL 44 RX7 yX7_morning wsX7_morning) := goodIn_app (goodIn_of _ (by decide +kernel)) ggL_law_X7_morning
set_option maxRecDepth 20000 in
theorem ggL_law_X6_home : GoodIn wsL_law wsX6_home := goodIn_r _ [472, 19, 351, 23, 314, 364, 365, 216, 366, 386, 387, 388, 18, 389, 54, 55, 53, 56, 57, 390, 391, 392, 22, 393, 62, 61, 394, 395, 396, 397, 770, 771, 772, 773, 774, 775, 776, 777, 778, 803, 804, 805, 806, 807, 808, 809] (by decide +kernel) (by decide +kernel)
set_option maxRecDepth 20000 in
theorem gL_law_X6_home : GoodIn wsL_law (wsV RL 45 RX6 yX6_home wsX6_home) := goodIn_app (goodIn_of _ (by decide +kernel)) ggL_law_X6_home
set_option maxRecDepth 20000 in
theorem ggL_law_X7_home : GoodIn wsL_law wsX7_home := goodIn_r _ [476, 99, 131, 132, 5, 133, 451, 452, 453, 454, 150, 100, 466, 467, 468, 779, 780, 781, 782, 783, 784, 785, 786, 787, 788, 789, 790, 791, 792, 793, 794, 795, 796, 797] (by decide +kernel) (by decide +kernel)
set_option maxRecDepth 20000 in
theorem gL_law_X7_home : GoodIn wsL_law (wsV RL 48 RX7 yX7_home wsX7_home) := goodIn_app (goodIn_of _ (by decide +kernel)) ggL_law_X7_home
set_option maxRecDepth 20000 in
theorem ggL_law_X6_falls : GoodIn wsL_law wsX6_falls := goodIn_r _ [480, 38, 19, 23, 353, 296, 252, 253, 37, 254, 91, 301, 302, 303, 18, 304, 56, 386, 387, 388, 389, 54, 55, 53, 57, 390, 391, 392, 22, 393, 62, 61, 394, 395, 396, 397, 481, 482, 483, 484, 485, 486, 487, 770, 771, 772, 773, 774, 775, 776, 777, 778, 803, 804, 805, 806, 807, 818, 819, 820, 821, 822, 823, 808, 809] (by decide +kernel) (by decide +kernel)
set_option maxRecDepth 20000 in
theorem gL_law_X6_falls : GoodIn wsL_law (wsV RL 49 RX6 yX6_falls wsX6_falls) := goodIn_app (goodIn_of _ (by decide +kernel)) ggL_law_X6_falls
set_option maxRecDepth 20000 in
theorem ggL_law_X7_falls : GoodIn wsL_law wsX7_falls := goodIn_r _ [491, 99, 331, 332, 333, 5, 334, 97, 131, 132, 133, 451, 452, 453, 454, 150, 100, 492, 493, 494, 779, 780, 781, 782, 783, 784, 785, 786, 787, 788, 789, 790, 791, 792, 793, 794, 795, 796, 797] (by decide +kernel) (by decide +kernel)
set_option maxRecDepth 20000 in
theorem gL_law_X7_falls : GoodIn wsL_law (wsV RL 52 RX7 yX7_falls wsX7_falls) := goodIn_app (goodIn_of _ (by decide +kernel)) ggL_law_X7_falls
set_option maxRecDepth 20000 in
theorem ggL_law_X6_undo : GoodIn wsL_law wsX6_undo := goodIn_r _ [498, 23, 354, 19, 499, 500, 501, 22, 502, 62, 61, 503, 504, 505, 18, 506, 57, 507, 56, 53, 508, 55, 54, 770, 771, 772, 773, 774, 775, 776, 777, 778, 808, 809, 803, 804, 805, 806, 807] (by decide +kernel) (by decide +kernel)
set_option maxRecDepth 20000 in
theorem gL_law_X6_undo : GoodIn wsL_law (wsV RL 53 RX6 yX6_undo wsX6_undo) := goodIn_app (goodIn_of _ (by decide +kernel)) ggL_law_X6_undo
set_option maxRecDepth 20000 in
theorem ggL_law_X7_undo : GoodIn wsL_law wsX7_undo := goodIn_r _ [512, 150, 99, 100, 779, 780, 781, 782, 783, 784, 785, 786, 787, 788, 789, 790, 791, 792, 793, 794, 795, 796, 797] (by decide +kernel) (by decide +kernel)
set_option maxRecDepth 20000 in
theorem gL_law_X7_undo : GoodIn wsL_law (wsV RL 56 RX7 yX7_undo wsX7_undo) := goodIn_app (goodIn_of _ (by decide +kernel)) ggL_law_X7_undo
set_option maxRecDepth 20000 in
theorem ggL_law_X6_would : GoodIn wsL_law wsX6_would := goodIn_r _ [516, 379, 380, 381, 2, 382, 38, 271, 272, 273, 37, 274, 90, 383, 384, 385, 296, 252, 253, 254, 91, 398, 399, 400, 401, 19, 314, 297, 298, 299, 18, 300, 53, 402, 403, 404, 405, 324, 276, 277, 278, 80, 279, 320, 321, 322, 323, 89, 406, 407, 364, 365, 216, 366, 408, 409, 410, 215, 217, 770, 771, 772, 773, 774, 775, 776, 777, 778, 818, 819, 820, 821, 822, 823, 803, 804, 805, 806, 807] (by decide +kernel) (by decide +kernel)
set_option maxRecDepth 20000 in
theorem gL_law_X6_would : GoodIn wsL_law (wsV RL 57 RX6 yX6_would wsX6_would) := goodIn_app (goodIn_of _ (by decide +kernel)) ggL_law_X6_would
set_option maxRecDepth 20000 in
theorem ggL_law_X7_would : GoodIn wsL_law wsX7_would := goodIn_r _ [520, 447, 448, 449, 5, 450, 288, 289, 290, 291, 97, 131, 132, 133, 331, 332, 333, 334, 459, 460, 461, 462, 99, 463, 464, 465, 466, 467, 468, 779, 780, 781, 782, 783, 784, 785, 786, 787, 788, 789, 790, 791, 792, 793, 794, 795, 796, 797] (by decide +kernel) (by decide +kernel)
set_option maxRecDepth 20000 in
theorem gL_law_X7_would : GoodIn wsL_law (wsV RL 60 RX7 yX7_would wsX7_would) := goodIn_app (goodIn_of _ (by decide +kernel)) ggL_law_X7_would
set_option maxRecDepth 20000 in
theorem ggL_law_X6_farthest : GoodIn wsL_law wsX6_farthest := goodIn_r _ [524, 38, 271, 272, 273, 37, 274, 90, 296, 252, 253, 254, 91, 310, 311, 312, 2, 313, 19, 314, 297, 298, 299, 18, 300, 53, 315, 316, 317, 318, 319, 215, 216, 217, 320, 321, 322, 323, 89, 324, 276, 277, 278, 80, 279, 325, 326, 770, 771, 772, 773, 774, 775, 776, 777, 778, 818, 819, 820, 821, 822, 823, 803, 804, 805, 806, 807] (by decide +kernel) (by decide +kernel)
set_option maxRecDepth 20000 in
theorem gL_law_X6_farthest : GoodIn wsL_law (wsV RL 61 RX6 yX6_farthest wsX6_farthest) := goodIn_app (goodIn_of _ (by decide +kernel)) ggL_law_X6_farthest
