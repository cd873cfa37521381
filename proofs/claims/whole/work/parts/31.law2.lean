set_option maxRecDepth 20000 in
theorem ggL_law_X8_init : GoodIn wsL_law wsX8_init := goodIn_r _ [8, 9, 10, 11, 12, 13, 14, 15, 16, 17, 18, 19, 20, 21, 22, 23, 24, 25, 26, 27, 28, 29, 30, 31, 32, 33, 34, 35, 36, 37, 38, 39, 40, 41, 42, 43, 44, 45, 46, 47, 48, 49, 50, 51, 52, 53, 54, 55, 56, 57, 58, 59, 60, 61, 62, 63, 64, 65, 66, 67, 68, 69, 70, 71, 72, 73, 74, 75, 76, 77, 78, 79, 80, 81, 82, 83, 84, 85, 86, 87, 88, 89, 90, 91, 92, 93, 94, 95, 96, 97, 98, 99, 100, 101, 102, 103, 104, 105, 106, 107, 108, 109, 110, 111, 112, 113, 114, 115, 116, 117, 118, 119, 120, 121, 122, 123, 124, 125, 126, 127, 128, 129, 754, 755, 756, 757, 758, 759, 760, 707, 708, 709, 710, 711, 712, 713, 714, 715, 716, 717, 718, 719, 761, 762, 763, 764, 765, 766, 767, 768, 769, 770, 771, 772, 773, 774, 775, 776, 777, 778, 779, 780, 781, 782, 783, 784, 785, 786, 787, 788, 789, 790, 791, 792, 793] (by decide +kernel) (by decide +kernel)
set_option maxRecDepth 20000 in
theorem gL_law_X8_init : GoodIn wsL_law (wsX8_init) := ggL_law_X8_init
set_option maxRecDepth 20000 in
theorem ggL_law_X9_init : GoodIn wsL_law wsX9_init := goodIn_r _ [132, 133, 10, 11, 63, 134, 135, 136, 137, 138, 139, 140, 141, 142, 143, 144, 145, 146, 147, 148, 149, 150, 151, 152, 153, 154, 155, 156, 157, 158, 159, 720, 721, 722, 723, 724, 725, 726, 727, 728, 729, 730, 731, 732, 733, 734, 735, 736, 737, 738, 739, 740, 741, 742, 743, 744, 745, 746, 747, 748, 749, 750, 751, 752, 753] (by decide +kernel) (by decide +kernel)
set_option maxRecDepth 20000 in
theorem gL_law_X9_init : GoodIn wsL_law (wsX9_init) := ggL_law_X9_init
set_option maxRecDepth 20000 in
theorem ggL_law_X8_works : GoodIn wsL_law wsX8_works := goodIn_r _ [163, 164, 707, 708, 709, 710, 711, 712, 713, 714, 715, 716, 717, 718, 719] (by decide +kernel) (by decide +kernel)
set_option maxRecDepth 20000 in
theorem gL_law_X8_works : GoodIn wsL_law (wsV RL 13 RX8 yX8_works wsX8_works) := goodIn_app (goodIn_of _ (by decide +kernel)) ggL_law_X8_works
set_option maxRecDepth 20000 in
theorem ggL_law_X9_works : GoodIn wsL_law wsX9_works := goodIn_r _ [168, 169, 720, 721, 722, 723, 724, 725, 726, 727, 728, 729, 730, 731, 732, 733, 734, 735, 736, 737, 738, 739, 740, 741, 742, 743, 744, 745, 746, 747, 748, 749, 750, 751, 752, 753] (by decide +kernel) (by decide +kernel)
set_option maxRecDepth 20000 in
theorem gL_law_X9_works : GoodIn wsL_law (wsV RL 17 RX9 yX9_works wsX9_works) := goodIn_app (goodIn_of _ (by decide +kernel)) ggL_law_X9_works
set_option maxRecDepth 20000 in
theorem ggL_law_X8_rule : GoodIn wsL_law wsX8_rule := goodIn_r _ [173, 15, 174, 175, 2, 176, 177, 178, 179, 180, 181, 182, 14, 183, 184, 185, 49, 50, 51, 52, 53, 54, 186, 187, 188, 42, 189, 64, 707, 708, 709, 710, 711, 712, 713, 714, 715, 716, 717, 718, 719, 754, 755, 756, 757, 758, 759, 760, 793] (by decide +kernel) (by decide +kernel)
set_option maxRecDepth 20000 in
theorem gL_law_X8_rule : GoodIn wsL_law (wsV RL 18 RX8 yX8_rule wsX8_rule) := goodIn_app (goodIn_of _ (by decide +kernel)) ggL_law_X8_rule
set_option maxRecDepth 20000 in
theorem ggL_law_X9_rule : GoodIn wsL_law wsX9_rule := goodIn_r _ [193, 194, 195, 138, 139, 140, 196, 197, 5, 198, 720, 721, 722, 723, 724, 725, 726, 727, 728, 729, 730, 731, 732, 733, 734, 735, 736, 737, 738, 739, 740, 741, 742, 743, 744, 745, 746, 747, 748, 749, 750, 751, 752, 753] (by decide +kernel) (by decide +kernel)
set_option maxRecDepth 20000 in
theorem gL_law_X9_rule : GoodIn wsL_law (wsV RL 22 RX9 yX9_rule wsX9_rule) := goodIn_app (goodIn_of _ (by decide +kernel)) ggL_law_X9_rule
set_option maxRecDepth 20000 in
theorem ggL_law_X8_ruled : GoodIn wsL_law wsX8_ruled := goodIn_r _ [202, 15, 174, 175, 2, 176, 177, 178, 179, 203, 204, 205, 14, 206, 50, 49, 51, 207, 208, 209, 210, 185, 211, 212, 213, 42, 214, 64, 215, 216, 217, 218, 52, 219, 220, 221, 222, 53, 223, 224, 225, 226, 54, 707, 708, 709, 710, 711, 712, 713, 714, 715, 716, 717, 718, 719, 754, 755, 756, 757, 758, 759, 760, 793] (by decide +kernel) (by decide +kernel)
set_option maxRecDepth 20000 in
theorem gL_law_X8_ruled : GoodIn wsL_law (wsV RL 23 RX8 yX8_ruled wsX8_ruled) := goodIn_app (goodIn_of _ (by decide +kernel)) ggL_law_X8_ruled
set_option maxRecDepth 20000 in
theorem ggL_law_X9_ruled : GoodIn wsL_law wsX9_ruled := goodIn_r _ [230, 194, 196, 197, 5, 198, 231, 232, 233, 234, 139, 138, 235, 236, 237, 238, 195, 239, 240, 241, 242, 140, 720, 721, 722, 723, 724, 725, 726, 727, 728, 729, 730, 731, 732, 733, 734, 735, 736, 737, 738, 739, 740, 741, 742, 743, 744, 745, 746, 747, 748, 749, 750, 751, 752, 753] (by decide +kernel) (by decide +kernel)
set_option maxRecDepth 20000 in
theorem gL_law_X9_ruled : GoodIn wsL_law (wsV RL 27 RX9 yX9_ruled wsX9_ruled) := goodIn_app (goodIn_of _ (by decide +kernel)) ggL_law_X9_ruled
set_option maxRecDepth 20000 in
theorem ggL_law_X8_meter : GoodIn wsL_law wsX8_meter := goodIn_r _ [246, 247, 19, 248, 249, 250, 2, 251, 164, 177, 178, 179, 174, 175, 176, 252, 253, 254, 18, 255, 74, 256, 257, 258, 259, 187, 188, 42, 189, 64, 707, 708, 709, 710, 711, 712, 713, 714, 715, 716, 717, 718, 719, 761, 793] (by decide +kernel) (by decide +kernel)
set_option maxRecDepth 20000 in
theorem gL_law_X8_meter : GoodIn wsL_law (wsV RL 28 RX8 yX8_meter wsX8_meter) := goodIn_app (goodIn_of _ (by decide +kernel)) ggL_law_X8_meter
set_option maxRecDepth 20000 in
theorem ggL_law_X9_meter : GoodIn wsL_law wsX9_meter := goodIn_r _ [263, 264, 137, 265, 266, 267, 5, 268, 169, 196, 197, 198, 720, 721, 722, 723, 724, 725, 726, 727, 728, 729, 730, 731, 732, 733, 734, 735, 736, 737, 738, 739, 740, 741, 742, 743, 744, 745, 746, 747, 748, 749, 750, 751, 752, 753] (by decide +kernel) (by decide +kernel)
set_option maxRecDepth 20000 in
theorem gL_law_X9_meter : GoodIn wsL_law (wsV RL 32 RX9 yX9_meter wsX9_meter) := goodIn_app (goodIn_of _ (by decide +kernel)) ggL_law_X9_meter
set_option maxRecDepth 20000 in
theorem ggL_law_X8_fouled : GoodIn wsL_law wsX8_fouled := goodIn_r _ [272, 19, 248, 249, 250, 2, 251, 164, 177, 178, 179, 174, 175, 176, 273, 274, 275, 18, 276, 74, 277, 278, 279, 280, 281, 60, 61, 62, 282, 283, 284, 285, 256, 257, 258, 286, 212, 213, 42, 214, 64, 707, 708, 709, 710, 711, 712, 713, 714, 715, 716, 717, 718, 719, 761, 793] (by decide +kernel) (by decide +kernel)
set_option maxRecDepth 20000 in
theorem gL_law_X8_fouled : GoodIn wsL_law (wsV RL 33 RX8 yX8_fouled wsX8_fouled) := goodIn_app (goodIn_of _ (by decide +kernel)) ggL_law_X8_fouled
set_option maxRecDepth 20000 in
theorem ggL_law_X9_fouled : GoodIn wsL_law wsX9_fouled := goodIn_r _ [290, 137, 265, 266, 267, 5, 268, 169, 196, 197, 198, 291, 292, 293, 294, 720, 721, 722, 723, 724, 725, 726, 727, 728, 729, 730, 731, 732, 733, 734, 735, 736, 737, 738, 739, 740, 741, 742, 743, 744, 745, 746, 747, 748, 749, 750, 751, 752, 753] (by decide +kernel) (by decide +kernel)
set_option maxRecDepth 20000 in
theorem gL_law_X9_fouled : GoodIn wsL_law (wsV RL 36 RX9 yX9_fouled wsX9_fouled) := goodIn_app (goodIn_of _ (by decide +kernel)) ggL_law_X9_fouled
set_option maxRecDepth 20000 in
theorem ggL_law_X8_issue : GoodIn wsL_law wsX8_issue := goodIn_r _ [298, 247, 299, 15, 23, 27, 19, 164, 174, 175, 2, 176, 177, 178, 179, 203, 204, 205, 14, 206, 50, 49, 51, 207, 208, 209, 210, 185, 211, 212, 213, 42, 214, 64, 300, 301, 302, 22, 303, 304, 215, 216, 217, 218, 52, 305, 306, 307, 26, 308, 95, 96, 97, 309, 310, 311, 312, 313, 274, 275, 18, 276, 74, 277, 278, 279, 280, 281, 60, 61, 62, 282, 283, 284, 285, 256, 257, 258, 286, 314, 187, 188, 189, 315, 316, 317, 318, 319, 320, 321, 322, 323, 324, 325, 326, 327, 328, 329, 330, 331, 332, 333, 334, 335, 336, 337, 81, 82, 83, 84, 85, 86, 87, 338, 339, 340, 341, 342, 343, 344, 345, 346, 347, 348, 349, 350, 351, 352, 67, 353, 354, 355, 356, 357, 358, 359, 63, 360, 361, 362, 363, 364, 365, 366, 707, 708, 709, 710, 711, 712, 713, 714, 715, 716, 717, 718, 719, 754, 755, 756, 757, 758, 759, 760, 793, 762, 763, 764, 765, 766, 767, 768, 769, 770, 771, 772, 773, 774, 775, 776, 761] (by decide +kernel) (by decide +kernel)
set_option maxRecDepth 20000 in
theorem gL_law_X8_issue : GoodIn wsL_law (wsV RL 37 RX8 yX8_issue wsX8_issue) := goodIn_app (goodIn_of _ (by decide +kernel)) ggL_law_X8_issue
set_option maxRecDepth 20000 in
theorem ggL_law_X9_issue : GoodIn wsL_law wsX9_issue := goodIn_r _ [370, 264, 147, 371, 194, 169, 156, 231, 232, 233, 5, 234, 139, 138, 235, 236, 237, 238, 195, 239, 240, 241, 242, 140, 372, 373, 374, 375, 157, 376, 288, 289, 290, 137, 265, 266, 267, 268, 196, 197, 198, 291, 292, 293, 294, 377, 378, 379, 380, 141, 142, 143, 144, 145, 720, 721, 722, 723, 724, 725, 726, 727, 728, 729, 730, 731, 732, 733, 734, 735, 736, 737, 738, 739, 740, 741, 742, 743, 744, 745, 746, 747, 748, 749, 750, 751, 752, 753] (by decide +kernel) (by decide +kernel)
set_option maxRecDepth 20000 in
theorem gL_law_X9_issue : GoodIn wsL_law (wsV RL 40 RX9 yX9_issue wsX9_issue) := goodIn_app (goodIn_of _ (by decide +kernel)) ggL_law_X9_issue
set_option maxRecDepth 20000 in
theorem ggL_law_X8_bid : GoodIn wsL_law wsX8_bid := goodIn_r _ [384, 31, 248, 249, 250, 2, 251, 164, 177, 178, 179, 385, 386, 387, 30, 388, 389, 390, 391, 392, 393, 106, 104, 105, 107, 394, 212, 213, 42, 214, 64, 395, 396, 397, 398, 328, 329, 187, 188, 189, 399, 707, 708, 709, 710, 711, 712, 713, 714, 715, 716, 717, 718, 719, 777, 778, 779, 780, 781, 793] (by decide +kernel) (by decide +kernel)
set_option maxRecDepth 20000 in
theorem gL_law_X8_bid : GoodIn wsL_law (wsV RL 41 RX8 yX8_bid wsX8_bid) := goodIn_app (goodIn_of _ (by decide +kernel)) ggL_law_X8_bid
set_option maxRecDepth 20000 in
theorem ggL_law_X9_bid : GoodIn wsL_law wsX9_bid := goodIn_r _ [403, 404, 148, 149, 150, 265, 266, 267, 5, 268, 169, 196, 197, 198, 720, 721, 722, 723, 724, 725, 726, 727, 728, 729, 730, 731, 732, 733, 734, 735, 736, 737, 738, 739, 740, 741, 742, 743, 744, 745, 746, 747, 748, 749, 750, 751, 752, 753] (by decide +kernel) (by decide +kernel)
set_option maxRecDepth 20000 in
theorem gL_law_X9_bid : GoodIn wsL_law (wsV RL 45 RX9 yX9_bid wsX9_bid) := goodIn_app (goodIn_of _ (by decide +kernel)) ggL_law_X9_bid
set_option maxRecDepth 20000 in
theorem ggL_law_X8_auction : GoodIn wsL_law wsX8_auction := goodIn_r _ [408, 23, 15, 247, 31, 39, 409, 410, 411, 412, 22, 413, 87, 414, 212, 213, 42, 214, 64, 223, 224, 225, 14, 226, 54, 207, 208, 209, 210, 185, 49, 211, 415, 416, 417, 2, 418, 419, 345, 61, 346, 420, 421, 422, 30, 423, 389, 424, 425, 426, 427, 106, 394, 428, 429, 430, 431, 105, 432, 433, 434, 435, 104, 436, 437, 438, 439, 82, 86, 88, 344, 440, 441, 442, 443, 304, 444, 445, 446, 447, 81, 365, 187, 188, 189, 366, 325, 326, 327, 328, 329, 448, 449, 450, 451, 107, 399, 452, 453, 454, 455, 456, 457, 458, 38, 459, 124, 460, 461, 462, 463, 464, 707, 708, 709, 710, 711, 712, 713, 714, 715, 716, 717, 718, 719, 762, 763, 764, 765, 766, 767, 768, 769, 770, 771, 772, 773, 793, 754, 755, 756, 757, 758, 759, 760, 777, 778, 779, 780, 781, 788, 789, 790, 791, 792] (by decide +kernel) (by decide +kernel)
set_option maxRecDepth 20000 in
theorem gL_law_X8_auction : GoodIn wsL_law (wsV RL 46 RX8 yX8_auction wsX8_auction) := goodIn_app (goodIn_of _ (by decide +kernel)) ggL_law_X8_auction
set_option maxRecDepth 20000 in
theorem ggL_law_X9_auction : GoodIn wsL_law wsX9_auction := goodIn_r _ [468, 264, 404, 158, 150, 149, 148, 134, 469, 470, 471, 472, 5, 473, 371, 141, 142, 239, 240, 241, 242, 140, 235, 236, 237, 238, 195, 138, 474, 475, 476, 477, 146, 720, 721, 722, 723, 724, 725, 726, 727, 728, 729, 730, 731, 732, 733, 734, 735, 736, 737, 738, 739, 740, 741, 742, 743, 744, 745, 746, 747, 748, 749, 750, 751, 752, 753] (by decide +kernel) (by decide +kernel)
set_option maxRecDepth 20000 in
theorem gL_law_X9_auction : GoodIn wsL_law (wsV RL 49 RX9 yX9_auction wsX9_auction) := goodIn_app (goodIn_of _ (by decide +kernel)) ggL_law_X9_auction
set_option maxRecDepth 20000 in
theorem ggL_law_X8_trade : GoodIn wsL_law wsX8_trade := goodIn_r _ [481, 482, 23, 39, 248, 249, 250, 2, 251, 164, 177, 178, 179, 483, 484, 485, 486, 410, 411, 412, 22, 413, 87, 414, 212, 213, 42, 214, 64, 436, 437, 438, 439, 82, 86, 88, 344, 345, 61, 346, 440, 441, 442, 443, 304, 444, 445, 446, 447, 81, 365, 187, 188, 189, 366, 325, 326, 327, 328, 329, 456, 457, 458, 38, 459, 124, 460, 707, 708, 709, 710, 711, 712, 713, 714, 715, 716, 717, 718, 719, 762, 763, 764, 765, 766, 767, 768, 769, 770, 771, 772, 773, 793, 788, 789, 790, 791, 792] (by decide +kernel) (by decide +kernel)
set_option maxRecDepth 20000 in
theorem gL_law_X8_trade : GoodIn wsL_law (wsV RL 50 RX8 yX8_trade wsX8_trade) := goodIn_app (goodIn_of _ (by decide +kernel)) ggL_law_X8_trade
set_option maxRecDepth 20000 in
theorem ggL_law_X9_trade : GoodIn wsL_law wsX9_trade := goodIn_r _ [490, 194, 134, 265, 266, 267, 5, 268, 169, 196, 197, 198, 470, 471, 472, 473, 371, 141, 142, 474, 475, 476, 477, 146, 720, 721, 722, 723, 724, 725, 726, 727, 728, 729, 730, 731, 732, 733, 734, 735, 736, 737, 738, 739, 740, 741, 742, 743, 744, 745, 746, 747, 748, 749, 750, 751, 752, 753] (by decide +kernel) (by decide +kernel)
set_option maxRecDepth 20000 in
theorem gL_law_X9_trade : GoodIn wsL_law (wsV RL 53 RX9 yX9_trade wsX9_trade) := goodIn_app (goodIn_of _ (by decide +kernel)) ggL_law_X9_trade
set_option maxRecDepth 20000 in
theorem ggL_law_X8_offset : GoodIn wsL_law wsX8_offset := goodIn_r _ [494, 495, 247, 23, 248, 249, 250, 2, 251, 164, 177, 178, 179, 174, 175, 176, 300, 301, 302, 22, 303, 304, 334, 335, 336, 337, 81, 82, 83, 84, 85, 86, 87, 338, 339, 340, 341, 342, 343, 60, 61, 62, 344, 345, 346, 347, 348, 349, 42, 350, 64, 351, 352, 67, 353, 354, 355, 356, 357, 358, 359, 63, 360, 361, 362, 363, 364, 365, 187, 188, 189, 366, 325, 326, 327, 328, 212, 213, 214, 329, 707, 708, 709, 710, 711, 712, 713, 714, 715, 716, 717, 718, 719, 762, 763, 764, 765, 766, 767, 768, 769, 770, 771, 772, 773, 793] (by decide +kernel) (by decide +kernel)
set_option maxRecDepth 20000 in
theorem gL_law_X8_offset : GoodIn wsL_law (wsV RL 54 RX8 yX8_offset wsX8_offset) := goodIn_app (goodIn_of _ (by decide +kernel)) ggL_law_X8_offset
set_option maxRecDepth 20000 in
theorem ggL_law_X9_offset : GoodIn wsL_law wsX9_offset := goodIn_r _ [499, 500, 371, 264, 265, 266, 267, 5, 268, 169, 196, 197, 198, 377, 378, 379, 380, 141, 142, 143, 144, 145, 720, 721, 722, 723, 724, 725, 726, 727, 728, 729, 730, 731, 732, 733, 734, 735, 736, 737, 738, 739, 740, 741, 742, 743, 744, 745, 746, 747, 748, 749, 750, 751, 752, 753] (by decide +kernel) (by decide +kernel)
set_option maxRecDepth 20000 in
theorem gL_law_X9_offset : GoodIn wsL_law (wsV RL 57 RX9 yX9_offset wsX9_offset) := goodIn_app (goodIn_of _ (by decide +kernel)) ggL_law_X9_offset
set_option maxRecDepth 20000 in
theorem ggL_law_X8_falses : GoodIn wsL_law wsX8_falses := goodIn_r _ [504, 495, 43, 23, 177, 178, 2, 179, 505, 212, 213, 42, 214, 64, 506, 187, 188, 189, 507, 508, 509, 22, 510, 304, 511, 512, 513, 514, 85, 414, 515, 516, 517, 518, 39, 519, 445, 446, 447, 81, 520, 521, 522, 523, 87, 82, 524, 365, 366, 325, 326, 327, 328, 329, 525, 526, 527, 528, 529, 530, 531, 38, 532, 125, 460, 707, 708, 709, 710, 711, 712, 713, 714, 715, 716, 717, 718, 719, 793, 762, 763, 764, 765, 766, 767, 768, 769, 770, 771, 772, 773, 788, 789, 790, 791, 792] (by decide +kernel) (by decide +kernel)
set_option maxRecDepth 20000 in
theorem gL_law_X8_falses : GoodIn wsL_law (wsV RL 58 RX8 yX8_falses wsX8_falses) := goodIn_app (goodIn_of _ (by decide +kernel)) ggL_law_X8_falses
set_option maxRecDepth 20000 in
theorem ggL_law_X9_falses : GoodIn wsL_law wsX9_falses := goodIn_r _ [536, 500, 152, 371, 145, 141, 135, 142, 196, 197, 5, 198, 720, 721, 722, 723, 724, 725, 726, 727, 728, 729, 730, 731, 732, 733, 734, 735, 736, 737, 738, 739, 740, 741, 742, 743, 744, 745, 746, 747, 748, 749, 750, 751, 752, 753] (by decide +kernel) (by decide +kernel)
set_option maxRecDepth 20000 in
theorem gL_law_X9_falses : GoodIn wsL_law (wsV RL 62 RX9 yX9_falses wsX9_falses) := goodIn_app (goodIn_of _ (by decide +kernel)) ggL_law_X9_falses
set_option maxRecDepth 20000 in
theorem ggL_law_X8_cancel : GoodIn wsL_law wsX8_cancel := goodIn_r _ [540, 23, 483, 484, 485, 2, 486, 248, 249, 250, 251, 164, 177, 178, 179, 410, 411, 412, 22, 413, 87, 414, 212, 213, 42, 214, 64, 541, 542, 543, 544, 440, 441, 442, 443, 88, 304, 82, 444, 445, 446, 447, 81, 365, 187, 188, 189, 545, 521, 522, 523, 524, 366, 325, 326, 327, 328, 329, 707, 708, 709, 710, 711, 712, 713, 714, 715, 716, 717, 718, 719, 762, 763, 764, 765, 766, 767, 768, 769, 770, 771, 772, 773, 793] (by decide +kernel) (by decide +kernel)
set_option maxRecDepth 20000 in
theorem gL_law_X8_cancel : GoodIn wsL_law (wsV RL 63 RX8 yX8_cancel wsX8_cancel) := goodIn_app (goodIn_of _ (by decide +kernel)) ggL_law_X8_cancel
set_option maxRecDepth 20000 in
theorem ggL_law_X9_cancel : GoodIn wsL_law wsX9_cancel := goodIn_r _ [549, 265, 266, 267, 5, 268, 169, 196, 197, 198, 470, 471, 472, 473, 371, 141, 142, 550, 551, 552, 553, 144, 264, 720, 721, 722, 723, 724, 725, 726, 727, 728, 729, 730, 731, 732, 733, 734, 735, 736, 737, 738, 739, 740, 741, 742, 743, 744, 745, 746, 747, 748, 749, 750, 751, 752, 753] (by decide +kernel) (by decide +kernel)
set_option maxRecDepth 20000 in
theorem gL_law_X9_cancel : GoodIn wsL_law (wsV RL 67 RX9 yX9_cancel wsX9_cancel) := goodIn_app (goodIn_of _ (by decide +kernel)) ggL_law_X9_cancel
set_option maxRecDepth 20000 in
theorem ggL_law_X8_end : GoodIn wsL_law wsX8_end := goodIn_r _ [557, 247, 164, 299, 174, 175, 2, 176, 177, 178, 179, 558, 559, 560, 561, 19, 39, 23, 419, 345, 61, 346, 15, 273, 274, 275, 18, 276, 74, 277, 278, 279, 280, 281, 60, 62, 282, 283, 284, 285, 256, 257, 258, 286, 212, 213, 42, 214, 64, 562, 563, 564, 38, 565, 125, 566, 410, 411, 412, 22, 413, 87, 414, 567, 568, 569, 570, 81, 84, 571, 440, 441, 442, 443, 88, 304, 82, 444, 445, 446, 447, 365, 187, 188, 189, 366, 325, 326, 327, 328, 329, 219, 220, 221, 14, 222, 53, 207, 208, 209, 210, 185, 49, 211, 572, 573, 574, 575, 124, 127, 576, 126, 460, 577, 707, 708, 709, 710, 711, 712, 713, 714, 715, 716, 717, 718, 719, 761, 793, 788, 789, 790, 791, 792, 762, 763, 764, 765, 766, 767, 768, 769, 770, 771, 772, 773, 754, 755, 756, 757, 758, 759, 760] (by decide +kernel) (by decide +kernel)
set_option maxRecDepth 20000 in
theorem gL_law_X8_end : GoodIn wsL_law (wsV RL 68 RX8 yX8_end wsX8_end) := goodIn_app (goodIn_of _ (by decide +kernel)) ggL_law_X8_end
set_option maxRecDepth 20000 in
theorem ggL_law_X9_end : GoodIn wsL_law wsX9_end := goodIn_r _ [581, 264, 169, 135, 134, 136, 239, 240, 241, 5, 242, 140, 235, 236, 237, 238, 195, 138, 376, 288, 289, 290, 137, 265, 266, 267, 268, 196, 197, 198, 291, 292, 293, 294, 470, 471, 472, 473, 371, 141, 142, 550, 551, 552, 553, 144, 720, 721, 722, 723, 724, 725, 726, 727, 728, 729, 730, 731, 732, 733, 734, 735, 736, 737, 738, 739, 740, 741, 742, 743, 744, 745, 746, 747, 748, 749, 750, 751, 752, 753] (by decide +kernel) (by decide +kernel)
set_option maxRecDepth 20000 in
theorem gL_law_X9_end : GoodIn wsL_law (wsV RL 71 RX9 yX9_end wsX9_end) := goodIn_app (goodIn_of _ (by decide +kernel)) ggL_law_X9_end
set_option maxRecDepth 20000 in
theorem ggL_law_X8_permit : GoodIn wsL_law wsX8_permit := goodIn_r _ [585, 23, 586, 507, 508, 509, 22, 510, 304, 177, 178, 2, 179, 587, 588, 589, 590, 81, 82, 83, 84, 85, 86, 591, 414, 212, 213, 42, 214, 64, 707, 708, 709, 710, 711, 712, 713, 714, 715, 716, 717, 718, 719, 762, 763, 764, 765, 766, 767, 768, 769, 770, 771, 772, 773, 793] (by decide +kernel) (by decide +kernel)
set_option maxRecDepth 20000 in
theorem gL_law_X8_permit : GoodIn wsL_law (wsV RL 72 RX8 yX8_permit wsX8_permit) := goodIn_app (goodIn_of _ (by decide +kernel)) ggL_law_X8_permit
set_option maxRecDepth 20000 in
theorem ggL_law_X9_permit : GoodIn wsL_law wsX9_permit := goodIn_r _ [595, 371, 596, 141, 142, 143, 144, 145, 146, 196, 197, 5, 198, 720, 721, 722, 723, 724, 725, 726, 727, 728, 729, 730, 731, 732, 733, 734, 735, 736, 737, 738, 739, 740, 741, 742, 743, 744, 745, 746, 747, 748, 749, 750, 751, 752, 753] (by decide +kernel) (by decide +kernel)
set_option maxRecDepth 20000 in
theorem gL_law_X9_permit : GoodIn wsL_law (wsV RL 75 RX9 yX9_permit wsX9_permit) := goodIn_app (goodIn_of _ (by decide +kernel)) ggL_law_X9_permit
set_option maxRecDepth 20000 in
theorem ggL_law_X8_told : GoodIn wsL_law wsX8_told := goodIn_r _ [600, 586, 23, 39, 248, 249, 250, 2, 251, 164, 177, 178, 179, 410, 411, 412, 22, 413, 87, 414, 212, 213, 42, 214, 64, 601, 602, 603, 38, 604, 124, 125, 126, 127, 605, 566, 707, 708, 709, 710, 711, 712, 713, 714, 715, 716, 717, 718, 719, 762, 763, 764, 765, 766, 767, 768, 769, 770, 771, 772, 773, 793, 788, 789, 790, 791, 792] (by decide +kernel) (by decide +kernel)
set_option maxRecDepth 20000 in
theorem gL_law_X8_told : GoodIn wsL_law (wsV RL 76 RX8 yX8_told wsX8_told) := goodIn_app (goodIn_of _ (by decide +kernel)) ggL_law_X8_told
set_option maxRecDepth 20000 in
theorem ggL_law_X9_told : GoodIn wsL_law wsX9_told := goodIn_r _ [609, 596, 134, 135, 136, 265, 266, 267, 5, 268, 169, 196, 197, 198, 470, 471, 472, 473, 371, 141, 142, 610, 611, 612, 613, 720, 721, 722, 723, 724, 725, 726, 727, 728, 729, 730, 731, 732, 733, 734, 735, 736, 737, 738, 739, 740, 741, 742, 743, 744, 745, 746, 747, 748, 749, 750, 751, 752, 753] (by decide +kernel) (by decide +kernel)
set_option maxRecDepth 20000 in
theorem gL_law_X9_told : GoodIn wsL_law (wsV RL 79 RX9 yX9_told wsX9_told) := goodIn_app (goodIn_of _ (by decide +kernel)) ggL_law_X9_told
set_option maxRecDepth 20000 in
theorem ggL_law_X8_cut : GoodIn wsL_law wsX8_cut := goodIn_r _ [617, 35, 248, 249, 250, 2, 251, 164, 177, 178, 179, 618, 619, 620, 34, 621, 117, 622, 114, 115, 116, 623, 624, 212, 213, 42, 214, 64, 625, 626, 627, 628, 629, 396, 397, 398, 328, 329, 187, 188, 189, 630, 325, 326, 327, 707, 708, 709, 710, 711, 712, 713, 714, 715, 716, 717, 718, 719, 782, 783, 784, 785, 786, 787, 793] (by decide +kernel) (by decide +kernel)
set_option maxRecDepth 20000 in
theorem gL_law_X8_cut : GoodIn wsL_law (wsV RL 80 RX8 yX8_cut wsX8_cut) := goodIn_app (goodIn_of _ (by decide +kernel)) ggL_law_X8_cut
set_option maxRecDepth 20000 in
theorem ggL_law_X9_cut : GoodIn wsL_law wsX9_cut := goodIn_r _ [634, 153, 154, 155, 265, 266, 267, 5, 268, 169, 196, 197, 198, 720, 721, 722, 723, 724, 725, 726, 727, 728, 729, 730, 731, 732, 733, 734, 735, 736, 737, 738, 739, 740, 741, 742, 743, 744, 745, 746, 747, 748, 749, 750, 751, 752, 753] (by decide +kernel) (by decide +kernel)
set_option maxRecDepth 20000 in
theorem gL_law_X9_cut : GoodIn wsL_law (wsV RL 83 RX9 yX9_cut wsX9_cut) := goodIn_app (goodIn_of _ (by decide +kernel)) ggL_law_X9_cut
set_option maxRecDepth 20000 in
theorem ggL_law_X8_least : GoodIn wsL_law wsX8_least := goodIn_r _ [638, 35, 639, 640, 641, 34, 642, 623, 643, 644, 645, 646, 622, 115, 647, 345, 61, 346, 116, 624, 212, 213, 42, 214, 64, 707, 708, 709, 710, 711, 712, 713, 714, 715, 716, 717, 718, 719, 782, 783, 784, 785, 786, 787, 793] (by decide +kernel) (by decide +kernel)
set_option maxRecDepth 20000 in
theorem gL_law_X8_least : GoodIn wsL_law (wsV RL 84 RX8 yX8_least wsX8_least) := goodIn_app (goodIn_of _ (by decide +kernel)) ggL_law_X8_least
set_option maxRecDepth 20000 in
theorem ggL_law_X9_least : GoodIn wsL_law wsX9_least := goodIn_r _ [651, 652, 653, 654, 655, 5, 656, 657, 159, 153, 155, 154, 720, 721, 722, 723, 724, 725, 726, 727, 728, 729, 730, 731, 732, 733, 734, 735, 736, 737, 738, 739, 740, 741, 742, 743, 744, 745, 746, 747, 748, 749, 750, 751, 752, 753] (by decide +kernel) (by decide +kernel)
set_option maxRecDepth 20000 in
theorem gL_law_X9_least : GoodIn wsL_law (wsV RL 87 RX9 yX9_least wsX9_least) := goodIn_app (goodIn_of _ (by decide +kernel)) ggL_law_X9_least
set_option maxRecDepth 20000 in
theorem ggL_law_X8_margin : GoodIn wsL_law wsX8_margin := goodIn_r _ [661, 35, 639, 640, 641, 34, 642, 623, 662, 663, 664, 665, 622, 116, 115, 624, 212, 213, 42, 214, 64, 707, 708, 709, 710, 711, 712, 713, 714, 715, 716, 717, 718, 719, 782, 783, 784, 785, 786, 787, 793] (by decide +kernel) (by decide +kernel)
set_option maxRecDepth 20000 in
theorem gL_law_X8_margin : GoodIn wsL_law (wsV RL 88 RX8 yX8_margin wsX8_margin) := goodIn_app (goodIn_of _ (by decide +kernel)) ggL_law_X8_margin
set_option maxRecDepth 20000 in
theorem ggL_law_X9_margin : GoodIn wsL_law wsX9_margin := goodIn_r _ [669, 657, 653, 654, 655, 5, 656, 652, 159, 153, 155, 154, 720, 721, 722, 723, 724, 725, 726, 727, 728, 729, 730, 731, 732, 733, 734, 735, 736, 737, 738, 739, 740, 741, 742, 743, 744, 745, 746, 747, 748, 749, 750, 751, 752, 753] (by decide +kernel) (by decide +kernel)
set_option maxRecDepth 20000 in
theorem gL_law_X9_margin : GoodIn wsL_law (wsV RL 91 RX9 yX9_margin wsX9_margin) := goodIn_app (goodIn_of _ (by decide +kernel)) ggL_law_X9_margin
set_option maxRecDepth 20000 in
theorem ggL_law_X8_cuts : GoodIn wsL_law wsX8_cuts := goodIn_r _ [673, 35, 248, 249, 250, 2, 251, 164, 177, 178, 179, 639, 640, 641, 34, 642, 623, 674, 675, 676, 677, 622, 115, 647, 345, 61, 346, 114, 624, 212, 213, 42, 214, 64, 707, 708, 709, 710, 711, 712, 713, 714, 715, 716, 717, 718, 719, 782, 783, 784, 785, 786, 787, 793] (by decide +kernel) (by decide +kernel)
set_option maxRecDepth 20000 in
theorem gL_law_X8_cuts : GoodIn wsL_law (wsV RL 92 RX8 yX8_cuts wsX8_cuts) := goodIn_app (goodIn_of _ (by decide +kernel)) ggL_law_X8_cuts
set_option maxRecDepth 20000 in
theorem ggL_law_X9_cuts : GoodIn wsL_law wsX9_cuts := goodIn_r _ [681, 159, 265, 266, 267, 5, 268, 169, 196, 197, 198, 653, 654, 655, 656, 652, 657, 153, 155, 154, 720, 721, 722, 723, 724, 725, 726, 727, 728, 729, 730, 731, 732, 733, 734, 735, 736, 737, 738, 739, 740, 741, 742, 743, 744, 745, 746, 747, 748, 749, 750, 751, 752, 753] (by decide +kernel) (by decide +kernel)
set_option maxRecDepth 20000 in
theorem gL_law_X9_cuts : GoodIn wsL_law (wsV RL 95 RX9 yX9_cuts wsX9_cuts) := goodIn_app (goodIn_of _ (by decide +kernel)) ggL_law_X9_cuts
set_option maxRecDepth 20000 in
theorem ggL_law_X8_count : GoodIn wsL_law wsX8_count := goodIn_r _ [685, 247, 164, 23, 31, 409, 39, 495, 507, 508, 509, 22, 510, 304, 686, 687, 688, 689, 571, 524, 690, 411, 412, 413, 87, 414, 212, 213, 42, 214, 64, 410, 691, 692, 693, 694, 695, 696, 697, 698, 420, 421, 422, 30, 423, 389, 699, 700, 701, 38, 702, 576, 707, 708, 709, 710, 711, 712, 713, 714, 715, 716, 717, 718, 719, 762, 763, 764, 765, 766, 767, 768, 769, 770, 771, 772, 773, 793, 777, 778, 779, 780, 781, 788, 789, 790, 791, 792] (by decide +kernel) (by decide +kernel)
set_option maxRecDepth 20000 in
theorem gL_law_X8_count : GoodIn wsL_law (wsV RL 96 RX8 yX8_count wsX8_count) := goodIn_app (goodIn_of _ (by decide +kernel)) ggL_law_X8_count
set_option maxRecDepth 20000 in
theorem ggL_law_X9_count : GoodIn wsL_law wsX9_count := goodIn_r _ [706, 264, 169, 371, 596, 404, 469, 136, 500, 610, 611, 612, 5, 613, 141, 142, 470, 471, 472, 473, 720, 721, 722, 723, 724, 725, 726, 727, 728, 729, 730, 731, 732, 733, 734, 735, 736, 737, 738, 739, 740, 741, 742, 743, 744, 745, 746, 747, 748, 749, 750, 751, 752, 753] (by decide +kernel) (by decide +kernel)
set_option maxRecDepth 20000 in
theorem gL_law_X9_count : GoodIn wsL_law (wsV RL 99 RX9 yX9_count wsX9_count) := goodIn_app (goodIn_of _ (by decide +kernel)) ggL_law_X9_count
