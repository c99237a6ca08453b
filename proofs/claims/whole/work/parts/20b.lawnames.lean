set_option maxRecDepth 20000 in
theorem ggL_law_X11_init : GoodIn wsL_law wsX11_init := goodIn_r _ [8, 9, 10, 11, 12, 13, 14, 15, 16, 17, 18, 19, 20, 21, 22, 23, 24, 25, 26, 27, 28, 29, 30, 31, 32, 33, 34, 35, 36, 37, 38, 39, 40, 41, 42, 43, 44, 45, 46, 47, 48, 49, 50, 51, 52, 53, 54, 55, 56, 57, 58, 59, 60, 61, 62, 63, 64, 65, 66, 67, 68, 69, 70, 71, 72, 73, 74, 75, 76, 77, 78, 79, 80, 81, 82, 83, 84, 85, 86, 87, 88, 89, 90, 91, 92, 93, 94, 95, 96, 97, 98, 99, 100, 101, 797, 798, 799, 767, 768, 769, 770, 771, 772, 773, 774, 800, 801, 802, 803, 804, 805, 806, 807, 808, 809, 810, 811, 812, 813, 814, 815, 816, 817, 818, 819, 820, 821, 822] (by decide +kernel) (by decide +kernel)
set_option maxRecDepth 20000 in
theorem gL_law_X11_init : GoodIn wsL_law (wsX11_init) := ggL_law_X11_init
set_option maxRecDepth 20000 in
theorem ggL_law_X12_init : GoodIn wsL_law wsX12_init := goodIn_r _ [104, 105, 10, 11, 46, 106, 107, 108, 109, 110, 111, 112, 76, 113, 114, 115, 116, 117, 118, 119, 120, 121, 122, 775, 776, 777, 778, 779, 780, 781, 782, 783, 784, 785, 786, 787, 788, 789, 790, 791, 792, 793, 794, 795, 796] (by decide +kernel) (by decide +kernel)
set_option maxRecDepth 20000 in
theorem gL_law_X12_init : GoodIn wsL_law (wsX12_init) := ggL_law_X12_init
set_option maxRecDepth 20000 in
theorem ggL_law_X11_sheet : GoodIn wsL_law wsX11_sheet := goodIn_r _ [126, 127, 15, 128, 129, 2, 130, 131, 132, 133, 134, 40, 135, 136, 137, 138, 14, 139, 48, 49, 47, 50, 51, 52, 53, 140, 141, 142, 143, 767, 768, 769, 770, 771, 772, 773, 774, 797, 798, 799] (by decide +kernel) (by decide +kernel)
set_option maxRecDepth 20000 in
theorem gL_law_X11_sheet : GoodIn wsL_law (wsV RL 13 RX11 yX11_sheet wsX11_sheet) := goodIn_app (goodIn_of _ (by decide +kernel)) ggL_law_X11_sheet
set_option maxRecDepth 20000 in
theorem ggL_law_X12_sheet : GoodIn wsL_law wsX12_sheet := goodIn_r _ [147, 148, 149, 150, 151, 108, 109, 110, 152, 153, 5, 154, 155, 156, 157, 158, 159, 160, 161, 162, 163, 775, 776, 777, 778, 779, 780, 781, 782, 783, 784, 785, 786, 787, 788, 789, 790, 791, 792, 793, 794, 795, 796] (by decide +kernel) (by decide +kernel)
set_option maxRecDepth 20000 in
theorem gL_law_X12_sheet : GoodIn wsL_law (wsV RL 17 RX12 yX12_sheet wsX12_sheet) := goodIn_app (goodIn_of _ (by decide +kernel)) ggL_law_X12_sheet
set_option maxRecDepth 20000 in
theorem ggL_law_X11_set : GoodIn wsL_law wsX11_set := goodIn_r _ [167, 127, 15, 128, 129, 2, 130, 168, 169, 170, 14, 171, 172, 173, 174, 175, 49, 176, 177, 178, 179, 131, 132, 133, 134, 40, 135, 180, 181, 182, 183, 47, 48, 184, 185, 186, 140, 141, 142, 143, 767, 768, 769, 770, 771, 772, 773, 774, 797, 798, 799] (by decide +kernel) (by decide +kernel)
set_option maxRecDepth 20000 in
theorem gL_law_X11_set : GoodIn wsL_law (wsV RL 18 RX11 yX11_set wsX11_set) := goodIn_app (goodIn_of _ (by decide +kernel)) ggL_law_X11_set
set_option maxRecDepth 20000 in
theorem ggL_law_X12_set : GoodIn wsL_law wsX12_set := goodIn_r _ [190, 148, 150, 151, 108, 109, 110, 152, 153, 5, 154, 155, 156, 157, 158, 159, 160, 161, 162, 163, 775, 776, 777, 778, 779, 780, 781, 782, 783, 784, 785, 786, 787, 788, 789, 790, 791, 792, 793, 794, 795, 796] (by decide +kernel) (by decide +kernel)
set_option maxRecDepth 20000 in
theorem gL_law_X12_set : GoodIn wsL_law (wsV RL 21 RX12 yX12_set wsX12_set) := goodIn_app (goodIn_of _ (by decide +kernel)) ggL_law_X12_set
set_option maxRecDepth 20000 in
theorem ggL_law_X11_copy : GoodIn wsL_law wsX11_copy := goodIn_r _ [194, 127, 15, 128, 129, 2, 130, 195, 196, 197, 14, 198, 48, 172, 173, 174, 175, 49, 176, 177, 178, 179, 131, 132, 133, 134, 40, 135, 199, 200, 201, 202, 47, 203, 204, 205, 206, 140, 141, 142, 143, 767, 768, 769, 770, 771, 772, 773, 774, 797, 798, 799] (by decide +kernel) (by decide +kernel)
set_option maxRecDepth 20000 in
theorem gL_law_X11_copy : GoodIn wsL_law (wsV RL 22 RX11 yX11_copy wsX11_copy) := goodIn_app (goodIn_of _ (by decide +kernel)) ggL_law_X11_copy
set_option maxRecDepth 20000 in
theorem ggL_law_X12_copy : GoodIn wsL_law wsX12_copy := goodIn_r _ [210, 148, 150, 151, 108, 109, 110, 152, 153, 5, 154, 155, 156, 157, 158, 159, 160, 161, 162, 163, 775, 776, 777, 778, 779, 780, 781, 782, 783, 784, 785, 786, 787, 788, 789, 790, 791, 792, 793, 794, 795, 796] (by decide +kernel) (by decide +kernel)
set_option maxRecDepth 20000 in
theorem gL_law_X12_copy : GoodIn wsL_law (wsV RL 26 RX12 yX12_copy wsX12_copy) := goodIn_app (goodIn_of _ (by decide +kernel)) ggL_law_X12_copy
set_option maxRecDepth 20000 in
theorem ggL_law_X11_drop : GoodIn wsL_law wsX11_drop := goodIn_r _ [214, 127, 15, 128, 129, 2, 130, 215, 173, 174, 14, 175, 49, 131, 132, 133, 134, 40, 135, 216, 217, 218, 219, 140, 141, 142, 143, 767, 768, 769, 770, 771, 772, 773, 774, 797, 798, 799] (by decide +kernel) (by decide +kernel)
set_option maxRecDepth 20000 in
theorem gL_law_X11_drop : GoodIn wsL_law (wsV RL 27 RX11 yX11_drop wsX11_drop) := goodIn_app (goodIn_of _ (by decide +kernel)) ggL_law_X11_drop
set_option maxRecDepth 20000 in
theorem ggL_law_X12_drop : GoodIn wsL_law wsX12_drop := goodIn_r _ [223, 148, 150, 151, 108, 109, 152, 153, 5, 154, 155, 156, 157, 158, 159, 160, 161, 162, 163, 775, 776, 777, 778, 779, 780, 781, 782, 783, 784, 785, 786, 787, 788, 789, 790, 791, 792, 793, 794, 795, 796] (by decide +kernel) (by decide +kernel)
set_option maxRecDepth 20000 in
theorem gL_law_X12_drop : GoodIn wsL_law (wsV RL 31 RX12 yX12_drop wsX12_drop) := goodIn_app (goodIn_of _ (by decide +kernel)) ggL_law_X12_drop
set_option maxRecDepth 20000 in
theorem ggL_law_X11_world : GoodIn wsL_law wsX11_world := goodIn_r _ [227, 127, 19, 228, 229, 15, 27, 230, 231, 128, 129, 2, 130, 168, 169, 170, 14, 171, 172, 173, 174, 175, 49, 176, 177, 178, 179, 131, 132, 133, 134, 40, 135, 232, 233, 234, 235, 47, 236, 237, 238, 18, 239, 61, 59, 240, 204, 205, 206, 57, 60, 241, 242, 243, 244, 245, 246, 247, 248, 140, 141, 142, 143, 767, 768, 769, 770, 771, 772, 773, 774, 800, 801, 802, 803, 807, 808, 809, 810, 811, 812, 813, 797, 798, 799] (by decide +kernel) (by decide +kernel)
set_option maxRecDepth 20000 in
theorem gL_law_X11_world : GoodIn wsL_law (wsV RL 32 RX11 yX11_world wsX11_world) := goodIn_app (goodIn_of _ (by decide +kernel)) ggL_law_X11_world
set_option maxRecDepth 20000 in
theorem ggL_law_X12_world : GoodIn wsL_law wsX12_world := goodIn_r _ [252, 148, 253, 150, 254, 255, 108, 256, 109, 110, 257, 151, 112, 111, 156, 157, 5, 158, 152, 153, 154, 155, 159, 160, 161, 162, 163, 775, 776, 777, 778, 779, 780, 781, 782, 783, 784, 785, 786, 787, 788, 789, 790, 791, 792, 793, 794, 795, 796] (by decide +kernel) (by decide +kernel)
set_option maxRecDepth 20000 in
theorem gL_law_X12_world : GoodIn wsL_law (wsV RL 35 RX12 yX12_world wsX12_world) := goodIn_app (goodIn_of _ (by decide +kernel)) ggL_law_X12_world
set_option maxRecDepth 20000 in
theorem ggL_law_X11_river : GoodIn wsL_law wsX11_river := goodIn_r _ [261, 127, 23, 262, 27, 230, 128, 129, 2, 130, 767, 768, 769, 770, 771, 772, 773, 774, 804, 805, 806, 807, 808, 809, 810, 811, 812, 813] (by decide +kernel) (by decide +kernel)
set_option maxRecDepth 20000 in
theorem gL_law_X11_river : GoodIn wsL_law (wsV RL 36 RX11 yX11_river wsX11_river) := goodIn_app (goodIn_of _ (by decide +kernel)) ggL_law_X11_river
set_option maxRecDepth 20000 in
theorem ggL_law_X12_river : GoodIn wsL_law wsX12_river := goodIn_r _ [266, 148, 155, 267, 150, 107, 156, 157, 5, 158, 775, 776, 777, 778, 779, 780, 781, 782, 783, 784, 785, 786, 787, 788, 789, 790, 791, 792, 793, 794, 795, 796] (by decide +kernel) (by decide +kernel)
set_option maxRecDepth 20000 in
theorem gL_law_X12_river : GoodIn wsL_law (wsV RL 40 RX12 yX12_river wsX12_river) := goodIn_app (goodIn_of _ (by decide +kernel)) ggL_law_X12_river
set_option maxRecDepth 20000 in
theorem ggL_law_X11_rule : GoodIn wsL_law wsX11_rule := goodIn_r _ [271, 127, 23, 272, 27, 230, 128, 129, 2, 130, 273, 274, 275, 767, 768, 769, 770, 771, 772, 773, 774, 804, 805, 806, 807, 808, 809, 810, 811, 812, 813] (by decide +kernel) (by decide +kernel)
set_option maxRecDepth 20000 in
theorem gL_law_X11_rule : GoodIn wsL_law (wsV RL 41 RX11 yX11_rule wsX11_rule) := goodIn_app (goodIn_of _ (by decide +kernel)) ggL_law_X11_rule
set_option maxRecDepth 20000 in
theorem ggL_law_X12_rule : GoodIn wsL_law wsX12_rule := goodIn_r _ [279, 148, 155, 280, 257, 150, 106, 156, 157, 5, 158, 775, 776, 777, 778, 779, 780, 781, 782, 783, 784, 785, 786, 787, 788, 789, 790, 791, 792, 793, 794, 795, 796] (by decide +kernel) (by decide +kernel)
set_option maxRecDepth 20000 in
theorem gL_law_X12_rule : GoodIn wsL_law (wsV RL 44 RX12 yX12_rule wsX12_rule) := goodIn_app (goodIn_of _ (by decide +kernel)) ggL_law_X12_rule
set_option maxRecDepth 20000 in
theorem ggL_law_X11_best : GoodIn wsL_law wsX11_best := goodIn_r _ [284, 27, 285, 286, 287, 288, 26, 289, 80, 79, 81, 290, 291, 77, 292, 293, 294, 295, 78, 296, 204, 205, 206, 74, 297, 298, 299, 300, 301, 302, 303, 18, 304, 61, 60, 57, 305, 306, 307, 308, 82, 309, 310, 311, 22, 312, 66, 313, 314, 315, 316, 317, 318, 319, 320, 321, 322, 323, 324, 68, 325, 326, 327, 328, 67, 329, 330, 331, 332, 333, 334, 335, 336, 767, 768, 769, 770, 771, 772, 773, 774, 807, 808, 809, 810, 811, 812, 813, 800, 801, 802, 803, 804, 805, 806] (by decide +kernel) (by decide +kernel)
set_option maxRecDepth 20000 in
theorem gL_law_X11_best : GoodIn wsL_law (wsV RL 45 RX11 yX11_best wsX11_best) := goodIn_app (goodIn_of _ (by decide +kernel)) ggL_law_X11_best
set_option maxRecDepth 20000 in
theorem ggL_law_X12_best : GoodIn wsL_law wsX12_best := goodIn_r _ [340, 148, 254, 113, 341, 342, 343, 5, 344, 115, 345, 346, 347, 348, 112, 349, 350, 351, 352, 111, 353, 354, 355, 356, 106, 357, 358, 359, 360, 361, 362, 363, 364, 365, 366, 367, 107, 775, 776, 777, 778, 779, 780, 781, 782, 783, 784, 785, 786, 787, 788, 789, 790, 791, 792, 793, 794, 795, 796] (by decide +kernel) (by decide +kernel)
set_option maxRecDepth 20000 in
theorem gL_law_X12_best : GoodIn wsL_law (wsV RL 49 RX12 yX12_best wsX12_best) := goodIn_app (goodIn_of _ (by decide +kernel)) ggL_law_X12_best
set_option maxRecDepth 20000 in
theorem ggL_law_X11_hour : GoodIn wsL_law wsX11_hour := goodIn_r _ [371, 19, 228, 127, 27, 23, 128, 129, 2, 130, 286, 287, 288, 26, 289, 80, 79, 81, 290, 291, 77, 292, 293, 294, 295, 78, 296, 204, 205, 206, 74, 297, 298, 299, 300, 301, 302, 303, 18, 304, 61, 60, 57, 305, 306, 307, 308, 82, 309, 310, 311, 22, 312, 66, 313, 314, 315, 316, 317, 318, 319, 320, 321, 322, 323, 324, 68, 325, 326, 327, 328, 67, 329, 330, 331, 332, 333, 334, 335, 336, 372, 373, 374, 375, 376, 377, 378, 379, 380, 381, 382, 383, 384, 385, 386, 387, 388, 389, 767, 768, 769, 770, 771, 772, 773, 774, 800, 801, 802, 803, 807, 808, 809, 810, 811, 812, 813, 804, 805, 806] (by decide +kernel) (by decide +kernel)
set_option maxRecDepth 20000 in
theorem gL_law_X11_hour : GoodIn wsL_law (wsV RL 50 RX11 yX11_hour wsX11_hour) := goodIn_app (goodIn_of _ (by decide +kernel)) ggL_law_X11_hour
set_option maxRecDepth 20000 in
theorem ggL_law_X12_hour : GoodIn wsL_law wsX12_hour := goodIn_r _ [393, 148, 254, 155, 280, 150, 115, 156, 157, 5, 158, 341, 342, 343, 344, 113, 345, 346, 347, 348, 112, 349, 350, 351, 352, 111, 353, 354, 355, 356, 106, 357, 358, 359, 360, 361, 362, 363, 364, 365, 366, 367, 107, 775, 776, 777, 778, 779, 780, 781, 782, 783, 784, 785, 786, 787, 788, 789, 790, 791, 792, 793, 794, 795, 796] (by decide +kernel) (by decide +kernel)
set_option maxRecDepth 20000 in
theorem gL_law_X12_hour : GoodIn wsL_law (wsV RL 53 RX12 yX12_hour wsX12_hour) := goodIn_app (goodIn_of _ (by decide +kernel)) ggL_law_X12_hour
set_option maxRecDepth 20000 in
theorem ggL_law_X11_shutAt : GoodIn wsL_law wsX11_shutAt := goodIn_r _ [397, 23, 398, 128, 129, 2, 130, 399, 400, 401, 22, 402, 68, 403, 404, 405, 310, 311, 312, 66, 313, 314, 315, 316, 317, 318, 319, 320, 321, 322, 323, 324, 325, 326, 327, 328, 67, 406, 331, 332, 333, 334, 335, 767, 768, 769, 770, 771, 772, 773, 774, 804, 805, 806, 800, 801, 802, 803] (by decide +kernel) (by decide +kernel)
set_option maxRecDepth 20000 in
theorem gL_law_X11_shutAt : GoodIn wsL_law (wsV RL 54 RX11 yX11_shutAt wsX11_shutAt) := goodIn_app (goodIn_of _ (by decide +kernel)) ggL_law_X11_shutAt
set_option maxRecDepth 20000 in
theorem ggL_law_X12_shutAt : GoodIn wsL_law wsX12_shutAt := goodIn_r _ [410, 148, 256, 411, 254, 111, 156, 157, 5, 158, 357, 358, 359, 360, 106, 112, 361, 362, 363, 364, 365, 366, 367, 107, 353, 354, 355, 356, 775, 776, 777, 778, 779, 780, 781, 782, 783, 784, 785, 786, 787, 788, 789, 790, 791, 792, 793, 794, 795, 796] (by decide +kernel) (by decide +kernel)
set_option maxRecDepth 20000 in
theorem gL_law_X12_shutAt : GoodIn wsL_law (wsV RL 58 RX12 yX12_shutAt wsX12_shutAt) := goodIn_app (goodIn_of _ (by decide +kernel)) ggL_law_X12_shutAt
set_option maxRecDepth 20000 in
theorem ggL_law_X11_alarm : GoodIn wsL_law wsX11_alarm := goodIn_r _ [415, 19, 23, 272, 416, 417, 418, 419, 18, 420, 61, 59, 767, 768, 769, 770, 771, 772, 773, 774, 804, 805, 806, 800, 801, 802, 803] (by decide +kernel) (by decide +kernel)
set_option maxRecDepth 20000 in
theorem gL_law_X11_alarm : GoodIn wsL_law (wsV RL 59 RX11 yX11_alarm wsX11_alarm) := goodIn_app (goodIn_of _ (by decide +kernel)) ggL_law_X11_alarm
set_option maxRecDepth 20000 in
theorem ggL_law_X12_alarm : GoodIn wsL_law wsX12_alarm := goodIn_r _ [424, 148, 254, 112, 106, 425, 775, 776, 777, 778, 779, 780, 781, 782, 783, 784, 785, 786, 787, 788, 789, 790, 791, 792, 793, 794, 795, 796] (by decide +kernel) (by decide +kernel)
set_option maxRecDepth 20000 in
theorem gL_law_X12_alarm : GoodIn wsL_law (wsV RL 63 RX12 yX12_alarm wsX12_alarm) := goodIn_app (goodIn_of _ (by decide +kernel)) ggL_law_X12_alarm
set_option maxRecDepth 20000 in
theorem ggL_law_X11_groups : GoodIn wsL_law wsX11_groups := goodIn_r _ [429, 19, 127, 128, 129, 2, 130, 430, 431, 432, 18, 433, 61, 60, 767, 768, 769, 770, 771, 772, 773, 774, 800, 801, 802, 803] (by decide +kernel) (by decide +kernel)
set_option maxRecDepth 20000 in
theorem gL_law_X11_groups : GoodIn wsL_law (wsV RL 64 RX11 yX11_groups wsX11_groups) := goodIn_app (goodIn_of _ (by decide +kernel)) ggL_law_X11_groups
set_option maxRecDepth 20000 in
theorem ggL_law_X12_groups : GoodIn wsL_law wsX12_groups := goodIn_r _ [437, 148, 155, 150, 254, 156, 157, 5, 158, 345, 346, 347, 348, 112, 775, 776, 777, 778, 779, 780, 781, 782, 783, 784, 785, 786, 787, 788, 789, 790, 791, 792, 793, 794, 795, 796] (by decide +kernel) (by decide +kernel)
set_option maxRecDepth 20000 in
theorem gL_law_X12_groups : GoodIn wsL_law (wsV RL 67 RX12 yX12_groups wsX12_groups) := goodIn_app (goodIn_of _ (by decide +kernel)) ggL_law_X12_groups
set_option maxRecDepth 20000 in
theorem ggL_law_X11_gate : GoodIn wsL_law wsX11_gate := goodIn_r _ [441, 127, 31, 442, 229, 128, 129, 2, 130, 443, 444, 445, 446, 447, 448, 449, 450, 451, 452, 453, 454, 455, 456, 457, 458, 459, 460, 461, 462, 463, 464, 465, 466, 467, 10, 11, 468, 469, 470, 471, 472, 473, 474, 475, 476, 477, 478, 479, 30, 480, 87, 89, 767, 768, 769, 770, 771, 772, 773, 774, 814, 815, 816, 823, 824, 825, 826, 827, 828, 829, 830, 831, 832, 833, 834] (by decide +kernel) (by decide +kernel)
set_option maxRecDepth 20000 in
theorem gL_law_X11_gate : GoodIn wsL_law (wsV RL 68 RX11 yX11_gate wsX11_gate) := goodIn_app (goodIn_of _ (by decide +kernel)) ggL_law_X11_gate
set_option maxRecDepth 20000 in
theorem ggL_law_X12_gate : GoodIn wsL_law wsX12_gate := goodIn_r _ [484, 148, 485, 486, 150, 487, 255, 116, 117, 156, 157, 5, 158, 775, 776, 777, 778, 779, 780, 781, 782, 783, 784, 785, 786, 787, 788, 789, 790, 791, 792, 793, 794, 795, 796] (by decide +kernel) (by decide +kernel)
set_option maxRecDepth 20000 in
theorem gL_law_X12_gate : GoodIn wsL_law (wsV RL 71 RX12 yX12_gate wsX12_gate) := goodIn_app (goodIn_of _ (by decide +kernel)) ggL_law_X12_gate
set_option maxRecDepth 20000 in
theorem ggL_law_X11_fail : GoodIn wsL_law wsX11_fail := goodIn_r _ [491, 492, 493, 494, 2, 495, 31, 127, 496, 497, 498, 499, 30, 500, 89, 87, 129, 130, 767, 768, 769, 770, 771, 772, 773, 774, 832, 833, 834, 826, 827, 828, 829, 830, 831, 823, 824, 825, 814, 815, 816] (by decide +kernel) (by decide +kernel)
set_option maxRecDepth 20000 in
theorem gL_law_X11_fail : GoodIn wsL_law (wsV RL 72 RX11 yX11_fail wsX11_fail) := goodIn_app (goodIn_of _ (by decide +kernel)) ggL_law_X11_fail
set_option maxRecDepth 20000 in
theorem ggL_law_X12_fail : GoodIn wsL_law wsX12_fail := goodIn_r _ [504, 148, 150, 118, 505, 506, 507, 5, 508, 487, 156, 157, 158, 775, 776, 777, 778, 779, 780, 781, 782, 783, 784, 785, 786, 787, 788, 789, 790, 791, 792, 793, 794, 795, 796] (by decide +kernel) (by decide +kernel)
set_option maxRecDepth 20000 in
theorem gL_law_X12_fail : GoodIn wsL_law (wsV RL 75 RX12 yX12_fail wsX12_fail) := goodIn_app (goodIn_of _ (by decide +kernel)) ggL_law_X12_fail
set_option maxRecDepth 20000 in
theorem ggL_law_X11_mend : GoodIn wsL_law wsX11_mend := goodIn_r _ [512, 492, 493, 494, 2, 495, 31, 127, 496, 497, 498, 499, 30, 500, 89, 87, 129, 130, 767, 768, 769, 770, 771, 772, 773, 774, 832, 833, 834, 826, 827, 828, 829, 830, 831, 823, 824, 825, 814, 815, 816] (by decide +kernel) (by decide +kernel)
set_option maxRecDepth 20000 in
theorem gL_law_X11_mend : GoodIn wsL_law (wsV RL 76 RX11 yX11_mend wsX11_mend) := goodIn_app (goodIn_of _ (by decide +kernel)) ggL_law_X11_mend
set_option maxRecDepth 20000 in
theorem ggL_law_X12_mend : GoodIn wsL_law wsX12_mend := goodIn_r _ [516, 148, 150, 118, 505, 506, 507, 5, 508, 487, 156, 157, 158, 775, 776, 777, 778, 779, 780, 781, 782, 783, 784, 785, 786, 787, 788, 789, 790, 791, 792, 793, 794, 795, 796] (by decide +kernel) (by decide +kernel)
set_option maxRecDepth 20000 in
theorem gL_law_X12_mend : GoodIn wsL_law (wsV RL 79 RX12 yX12_mend wsX12_mend) := goodIn_app (goodIn_of _ (by decide +kernel)) ggL_law_X12_mend
set_option maxRecDepth 20000 in
theorem ggL_law_X11_time : GoodIn wsL_law wsX11_time := goodIn_r _ [520, 127, 31, 416, 128, 129, 2, 130, 521, 522, 523, 30, 524, 88, 87, 525, 526, 527, 528, 529, 314, 315, 316, 530, 51, 52, 53, 531, 532, 533, 534, 535, 536, 537, 538, 89, 539, 540, 541, 542, 543, 767, 768, 769, 770, 771, 772, 773, 774, 814, 815, 816, 832, 833, 834, 826, 827, 828, 829, 830, 831, 823, 824, 825] (by decide +kernel) (by decide +kernel)
set_option maxRecDepth 20000 in
theorem gL_law_X11_time : GoodIn wsL_law (wsV RL 80 RX11 yX11_time wsX11_time) := goodIn_app (goodIn_of _ (by decide +kernel)) ggL_law_X11_time
set_option maxRecDepth 20000 in
theorem ggL_law_X12_time : GoodIn wsL_law wsX12_time := goodIn_r _ [547, 148, 280, 150, 425, 487, 118, 156, 157, 5, 158, 548, 549, 550, 551, 119, 117, 116, 775, 776, 777, 778, 779, 780, 781, 782, 783, 784, 785, 786, 787, 788, 789, 790, 791, 792, 793, 794, 795, 796] (by decide +kernel) (by decide +kernel)
set_option maxRecDepth 20000 in
theorem gL_law_X12_time : GoodIn wsL_law (wsV RL 83 RX12 yX12_time wsX12_time) := goodIn_app (goodIn_of _ (by decide +kernel)) ggL_law_X12_time
set_option maxRecDepth 20000 in
theorem ggL_law_X11_ship : GoodIn wsL_law wsX11_ship := goodIn_r _ [555, 556, 127, 35, 557, 229, 128, 129, 2, 130, 558, 559, 560, 34, 561, 96, 93, 94, 95, 767, 768, 769, 770, 771, 772, 773, 774, 817, 818, 819, 820] (by decide +kernel) (by decide +kernel)
set_option maxRecDepth 20000 in
theorem gL_law_X11_ship : GoodIn wsL_law (wsV RL 84 RX11 yX11_ship wsX11_ship) := goodIn_app (goodIn_of _ (by decide +kernel)) ggL_law_X11_ship
set_option maxRecDepth 20000 in
theorem ggL_law_X12_ship : GoodIn wsL_law wsX12_ship := goodIn_r _ [565, 148, 566, 485, 150, 567, 255, 120, 121, 156, 157, 5, 158, 775, 776, 777, 778, 779, 780, 781, 782, 783, 784, 785, 786, 787, 788, 789, 790, 791, 792, 793, 794, 795, 796] (by decide +kernel) (by decide +kernel)
set_option maxRecDepth 20000 in
theorem gL_law_X12_ship : GoodIn wsL_law (wsV RL 87 RX12 yX12_ship wsX12_ship) := goodIn_app (goodIn_of _ (by decide +kernel)) ggL_law_X12_ship
set_option maxRecDepth 20000 in
theorem ggL_law_X11_waits : GoodIn wsL_law wsX11_waits := goodIn_r _ [571, 35, 557, 556, 127, 128, 129, 2, 130, 572, 573, 574, 34, 575, 96, 95, 93, 576, 314, 315, 316, 94, 767, 768, 769, 770, 771, 772, 773, 774, 817, 818, 819, 820] (by decide +kernel) (by decide +kernel)
set_option maxRecDepth 20000 in
theorem gL_law_X11_waits : GoodIn wsL_law (wsV RL 88 RX11 yX11_waits wsX11_waits) := goodIn_app (goodIn_of _ (by decide +kernel)) ggL_law_X11_waits
set_option maxRecDepth 20000 in
theorem ggL_law_X12_waits : GoodIn wsL_law wsX12_waits := goodIn_r _ [580, 148, 567, 566, 150, 425, 120, 121, 156, 157, 5, 158, 775, 776, 777, 778, 779, 780, 781, 782, 783, 784, 785, 786, 787, 788, 789, 790, 791, 792, 793, 794, 795, 796] (by decide +kernel) (by decide +kernel)
set_option maxRecDepth 20000 in
theorem gL_law_X12_waits : GoodIn wsL_law (wsV RL 91 RX12 yX12_waits wsX12_waits) := goodIn_app (goodIn_of _ (by decide +kernel)) ggL_law_X12_waits
set_option maxRecDepth 20000 in
theorem ggL_law_X11_closings : GoodIn wsL_law wsX11_closings := goodIn_r _ [584, 127, 15, 585, 586, 2, 587, 128, 129, 130, 168, 169, 170, 14, 171, 172, 173, 174, 175, 49, 176, 177, 178, 179, 131, 132, 133, 134, 40, 135, 588, 589, 590, 591, 592, 593, 594, 47, 140, 141, 142, 143, 767, 768, 769, 770, 771, 772, 773, 774, 797, 798, 799] (by decide +kernel) (by decide +kernel)
set_option maxRecDepth 20000 in
theorem gL_law_X11_closings : GoodIn wsL_law (wsV RL 92 RX11 yX11_closings wsX11_closings) := goodIn_app (goodIn_of _ (by decide +kernel)) ggL_law_X11_closings
set_option maxRecDepth 20000 in
theorem ggL_law_X12_closings : GoodIn wsL_law wsX12_closings := goodIn_r _ [598, 148, 599, 600, 267, 150, 151, 108, 109, 152, 153, 5, 154, 155, 156, 157, 158, 159, 160, 161, 162, 163, 601, 602, 603, 604, 110, 775, 776, 777, 778, 779, 780, 781, 782, 783, 784, 785, 786, 787, 788, 789, 790, 791, 792, 793, 794, 795, 796] (by decide +kernel) (by decide +kernel)
set_option maxRecDepth 20000 in
theorem gL_law_X12_closings : GoodIn wsL_law (wsV RL 96 RX12 yX12_closings wsX12_closings) := goodIn_app (goodIn_of _ (by decide +kernel)) ggL_law_X12_closings
set_option maxRecDepth 20000 in
theorem ggL_law_X11_tooMany : GoodIn wsL_law wsX11_tooMany := goodIn_r _ [608, 127, 15, 416, 585, 586, 2, 587, 128, 129, 130, 168, 169, 170, 14, 171, 172, 173, 174, 175, 49, 176, 177, 178, 179, 131, 132, 133, 134, 40, 135, 588, 589, 590, 591, 592, 593, 594, 47, 140, 141, 142, 143, 767, 768, 769, 770, 771, 772, 773, 774, 797, 798, 799] (by decide +kernel) (by decide +kernel)
set_option maxRecDepth 20000 in
theorem gL_law_X11_tooMany : GoodIn wsL_law (wsV RL 97 RX11 yX11_tooMany wsX11_tooMany) := goodIn_app (goodIn_of _ (by decide +kernel)) ggL_law_X11_tooMany
set_option maxRecDepth 20000 in
theorem ggL_law_X12_tooMany : GoodIn wsL_law wsX12_tooMany := goodIn_r _ [612, 148, 599, 267, 150, 151, 108, 109, 425, 152, 153, 5, 154, 155, 156, 157, 158, 159, 160, 161, 162, 163, 601, 602, 603, 604, 110, 775, 776, 777, 778, 779, 780, 781, 782, 783, 784, 785, 786, 787, 788, 789, 790, 791, 792, 793, 794, 795, 796] (by decide +kernel) (by decide +kernel)
set_option maxRecDepth 20000 in
theorem gL_law_X12_tooMany : GoodIn wsL_law (wsV RL 100 RX12 yX12_tooMany wsX12_tooMany) := goodIn_app (goodIn_of _ (by decide +kernel)) ggL_law_X12_tooMany
set_option maxRecDepth 20000 in
theorem ggL_law_X11_kind : GoodIn wsL_law wsX11_kind := goodIn_r _ [616, 31, 127, 497, 498, 499, 30, 500, 89, 87, 129, 2, 130, 617, 618, 619, 457, 620, 621, 622, 623, 624, 625, 451, 626, 627, 628, 454, 629, 630, 631, 448, 632, 767, 768, 769, 770, 771, 772, 773, 774, 814, 815, 816] (by decide +kernel) (by decide +kernel)
set_option maxRecDepth 20000 in
theorem gL_law_X11_kind : GoodIn wsL_law (wsV RL 101 RX11 yX11_kind wsX11_kind) := goodIn_app (goodIn_of _ (by decide +kernel)) ggL_law_X11_kind
set_option maxRecDepth 20000 in
theorem ggL_law_X12_kind : GoodIn wsL_law wsX12_kind := goodIn_r _ [636, 148, 150, 505, 506, 507, 5, 508, 487, 156, 157, 158, 637, 638, 639, 640, 117, 116, 775, 776, 777, 778, 779, 780, 781, 782, 783, 784, 785, 786, 787, 788, 789, 790, 791, 792, 793, 794, 795, 796] (by decide +kernel) (by decide +kernel)
set_option maxRecDepth 20000 in
theorem gL_law_X12_kind : GoodIn wsL_law (wsV RL 104 RX12 yX12_kind wsX12_kind) := goodIn_app (goodIn_of _ (by decide +kernel)) ggL_law_X12_kind
set_option maxRecDepth 20000 in
theorem ggL_law_X11_as : GoodIn wsL_law wsX11_as := goodIn_r _ [644, 31, 127, 645, 497, 498, 499, 30, 500, 89, 87, 129, 2, 130, 128, 646, 647, 648, 649, 650, 651, 140, 141, 142, 143, 40, 131, 132, 133, 134, 135, 767, 768, 769, 770, 771, 772, 773, 774, 832, 833, 834, 826, 827, 828, 829, 830, 831, 823, 824, 825, 814, 815, 816] (by decide +kernel) (by decide +kernel)
set_option maxRecDepth 20000 in
theorem gL_law_X11_as : GoodIn wsL_law (wsV RL 105 RX11 yX11_as wsX11_as) := goodIn_app (goodIn_of _ (by decide +kernel)) ggL_law_X11_as
set_option maxRecDepth 20000 in
theorem ggL_law_X12_as : GoodIn wsL_law wsX12_as := goodIn_r _ [655, 148, 280, 150, 151, 116, 505, 506, 507, 5, 508, 487, 156, 157, 158, 637, 638, 639, 640, 117, 159, 160, 161, 162, 163, 775, 776, 777, 778, 779, 780, 781, 782, 783, 784, 785, 786, 787, 788, 789, 790, 791, 792, 793, 794, 795, 796] (by decide +kernel) (by decide +kernel)
set_option maxRecDepth 20000 in
theorem gL_law_X12_as : GoodIn wsL_law (wsV RL 108 RX12 yX12_as wsX12_as) := goodIn_app (goodIn_of _ (by decide +kernel)) ggL_law_X12_as
set_option maxRecDepth 20000 in
theorem ggL_law_X11_ask : GoodIn wsL_law wsX11_ask := goodIn_r _ [659, 31, 127, 39, 660, 497, 498, 499, 30, 500, 89, 87, 129, 2, 130, 128, 661, 662, 663, 457, 664, 469, 665, 666, 667, 38, 668, 101, 100, 669, 670, 671, 672, 673, 451, 674, 675, 676, 677, 678, 679, 680, 681, 454, 682, 683, 684, 685, 686, 687, 448, 688, 689, 690, 691, 692, 693, 694, 695, 696, 468, 697, 698, 699, 700, 701, 702, 703, 704, 705, 706, 707, 708, 709, 710, 711, 712, 713, 714, 715, 767, 768, 769, 770, 771, 772, 773, 774, 821, 822, 814, 815, 816, 832, 833, 834, 826, 827, 828, 829, 830, 831, 823, 824, 825] (by decide +kernel) (by decide +kernel)
set_option maxRecDepth 20000 in
theorem gL_law_X11_ask : GoodIn wsL_law (wsV RL 109 RX11 yX11_ask wsX11_ask) := goodIn_app (goodIn_of _ (by decide +kernel)) ggL_law_X11_ask
set_option maxRecDepth 20000 in
theorem ggL_law_X12_ask : GoodIn wsL_law wsX12_ask := goodIn_r _ [719, 148, 150, 720, 505, 506, 507, 5, 508, 487, 156, 157, 158, 721, 722, 723, 724, 116, 117, 637, 638, 639, 640, 725, 726, 727, 728, 122, 729, 730, 731, 732, 118, 775, 776, 777, 778, 779, 780, 781, 782, 783, 784, 785, 786, 787, 788, 789, 790, 791, 792, 793, 794, 795, 796] (by decide +kernel) (by decide +kernel)
set_option maxRecDepth 20000 in
theorem gL_law_X12_ask : GoodIn wsL_law (wsV RL 112 RX12 yX12_ask wsX12_ask) := goodIn_app (goodIn_of _ (by decide +kernel)) ggL_law_X12_ask
set_option maxRecDepth 20000 in
theorem ggL_law_X11_trace : GoodIn wsL_law wsX11_trace := goodIn_r _ [736, 39, 660, 737, 416, 128, 129, 2, 130, 767, 768, 769, 770, 771, 772, 773, 774, 821, 822] (by decide +kernel) (by decide +kernel)
set_option maxRecDepth 20000 in
theorem gL_law_X11_trace : GoodIn wsL_law (wsV RL 113 RX11 yX11_trace wsX11_trace) := goodIn_app (goodIn_of _ (by decide +kernel)) ggL_law_X11_trace
set_option maxRecDepth 20000 in
theorem ggL_law_X12_trace : GoodIn wsL_law wsX12_trace := goodIn_r _ [741, 148, 720, 122, 425, 156, 157, 5, 158, 775, 776, 777, 778, 779, 780, 781, 782, 783, 784, 785, 786, 787, 788, 789, 790, 791, 792, 793, 794, 795, 796] (by decide +kernel) (by decide +kernel)
set_option maxRecDepth 20000 in
theorem gL_law_X12_trace : GoodIn wsL_law (wsV RL 116 RX12 yX12_trace wsX12_trace) := goodIn_app (goodIn_of _ (by decide +kernel)) ggL_law_X12_trace
set_option maxRecDepth 20000 in
theorem ggL_law_X11_count : GoodIn wsL_law wsX11_count := goodIn_r _ [745, 15, 19, 228, 31, 442, 35, 557, 127, 746, 747, 748, 14, 749, 172, 173, 174, 175, 49, 750, 751, 752, 18, 753, 61, 57, 754, 540, 541, 30, 542, 87, 526, 767, 768, 769, 770, 771, 772, 773, 774, 800, 801, 802, 803, 814, 815, 816, 817, 818, 819, 820, 797, 798, 799, 832, 833, 834, 826, 827, 828, 829, 830, 831, 823, 824, 825] (by decide +kernel) (by decide +kernel)
set_option maxRecDepth 20000 in
theorem gL_law_X11_count : GoodIn wsL_law (wsV RL 117 RX11 yX11_count wsX11_count) := goodIn_app (goodIn_of _ (by decide +kernel)) ggL_law_X11_count
set_option maxRecDepth 20000 in
theorem ggL_law_X12_count : GoodIn wsL_law wsX12_count := goodIn_r _ [758, 148, 108, 254, 111, 487, 118, 567, 150, 775, 776, 777, 778, 779, 780, 781, 782, 783, 784, 785, 786, 787, 788, 789, 790, 791, 792, 793, 794, 795, 796] (by decide +kernel) (by decide +kernel)
set_option maxRecDepth 20000 in
theorem gL_law_X12_count : GoodIn wsL_law (wsV RL 120 RX12 yX12_count wsX12_count) := goodIn_app (goodIn_of _ (by decide +kernel)) ggL_law_X12_count
set_option maxRecDepth 20000 in
theorem ggL_law_X11_status : GoodIn wsL_law wsX11_status := goodIn_r _ [762, 40, 767, 768, 769, 770, 771, 772, 773, 774] (by decide +kernel) (by decide +kernel)
set_option maxRecDepth 20000 in
theorem gL_law_X11_status : GoodIn wsL_law (wsV RL 121 RX11 yX11_status wsX11_status) := goodIn_app (goodIn_of _ (by decide +kernel)) ggL_law_X11_status
set_option maxRecDepth 20000 in
theorem ggL_law_X12_status : GoodIn wsL_law wsX12_status := goodIn_r _ [766, 148, 151, 775, 776, 777, 778, 779, 780, 781, 782, 783, 784, 785, 786, 787, 788, 789, 790, 791, 792, 793, 794, 795, 796] (by decide +kernel) (by decide +kernel)
set_option maxRecDepth 20000 in
theorem gL_law_X12_status : GoodIn wsL_law (wsV RL 124 RX12 yX12_status wsX12_status) := goodIn_app (goodIn_of _ (by decide +kernel)) ggL_law_X12_status
theorem dL_law_0 : decode cL_law 0 = .ok (.new 7, 3) := by decide +kernel
theorem dL_law_3 : decode cL_law 3 = .ok (.dup, 1) := by decide +kernel
theorem dL_law_4 : decode cL_law 4 = .ok (.invokespecial 9, 3) := by decide +kernel
theorem dL_law_7 : decode cL_law 7 = .ok (.astore_n 1, 1) := by decide +kernel
theorem dL_law_8 : decode cL_law 8 = .ok (.new 10, 3) := by decide +kernel
theorem dL_law_11 : decode cL_law 11 = .ok (.dup, 1) := by decide +kernel
theorem dL_law_12 : decode cL_law 12 = .ok (.invokespecial 12, 3) := by decide +kernel
theorem dL_law_15 : decode cL_law 15 = .ok (.astore_n 2, 1) := by decide +kernel
theorem dL_law_16 : decode cL_law 16 = .ok (.iconst 0, 1) := by decide +kernel
theorem dL_law_17 : decode cL_law 17 = .ok (.istore_n 3, 1) := by decide +kernel
theorem dL_law_18 : decode cL_law 18 = .ok (.iload_n 3, 1) := by decide +kernel
theorem dL_law_19 : decode cL_law 19 = .ok (.aload_n 0, 1) := by decide +kernel
theorem dL_law_20 : decode cL_law 20 = .ok (.arraylength, 1) := by decide +kernel
theorem dL_law_21 : decode cL_law 21 = .ok (.bipush 7, 2) := by decide +kernel
theorem dL_law_23 : decode cL_law 23 = .ok (.isub, 1) := by decide +kernel
theorem dL_law_24 : decode cL_law 24 = .ok (.if_icmp .gt 1018, 3) := by decide +kernel
theorem dL_law_27 : decode cL_law 27 = .ok (.aload_n 0, 1) := by decide +kernel
theorem dL_law_28 : decode cL_law 28 = .ok (.iload_n 3, 1) := by decide +kernel
theorem dL_law_29 : decode cL_law 29 = .ok (.iaload, 1) := by decide +kernel
theorem dL_law_30 : decode cL_law 30 = .ok (.bipush 31, 2) := by decide +kernel
theorem dL_law_32 : decode cL_law 32 = .ok (.iand, 1) := by decide +kernel
theorem dL_law_33 : decode cL_law 33 = .ok (.tableswitch 1003 0 25 #[119, 162, 205, 268, 291, 334, 367, 400, 414, 457, 481, 494, 517, 550, 573, 596, 629, 662, 705, 780, 855, 878, 911, 944, 967, 990], 119) := by decide +kernel
theorem dL_law_152 : decode cL_law 152 = .ok (.aload_n 1, 1) := by decide +kernel
theorem dL_law_153 : decode cL_law 153 = .ok (.aload_n 0, 1) := by decide +kernel
theorem dL_law_154 : decode cL_law 154 = .ok (.iload_n 3, 1) := by decide +kernel
theorem dL_law_155 : decode cL_law 155 = .ok (.iconst 1, 1) := by decide +kernel
theorem dL_law_156 : decode cL_law 156 = .ok (.iadd, 1) := by decide +kernel
theorem dL_law_157 : decode cL_law 157 = .ok (.iaload, 1) := by decide +kernel
theorem dL_law_158 : decode cL_law 158 = .ok (.aload_n 0, 1) := by decide +kernel
theorem dL_law_159 : decode cL_law 159 = .ok (.iload_n 3, 1) := by decide +kernel
theorem dL_law_160 : decode cL_law 160 = .ok (.iconst 2, 1) := by decide +kernel
theorem dL_law_161 : decode cL_law 161 = .ok (.iadd, 1) := by decide +kernel
theorem dL_law_162 : decode cL_law 162 = .ok (.iaload, 1) := by decide +kernel
theorem dL_law_163 : decode cL_law 163 = .ok (.aload_n 0, 1) := by decide +kernel
theorem dL_law_164 : decode cL_law 164 = .ok (.iload_n 3, 1) := by decide +kernel
theorem dL_law_165 : decode cL_law 165 = .ok (.iconst 3, 1) := by decide +kernel
theorem dL_law_166 : decode cL_law 166 = .ok (.iadd, 1) := by decide +kernel
theorem dL_law_167 : decode cL_law 167 = .ok (.iaload, 1) := by decide +kernel
theorem dL_law_168 : decode cL_law 168 = .ok (.invokevirtual 13, 3) := by decide +kernel
theorem dL_law_171 : decode cL_law 171 = .ok (.aload_n 2, 1) := by decide +kernel
theorem dL_law_172 : decode cL_law 172 = .ok (.aload_n 0, 1) := by decide +kernel
theorem dL_law_173 : decode cL_law 173 = .ok (.iload_n 3, 1) := by decide +kernel
theorem dL_law_174 : decode cL_law 174 = .ok (.iconst 1, 1) := by decide +kernel
theorem dL_law_175 : decode cL_law 175 = .ok (.iadd, 1) := by decide +kernel
theorem dL_law_176 : decode cL_law 176 = .ok (.iaload, 1) := by decide +kernel
theorem dL_law_177 : decode cL_law 177 = .ok (.aload_n 0, 1) := by decide +kernel
theorem dL_law_178 : decode cL_law 178 = .ok (.iload_n 3, 1) := by decide +kernel
theorem dL_law_179 : decode cL_law 179 = .ok (.iconst 2, 1) := by decide +kernel
theorem dL_law_180 : decode cL_law 180 = .ok (.iadd, 1) := by decide +kernel
theorem dL_law_181 : decode cL_law 181 = .ok (.iaload, 1) := by decide +kernel
theorem dL_law_182 : decode cL_law 182 = .ok (.aload_n 0, 1) := by decide +kernel
theorem dL_law_183 : decode cL_law 183 = .ok (.iload_n 3, 1) := by decide +kernel
theorem dL_law_184 : decode cL_law 184 = .ok (.iconst 3, 1) := by decide +kernel
theorem dL_law_185 : decode cL_law 185 = .ok (.iadd, 1) := by decide +kernel
theorem dL_law_186 : decode cL_law 186 = .ok (.iaload, 1) := by decide +kernel
theorem dL_law_187 : decode cL_law 187 = .ok (.invokevirtual 17, 3) := by decide +kernel
theorem dL_law_190 : decode cL_law 190 = .ok (.if_icmp .eq 846, 3) := by decide +kernel
theorem dL_law_193 : decode cL_law 193 = .ok (.iconst 0, 1) := by decide +kernel
theorem dL_law_194 : decode cL_law 194 = .ok (.ireturn, 1) := by decide +kernel
theorem dL_law_195 : decode cL_law 195 = .ok (.aload_n 1, 1) := by decide +kernel
theorem dL_law_196 : decode cL_law 196 = .ok (.aload_n 0, 1) := by decide +kernel
theorem dL_law_197 : decode cL_law 197 = .ok (.iload_n 3, 1) := by decide +kernel
theorem dL_law_198 : decode cL_law 198 = .ok (.iconst 1, 1) := by decide +kernel
theorem dL_law_199 : decode cL_law 199 = .ok (.iadd, 1) := by decide +kernel
theorem dL_law_200 : decode cL_law 200 = .ok (.iaload, 1) := by decide +kernel
theorem dL_law_201 : decode cL_law 201 = .ok (.aload_n 0, 1) := by decide +kernel
theorem dL_law_202 : decode cL_law 202 = .ok (.iload_n 3, 1) := by decide +kernel
theorem dL_law_203 : decode cL_law 203 = .ok (.iconst 2, 1) := by decide +kernel
theorem dL_law_204 : decode cL_law 204 = .ok (.iadd, 1) := by decide +kernel
theorem dL_law_205 : decode cL_law 205 = .ok (.iaload, 1) := by decide +kernel
theorem dL_law_206 : decode cL_law 206 = .ok (.aload_n 0, 1) := by decide +kernel
theorem dL_law_207 : decode cL_law 207 = .ok (.iload_n 3, 1) := by decide +kernel
theorem dL_law_208 : decode cL_law 208 = .ok (.iconst 3, 1) := by decide +kernel
theorem dL_law_209 : decode cL_law 209 = .ok (.iadd, 1) := by decide +kernel
theorem dL_law_210 : decode cL_law 210 = .ok (.iaload, 1) := by decide +kernel
theorem dL_law_211 : decode cL_law 211 = .ok (.invokevirtual 18, 3) := by decide +kernel
theorem dL_law_214 : decode cL_law 214 = .ok (.aload_n 2, 1) := by decide +kernel
theorem dL_law_215 : decode cL_law 215 = .ok (.aload_n 0, 1) := by decide +kernel
theorem dL_law_216 : decode cL_law 216 = .ok (.iload_n 3, 1) := by decide +kernel
theorem dL_law_217 : decode cL_law 217 = .ok (.iconst 1, 1) := by decide +kernel
theorem dL_law_218 : decode cL_law 218 = .ok (.iadd, 1) := by decide +kernel
theorem dL_law_219 : decode cL_law 219 = .ok (.iaload, 1) := by decide +kernel
theorem dL_law_220 : decode cL_law 220 = .ok (.aload_n 0, 1) := by decide +kernel
theorem dL_law_221 : decode cL_law 221 = .ok (.iload_n 3, 1) := by decide +kernel
theorem dL_law_222 : decode cL_law 222 = .ok (.iconst 2, 1) := by decide +kernel
theorem dL_law_223 : decode cL_law 223 = .ok (.iadd, 1) := by decide +kernel
theorem dL_law_224 : decode cL_law 224 = .ok (.iaload, 1) := by decide +kernel
theorem dL_law_225 : decode cL_law 225 = .ok (.aload_n 0, 1) := by decide +kernel
theorem dL_law_226 : decode cL_law 226 = .ok (.iload_n 3, 1) := by decide +kernel
theorem dL_law_227 : decode cL_law 227 = .ok (.iconst 3, 1) := by decide +kernel
theorem dL_law_228 : decode cL_law 228 = .ok (.iadd, 1) := by decide +kernel
theorem dL_law_229 : decode cL_law 229 = .ok (.iaload, 1) := by decide +kernel
theorem dL_law_230 : decode cL_law 230 = .ok (.invokevirtual 21, 3) := by decide +kernel
theorem dL_law_233 : decode cL_law 233 = .ok (.if_icmp .eq 803, 3) := by decide +kernel
theorem dL_law_236 : decode cL_law 236 = .ok (.iconst 0, 1) := by decide +kernel
theorem dL_law_237 : decode cL_law 237 = .ok (.ireturn, 1) := by decide +kernel
theorem dL_law_238 : decode cL_law 238 = .ok (.aload_n 1, 1) := by decide +kernel
theorem dL_law_239 : decode cL_law 239 = .ok (.aload_n 0, 1) := by decide +kernel
theorem dL_law_240 : decode cL_law 240 = .ok (.iload_n 3, 1) := by decide +kernel
theorem dL_law_241 : decode cL_law 241 = .ok (.iconst 1, 1) := by decide +kernel
theorem dL_law_242 : decode cL_law 242 = .ok (.iadd, 1) := by decide +kernel
theorem dL_law_243 : decode cL_law 243 = .ok (.iaload, 1) := by decide +kernel
theorem dL_law_244 : decode cL_law 244 = .ok (.aload_n 0, 1) := by decide +kernel
theorem dL_law_245 : decode cL_law 245 = .ok (.iload_n 3, 1) := by decide +kernel
theorem dL_law_246 : decode cL_law 246 = .ok (.iconst 2, 1) := by decide +kernel
theorem dL_law_247 : decode cL_law 247 = .ok (.iadd, 1) := by decide +kernel
theorem dL_law_248 : decode cL_law 248 = .ok (.iaload, 1) := by decide +kernel
theorem dL_law_249 : decode cL_law 249 = .ok (.aload_n 0, 1) := by decide +kernel
theorem dL_law_250 : decode cL_law 250 = .ok (.iload_n 3, 1) := by decide +kernel
theorem dL_law_251 : decode cL_law 251 = .ok (.iconst 3, 1) := by decide +kernel
theorem dL_law_252 : decode cL_law 252 = .ok (.iadd, 1) := by decide +kernel
theorem dL_law_253 : decode cL_law 253 = .ok (.iaload, 1) := by decide +kernel
theorem dL_law_254 : decode cL_law 254 = .ok (.aload_n 0, 1) := by decide +kernel
theorem dL_law_255 : decode cL_law 255 = .ok (.iload_n 3, 1) := by decide +kernel
theorem dL_law_256 : decode cL_law 256 = .ok (.iconst 4, 1) := by decide +kernel
theorem dL_law_257 : decode cL_law 257 = .ok (.iadd, 1) := by decide +kernel
theorem dL_law_258 : decode cL_law 258 = .ok (.iaload, 1) := by decide +kernel
theorem dL_law_259 : decode cL_law 259 = .ok (.aload_n 0, 1) := by decide +kernel
theorem dL_law_260 : decode cL_law 260 = .ok (.iload_n 3, 1) := by decide +kernel
theorem dL_law_261 : decode cL_law 261 = .ok (.iconst 5, 1) := by decide +kernel
theorem dL_law_262 : decode cL_law 262 = .ok (.iadd, 1) := by decide +kernel
theorem dL_law_263 : decode cL_law 263 = .ok (.iaload, 1) := by decide +kernel
theorem dL_law_264 : decode cL_law 264 = .ok (.invokevirtual 22, 3) := by decide +kernel
theorem dL_law_267 : decode cL_law 267 = .ok (.aload_n 2, 1) := by decide +kernel
theorem dL_law_268 : decode cL_law 268 = .ok (.aload_n 0, 1) := by decide +kernel
theorem dL_law_269 : decode cL_law 269 = .ok (.iload_n 3, 1) := by decide +kernel
theorem dL_law_270 : decode cL_law 270 = .ok (.iconst 1, 1) := by decide +kernel
theorem dL_law_271 : decode cL_law 271 = .ok (.iadd, 1) := by decide +kernel
theorem dL_law_272 : decode cL_law 272 = .ok (.iaload, 1) := by decide +kernel
theorem dL_law_273 : decode cL_law 273 = .ok (.aload_n 0, 1) := by decide +kernel
theorem dL_law_274 : decode cL_law 274 = .ok (.iload_n 3, 1) := by decide +kernel
theorem dL_law_275 : decode cL_law 275 = .ok (.iconst 2, 1) := by decide +kernel
theorem dL_law_276 : decode cL_law 276 = .ok (.iadd, 1) := by decide +kernel
theorem dL_law_277 : decode cL_law 277 = .ok (.iaload, 1) := by decide +kernel
theorem dL_law_278 : decode cL_law 278 = .ok (.aload_n 0, 1) := by decide +kernel
theorem dL_law_279 : decode cL_law 279 = .ok (.iload_n 3, 1) := by decide +kernel
theorem dL_law_280 : decode cL_law 280 = .ok (.iconst 3, 1) := by decide +kernel
theorem dL_law_281 : decode cL_law 281 = .ok (.iadd, 1) := by decide +kernel
theorem dL_law_282 : decode cL_law 282 = .ok (.iaload, 1) := by decide +kernel
theorem dL_law_283 : decode cL_law 283 = .ok (.aload_n 0, 1) := by decide +kernel
theorem dL_law_284 : decode cL_law 284 = .ok (.iload_n 3, 1) := by decide +kernel
theorem dL_law_285 : decode cL_law 285 = .ok (.iconst 4, 1) := by decide +kernel
theorem dL_law_286 : decode cL_law 286 = .ok (.iadd, 1) := by decide +kernel
theorem dL_law_287 : decode cL_law 287 = .ok (.iaload, 1) := by decide +kernel
theorem dL_law_288 : decode cL_law 288 = .ok (.aload_n 0, 1) := by decide +kernel
theorem dL_law_289 : decode cL_law 289 = .ok (.iload_n 3, 1) := by decide +kernel
theorem dL_law_290 : decode cL_law 290 = .ok (.iconst 5, 1) := by decide +kernel
theorem dL_law_291 : decode cL_law 291 = .ok (.iadd, 1) := by decide +kernel
theorem dL_law_292 : decode cL_law 292 = .ok (.iaload, 1) := by decide +kernel
theorem dL_law_293 : decode cL_law 293 = .ok (.invokevirtual 26, 3) := by decide +kernel
theorem dL_law_296 : decode cL_law 296 = .ok (.if_icmp .eq 740, 3) := by decide +kernel
theorem dL_law_299 : decode cL_law 299 = .ok (.iconst 0, 1) := by decide +kernel
theorem dL_law_300 : decode cL_law 300 = .ok (.ireturn, 1) := by decide +kernel
theorem dL_law_301 : decode cL_law 301 = .ok (.aload_n 1, 1) := by decide +kernel
theorem dL_law_302 : decode cL_law 302 = .ok (.aload_n 0, 1) := by decide +kernel
theorem dL_law_303 : decode cL_law 303 = .ok (.iload_n 3, 1) := by decide +kernel
theorem dL_law_304 : decode cL_law 304 = .ok (.iconst 1, 1) := by decide +kernel
theorem dL_law_305 : decode cL_law 305 = .ok (.iadd, 1) := by decide +kernel
theorem dL_law_306 : decode cL_law 306 = .ok (.iaload, 1) := by decide +kernel
theorem dL_law_307 : decode cL_law 307 = .ok (.invokevirtual 27, 3) := by decide +kernel
theorem dL_law_310 : decode cL_law 310 = .ok (.aload_n 2, 1) := by decide +kernel
theorem dL_law_311 : decode cL_law 311 = .ok (.aload_n 0, 1) := by decide +kernel
theorem dL_law_312 : decode cL_law 312 = .ok (.iload_n 3, 1) := by decide +kernel
theorem dL_law_313 : decode cL_law 313 = .ok (.iconst 1, 1) := by decide +kernel
theorem dL_law_314 : decode cL_law 314 = .ok (.iadd, 1) := by decide +kernel
theorem dL_law_315 : decode cL_law 315 = .ok (.iaload, 1) := by decide +kernel
theorem dL_law_316 : decode cL_law 316 = .ok (.invokevirtual 31, 3) := by decide +kernel
theorem dL_law_319 : decode cL_law 319 = .ok (.if_icmp .eq 717, 3) := by decide +kernel
theorem dL_law_322 : decode cL_law 322 = .ok (.iconst 0, 1) := by decide +kernel
theorem dL_law_323 : decode cL_law 323 = .ok (.ireturn, 1) := by decide +kernel
theorem dL_law_324 : decode cL_law 324 = .ok (.aload_n 1, 1) := by decide +kernel
theorem dL_law_325 : decode cL_law 325 = .ok (.aload_n 0, 1) := by decide +kernel
theorem dL_law_326 : decode cL_law 326 = .ok (.iload_n 3, 1) := by decide +kernel
theorem dL_law_327 : decode cL_law 327 = .ok (.iconst 1, 1) := by decide +kernel
theorem dL_law_328 : decode cL_law 328 = .ok (.iadd, 1) := by decide +kernel
theorem dL_law_329 : decode cL_law 329 = .ok (.iaload, 1) := by decide +kernel
theorem dL_law_330 : decode cL_law 330 = .ok (.aload_n 0, 1) := by decide +kernel
theorem dL_law_331 : decode cL_law 331 = .ok (.iload_n 3, 1) := by decide +kernel
theorem dL_law_332 : decode cL_law 332 = .ok (.iconst 2, 1) := by decide +kernel
theorem dL_law_333 : decode cL_law 333 = .ok (.iadd, 1) := by decide +kernel
theorem dL_law_334 : decode cL_law 334 = .ok (.iaload, 1) := by decide +kernel
theorem dL_law_335 : decode cL_law 335 = .ok (.aload_n 0, 1) := by decide +kernel
theorem dL_law_336 : decode cL_law 336 = .ok (.iload_n 3, 1) := by decide +kernel
theorem dL_law_337 : decode cL_law 337 = .ok (.iconst 3, 1) := by decide +kernel
theorem dL_law_338 : decode cL_law 338 = .ok (.iadd, 1) := by decide +kernel
theorem dL_law_339 : decode cL_law 339 = .ok (.iaload, 1) := by decide +kernel
theorem dL_law_340 : decode cL_law 340 = .ok (.invokevirtual 32, 3) := by decide +kernel
theorem dL_law_343 : decode cL_law 343 = .ok (.aload_n 2, 1) := by decide +kernel
theorem dL_law_344 : decode cL_law 344 = .ok (.aload_n 0, 1) := by decide +kernel
theorem dL_law_345 : decode cL_law 345 = .ok (.iload_n 3, 1) := by decide +kernel
theorem dL_law_346 : decode cL_law 346 = .ok (.iconst 1, 1) := by decide +kernel
theorem dL_law_347 : decode cL_law 347 = .ok (.iadd, 1) := by decide +kernel
